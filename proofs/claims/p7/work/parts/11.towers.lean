def fn_X8_fill (twk_a : Nat → Int32) (twv_a : Nat → Int32) (twh_a : Nat → Int32) (twt_a : Nat → Int32) (otk_a : Nat → Int32) (otv_a : Nat → Int32) (oth_a : Nat → Int32) (ott_a : Nat → Int32) (a : Int32) (b : Int32) : (Nat → Int32) × (Nat → Int32) × (Nat → Int32) × (Nat → Int32) := ((upd twk_a a.toNatClampNeg (otk_a b.toNatClampNeg)), (upd twv_a a.toNatClampNeg (otv_a b.toNatClampNeg)), (upd twh_a a.toNatClampNeg (oth_a b.toNatClampNeg)), (upd twt_a a.toNatClampNeg (ott_a b.toNatClampNeg)))
theorem dX8_fill_0 : decode cX8_fill 0 = .ok (.aload_n 0, 1) := by decide +kernel
theorem dX8_fill_1 : decode cX8_fill 1 = .ok (.getfield 9, 3) := by decide +kernel
theorem dX8_fill_4 : decode cX8_fill 4 = .ok (.iload_n 1, 1) := by decide +kernel
theorem dX8_fill_5 : decode cX8_fill 5 = .ok (.aload_n 2, 1) := by decide +kernel
theorem dX8_fill_6 : decode cX8_fill 6 = .ok (.getfield 9, 3) := by decide +kernel
theorem dX8_fill_9 : decode cX8_fill 9 = .ok (.iload_n 3, 1) := by decide +kernel
theorem dX8_fill_10 : decode cX8_fill 10 = .ok (.iaload, 1) := by decide +kernel
theorem dX8_fill_11 : decode cX8_fill 11 = .ok (.iastore, 1) := by decide +kernel
theorem dX8_fill_12 : decode cX8_fill 12 = .ok (.aload_n 0, 1) := by decide +kernel
theorem dX8_fill_13 : decode cX8_fill 13 = .ok (.getfield 15, 3) := by decide +kernel
theorem dX8_fill_16 : decode cX8_fill 16 = .ok (.iload_n 1, 1) := by decide +kernel
theorem dX8_fill_17 : decode cX8_fill 17 = .ok (.aload_n 2, 1) := by decide +kernel
theorem dX8_fill_18 : decode cX8_fill 18 = .ok (.getfield 15, 3) := by decide +kernel
theorem dX8_fill_21 : decode cX8_fill 21 = .ok (.iload_n 3, 1) := by decide +kernel
theorem dX8_fill_22 : decode cX8_fill 22 = .ok (.iaload, 1) := by decide +kernel
theorem dX8_fill_23 : decode cX8_fill 23 = .ok (.iastore, 1) := by decide +kernel
theorem dX8_fill_24 : decode cX8_fill 24 = .ok (.aload_n 0, 1) := by decide +kernel
theorem dX8_fill_25 : decode cX8_fill 25 = .ok (.getfield 18, 3) := by decide +kernel
theorem dX8_fill_28 : decode cX8_fill 28 = .ok (.iload_n 1, 1) := by decide +kernel
theorem dX8_fill_29 : decode cX8_fill 29 = .ok (.aload_n 2, 1) := by decide +kernel
theorem dX8_fill_30 : decode cX8_fill 30 = .ok (.getfield 18, 3) := by decide +kernel
theorem dX8_fill_33 : decode cX8_fill 33 = .ok (.iload_n 3, 1) := by decide +kernel
theorem dX8_fill_34 : decode cX8_fill 34 = .ok (.iaload, 1) := by decide +kernel
theorem dX8_fill_35 : decode cX8_fill 35 = .ok (.iastore, 1) := by decide +kernel
theorem dX8_fill_36 : decode cX8_fill 36 = .ok (.aload_n 0, 1) := by decide +kernel
theorem dX8_fill_37 : decode cX8_fill 37 = .ok (.getfield 21, 3) := by decide +kernel
theorem dX8_fill_40 : decode cX8_fill 40 = .ok (.iload_n 1, 1) := by decide +kernel
theorem dX8_fill_41 : decode cX8_fill 41 = .ok (.aload_n 2, 1) := by decide +kernel
theorem dX8_fill_42 : decode cX8_fill 42 = .ok (.getfield 21, 3) := by decide +kernel
theorem dX8_fill_45 : decode cX8_fill 45 = .ok (.iload_n 3, 1) := by decide +kernel
theorem dX8_fill_46 : decode cX8_fill 46 = .ok (.iaload, 1) := by decide +kernel
theorem dX8_fill_47 : decode cX8_fill 47 = .ok (.iastore, 1) := by decide +kernel
theorem dX8_fill_48 : decode cX8_fill 48 = .ok (.return_, 1) := by decide +kernel
set_option maxHeartbeats 4000000 in
set_option maxRecDepth 100000 in
theorem c_X8_fill (l : Launch) (D : va_G) (cy : ClassId) (tw twk twv twh twt ot otk otv oth ott : Nat) (tw_size : Int32) (twk_a : Nat → Int32) (twv_a : Nat → Int32) (twh_a : Nat → Int32) (twt_a : Nat → Int32) (ot_size : Int32) (otk_a : Nat → Int32) (otv_a : Nat → Int32) (oth_a : Nat → Int32) (ott_a : Nat → Int32) (a : Int32) (b : Int32) (g_0 : 0 ≤ tw_size.toInt ∧ tw_size.toInt ≤ 8) (g_1 : 0 ≤ ot_size.toInt ∧ ot_size.toInt ≤ 8) (g_2 : 0 ≤ a.toInt ∧ a.toInt ≤ 7) (g_3 : 0 ≤ b.toInt ∧ b.toInt ≤ 7) : wk_Cv l yX8_fill cX8_fill 4 none { frames := 0, cells := 0, slots := 0, locals := 0 } D cy [.ref tw, .int a, .ref ot, .int b] [(tw, .inr (8, [.ref twk, .ref twv, .ref twh, .ref twt, .int tw_size])), (twk, .inl (cy, 8, .inl twk_a)), (twv, .inl (cy, 8, .inl twv_a)), (twh, .inl (cy, 8, .inl twh_a)), (twt, .inl (cy, 8, .inl twt_a)), (ot, .inr (8, [.ref otk, .ref otv, .ref oth, .ref ott, .int ot_size])), (otk, .inl (cy, 8, .inl otk_a)), (otv, .inl (cy, 8, .inl otv_a)), (oth, .inl (cy, 8, .inl oth_a)), (ott, .inl (cy, 8, .inl ott_a))] 0 0 (fun (u : (Nat → Int32) × (Nat → Int32) × (Nat → Int32) × (Nat → Int32)) => u = (fn_X8_fill twk_a twv_a twh_a twt_a otk_a otv_a oth_a ott_a a b)) (fun u => [(tw, .inr (8, [.ref twk, .ref twv, .ref twh, .ref twt, .int tw_size])), (twk, .inl (cy, 8, .inl u.1)), (twv, .inl (cy, 8, .inl u.2.1)), (twh, .inl (cy, 8, .inl u.2.2.1)), (twt, .inl (cy, 8, .inl u.2.2.2)), (ot, .inr (8, [.ref otk, .ref otv, .ref oth, .ref ott, .int ot_size])), (otk, .inl (cy, 8, .inl otk_a)), (otv, .inl (cy, 8, .inl otv_a)), (oth, .inl (cy, 8, .inl oth_a)), (ott, .inl (cy, 8, .inl ott_a))]) := by
  refine wk_mk2Cv (by decide) (Nat.le_of_ble_eq_true rfl) ?_
  intro p e s m args below meth c A ls Q B hA hK hP hD hS hl hret
  obtain ⟨hx, hb, hr, hlocks, hml, hown, htb, hin⟩ := B
  have hl : lv_has ls 4 [(0, .ref tw), (1, .int a), (2, .ref ot), (3, .int b)] := hl
  have hF : (fn_X8_fill twk_a twv_a twh_a twt_a otk_a otv_a oth_a ott_a a b) = (fn_X8_fill twk_a twv_a twh_a twt_a otk_a otv_a oth_a ott_a a b) := rfl
  conv at hF => rhs; unfold fn_X8_fill
  refine lv_aload_n hx hb dX8_fill_0 rfl (lv_at hl 0 rfl) ?_
  refine va_get (D := D) (ci := 8) (v := .ref twk) (C := RX8) (T := TX8) (N := 5) hx hb htb inX8 hown hK hP 0 rfl rfl 0 (by decide) (htb _ tw_114) (fun _ h9 => h9) rfl dX8_fill_1 ?_
  refine lv_iload_n hx hb dX8_fill_4 rfl (lv_at hl 1 rfl) ?_
  refine lv_aload_n hx hb dX8_fill_5 rfl (lv_at hl 2 rfl) ?_
  refine va_get (D := D) (ci := 8) (v := .ref otk) (C := RX8) (T := TX8) (N := 5) hx hb htb inX8 hown hK hP 5 rfl rfl 0 (by decide) (htb _ tw_114) (fun _ h9 => h9) rfl dX8_fill_6 ?_
  refine lv_iload_n hx hb dX8_fill_9 rfl (lv_at hl 3 rfl) ?_
  refine va_iald hx hb hK hP 6 0 rfl rfl (show vp_in b 8 from vp_in_iff.mpr (show 0 ≤ b.toInt ∧ b.toInt < ((8 : Nat) : Int) from by omega)) dX8_fill_10 ?_
  refine va_iast hx hb hK hP hD hS 1 0 rfl rfl (show vp_in a 8 from vp_in_iff.mpr (show 0 ≤ a.toInt ∧ a.toInt < ((8 : Nat) : Int) from by omega)) dX8_fill_11 (fun H locs hP hD hS => ?_)
  have hP : va_P D classes [(tw, .inr (8, [.ref twk, .ref twv, .ref twh, .ref twt, .int tw_size])), (twk, .inl (cy, 8, .inl (upd twk_a a.toNatClampNeg (otk_a b.toNatClampNeg)))), (twv, .inl (cy, 8, .inl twv_a)), (twh, .inl (cy, 8, .inl twh_a)), (twt, .inl (cy, 8, .inl twt_a)), (ot, .inr (8, [.ref otk, .ref otv, .ref oth, .ref ott, .int ot_size])), (otk, .inl (cy, 8, .inl otk_a)), (otv, .inl (cy, 8, .inl otv_a)), (oth, .inl (cy, 8, .inl oth_a)), (ott, .inl (cy, 8, .inl ott_a))] H := hP
  have hD : va_D A [(tw, .inr (8, [.ref twk, .ref twv, .ref twh, .ref twt, .int tw_size])), (twk, .inl (cy, 8, .inl (upd twk_a a.toNatClampNeg (otk_a b.toNatClampNeg)))), (twv, .inl (cy, 8, .inl twv_a)), (twh, .inl (cy, 8, .inl twh_a)), (twt, .inl (cy, 8, .inl twt_a)), (ot, .inr (8, [.ref otk, .ref otv, .ref oth, .ref ott, .int ot_size])), (otk, .inl (cy, 8, .inl otk_a)), (otv, .inl (cy, 8, .inl otv_a)), (oth, .inl (cy, 8, .inl oth_a)), (ott, .inl (cy, 8, .inl ott_a))] := hD
  refine lv_aload_n hx hb dX8_fill_12 rfl (lv_at hl 0 rfl) ?_
  refine va_get (D := D) (ci := 8) (v := .ref twv) (C := RX8) (T := TX8) (N := 5) hx hb htb inX8 hown hK hP 0 rfl rfl 1 (by decide) (htb _ tw_119) (fun _ h9 => h9) rfl dX8_fill_13 ?_
  refine lv_iload_n hx hb dX8_fill_16 rfl (lv_at hl 1 rfl) ?_
  refine lv_aload_n hx hb dX8_fill_17 rfl (lv_at hl 2 rfl) ?_
  refine va_get (D := D) (ci := 8) (v := .ref otv) (C := RX8) (T := TX8) (N := 5) hx hb htb inX8 hown hK hP 5 rfl rfl 1 (by decide) (htb _ tw_119) (fun _ h9 => h9) rfl dX8_fill_18 ?_
  refine lv_iload_n hx hb dX8_fill_21 rfl (lv_at hl 3 rfl) ?_
  refine va_iald hx hb hK hP 7 0 rfl rfl (show vp_in b 8 from vp_in_iff.mpr (show 0 ≤ b.toInt ∧ b.toInt < ((8 : Nat) : Int) from by omega)) dX8_fill_22 ?_
  refine va_iast hx hb hK hP hD hS 2 0 rfl rfl (show vp_in a 8 from vp_in_iff.mpr (show 0 ≤ a.toInt ∧ a.toInt < ((8 : Nat) : Int) from by omega)) dX8_fill_23 (fun H locs hP hD hS => ?_)
  have hP : va_P D classes [(tw, .inr (8, [.ref twk, .ref twv, .ref twh, .ref twt, .int tw_size])), (twk, .inl (cy, 8, .inl (upd twk_a a.toNatClampNeg (otk_a b.toNatClampNeg)))), (twv, .inl (cy, 8, .inl (upd twv_a a.toNatClampNeg (otv_a b.toNatClampNeg)))), (twh, .inl (cy, 8, .inl twh_a)), (twt, .inl (cy, 8, .inl twt_a)), (ot, .inr (8, [.ref otk, .ref otv, .ref oth, .ref ott, .int ot_size])), (otk, .inl (cy, 8, .inl otk_a)), (otv, .inl (cy, 8, .inl otv_a)), (oth, .inl (cy, 8, .inl oth_a)), (ott, .inl (cy, 8, .inl ott_a))] H := hP
  have hD : va_D A [(tw, .inr (8, [.ref twk, .ref twv, .ref twh, .ref twt, .int tw_size])), (twk, .inl (cy, 8, .inl (upd twk_a a.toNatClampNeg (otk_a b.toNatClampNeg)))), (twv, .inl (cy, 8, .inl (upd twv_a a.toNatClampNeg (otv_a b.toNatClampNeg)))), (twh, .inl (cy, 8, .inl twh_a)), (twt, .inl (cy, 8, .inl twt_a)), (ot, .inr (8, [.ref otk, .ref otv, .ref oth, .ref ott, .int ot_size])), (otk, .inl (cy, 8, .inl otk_a)), (otv, .inl (cy, 8, .inl otv_a)), (oth, .inl (cy, 8, .inl oth_a)), (ott, .inl (cy, 8, .inl ott_a))] := hD
  refine lv_aload_n hx hb dX8_fill_24 rfl (lv_at hl 0 rfl) ?_
  refine va_get (D := D) (ci := 8) (v := .ref twh) (C := RX8) (T := TX8) (N := 5) hx hb htb inX8 hown hK hP 0 rfl rfl 2 (by decide) (htb _ tw_122) (fun _ h9 => h9) rfl dX8_fill_25 ?_
  refine lv_iload_n hx hb dX8_fill_28 rfl (lv_at hl 1 rfl) ?_
  refine lv_aload_n hx hb dX8_fill_29 rfl (lv_at hl 2 rfl) ?_
  refine va_get (D := D) (ci := 8) (v := .ref oth) (C := RX8) (T := TX8) (N := 5) hx hb htb inX8 hown hK hP 5 rfl rfl 2 (by decide) (htb _ tw_122) (fun _ h9 => h9) rfl dX8_fill_30 ?_
  refine lv_iload_n hx hb dX8_fill_33 rfl (lv_at hl 3 rfl) ?_
  refine va_iald hx hb hK hP 8 0 rfl rfl (show vp_in b 8 from vp_in_iff.mpr (show 0 ≤ b.toInt ∧ b.toInt < ((8 : Nat) : Int) from by omega)) dX8_fill_34 ?_
  refine va_iast hx hb hK hP hD hS 3 0 rfl rfl (show vp_in a 8 from vp_in_iff.mpr (show 0 ≤ a.toInt ∧ a.toInt < ((8 : Nat) : Int) from by omega)) dX8_fill_35 (fun H locs hP hD hS => ?_)
  have hP : va_P D classes [(tw, .inr (8, [.ref twk, .ref twv, .ref twh, .ref twt, .int tw_size])), (twk, .inl (cy, 8, .inl (upd twk_a a.toNatClampNeg (otk_a b.toNatClampNeg)))), (twv, .inl (cy, 8, .inl (upd twv_a a.toNatClampNeg (otv_a b.toNatClampNeg)))), (twh, .inl (cy, 8, .inl (upd twh_a a.toNatClampNeg (oth_a b.toNatClampNeg)))), (twt, .inl (cy, 8, .inl twt_a)), (ot, .inr (8, [.ref otk, .ref otv, .ref oth, .ref ott, .int ot_size])), (otk, .inl (cy, 8, .inl otk_a)), (otv, .inl (cy, 8, .inl otv_a)), (oth, .inl (cy, 8, .inl oth_a)), (ott, .inl (cy, 8, .inl ott_a))] H := hP
  have hD : va_D A [(tw, .inr (8, [.ref twk, .ref twv, .ref twh, .ref twt, .int tw_size])), (twk, .inl (cy, 8, .inl (upd twk_a a.toNatClampNeg (otk_a b.toNatClampNeg)))), (twv, .inl (cy, 8, .inl (upd twv_a a.toNatClampNeg (otv_a b.toNatClampNeg)))), (twh, .inl (cy, 8, .inl (upd twh_a a.toNatClampNeg (oth_a b.toNatClampNeg)))), (twt, .inl (cy, 8, .inl twt_a)), (ot, .inr (8, [.ref otk, .ref otv, .ref oth, .ref ott, .int ot_size])), (otk, .inl (cy, 8, .inl otk_a)), (otv, .inl (cy, 8, .inl otv_a)), (oth, .inl (cy, 8, .inl oth_a)), (ott, .inl (cy, 8, .inl ott_a))] := hD
  refine lv_aload_n hx hb dX8_fill_36 rfl (lv_at hl 0 rfl) ?_
  refine va_get (D := D) (ci := 8) (v := .ref twt) (C := RX8) (T := TX8) (N := 5) hx hb htb inX8 hown hK hP 0 rfl rfl 3 (by decide) (htb _ tw_126) (fun _ h9 => h9) rfl dX8_fill_37 ?_
  refine lv_iload_n hx hb dX8_fill_40 rfl (lv_at hl 1 rfl) ?_
  refine lv_aload_n hx hb dX8_fill_41 rfl (lv_at hl 2 rfl) ?_
  refine va_get (D := D) (ci := 8) (v := .ref ott) (C := RX8) (T := TX8) (N := 5) hx hb htb inX8 hown hK hP 5 rfl rfl 3 (by decide) (htb _ tw_126) (fun _ h9 => h9) rfl dX8_fill_42 ?_
  refine lv_iload_n hx hb dX8_fill_45 rfl (lv_at hl 3 rfl) ?_
  refine va_iald hx hb hK hP 9 0 rfl rfl (show vp_in b 8 from vp_in_iff.mpr (show 0 ≤ b.toInt ∧ b.toInt < ((8 : Nat) : Int) from by omega)) dX8_fill_46 ?_
  refine va_iast hx hb hK hP hD hS 4 0 rfl rfl (show vp_in a 8 from vp_in_iff.mpr (show 0 ≤ a.toInt ∧ a.toInt < ((8 : Nat) : Int) from by omega)) dX8_fill_47 (fun H locs hP hD hS => ?_)
  have hP : va_P D classes [(tw, .inr (8, [.ref twk, .ref twv, .ref twh, .ref twt, .int tw_size])), (twk, .inl (cy, 8, .inl (upd twk_a a.toNatClampNeg (otk_a b.toNatClampNeg)))), (twv, .inl (cy, 8, .inl (upd twv_a a.toNatClampNeg (otv_a b.toNatClampNeg)))), (twh, .inl (cy, 8, .inl (upd twh_a a.toNatClampNeg (oth_a b.toNatClampNeg)))), (twt, .inl (cy, 8, .inl (upd twt_a a.toNatClampNeg (ott_a b.toNatClampNeg)))), (ot, .inr (8, [.ref otk, .ref otv, .ref oth, .ref ott, .int ot_size])), (otk, .inl (cy, 8, .inl otk_a)), (otv, .inl (cy, 8, .inl otv_a)), (oth, .inl (cy, 8, .inl oth_a)), (ott, .inl (cy, 8, .inl ott_a))] H := hP
  have hD : va_D A [(tw, .inr (8, [.ref twk, .ref twv, .ref twh, .ref twt, .int tw_size])), (twk, .inl (cy, 8, .inl (upd twk_a a.toNatClampNeg (otk_a b.toNatClampNeg)))), (twv, .inl (cy, 8, .inl (upd twv_a a.toNatClampNeg (otv_a b.toNatClampNeg)))), (twh, .inl (cy, 8, .inl (upd twh_a a.toNatClampNeg (oth_a b.toNatClampNeg)))), (twt, .inl (cy, 8, .inl (upd twt_a a.toNatClampNeg (ott_a b.toNatClampNeg)))), (ot, .inr (8, [.ref otk, .ref otv, .ref oth, .ref ott, .int ot_size])), (otk, .inl (cy, 8, .inl otk_a)), (otv, .inl (cy, 8, .inl otv_a)), (oth, .inl (cy, 8, .inl oth_a)), (ott, .inl (cy, 8, .inl ott_a))] := hD
  refine W.widen (k := 0) (n := 0) (by decide) (by decide) ?_
  exact hret ((upd twk_a a.toNatClampNeg (otk_a b.toNatClampNeg)), (upd twv_a a.toNatClampNeg (otv_a b.toNatClampNeg)), (upd twh_a a.toNatClampNeg (oth_a b.toNatClampNeg)), (upd twt_a a.toNatClampNeg (ott_a b.toNatClampNeg))) _ _ _ 48 (wk_sub9 (is := [0, 1, 2, 3, 4, 5, 6, 7, 8, 9]) hP rfl) (hD.sub [0, 1, 2, 3, 4, 5, 6, 7, 8, 9] rfl rfl) hS dX8_fill_48 hF.symm
def fn_X8_fill_s (twk_a : Nat → Int32) (twv_a : Nat → Int32) (twh_a : Nat → Int32) (twt_a : Nat → Int32) (a : Int32) (b : Int32) : (Nat → Int32) × (Nat → Int32) × (Nat → Int32) × (Nat → Int32) := ((upd twk_a a.toNatClampNeg (twk_a b.toNatClampNeg)), (upd twv_a a.toNatClampNeg (twv_a b.toNatClampNeg)), (upd twh_a a.toNatClampNeg (twh_a b.toNatClampNeg)), (upd twt_a a.toNatClampNeg (twt_a b.toNatClampNeg)))
set_option maxHeartbeats 4000000 in
set_option maxRecDepth 100000 in
theorem c_X8_fill_s (l : Launch) (D : va_G) (cy : ClassId) (tw twk twv twh twt : Nat) (tw_size : Int32) (twk_a : Nat → Int32) (twv_a : Nat → Int32) (twh_a : Nat → Int32) (twt_a : Nat → Int32) (a : Int32) (b : Int32) (g_0 : 0 ≤ tw_size.toInt ∧ tw_size.toInt ≤ 8) (g_1 : 0 ≤ a.toInt ∧ a.toInt ≤ 7) (g_2 : 0 ≤ b.toInt ∧ b.toInt ≤ 7) : wk_Cv l yX8_fill cX8_fill 4 none { frames := 0, cells := 0, slots := 0, locals := 0 } D cy [.ref tw, .int a, .ref tw, .int b] [(tw, .inr (8, [.ref twk, .ref twv, .ref twh, .ref twt, .int tw_size])), (twk, .inl (cy, 8, .inl twk_a)), (twv, .inl (cy, 8, .inl twv_a)), (twh, .inl (cy, 8, .inl twh_a)), (twt, .inl (cy, 8, .inl twt_a))] 0 0 (fun (u : (Nat → Int32) × (Nat → Int32) × (Nat → Int32) × (Nat → Int32)) => u = (fn_X8_fill_s twk_a twv_a twh_a twt_a a b)) (fun u => [(tw, .inr (8, [.ref twk, .ref twv, .ref twh, .ref twt, .int tw_size])), (twk, .inl (cy, 8, .inl u.1)), (twv, .inl (cy, 8, .inl u.2.1)), (twh, .inl (cy, 8, .inl u.2.2.1)), (twt, .inl (cy, 8, .inl u.2.2.2))]) := by
  refine wk_mk2Cv (by decide) (Nat.le_of_ble_eq_true rfl) ?_
  intro p e s m args below meth c A ls Q B hA hK hP hD hS hl hret
  obtain ⟨hx, hb, hr, hlocks, hml, hown, htb, hin⟩ := B
  have hl : lv_has ls 4 [(0, .ref tw), (1, .int a), (2, .ref tw), (3, .int b)] := hl
  have hF : (fn_X8_fill_s twk_a twv_a twh_a twt_a a b) = (fn_X8_fill_s twk_a twv_a twh_a twt_a a b) := rfl
  conv at hF => rhs; unfold fn_X8_fill_s
  refine lv_aload_n hx hb dX8_fill_0 rfl (lv_at hl 0 rfl) ?_
  refine va_get (D := D) (ci := 8) (v := .ref twk) (C := RX8) (T := TX8) (N := 5) hx hb htb inX8 hown hK hP 0 rfl rfl 0 (by decide) (htb _ tw_114) (fun _ h9 => h9) rfl dX8_fill_1 ?_
  refine lv_iload_n hx hb dX8_fill_4 rfl (lv_at hl 1 rfl) ?_
  refine lv_aload_n hx hb dX8_fill_5 rfl (lv_at hl 2 rfl) ?_
  refine va_get (D := D) (ci := 8) (v := .ref twk) (C := RX8) (T := TX8) (N := 5) hx hb htb inX8 hown hK hP 0 rfl rfl 0 (by decide) (htb _ tw_114) (fun _ h9 => h9) rfl dX8_fill_6 ?_
  refine lv_iload_n hx hb dX8_fill_9 rfl (lv_at hl 3 rfl) ?_
  refine va_iald hx hb hK hP 1 0 rfl rfl (show vp_in b 8 from vp_in_iff.mpr (show 0 ≤ b.toInt ∧ b.toInt < ((8 : Nat) : Int) from by omega)) dX8_fill_10 ?_
  refine va_iast hx hb hK hP hD hS 1 0 rfl rfl (show vp_in a 8 from vp_in_iff.mpr (show 0 ≤ a.toInt ∧ a.toInt < ((8 : Nat) : Int) from by omega)) dX8_fill_11 (fun H locs hP hD hS => ?_)
  have hP : va_P D classes [(tw, .inr (8, [.ref twk, .ref twv, .ref twh, .ref twt, .int tw_size])), (twk, .inl (cy, 8, .inl (upd twk_a a.toNatClampNeg (twk_a b.toNatClampNeg)))), (twv, .inl (cy, 8, .inl twv_a)), (twh, .inl (cy, 8, .inl twh_a)), (twt, .inl (cy, 8, .inl twt_a))] H := hP
  have hD : va_D A [(tw, .inr (8, [.ref twk, .ref twv, .ref twh, .ref twt, .int tw_size])), (twk, .inl (cy, 8, .inl (upd twk_a a.toNatClampNeg (twk_a b.toNatClampNeg)))), (twv, .inl (cy, 8, .inl twv_a)), (twh, .inl (cy, 8, .inl twh_a)), (twt, .inl (cy, 8, .inl twt_a))] := hD
  refine lv_aload_n hx hb dX8_fill_12 rfl (lv_at hl 0 rfl) ?_
  refine va_get (D := D) (ci := 8) (v := .ref twv) (C := RX8) (T := TX8) (N := 5) hx hb htb inX8 hown hK hP 0 rfl rfl 1 (by decide) (htb _ tw_119) (fun _ h9 => h9) rfl dX8_fill_13 ?_
  refine lv_iload_n hx hb dX8_fill_16 rfl (lv_at hl 1 rfl) ?_
  refine lv_aload_n hx hb dX8_fill_17 rfl (lv_at hl 2 rfl) ?_
  refine va_get (D := D) (ci := 8) (v := .ref twv) (C := RX8) (T := TX8) (N := 5) hx hb htb inX8 hown hK hP 0 rfl rfl 1 (by decide) (htb _ tw_119) (fun _ h9 => h9) rfl dX8_fill_18 ?_
  refine lv_iload_n hx hb dX8_fill_21 rfl (lv_at hl 3 rfl) ?_
  refine va_iald hx hb hK hP 2 0 rfl rfl (show vp_in b 8 from vp_in_iff.mpr (show 0 ≤ b.toInt ∧ b.toInt < ((8 : Nat) : Int) from by omega)) dX8_fill_22 ?_
  refine va_iast hx hb hK hP hD hS 2 0 rfl rfl (show vp_in a 8 from vp_in_iff.mpr (show 0 ≤ a.toInt ∧ a.toInt < ((8 : Nat) : Int) from by omega)) dX8_fill_23 (fun H locs hP hD hS => ?_)
  have hP : va_P D classes [(tw, .inr (8, [.ref twk, .ref twv, .ref twh, .ref twt, .int tw_size])), (twk, .inl (cy, 8, .inl (upd twk_a a.toNatClampNeg (twk_a b.toNatClampNeg)))), (twv, .inl (cy, 8, .inl (upd twv_a a.toNatClampNeg (twv_a b.toNatClampNeg)))), (twh, .inl (cy, 8, .inl twh_a)), (twt, .inl (cy, 8, .inl twt_a))] H := hP
  have hD : va_D A [(tw, .inr (8, [.ref twk, .ref twv, .ref twh, .ref twt, .int tw_size])), (twk, .inl (cy, 8, .inl (upd twk_a a.toNatClampNeg (twk_a b.toNatClampNeg)))), (twv, .inl (cy, 8, .inl (upd twv_a a.toNatClampNeg (twv_a b.toNatClampNeg)))), (twh, .inl (cy, 8, .inl twh_a)), (twt, .inl (cy, 8, .inl twt_a))] := hD
  refine lv_aload_n hx hb dX8_fill_24 rfl (lv_at hl 0 rfl) ?_
  refine va_get (D := D) (ci := 8) (v := .ref twh) (C := RX8) (T := TX8) (N := 5) hx hb htb inX8 hown hK hP 0 rfl rfl 2 (by decide) (htb _ tw_122) (fun _ h9 => h9) rfl dX8_fill_25 ?_
  refine lv_iload_n hx hb dX8_fill_28 rfl (lv_at hl 1 rfl) ?_
  refine lv_aload_n hx hb dX8_fill_29 rfl (lv_at hl 2 rfl) ?_
  refine va_get (D := D) (ci := 8) (v := .ref twh) (C := RX8) (T := TX8) (N := 5) hx hb htb inX8 hown hK hP 0 rfl rfl 2 (by decide) (htb _ tw_122) (fun _ h9 => h9) rfl dX8_fill_30 ?_
  refine lv_iload_n hx hb dX8_fill_33 rfl (lv_at hl 3 rfl) ?_
  refine va_iald hx hb hK hP 3 0 rfl rfl (show vp_in b 8 from vp_in_iff.mpr (show 0 ≤ b.toInt ∧ b.toInt < ((8 : Nat) : Int) from by omega)) dX8_fill_34 ?_
  refine va_iast hx hb hK hP hD hS 3 0 rfl rfl (show vp_in a 8 from vp_in_iff.mpr (show 0 ≤ a.toInt ∧ a.toInt < ((8 : Nat) : Int) from by omega)) dX8_fill_35 (fun H locs hP hD hS => ?_)
  have hP : va_P D classes [(tw, .inr (8, [.ref twk, .ref twv, .ref twh, .ref twt, .int tw_size])), (twk, .inl (cy, 8, .inl (upd twk_a a.toNatClampNeg (twk_a b.toNatClampNeg)))), (twv, .inl (cy, 8, .inl (upd twv_a a.toNatClampNeg (twv_a b.toNatClampNeg)))), (twh, .inl (cy, 8, .inl (upd twh_a a.toNatClampNeg (twh_a b.toNatClampNeg)))), (twt, .inl (cy, 8, .inl twt_a))] H := hP
  have hD : va_D A [(tw, .inr (8, [.ref twk, .ref twv, .ref twh, .ref twt, .int tw_size])), (twk, .inl (cy, 8, .inl (upd twk_a a.toNatClampNeg (twk_a b.toNatClampNeg)))), (twv, .inl (cy, 8, .inl (upd twv_a a.toNatClampNeg (twv_a b.toNatClampNeg)))), (twh, .inl (cy, 8, .inl (upd twh_a a.toNatClampNeg (twh_a b.toNatClampNeg)))), (twt, .inl (cy, 8, .inl twt_a))] := hD
  refine lv_aload_n hx hb dX8_fill_36 rfl (lv_at hl 0 rfl) ?_
  refine va_get (D := D) (ci := 8) (v := .ref twt) (C := RX8) (T := TX8) (N := 5) hx hb htb inX8 hown hK hP 0 rfl rfl 3 (by decide) (htb _ tw_126) (fun _ h9 => h9) rfl dX8_fill_37 ?_
  refine lv_iload_n hx hb dX8_fill_40 rfl (lv_at hl 1 rfl) ?_
  refine lv_aload_n hx hb dX8_fill_41 rfl (lv_at hl 2 rfl) ?_
  refine va_get (D := D) (ci := 8) (v := .ref twt) (C := RX8) (T := TX8) (N := 5) hx hb htb inX8 hown hK hP 0 rfl rfl 3 (by decide) (htb _ tw_126) (fun _ h9 => h9) rfl dX8_fill_42 ?_
  refine lv_iload_n hx hb dX8_fill_45 rfl (lv_at hl 3 rfl) ?_
  refine va_iald hx hb hK hP 4 0 rfl rfl (show vp_in b 8 from vp_in_iff.mpr (show 0 ≤ b.toInt ∧ b.toInt < ((8 : Nat) : Int) from by omega)) dX8_fill_46 ?_
  refine va_iast hx hb hK hP hD hS 4 0 rfl rfl (show vp_in a 8 from vp_in_iff.mpr (show 0 ≤ a.toInt ∧ a.toInt < ((8 : Nat) : Int) from by omega)) dX8_fill_47 (fun H locs hP hD hS => ?_)
  have hP : va_P D classes [(tw, .inr (8, [.ref twk, .ref twv, .ref twh, .ref twt, .int tw_size])), (twk, .inl (cy, 8, .inl (upd twk_a a.toNatClampNeg (twk_a b.toNatClampNeg)))), (twv, .inl (cy, 8, .inl (upd twv_a a.toNatClampNeg (twv_a b.toNatClampNeg)))), (twh, .inl (cy, 8, .inl (upd twh_a a.toNatClampNeg (twh_a b.toNatClampNeg)))), (twt, .inl (cy, 8, .inl (upd twt_a a.toNatClampNeg (twt_a b.toNatClampNeg))))] H := hP
  have hD : va_D A [(tw, .inr (8, [.ref twk, .ref twv, .ref twh, .ref twt, .int tw_size])), (twk, .inl (cy, 8, .inl (upd twk_a a.toNatClampNeg (twk_a b.toNatClampNeg)))), (twv, .inl (cy, 8, .inl (upd twv_a a.toNatClampNeg (twv_a b.toNatClampNeg)))), (twh, .inl (cy, 8, .inl (upd twh_a a.toNatClampNeg (twh_a b.toNatClampNeg)))), (twt, .inl (cy, 8, .inl (upd twt_a a.toNatClampNeg (twt_a b.toNatClampNeg))))] := hD
  refine W.widen (k := 0) (n := 0) (by decide) (by decide) ?_
  exact hret ((upd twk_a a.toNatClampNeg (twk_a b.toNatClampNeg)), (upd twv_a a.toNatClampNeg (twv_a b.toNatClampNeg)), (upd twh_a a.toNatClampNeg (twh_a b.toNatClampNeg)), (upd twt_a a.toNatClampNeg (twt_a b.toNatClampNeg))) _ _ _ 48 (wk_sub9 (is := [0, 1, 2, 3, 4]) hP rfl) (hD.sub [0, 1, 2, 3, 4] rfl rfl) hS dX8_fill_48 hF.symm
def lp_X8_append_2 (tw_size : Int32) (twk_a : Nat → Int32) (twv_a : Nat → Int32) (twh_a : Nat → Int32) (twt_a : Nat → Int32) (ot_size : Int32) (otk_a : Nat → Int32) (otv_a : Nat → Int32) (oth_a : Nat → Int32) (ott_a : Nat → Int32) (a : Int32) : Nat → Int32 → Int32 → (Nat → Int32) → (Nat → Int32) → (Nat → Int32) → (Nat → Int32) → Int32 × Int32 × (Nat → Int32) × (Nat → Int32) × (Nat → Int32) × (Nat → Int32)
  | 0, _, _, _, _, _, _ => default
  | fu_2 + 1, x3_2, tw_size_2, twk_a_2, twv_a_2, twh_a_2, twt_a_2 => (if ot_size ≤ x3_2 then (x3_2, tw_size_2, twk_a_2, twv_a_2, twh_a_2, twt_a_2) else (if (8 : Int32) ≤ tw_size_2 then (x3_2, tw_size_2, twk_a_2, twv_a_2, twh_a_2, twt_a_2) else (pm2 (fn_X8_fill twk_a_2 twv_a_2 twh_a_2 twt_a_2 otk_a otv_a oth_a ott_a ((tw_size_2 + 1) - 1) x3_2) (fun o_8 t_ => (pm2 (t_) (fun o_9 t_ => (pm2 (t_) (fun o_10 o_11 => (lp_X8_append_2 tw_size twk_a twv_a twh_a twt_a ot_size otk_a otv_a oth_a ott_a a fu_2 (x3_2 + 1) (tw_size_2 + 1) o_8 o_9 o_10 o_11)))))))))
termination_by n => n
def fn_X8_append (tw_size : Int32) (twk_a : Nat → Int32) (twv_a : Nat → Int32) (twh_a : Nat → Int32) (twt_a : Nat → Int32) (ot_size : Int32) (otk_a : Nat → Int32) (otv_a : Nat → Int32) (oth_a : Nat → Int32) (ott_a : Nat → Int32) (a : Int32) : Int32 × (Nat → Int32) × (Nat → Int32) × (Nat → Int32) × (Nat → Int32) := (pm2 (lp_X8_append_2 tw_size twk_a twv_a twh_a twt_a ot_size otk_a otv_a oth_a ott_a a 10 a tw_size twk_a twv_a twh_a twt_a) (fun x3_2 t_ => (pm2 (t_) (fun tw_size_2 t_ => (pm2 (t_) (fun twk_a_2 t_ => (pm2 (t_) (fun twv_a_2 t_ => (pm2 (t_) (fun twh_a_2 twt_a_2 => (tw_size_2, twk_a_2, twv_a_2, twh_a_2, twt_a_2)))))))))))
theorem dX8_append_0 : decode cX8_append 0 = .ok (.iload_n 2, 1) := by decide +kernel
theorem dX8_append_1 : decode cX8_append 1 = .ok (.istore_n 3, 1) := by decide +kernel
theorem dX8_append_2 : decode cX8_append 2 = .ok (.iload_n 3, 1) := by decide +kernel
theorem dX8_append_3 : decode cX8_append 3 = .ok (.aload_n 1, 1) := by decide +kernel
theorem dX8_append_4 : decode cX8_append 4 = .ok (.getfield 24, 3) := by decide +kernel
theorem dX8_append_7 : decode cX8_append 7 = .ok (.if_icmp .ge 40, 3) := by decide +kernel
theorem dX8_append_10 : decode cX8_append 10 = .ok (.aload_n 0, 1) := by decide +kernel
theorem dX8_append_11 : decode cX8_append 11 = .ok (.getfield 24, 3) := by decide +kernel
theorem dX8_append_14 : decode cX8_append 14 = .ok (.bipush 8, 2) := by decide +kernel
theorem dX8_append_16 : decode cX8_append 16 = .ok (.if_icmp .ge 31, 3) := by decide +kernel
theorem dX8_append_19 : decode cX8_append 19 = .ok (.aload_n 0, 1) := by decide +kernel
theorem dX8_append_20 : decode cX8_append 20 = .ok (.dup, 1) := by decide +kernel
theorem dX8_append_21 : decode cX8_append 21 = .ok (.getfield 24, 3) := by decide +kernel
theorem dX8_append_24 : decode cX8_append 24 = .ok (.iconst 1, 1) := by decide +kernel
theorem dX8_append_25 : decode cX8_append 25 = .ok (.iadd, 1) := by decide +kernel
theorem dX8_append_26 : decode cX8_append 26 = .ok (.putfield 24, 3) := by decide +kernel
theorem dX8_append_29 : decode cX8_append 29 = .ok (.aload_n 0, 1) := by decide +kernel
theorem dX8_append_30 : decode cX8_append 30 = .ok (.aload_n 0, 1) := by decide +kernel
theorem dX8_append_31 : decode cX8_append 31 = .ok (.getfield 24, 3) := by decide +kernel
theorem dX8_append_34 : decode cX8_append 34 = .ok (.iconst 1, 1) := by decide +kernel
theorem dX8_append_35 : decode cX8_append 35 = .ok (.isub, 1) := by decide +kernel
theorem dX8_append_36 : decode cX8_append 36 = .ok (.aload_n 1, 1) := by decide +kernel
theorem dX8_append_37 : decode cX8_append 37 = .ok (.iload_n 3, 1) := by decide +kernel
theorem dX8_append_38 : decode cX8_append 38 = .ok (.invokevirtual 32, 3) := by decide +kernel
theorem dX8_append_41 : decode cX8_append 41 = .ok (.iinc 3 1, 3) := by decide +kernel
theorem dX8_append_44 : decode cX8_append 44 = .ok (.goto (-42), 3) := by decide +kernel
theorem dX8_append_47 : decode cX8_append 47 = .ok (.return_, 1) := by decide +kernel
set_option maxHeartbeats 4000000 in
set_option maxRecDepth 100000 in
theorem c_X8_append (l : Launch) (D : va_G) (cy : ClassId) (tw twk twv twh twt ot otk otv oth ott : Nat) (tw_size : Int32) (twk_a : Nat → Int32) (twv_a : Nat → Int32) (twh_a : Nat → Int32) (twt_a : Nat → Int32) (ot_size : Int32) (otk_a : Nat → Int32) (otv_a : Nat → Int32) (oth_a : Nat → Int32) (ott_a : Nat → Int32) (a : Int32) (g_0 : 0 ≤ tw_size.toInt ∧ tw_size.toInt ≤ 8) (g_1 : 0 ≤ ot_size.toInt ∧ ot_size.toInt ≤ 8) (g_2 : 0 ≤ a.toInt ∧ a.toInt ≤ 8) : wk_Cv l yX8_append cX8_append 4 none { frames := 1, cells := 0, slots := 0, locals := 23 } D cy [.ref tw, .ref ot, .int a] [(tw, .inr (8, [.ref twk, .ref twv, .ref twh, .ref twt, .int tw_size])), (twk, .inl (cy, 8, .inl twk_a)), (twv, .inl (cy, 8, .inl twv_a)), (twh, .inl (cy, 8, .inl twh_a)), (twt, .inl (cy, 8, .inl twt_a)), (ot, .inr (8, [.ref otk, .ref otv, .ref oth, .ref ott, .int ot_size])), (otk, .inl (cy, 8, .inl otk_a)), (otv, .inl (cy, 8, .inl otv_a)), (oth, .inl (cy, 8, .inl oth_a)), (ott, .inl (cy, 8, .inl ott_a))] 0 0 (fun (u : Int32 × (Nat → Int32) × (Nat → Int32) × (Nat → Int32) × (Nat → Int32)) => u = (fn_X8_append tw_size twk_a twv_a twh_a twt_a ot_size otk_a otv_a oth_a ott_a a) ∧ (0 ≤ u.1.toInt ∧ u.1.toInt ≤ 8)) (fun u => [(tw, .inr (8, [.ref twk, .ref twv, .ref twh, .ref twt, .int u.1])), (twk, .inl (cy, 8, .inl u.2.1)), (twv, .inl (cy, 8, .inl u.2.2.1)), (twh, .inl (cy, 8, .inl u.2.2.2.1)), (twt, .inl (cy, 8, .inl u.2.2.2.2)), (ot, .inr (8, [.ref otk, .ref otv, .ref oth, .ref ott, .int ot_size])), (otk, .inl (cy, 8, .inl otk_a)), (otv, .inl (cy, 8, .inl otv_a)), (oth, .inl (cy, 8, .inl oth_a)), (ott, .inl (cy, 8, .inl ott_a))]) := by
  refine wk_mk2Cv (by decide) (Nat.le_of_ble_eq_true rfl) ?_
  intro p e s m args below meth c A ls Q B hA hK hP hD hS hl hret
  obtain ⟨hx, hb, hr, hlocks, hml, hown, htb, hin⟩ := B
  have hl : lv_has ls 4 [(0, .ref tw), (1, .ref ot), (2, .int a)] := hl
  have hF : (fn_X8_append tw_size twk_a twv_a twh_a twt_a ot_size otk_a otv_a oth_a ott_a a) = (fn_X8_append tw_size twk_a twv_a twh_a twt_a ot_size otk_a otv_a oth_a ott_a a) := rfl
  conv at hF => rhs; unfold fn_X8_append
  refine lv_iload_n hx hb dX8_append_0 rfl (lv_at hl 2 rfl) ?_
  refine lv_istore_n (lv' := [(3, .int a), (0, .ref tw), (1, .ref ot), (2, .int a)]) hx hb dX8_append_1 rfl hl (by decide) rfl (fun ls hl => ?_)
  have hlp_2 : ∀ (fu_2 : Nat) (x3_2 : Int32) (tw_size_2 : Int32) (twk_a_2 : Nat → Int32) (twv_a_2 : Nat → Int32) (twh_a_2 : Nat → Int32) (twt_a_2 : Nat → Int32) (H : Heap) (locs : List Loc) (ls : Array Slot), (0 ≤ x3_2.toInt ∧ x3_2.toInt ≤ 8) → (0 ≤ tw_size_2.toInt ∧ tw_size_2.toInt ≤ 8) → 8 - x3_2.toInt < (fu_2 : Int) → ((fn_X8_append tw_size twk_a twv_a twh_a twt_a ot_size otk_a otv_a oth_a ott_a a) = (pm2 (lp_X8_append_2 tw_size twk_a twv_a twh_a twt_a ot_size otk_a otv_a oth_a ott_a a fu_2 x3_2 tw_size_2 twk_a_2 twv_a_2 twh_a_2 twt_a_2) (fun x3_2 t_ => (pm2 (t_) (fun tw_size_2 t_ => (pm2 (t_) (fun twk_a_2 t_ => (pm2 (t_) (fun twv_a_2 t_ => (pm2 (t_) (fun twh_a_2 twt_a_2 => (tw_size_2, twk_a_2, twv_a_2, twh_a_2, twt_a_2)))))))))))) → va_P D classes [(tw, .inr (8, [.ref twk, .ref twv, .ref twh, .ref twt, .int tw_size_2])), (twk, .inl (cy, 8, .inl twk_a_2)), (twv, .inl (cy, 8, .inl twv_a_2)), (twh, .inl (cy, 8, .inl twh_a_2)), (twt, .inl (cy, 8, .inl twt_a_2)), (ot, .inr (8, [.ref otk, .ref otv, .ref oth, .ref ott, .int ot_size])), (otk, .inl (cy, 8, .inl otk_a)), (otv, .inl (cy, 8, .inl otv_a)), (oth, .inl (cy, 8, .inl oth_a)), (ott, .inl (cy, 8, .inl ott_a))] H → va_D A [(tw, .inr (8, [.ref twk, .ref twv, .ref twh, .ref twt, .int tw_size_2])), (twk, .inl (cy, 8, .inl twk_a_2)), (twv, .inl (cy, 8, .inl twv_a_2)), (twh, .inl (cy, 8, .inl twh_a_2)), (twt, .inl (cy, 8, .inl twt_a_2)), (ot, .inr (8, [.ref otk, .ref otv, .ref oth, .ref ott, .int ot_size])), (otk, .inl (cy, 8, .inl otk_a)), (otv, .inl (cy, 8, .inl otv_a)), (oth, .inl (cy, 8, .inl oth_a)), (ott, .inl (cy, 8, .inl ott_a))] → va_S A s.heap H locs → lv_has ls 4 [(3, .int x3_2), (0, .ref tw), (1, .ref ot), (2, .int a)] → W p l e { frames := 1, cells := 0, slots := 0, locals := 23 } s m args below meth c H locs 0 0 Q (F0 m 2 ls []) := by
    intro fu_2
    induction fu_2 with
    | zero =>
      intro x3_2 tw_size_2 twk_a_2 twv_a_2 twh_a_2 twt_a_2 H locs ls hi_2_0 hi_2_1 hm hF hP hD hS hl
      exfalso; omega
    | succ fu_2 ih_2 =>
      intro x3_2 tw_size_2 twk_a_2 twv_a_2 twh_a_2 twt_a_2 H locs ls hi_2_0 hi_2_1 hm hF hP hD hS hl
      rw [lp_X8_append_2] at hF
      refine lv_iload_n hx hb dX8_append_2 rfl (lv_at hl 0 rfl) ?_
      refine lv_aload_n hx hb dX8_append_3 rfl (lv_at hl 2 rfl) ?_
      refine va_get (D := D) (ci := 8) (v := .int ot_size) (C := RX8) (T := TX8) (N := 5) hx hb htb inX8 hown hK hP 5 rfl rfl 4 (by decide) (htb _ tw_129) (fun _ h9 => h9) rfl dX8_append_4 ?_
      refine lv_icmp_ge (tgt := 47) hx hb dX8_append_7 (by decide) (fun c_1 => ?_) (fun c_1 => ?_)
      · have k_1 : ot_size.toInt ≤ x3_2.toInt := wk_le c_1
        replace hF := hF.trans (pm2_p1 c_1)
        rw [pm2_mk x3_2 (tw_size_2, twk_a_2, twv_a_2, twh_a_2, twt_a_2), pm2_mk tw_size_2 (twk_a_2, twv_a_2, twh_a_2, twt_a_2), pm2_mk twk_a_2 (twv_a_2, twh_a_2, twt_a_2), pm2_mk twv_a_2 (twh_a_2, twt_a_2), pm2_mk twh_a_2 twt_a_2] at hF
        refine W.widen (k := 0) (n := 0) (by decide) (by decide) ?_
        exact hret (tw_size_2, twk_a_2, twv_a_2, twh_a_2, twt_a_2) _ _ _ 47 (wk_sub9 (is := [0, 1, 2, 3, 4, 5, 6, 7, 8, 9]) hP rfl) (hD.sub [0, 1, 2, 3, 4, 5, 6, 7, 8, 9] rfl rfl) hS dX8_append_47 ⟨hF.symm, (show (0 ≤ tw_size_2.toInt ∧ tw_size_2.toInt ≤ 8) from by omega)⟩
      · have k_1 : ¬ ot_size.toInt ≤ x3_2.toInt := wk_nle c_1
        replace hF := hF.trans (pm2_n1 c_1)
        refine lv_aload_n hx hb dX8_append_10 rfl (lv_at hl 1 rfl) ?_
        refine va_get (D := D) (ci := 8) (v := .int tw_size_2) (C := RX8) (T := TX8) (N := 5) hx hb htb inX8 hown hK hP 0 rfl rfl 4 (by decide) (htb _ tw_129) (fun _ h9 => h9) rfl dX8_append_11 ?_
        refine lv_bipush (v := 8) hx hb dX8_append_14 (by decide) ?_
        refine lv_icmp_ge (tgt := 47) hx hb dX8_append_16 (by decide) (fun c_2 => ?_) (fun c_2 => ?_)
        · have k_2 : 8 ≤ tw_size_2.toInt := wk_le c_2
          replace hF := hF.trans (pm2_p1 c_2)
          rw [pm2_mk x3_2 (tw_size_2, twk_a_2, twv_a_2, twh_a_2, twt_a_2), pm2_mk tw_size_2 (twk_a_2, twv_a_2, twh_a_2, twt_a_2), pm2_mk twk_a_2 (twv_a_2, twh_a_2, twt_a_2), pm2_mk twv_a_2 (twh_a_2, twt_a_2), pm2_mk twh_a_2 twt_a_2] at hF
          refine W.widen (k := 0) (n := 0) (by decide) (by decide) ?_
          exact hret (tw_size_2, twk_a_2, twv_a_2, twh_a_2, twt_a_2) _ _ _ 47 (wk_sub9 (is := [0, 1, 2, 3, 4, 5, 6, 7, 8, 9]) hP rfl) (hD.sub [0, 1, 2, 3, 4, 5, 6, 7, 8, 9] rfl rfl) hS dX8_append_47 ⟨hF.symm, (show (0 ≤ tw_size_2.toInt ∧ tw_size_2.toInt ≤ 8) from by omega)⟩
        · have k_2 : ¬ 8 ≤ tw_size_2.toInt := wk_nle c_2
          replace hF := hF.trans (pm2_n1 c_2)
          refine lv_aload_n hx hb dX8_append_19 rfl (lv_at hl 1 rfl) ?_
          refine lv_dup hx hb dX8_append_20 rfl ?_
          refine va_get (D := D) (ci := 8) (v := .int tw_size_2) (C := RX8) (T := TX8) (N := 5) hx hb htb inX8 hown hK hP 0 rfl rfl 4 (by decide) (htb _ tw_129) (fun _ h9 => h9) rfl dX8_append_21 ?_
          refine lv_iconst (v := 1) hx hb dX8_append_24 (by decide) ?_
          refine lv_iadd hx hb dX8_append_25 ?_
          have k_3 : (tw_size_2 + 1).toInt = tw_size_2.toInt + 1 := wk_add tw_size_2.toInt 1 rfl rfl (by omega) (by omega)
          refine va_put (D := D) (ci := 8) (v := .int (tw_size_2 + 1)) (ty := .int) (C := RX8) (T := TX8) (N := 5) hx hb htb inX8 tyX8 tyX8_ok nmX8 hown hK hP hD hS 0 rfl rfl 4 (by decide) (htb _ tw_129) (fun _ h9 => h9) rfl (by decide +kernel) rfl rfl (Nat.le_of_ble_eq_true rfl) dX8_append_26 (fun H locs hP hD hS => ?_)
          have hP : va_P D classes [(tw, .inr (8, [.ref twk, .ref twv, .ref twh, .ref twt, .int (tw_size_2 + 1)])), (twk, .inl (cy, 8, .inl twk_a_2)), (twv, .inl (cy, 8, .inl twv_a_2)), (twh, .inl (cy, 8, .inl twh_a_2)), (twt, .inl (cy, 8, .inl twt_a_2)), (ot, .inr (8, [.ref otk, .ref otv, .ref oth, .ref ott, .int ot_size])), (otk, .inl (cy, 8, .inl otk_a)), (otv, .inl (cy, 8, .inl otv_a)), (oth, .inl (cy, 8, .inl oth_a)), (ott, .inl (cy, 8, .inl ott_a))] H := hP
          have hD : va_D A [(tw, .inr (8, [.ref twk, .ref twv, .ref twh, .ref twt, .int (tw_size_2 + 1)])), (twk, .inl (cy, 8, .inl twk_a_2)), (twv, .inl (cy, 8, .inl twv_a_2)), (twh, .inl (cy, 8, .inl twh_a_2)), (twt, .inl (cy, 8, .inl twt_a_2)), (ot, .inr (8, [.ref otk, .ref otv, .ref oth, .ref ott, .int ot_size])), (otk, .inl (cy, 8, .inl otk_a)), (otv, .inl (cy, 8, .inl otv_a)), (oth, .inl (cy, 8, .inl oth_a)), (ott, .inl (cy, 8, .inl ott_a))] := hD
          refine lv_aload_n hx hb dX8_append_29 rfl (lv_at hl 1 rfl) ?_
          refine lv_aload_n hx hb dX8_append_30 rfl (lv_at hl 1 rfl) ?_
          refine va_get (D := D) (ci := 8) (v := .int (tw_size_2 + 1)) (C := RX8) (T := TX8) (N := 5) hx hb htb inX8 hown hK hP 0 rfl rfl 4 (by decide) (htb _ tw_129) (fun _ h9 => h9) rfl dX8_append_31 ?_
          refine lv_iconst (v := 1) hx hb dX8_append_34 (by decide) ?_
          refine lv_isub hx hb dX8_append_35 ?_
          have k_4 : ((tw_size_2 + 1) - 1).toInt = (tw_size_2 + 1).toInt - 1 := wk_sub (tw_size_2 + 1).toInt 1 rfl rfl (by omega) (by omega)
          refine lv_aload_n hx hb dX8_append_36 rfl (lv_at hl 2 rfl) ?_
          refine lv_iload_n hx hb dX8_append_37 rfl (lv_at hl 0 rfl) ?_
          refine wk_vV (As := [.int ((tw_size_2 + 1) - 1), .ref ot, .int x3_2]) (rest := []) (wc := [(tw, .inr (8, [.ref twk, .ref twv, .ref twh, .ref twt, .int (tw_size_2 + 1)])), (twk, .inl (cy, 8, .inl twk_a_2)), (twv, .inl (cy, 8, .inl twv_a_2)), (twh, .inl (cy, 8, .inl twh_a_2)), (twt, .inl (cy, 8, .inl twt_a_2)), (ot, .inr (8, [.ref otk, .ref otv, .ref oth, .ref ott, .int ot_size])), (otk, .inl (cy, 8, .inl otk_a)), (otv, .inl (cy, 8, .inl otv_a)), (oth, .inl (cy, 8, .inl oth_a)), (ott, .inl (cy, 8, .inl ott_a))]) (wr := []) (n := 3) ⟨hx, hb, hml, hown, htb⟩ (c_X8_fill l D cy tw twk twv twh twt ot otk otv oth ott (tw_size_2 + 1) twk_a_2 twv_a_2 twh_a_2 twt_a_2 ot_size otk_a otv_a oth_a ott_a ((tw_size_2 + 1) - 1) x3_2 (show 0 ≤ (tw_size_2 + 1).toInt ∧ (tw_size_2 + 1).toInt ≤ 8 from by omega) (show 0 ≤ ot_size.toInt ∧ ot_size.toInt ≤ 8 from by omega) (show 0 ≤ ((tw_size_2 + 1) - 1).toInt ∧ ((tw_size_2 + 1) - 1).toInt ≤ 7 from by omega) (show 0 ≤ x3_2.toInt ∧ x3_2.toInt ≤ 7 from by omega)) tw_390 tw_387 tw_389 tw_4 tw_67 rfl rfl (by decide +kernel) ⟨Nat.le_of_ble_eq_true rfl, Nat.le_of_ble_eq_true rfl⟩ hK hP hD hS hA [0, 1, 2, 3, 4, 5, 6, 7, 8, 9] [] rfl rfl rfl rfl (by decide) 0 (ci := 8) rfl rfl rfl hl.1 rfl (Nat.le_of_ble_eq_true rfl) dX8_append_38 ⟨Nat.le_of_ble_eq_true rfl, Nat.le_of_ble_eq_true rfl⟩ (fun u_6 H locs hw_7 hP hD hS => ?_)
          refine W.widen (k := 0) (n := 0) (by decide) (by decide) ?_
          obtain ⟨o_8, o_9, o_10, o_11⟩ := u_6
          have hw_7 : (o_8, o_9, o_10, o_11) = (fn_X8_fill twk_a_2 twv_a_2 twh_a_2 twt_a_2 otk_a otv_a oth_a ott_a ((tw_size_2 + 1) - 1) x3_2) := hw_7
          rw [← hw_7] at hF
          rw [pm2_mk o_8 (o_9, o_10, o_11), pm2_mk o_9 (o_10, o_11), pm2_mk o_10 o_11] at hF
          have hP : va_P D classes [(tw, .inr (8, [.ref twk, .ref twv, .ref twh, .ref twt, .int (tw_size_2 + 1)])), (twk, .inl (cy, 8, .inl o_8)), (twv, .inl (cy, 8, .inl o_9)), (twh, .inl (cy, 8, .inl o_10)), (twt, .inl (cy, 8, .inl o_11)), (ot, .inr (8, [.ref otk, .ref otv, .ref oth, .ref ott, .int ot_size])), (otk, .inl (cy, 8, .inl otk_a)), (otv, .inl (cy, 8, .inl otv_a)), (oth, .inl (cy, 8, .inl oth_a)), (ott, .inl (cy, 8, .inl ott_a))] H := hP
          have hD : va_D A [(tw, .inr (8, [.ref twk, .ref twv, .ref twh, .ref twt, .int (tw_size_2 + 1)])), (twk, .inl (cy, 8, .inl o_8)), (twv, .inl (cy, 8, .inl o_9)), (twh, .inl (cy, 8, .inl o_10)), (twt, .inl (cy, 8, .inl o_11)), (ot, .inr (8, [.ref otk, .ref otv, .ref oth, .ref ott, .int ot_size])), (otk, .inl (cy, 8, .inl otk_a)), (otv, .inl (cy, 8, .inl otv_a)), (oth, .inl (cy, 8, .inl oth_a)), (ott, .inl (cy, 8, .inl ott_a))] := hD
          refine lv_iinc (v := (x3_2 + 1)) (lv' := [(3, .int (x3_2 + 1)), (0, .ref tw), (1, .ref ot), (2, .int a)]) hx hb dX8_append_41 hl (k := 0) rfl rfl (by decide) rfl (fun ls hl => ?_)
          have k_12 : (x3_2 + 1).toInt = x3_2.toInt + 1 := wk_add x3_2.toInt 1 rfl rfl (by omega) (by omega)
          refine lv_goto (tgt := 2) hx hb dX8_append_44 (by decide) ?_
          exact ih_2 (x3_2 + 1) (tw_size_2 + 1) o_8 o_9 o_10 o_11 _ _ _ (show 0 ≤ (x3_2 + 1).toInt ∧ (x3_2 + 1).toInt ≤ 8 from by omega) (show 0 ≤ (tw_size_2 + 1).toInt ∧ (tw_size_2 + 1).toInt ≤ 8 from by omega) (show 8 - (x3_2 + 1).toInt < ((fu_2 : Nat) : Int) from by omega) hF hP hD hS (lv_sub hl [0, 1, 2, 3] rfl)
  exact hlp_2 10 a tw_size twk_a twv_a twh_a twt_a _ _ _ (show 0 ≤ a.toInt ∧ a.toInt ≤ 8 from by omega) (show 0 ≤ tw_size.toInt ∧ tw_size.toInt ≤ 8 from by omega) (show 8 - a.toInt < ((10 : Nat) : Int) from by omega) hF hP hD hS (lv_sub hl [0, 1, 2, 3] rfl)
def fn_X8_copyFrom (tw_size : Int32) (twk_a : Nat → Int32) (twv_a : Nat → Int32) (twh_a : Nat → Int32) (twt_a : Nat → Int32) (ot_size : Int32) (otk_a : Nat → Int32) (otv_a : Nat → Int32) (oth_a : Nat → Int32) (ott_a : Nat → Int32) : Int32 × (Nat → Int32) × (Nat → Int32) × (Nat → Int32) × (Nat → Int32) := (pm2 (fn_X8_append 0 twk_a twv_a twh_a twt_a ot_size otk_a otv_a oth_a ott_a 0) (fun o_4 t_ => (pm2 (t_) (fun o_5 t_ => (pm2 (t_) (fun o_6 t_ => (pm2 (t_) (fun o_7 o_8 => (o_4, o_5, o_6, o_7, o_8)))))))))
theorem dX8_copyFrom_0 : decode cX8_copyFrom 0 = .ok (.aload_n 0, 1) := by decide +kernel
theorem dX8_copyFrom_1 : decode cX8_copyFrom 1 = .ok (.iconst 0, 1) := by decide +kernel
theorem dX8_copyFrom_2 : decode cX8_copyFrom 2 = .ok (.putfield 24, 3) := by decide +kernel
theorem dX8_copyFrom_5 : decode cX8_copyFrom 5 = .ok (.aload_n 0, 1) := by decide +kernel
theorem dX8_copyFrom_6 : decode cX8_copyFrom 6 = .ok (.aload_n 1, 1) := by decide +kernel
theorem dX8_copyFrom_7 : decode cX8_copyFrom 7 = .ok (.iconst 0, 1) := by decide +kernel
theorem dX8_copyFrom_8 : decode cX8_copyFrom 8 = .ok (.invokevirtual 28, 3) := by decide +kernel
theorem dX8_copyFrom_11 : decode cX8_copyFrom 11 = .ok (.return_, 1) := by decide +kernel
set_option maxHeartbeats 4000000 in
set_option maxRecDepth 100000 in
theorem c_X8_copyFrom (l : Launch) (D : va_G) (cy : ClassId) (tw twk twv twh twt ot otk otv oth ott : Nat) (tw_size : Int32) (twk_a : Nat → Int32) (twv_a : Nat → Int32) (twh_a : Nat → Int32) (twt_a : Nat → Int32) (ot_size : Int32) (otk_a : Nat → Int32) (otv_a : Nat → Int32) (oth_a : Nat → Int32) (ott_a : Nat → Int32)  (g_0 : 0 ≤ tw_size.toInt ∧ tw_size.toInt ≤ 8) (g_1 : 0 ≤ ot_size.toInt ∧ ot_size.toInt ≤ 8) : wk_Cv l yX8_copyFrom cX8_copyFrom 2 none { frames := 2, cells := 0, slots := 0, locals := 46 } D cy [.ref tw, .ref ot] [(tw, .inr (8, [.ref twk, .ref twv, .ref twh, .ref twt, .int tw_size])), (twk, .inl (cy, 8, .inl twk_a)), (twv, .inl (cy, 8, .inl twv_a)), (twh, .inl (cy, 8, .inl twh_a)), (twt, .inl (cy, 8, .inl twt_a)), (ot, .inr (8, [.ref otk, .ref otv, .ref oth, .ref ott, .int ot_size])), (otk, .inl (cy, 8, .inl otk_a)), (otv, .inl (cy, 8, .inl otv_a)), (oth, .inl (cy, 8, .inl oth_a)), (ott, .inl (cy, 8, .inl ott_a))] 0 0 (fun (u : Int32 × (Nat → Int32) × (Nat → Int32) × (Nat → Int32) × (Nat → Int32)) => u = (fn_X8_copyFrom tw_size twk_a twv_a twh_a twt_a ot_size otk_a otv_a oth_a ott_a) ∧ (0 ≤ u.1.toInt ∧ u.1.toInt ≤ 8)) (fun u => [(tw, .inr (8, [.ref twk, .ref twv, .ref twh, .ref twt, .int u.1])), (twk, .inl (cy, 8, .inl u.2.1)), (twv, .inl (cy, 8, .inl u.2.2.1)), (twh, .inl (cy, 8, .inl u.2.2.2.1)), (twt, .inl (cy, 8, .inl u.2.2.2.2)), (ot, .inr (8, [.ref otk, .ref otv, .ref oth, .ref ott, .int ot_size])), (otk, .inl (cy, 8, .inl otk_a)), (otv, .inl (cy, 8, .inl otv_a)), (oth, .inl (cy, 8, .inl oth_a)), (ott, .inl (cy, 8, .inl ott_a))]) := by
  refine wk_mk2Cv (by decide) (Nat.le_of_ble_eq_true rfl) ?_
  intro p e s m args below meth c A ls Q B hA hK hP hD hS hl hret
  obtain ⟨hx, hb, hr, hlocks, hml, hown, htb, hin⟩ := B
  have hl : lv_has ls 2 [(0, .ref tw), (1, .ref ot)] := hl
  have hF : (fn_X8_copyFrom tw_size twk_a twv_a twh_a twt_a ot_size otk_a otv_a oth_a ott_a) = (fn_X8_copyFrom tw_size twk_a twv_a twh_a twt_a ot_size otk_a otv_a oth_a ott_a) := rfl
  conv at hF => rhs; unfold fn_X8_copyFrom
  refine lv_aload_n hx hb dX8_copyFrom_0 rfl (lv_at hl 0 rfl) ?_
  refine lv_iconst (v := 0) hx hb dX8_copyFrom_1 (by decide) ?_
  refine va_put (D := D) (ci := 8) (v := .int 0) (ty := .int) (C := RX8) (T := TX8) (N := 5) hx hb htb inX8 tyX8 tyX8_ok nmX8 hown hK hP hD hS 0 rfl rfl 4 (by decide) (htb _ tw_129) (fun _ h9 => h9) rfl (by decide +kernel) rfl rfl (Nat.le_of_ble_eq_true rfl) dX8_copyFrom_2 (fun H locs hP hD hS => ?_)
  have hP : va_P D classes [(tw, .inr (8, [.ref twk, .ref twv, .ref twh, .ref twt, .int 0])), (twk, .inl (cy, 8, .inl twk_a)), (twv, .inl (cy, 8, .inl twv_a)), (twh, .inl (cy, 8, .inl twh_a)), (twt, .inl (cy, 8, .inl twt_a)), (ot, .inr (8, [.ref otk, .ref otv, .ref oth, .ref ott, .int ot_size])), (otk, .inl (cy, 8, .inl otk_a)), (otv, .inl (cy, 8, .inl otv_a)), (oth, .inl (cy, 8, .inl oth_a)), (ott, .inl (cy, 8, .inl ott_a))] H := hP
  have hD : va_D A [(tw, .inr (8, [.ref twk, .ref twv, .ref twh, .ref twt, .int 0])), (twk, .inl (cy, 8, .inl twk_a)), (twv, .inl (cy, 8, .inl twv_a)), (twh, .inl (cy, 8, .inl twh_a)), (twt, .inl (cy, 8, .inl twt_a)), (ot, .inr (8, [.ref otk, .ref otv, .ref oth, .ref ott, .int ot_size])), (otk, .inl (cy, 8, .inl otk_a)), (otv, .inl (cy, 8, .inl otv_a)), (oth, .inl (cy, 8, .inl oth_a)), (ott, .inl (cy, 8, .inl ott_a))] := hD
  refine lv_aload_n hx hb dX8_copyFrom_5 rfl (lv_at hl 0 rfl) ?_
  refine lv_aload_n hx hb dX8_copyFrom_6 rfl (lv_at hl 1 rfl) ?_
  refine lv_iconst (v := 0) hx hb dX8_copyFrom_7 (by decide) ?_
  refine wk_vV (As := [.ref ot, .int 0]) (rest := []) (wc := [(tw, .inr (8, [.ref twk, .ref twv, .ref twh, .ref twt, .int 0])), (twk, .inl (cy, 8, .inl twk_a)), (twv, .inl (cy, 8, .inl twv_a)), (twh, .inl (cy, 8, .inl twh_a)), (twt, .inl (cy, 8, .inl twt_a)), (ot, .inr (8, [.ref otk, .ref otv, .ref oth, .ref ott, .int ot_size])), (otk, .inl (cy, 8, .inl otk_a)), (otv, .inl (cy, 8, .inl otv_a)), (oth, .inl (cy, 8, .inl oth_a)), (ott, .inl (cy, 8, .inl ott_a))]) (wr := []) (n := 2) ⟨hx, hb, hml, hown, htb⟩ (c_X8_append l D cy tw twk twv twh twt ot otk otv oth ott 0 twk_a twv_a twh_a twt_a ot_size otk_a otv_a oth_a ott_a 0 (show 0 ≤ 0 ∧ 0 ≤ 8 from by omega) (show 0 ≤ ot_size.toInt ∧ ot_size.toInt ≤ 8 from by omega) (show 0 ≤ 0 ∧ 0 ≤ 8 from by omega)) tw_621 tw_711 tw_619 tw_620 tw_67 rfl rfl (by decide +kernel) ⟨Nat.le_of_ble_eq_true rfl, Nat.le_of_ble_eq_true rfl⟩ hK hP hD hS hA [0, 1, 2, 3, 4, 5, 6, 7, 8, 9] [] rfl rfl rfl rfl (by decide) 0 (ci := 8) rfl rfl rfl hl.1 rfl (Nat.le_of_ble_eq_true rfl) dX8_copyFrom_8 ⟨Nat.le_of_ble_eq_true rfl, Nat.le_of_ble_eq_true rfl⟩ (fun u_2 H locs hw_3 hP hD hS => ?_)
  refine W.widen (k := 0) (n := 0) (by decide) (by decide) ?_
  obtain ⟨o_4, o_5, o_6, o_7, o_8⟩ := u_2
  obtain ⟨hw_3, k_9⟩ := hw_3
  have hw_3 : (o_4, o_5, o_6, o_7, o_8) = (fn_X8_append 0 twk_a twv_a twh_a twt_a ot_size otk_a otv_a oth_a ott_a 0) := hw_3
  have k_9 : (0 ≤ o_4.toInt ∧ o_4.toInt ≤ 8) := k_9
  rw [← hw_3] at hF
  rw [pm2_mk o_4 (o_5, o_6, o_7, o_8), pm2_mk o_5 (o_6, o_7, o_8), pm2_mk o_6 (o_7, o_8), pm2_mk o_7 o_8] at hF
  have hP : va_P D classes [(tw, .inr (8, [.ref twk, .ref twv, .ref twh, .ref twt, .int o_4])), (twk, .inl (cy, 8, .inl o_5)), (twv, .inl (cy, 8, .inl o_6)), (twh, .inl (cy, 8, .inl o_7)), (twt, .inl (cy, 8, .inl o_8)), (ot, .inr (8, [.ref otk, .ref otv, .ref oth, .ref ott, .int ot_size])), (otk, .inl (cy, 8, .inl otk_a)), (otv, .inl (cy, 8, .inl otv_a)), (oth, .inl (cy, 8, .inl oth_a)), (ott, .inl (cy, 8, .inl ott_a))] H := hP
  have hD : va_D A [(tw, .inr (8, [.ref twk, .ref twv, .ref twh, .ref twt, .int o_4])), (twk, .inl (cy, 8, .inl o_5)), (twv, .inl (cy, 8, .inl o_6)), (twh, .inl (cy, 8, .inl o_7)), (twt, .inl (cy, 8, .inl o_8)), (ot, .inr (8, [.ref otk, .ref otv, .ref oth, .ref ott, .int ot_size])), (otk, .inl (cy, 8, .inl otk_a)), (otv, .inl (cy, 8, .inl otv_a)), (oth, .inl (cy, 8, .inl oth_a)), (ott, .inl (cy, 8, .inl ott_a))] := hD
  refine W.widen (k := 0) (n := 0) (by decide) (by decide) ?_
  exact hret (o_4, o_5, o_6, o_7, o_8) _ _ _ 11 (wk_sub9 (is := [0, 1, 2, 3, 4, 5, 6, 7, 8, 9]) hP rfl) (hD.sub [0, 1, 2, 3, 4, 5, 6, 7, 8, 9] rfl rfl) hS dX8_copyFrom_11 ⟨hF.symm, (show (0 ≤ o_4.toInt ∧ o_4.toInt ≤ 8) from by omega)⟩
def lp_X8_insert_28 (tw_size : Int32) (twk_a : Nat → Int32) (twv_a : Nat → Int32) (twh_a : Nat → Int32) (twt_a : Nat → Int32) (a : Int32) (b : Int32) (d : Int32) (e1 : Int32) : Nat → Int32 → (Nat → Int32) → (Nat → Int32) → (Nat → Int32) → (Nat → Int32) → Int32 × (Nat → Int32) × (Nat → Int32) × (Nat → Int32) × (Nat → Int32)
  | 0, _, _, _, _, _ => default
  | fu_28 + 1, x5_28, twk_a_28, twv_a_28, twh_a_28, twt_a_28 => (if x5_28 ≤ a then (x5_28, twk_a_28, twv_a_28, twh_a_28, twt_a_28) else (pm2 (fn_X8_fill_s twk_a_28 twv_a_28 twh_a_28 twt_a_28 x5_28 (x5_28 - 1)) (fun o_9 t_ => (pm2 (t_) (fun o_10 t_ => (pm2 (t_) (fun o_11 o_12 => (lp_X8_insert_28 tw_size twk_a twv_a twh_a twt_a a b d e1 fu_28 (x5_28 + (-1)) o_9 o_10 o_11 o_12))))))))
termination_by n => n
def fn_X8_insert (tw_size : Int32) (twk_a : Nat → Int32) (twv_a : Nat → Int32) (twh_a : Nat → Int32) (twt_a : Nat → Int32) (a : Int32) (b : Int32) (d : Int32) (e1 : Int32) : Int32 × (Nat → Int32) × (Nat → Int32) × (Nat → Int32) × (Nat → Int32) := (if a < 0 then (tw_size, twk_a, twv_a, twh_a, twt_a) else (if tw_size < a then (tw_size, twk_a, twv_a, twh_a, twt_a) else (if tw_size < 8 then (pm2 (lp_X8_insert_28 tw_size twk_a twv_a twh_a twt_a a b d e1 10 tw_size twk_a twv_a twh_a twt_a) (fun x5_28 t_ => (pm2 (t_) (fun twk_a_28 t_ => (pm2 (t_) (fun twv_a_28 t_ => (pm2 (t_) (fun twh_a_28 twt_a_28 => ((tw_size + 1), (upd twk_a_28 a.toNatClampNeg b), (upd twv_a_28 a.toNatClampNeg d), (upd twh_a_28 a.toNatClampNeg e1), (upd twt_a_28 a.toNatClampNeg 0)))))))))) else (tw_size, twk_a, twv_a, twh_a, twt_a))))
theorem dX8_insert_0 : decode cX8_insert 0 = .ok (.iload_n 1, 1) := by decide +kernel
theorem dX8_insert_1 : decode cX8_insert 1 = .ok (.ifCond .lt 20, 3) := by decide +kernel
theorem dX8_insert_4 : decode cX8_insert 4 = .ok (.iload_n 1, 1) := by decide +kernel
theorem dX8_insert_5 : decode cX8_insert 5 = .ok (.aload_n 0, 1) := by decide +kernel
theorem dX8_insert_6 : decode cX8_insert 6 = .ok (.getfield 24, 3) := by decide +kernel
theorem dX8_insert_9 : decode cX8_insert 9 = .ok (.if_icmp .gt 12, 3) := by decide +kernel
theorem dX8_insert_12 : decode cX8_insert 12 = .ok (.aload_n 0, 1) := by decide +kernel
theorem dX8_insert_13 : decode cX8_insert 13 = .ok (.getfield 24, 3) := by decide +kernel
theorem dX8_insert_16 : decode cX8_insert 16 = .ok (.bipush 8, 2) := by decide +kernel
theorem dX8_insert_18 : decode cX8_insert 18 = .ok (.if_icmp .lt 4, 3) := by decide +kernel
theorem dX8_insert_21 : decode cX8_insert 21 = .ok (.return_, 1) := by decide +kernel
theorem dX8_insert_22 : decode cX8_insert 22 = .ok (.aload_n 0, 1) := by decide +kernel
theorem dX8_insert_23 : decode cX8_insert 23 = .ok (.getfield 24, 3) := by decide +kernel
theorem dX8_insert_26 : decode cX8_insert 26 = .ok (.istore 5, 2) := by decide +kernel
theorem dX8_insert_28 : decode cX8_insert 28 = .ok (.iload 5, 2) := by decide +kernel
theorem dX8_insert_30 : decode cX8_insert 30 = .ok (.iload_n 1, 1) := by decide +kernel
theorem dX8_insert_31 : decode cX8_insert 31 = .ok (.if_icmp .le 20, 3) := by decide +kernel
theorem dX8_insert_34 : decode cX8_insert 34 = .ok (.aload_n 0, 1) := by decide +kernel
theorem dX8_insert_35 : decode cX8_insert 35 = .ok (.iload 5, 2) := by decide +kernel
theorem dX8_insert_37 : decode cX8_insert 37 = .ok (.aload_n 0, 1) := by decide +kernel
theorem dX8_insert_38 : decode cX8_insert 38 = .ok (.iload 5, 2) := by decide +kernel
theorem dX8_insert_40 : decode cX8_insert 40 = .ok (.iconst 1, 1) := by decide +kernel
theorem dX8_insert_41 : decode cX8_insert 41 = .ok (.isub, 1) := by decide +kernel
theorem dX8_insert_42 : decode cX8_insert 42 = .ok (.invokevirtual 32, 3) := by decide +kernel
theorem dX8_insert_45 : decode cX8_insert 45 = .ok (.iinc 5 (-1), 3) := by decide +kernel
theorem dX8_insert_48 : decode cX8_insert 48 = .ok (.goto (-20), 3) := by decide +kernel
theorem dX8_insert_51 : decode cX8_insert 51 = .ok (.aload_n 0, 1) := by decide +kernel
theorem dX8_insert_52 : decode cX8_insert 52 = .ok (.dup, 1) := by decide +kernel
theorem dX8_insert_53 : decode cX8_insert 53 = .ok (.getfield 24, 3) := by decide +kernel
theorem dX8_insert_56 : decode cX8_insert 56 = .ok (.iconst 1, 1) := by decide +kernel
theorem dX8_insert_57 : decode cX8_insert 57 = .ok (.iadd, 1) := by decide +kernel
theorem dX8_insert_58 : decode cX8_insert 58 = .ok (.putfield 24, 3) := by decide +kernel
theorem dX8_insert_61 : decode cX8_insert 61 = .ok (.aload_n 0, 1) := by decide +kernel
theorem dX8_insert_62 : decode cX8_insert 62 = .ok (.getfield 9, 3) := by decide +kernel
theorem dX8_insert_65 : decode cX8_insert 65 = .ok (.iload_n 1, 1) := by decide +kernel
theorem dX8_insert_66 : decode cX8_insert 66 = .ok (.iload_n 2, 1) := by decide +kernel
theorem dX8_insert_67 : decode cX8_insert 67 = .ok (.iastore, 1) := by decide +kernel
theorem dX8_insert_68 : decode cX8_insert 68 = .ok (.aload_n 0, 1) := by decide +kernel
theorem dX8_insert_69 : decode cX8_insert 69 = .ok (.getfield 15, 3) := by decide +kernel
theorem dX8_insert_72 : decode cX8_insert 72 = .ok (.iload_n 1, 1) := by decide +kernel
theorem dX8_insert_73 : decode cX8_insert 73 = .ok (.iload_n 3, 1) := by decide +kernel
theorem dX8_insert_74 : decode cX8_insert 74 = .ok (.iastore, 1) := by decide +kernel
theorem dX8_insert_75 : decode cX8_insert 75 = .ok (.aload_n 0, 1) := by decide +kernel
theorem dX8_insert_76 : decode cX8_insert 76 = .ok (.getfield 18, 3) := by decide +kernel
theorem dX8_insert_79 : decode cX8_insert 79 = .ok (.iload_n 1, 1) := by decide +kernel
theorem dX8_insert_80 : decode cX8_insert 80 = .ok (.iload 4, 2) := by decide +kernel
theorem dX8_insert_82 : decode cX8_insert 82 = .ok (.iastore, 1) := by decide +kernel
theorem dX8_insert_83 : decode cX8_insert 83 = .ok (.aload_n 0, 1) := by decide +kernel
theorem dX8_insert_84 : decode cX8_insert 84 = .ok (.getfield 21, 3) := by decide +kernel
theorem dX8_insert_87 : decode cX8_insert 87 = .ok (.iload_n 1, 1) := by decide +kernel
theorem dX8_insert_88 : decode cX8_insert 88 = .ok (.iconst 0, 1) := by decide +kernel
theorem dX8_insert_89 : decode cX8_insert 89 = .ok (.iastore, 1) := by decide +kernel
theorem dX8_insert_90 : decode cX8_insert 90 = .ok (.return_, 1) := by decide +kernel
set_option maxHeartbeats 4000000 in
set_option maxRecDepth 100000 in
theorem c_X8_insert (l : Launch) (D : va_G) (cy : ClassId) (tw twk twv twh twt : Nat) (tw_size : Int32) (twk_a : Nat → Int32) (twv_a : Nat → Int32) (twh_a : Nat → Int32) (twt_a : Nat → Int32) (a : Int32) (b : Int32) (d : Int32) (e1 : Int32) (g_0 : 0 ≤ tw_size.toInt ∧ tw_size.toInt ≤ 8) : wk_Cv l yX8_insert cX8_insert 6 none { frames := 1, cells := 0, slots := 0, locals := 23 } D cy [.ref tw, .int a, .int b, .int d, .int e1] [(tw, .inr (8, [.ref twk, .ref twv, .ref twh, .ref twt, .int tw_size])), (twk, .inl (cy, 8, .inl twk_a)), (twv, .inl (cy, 8, .inl twv_a)), (twh, .inl (cy, 8, .inl twh_a)), (twt, .inl (cy, 8, .inl twt_a))] 0 0 (fun (u : Int32 × (Nat → Int32) × (Nat → Int32) × (Nat → Int32) × (Nat → Int32)) => u = (fn_X8_insert tw_size twk_a twv_a twh_a twt_a a b d e1) ∧ (0 ≤ u.1.toInt ∧ u.1.toInt ≤ 8) ∧ (¬ (a.toInt = tw_size.toInt ∧ tw_size.toInt ≤ 7) ∨ u.1.toInt = tw_size.toInt + 1)) (fun u => [(tw, .inr (8, [.ref twk, .ref twv, .ref twh, .ref twt, .int u.1])), (twk, .inl (cy, 8, .inl u.2.1)), (twv, .inl (cy, 8, .inl u.2.2.1)), (twh, .inl (cy, 8, .inl u.2.2.2.1)), (twt, .inl (cy, 8, .inl u.2.2.2.2))]) := by
  refine wk_mk2Cv (by decide) (Nat.le_of_ble_eq_true rfl) ?_
  intro p e s m args below meth c A ls Q B hA hK hP hD hS hl hret
  obtain ⟨hx, hb, hr, hlocks, hml, hown, htb, hin⟩ := B
  have hl : lv_has ls 6 [(0, .ref tw), (1, .int a), (2, .int b), (3, .int d), (4, .int e1)] := hl
  have hF : (fn_X8_insert tw_size twk_a twv_a twh_a twt_a a b d e1) = (fn_X8_insert tw_size twk_a twv_a twh_a twt_a a b d e1) := rfl
  conv at hF => rhs; unfold fn_X8_insert
  refine lv_iload_n hx hb dX8_insert_0 rfl (lv_at hl 1 rfl) ?_
  refine lv_if_lt (tgt := 21) hx hb dX8_insert_1 (by decide) (fun c_1 => ?_) (fun c_1 => ?_)
  · have k_1 : a.toInt < 0 := wk_lt c_1
    replace hF := hF.trans (if_pos c_1)
    refine W.widen (k := 0) (n := 0) (by decide) (by decide) ?_
    exact hret (tw_size, twk_a, twv_a, twh_a, twt_a) _ _ _ 21 (wk_sub9 (is := [0, 1, 2, 3, 4]) hP rfl) (hD.sub [0, 1, 2, 3, 4] rfl rfl) hS dX8_insert_21 ⟨hF.symm, (show (0 ≤ tw_size.toInt ∧ tw_size.toInt ≤ 8) from by omega), (show (¬ (a.toInt = tw_size.toInt ∧ tw_size.toInt ≤ 7) ∨ tw_size.toInt = tw_size.toInt + 1) from by omega)⟩
  · have k_1 : ¬ a.toInt < 0 := wk_nlt c_1
    replace hF := hF.trans (if_neg c_1)
    refine lv_iload_n hx hb dX8_insert_4 rfl (lv_at hl 1 rfl) ?_
    refine lv_aload_n hx hb dX8_insert_5 rfl (lv_at hl 0 rfl) ?_
    refine va_get (D := D) (ci := 8) (v := .int tw_size) (C := RX8) (T := TX8) (N := 5) hx hb htb inX8 hown hK hP 0 rfl rfl 4 (by decide) (htb _ tw_129) (fun _ h9 => h9) rfl dX8_insert_6 ?_
    refine lv_icmp_gt (tgt := 21) hx hb dX8_insert_9 (by decide) (fun c_2 => ?_) (fun c_2 => ?_)
    · have k_2 : tw_size.toInt < a.toInt := wk_lt c_2
      replace hF := hF.trans (if_pos c_2)
      refine W.widen (k := 0) (n := 0) (by decide) (by decide) ?_
      exact hret (tw_size, twk_a, twv_a, twh_a, twt_a) _ _ _ 21 (wk_sub9 (is := [0, 1, 2, 3, 4]) hP rfl) (hD.sub [0, 1, 2, 3, 4] rfl rfl) hS dX8_insert_21 ⟨hF.symm, (show (0 ≤ tw_size.toInt ∧ tw_size.toInt ≤ 8) from by omega), (show (¬ (a.toInt = tw_size.toInt ∧ tw_size.toInt ≤ 7) ∨ tw_size.toInt = tw_size.toInt + 1) from by omega)⟩
    · have k_2 : ¬ tw_size.toInt < a.toInt := wk_nlt c_2
      replace hF := hF.trans (if_neg c_2)
      refine lv_aload_n hx hb dX8_insert_12 rfl (lv_at hl 0 rfl) ?_
      refine va_get (D := D) (ci := 8) (v := .int tw_size) (C := RX8) (T := TX8) (N := 5) hx hb htb inX8 hown hK hP 0 rfl rfl 4 (by decide) (htb _ tw_129) (fun _ h9 => h9) rfl dX8_insert_13 ?_
      refine lv_bipush (v := 8) hx hb dX8_insert_16 (by decide) ?_
      refine lv_icmp_lt (tgt := 22) hx hb dX8_insert_18 (by decide) (fun c_3 => ?_) (fun c_3 => ?_)
      · have k_3 : tw_size.toInt < 8 := wk_lt c_3
        replace hF := hF.trans (if_pos c_3)
        refine lv_aload_n hx hb dX8_insert_22 rfl (lv_at hl 0 rfl) ?_
        refine va_get (D := D) (ci := 8) (v := .int tw_size) (C := RX8) (T := TX8) (N := 5) hx hb htb inX8 hown hK hP 0 rfl rfl 4 (by decide) (htb _ tw_129) (fun _ h9 => h9) rfl dX8_insert_23 ?_
        refine lv_istore (lv' := [(5, .int tw_size), (0, .ref tw), (1, .int a), (2, .int b), (3, .int d), (4, .int e1)]) hx hb dX8_insert_26 hl (by decide) rfl (fun ls hl => ?_)
        have hlp_28 : ∀ (fu_28 : Nat) (x5_28 : Int32) (twk_a_28 : Nat → Int32) (twv_a_28 : Nat → Int32) (twh_a_28 : Nat → Int32) (twt_a_28 : Nat → Int32) (H : Heap) (locs : List Loc) (ls : Array Slot), (0 ≤ x5_28.toInt ∧ x5_28.toInt ≤ 7) → (a.toInt ≤ x5_28.toInt) → x5_28.toInt - a.toInt < (fu_28 : Int) → ((fn_X8_insert tw_size twk_a twv_a twh_a twt_a a b d e1) = (pm2 (lp_X8_insert_28 tw_size twk_a twv_a twh_a twt_a a b d e1 fu_28 x5_28 twk_a_28 twv_a_28 twh_a_28 twt_a_28) (fun x5_28 t_ => (pm2 (t_) (fun twk_a_28 t_ => (pm2 (t_) (fun twv_a_28 t_ => (pm2 (t_) (fun twh_a_28 twt_a_28 => ((tw_size + 1), (upd twk_a_28 a.toNatClampNeg b), (upd twv_a_28 a.toNatClampNeg d), (upd twh_a_28 a.toNatClampNeg e1), (upd twt_a_28 a.toNatClampNeg 0))))))))))) → va_P D classes [(tw, .inr (8, [.ref twk, .ref twv, .ref twh, .ref twt, .int tw_size])), (twk, .inl (cy, 8, .inl twk_a_28)), (twv, .inl (cy, 8, .inl twv_a_28)), (twh, .inl (cy, 8, .inl twh_a_28)), (twt, .inl (cy, 8, .inl twt_a_28))] H → va_D A [(tw, .inr (8, [.ref twk, .ref twv, .ref twh, .ref twt, .int tw_size])), (twk, .inl (cy, 8, .inl twk_a_28)), (twv, .inl (cy, 8, .inl twv_a_28)), (twh, .inl (cy, 8, .inl twh_a_28)), (twt, .inl (cy, 8, .inl twt_a_28))] → va_S A s.heap H locs → lv_has ls 6 [(5, .int x5_28), (0, .ref tw), (1, .int a), (2, .int b), (3, .int d), (4, .int e1)] → W p l e { frames := 1, cells := 0, slots := 0, locals := 23 } s m args below meth c H locs 0 0 Q (F0 m 28 ls []) := by
          intro fu_28
          induction fu_28 with
          | zero =>
            intro x5_28 twk_a_28 twv_a_28 twh_a_28 twt_a_28 H locs ls hi_28_0 hi_28_1 hm hF hP hD hS hl
            exfalso; omega
          | succ fu_28 ih_28 =>
            intro x5_28 twk_a_28 twv_a_28 twh_a_28 twt_a_28 H locs ls hi_28_0 hi_28_1 hm hF hP hD hS hl
            rw [lp_X8_insert_28] at hF
            refine lv_iload hx hb dX8_insert_28 (lv_at hl 0 rfl) ?_
            refine lv_iload_n hx hb dX8_insert_30 rfl (lv_at hl 2 rfl) ?_
            refine lv_icmp_le (tgt := 51) hx hb dX8_insert_31 (by decide) (fun c_4 => ?_) (fun c_4 => ?_)
            · have k_4 : x5_28.toInt ≤ a.toInt := wk_le c_4
              replace hF := hF.trans (pm2_p1 c_4)
              rw [pm2_mk x5_28 (twk_a_28, twv_a_28, twh_a_28, twt_a_28), pm2_mk twk_a_28 (twv_a_28, twh_a_28, twt_a_28), pm2_mk twv_a_28 (twh_a_28, twt_a_28), pm2_mk twh_a_28 twt_a_28] at hF
              refine lv_aload_n hx hb dX8_insert_51 rfl (lv_at hl 1 rfl) ?_
              refine lv_dup hx hb dX8_insert_52 rfl ?_
              refine va_get (D := D) (ci := 8) (v := .int tw_size) (C := RX8) (T := TX8) (N := 5) hx hb htb inX8 hown hK hP 0 rfl rfl 4 (by decide) (htb _ tw_129) (fun _ h9 => h9) rfl dX8_insert_53 ?_
              refine lv_iconst (v := 1) hx hb dX8_insert_56 (by decide) ?_
              refine lv_iadd hx hb dX8_insert_57 ?_
              have k_5 : (tw_size + 1).toInt = tw_size.toInt + 1 := wk_add tw_size.toInt 1 rfl rfl (by omega) (by omega)
              refine va_put (D := D) (ci := 8) (v := .int (tw_size + 1)) (ty := .int) (C := RX8) (T := TX8) (N := 5) hx hb htb inX8 tyX8 tyX8_ok nmX8 hown hK hP hD hS 0 rfl rfl 4 (by decide) (htb _ tw_129) (fun _ h9 => h9) rfl (by decide +kernel) rfl rfl (Nat.le_of_ble_eq_true rfl) dX8_insert_58 (fun H locs hP hD hS => ?_)
              have hP : va_P D classes [(tw, .inr (8, [.ref twk, .ref twv, .ref twh, .ref twt, .int (tw_size + 1)])), (twk, .inl (cy, 8, .inl twk_a_28)), (twv, .inl (cy, 8, .inl twv_a_28)), (twh, .inl (cy, 8, .inl twh_a_28)), (twt, .inl (cy, 8, .inl twt_a_28))] H := hP
              have hD : va_D A [(tw, .inr (8, [.ref twk, .ref twv, .ref twh, .ref twt, .int (tw_size + 1)])), (twk, .inl (cy, 8, .inl twk_a_28)), (twv, .inl (cy, 8, .inl twv_a_28)), (twh, .inl (cy, 8, .inl twh_a_28)), (twt, .inl (cy, 8, .inl twt_a_28))] := hD
              refine lv_aload_n hx hb dX8_insert_61 rfl (lv_at hl 1 rfl) ?_
              refine va_get (D := D) (ci := 8) (v := .ref twk) (C := RX8) (T := TX8) (N := 5) hx hb htb inX8 hown hK hP 0 rfl rfl 0 (by decide) (htb _ tw_114) (fun _ h9 => h9) rfl dX8_insert_62 ?_
              refine lv_iload_n hx hb dX8_insert_65 rfl (lv_at hl 2 rfl) ?_
              refine lv_iload_n hx hb dX8_insert_66 rfl (lv_at hl 3 rfl) ?_
              refine va_iast hx hb hK hP hD hS 1 0 rfl rfl (show vp_in a 8 from vp_in_iff.mpr (show 0 ≤ a.toInt ∧ a.toInt < ((8 : Nat) : Int) from by omega)) dX8_insert_67 (fun H locs hP hD hS => ?_)
              have hP : va_P D classes [(tw, .inr (8, [.ref twk, .ref twv, .ref twh, .ref twt, .int (tw_size + 1)])), (twk, .inl (cy, 8, .inl (upd twk_a_28 a.toNatClampNeg b))), (twv, .inl (cy, 8, .inl twv_a_28)), (twh, .inl (cy, 8, .inl twh_a_28)), (twt, .inl (cy, 8, .inl twt_a_28))] H := hP
              have hD : va_D A [(tw, .inr (8, [.ref twk, .ref twv, .ref twh, .ref twt, .int (tw_size + 1)])), (twk, .inl (cy, 8, .inl (upd twk_a_28 a.toNatClampNeg b))), (twv, .inl (cy, 8, .inl twv_a_28)), (twh, .inl (cy, 8, .inl twh_a_28)), (twt, .inl (cy, 8, .inl twt_a_28))] := hD
              refine lv_aload_n hx hb dX8_insert_68 rfl (lv_at hl 1 rfl) ?_
              refine va_get (D := D) (ci := 8) (v := .ref twv) (C := RX8) (T := TX8) (N := 5) hx hb htb inX8 hown hK hP 0 rfl rfl 1 (by decide) (htb _ tw_119) (fun _ h9 => h9) rfl dX8_insert_69 ?_
              refine lv_iload_n hx hb dX8_insert_72 rfl (lv_at hl 2 rfl) ?_
              refine lv_iload_n hx hb dX8_insert_73 rfl (lv_at hl 4 rfl) ?_
              refine va_iast hx hb hK hP hD hS 2 0 rfl rfl (show vp_in a 8 from vp_in_iff.mpr (show 0 ≤ a.toInt ∧ a.toInt < ((8 : Nat) : Int) from by omega)) dX8_insert_74 (fun H locs hP hD hS => ?_)
              have hP : va_P D classes [(tw, .inr (8, [.ref twk, .ref twv, .ref twh, .ref twt, .int (tw_size + 1)])), (twk, .inl (cy, 8, .inl (upd twk_a_28 a.toNatClampNeg b))), (twv, .inl (cy, 8, .inl (upd twv_a_28 a.toNatClampNeg d))), (twh, .inl (cy, 8, .inl twh_a_28)), (twt, .inl (cy, 8, .inl twt_a_28))] H := hP
              have hD : va_D A [(tw, .inr (8, [.ref twk, .ref twv, .ref twh, .ref twt, .int (tw_size + 1)])), (twk, .inl (cy, 8, .inl (upd twk_a_28 a.toNatClampNeg b))), (twv, .inl (cy, 8, .inl (upd twv_a_28 a.toNatClampNeg d))), (twh, .inl (cy, 8, .inl twh_a_28)), (twt, .inl (cy, 8, .inl twt_a_28))] := hD
              refine lv_aload_n hx hb dX8_insert_75 rfl (lv_at hl 1 rfl) ?_
              refine va_get (D := D) (ci := 8) (v := .ref twh) (C := RX8) (T := TX8) (N := 5) hx hb htb inX8 hown hK hP 0 rfl rfl 2 (by decide) (htb _ tw_122) (fun _ h9 => h9) rfl dX8_insert_76 ?_
              refine lv_iload_n hx hb dX8_insert_79 rfl (lv_at hl 2 rfl) ?_
              refine lv_iload hx hb dX8_insert_80 (lv_at hl 5 rfl) ?_
              refine va_iast hx hb hK hP hD hS 3 0 rfl rfl (show vp_in a 8 from vp_in_iff.mpr (show 0 ≤ a.toInt ∧ a.toInt < ((8 : Nat) : Int) from by omega)) dX8_insert_82 (fun H locs hP hD hS => ?_)
              have hP : va_P D classes [(tw, .inr (8, [.ref twk, .ref twv, .ref twh, .ref twt, .int (tw_size + 1)])), (twk, .inl (cy, 8, .inl (upd twk_a_28 a.toNatClampNeg b))), (twv, .inl (cy, 8, .inl (upd twv_a_28 a.toNatClampNeg d))), (twh, .inl (cy, 8, .inl (upd twh_a_28 a.toNatClampNeg e1))), (twt, .inl (cy, 8, .inl twt_a_28))] H := hP
              have hD : va_D A [(tw, .inr (8, [.ref twk, .ref twv, .ref twh, .ref twt, .int (tw_size + 1)])), (twk, .inl (cy, 8, .inl (upd twk_a_28 a.toNatClampNeg b))), (twv, .inl (cy, 8, .inl (upd twv_a_28 a.toNatClampNeg d))), (twh, .inl (cy, 8, .inl (upd twh_a_28 a.toNatClampNeg e1))), (twt, .inl (cy, 8, .inl twt_a_28))] := hD
              refine lv_aload_n hx hb dX8_insert_83 rfl (lv_at hl 1 rfl) ?_
              refine va_get (D := D) (ci := 8) (v := .ref twt) (C := RX8) (T := TX8) (N := 5) hx hb htb inX8 hown hK hP 0 rfl rfl 3 (by decide) (htb _ tw_126) (fun _ h9 => h9) rfl dX8_insert_84 ?_
              refine lv_iload_n hx hb dX8_insert_87 rfl (lv_at hl 2 rfl) ?_
              refine lv_iconst (v := 0) hx hb dX8_insert_88 (by decide) ?_
              refine va_iast hx hb hK hP hD hS 4 0 rfl rfl (show vp_in a 8 from vp_in_iff.mpr (show 0 ≤ a.toInt ∧ a.toInt < ((8 : Nat) : Int) from by omega)) dX8_insert_89 (fun H locs hP hD hS => ?_)
              have hP : va_P D classes [(tw, .inr (8, [.ref twk, .ref twv, .ref twh, .ref twt, .int (tw_size + 1)])), (twk, .inl (cy, 8, .inl (upd twk_a_28 a.toNatClampNeg b))), (twv, .inl (cy, 8, .inl (upd twv_a_28 a.toNatClampNeg d))), (twh, .inl (cy, 8, .inl (upd twh_a_28 a.toNatClampNeg e1))), (twt, .inl (cy, 8, .inl (upd twt_a_28 a.toNatClampNeg 0)))] H := hP
              have hD : va_D A [(tw, .inr (8, [.ref twk, .ref twv, .ref twh, .ref twt, .int (tw_size + 1)])), (twk, .inl (cy, 8, .inl (upd twk_a_28 a.toNatClampNeg b))), (twv, .inl (cy, 8, .inl (upd twv_a_28 a.toNatClampNeg d))), (twh, .inl (cy, 8, .inl (upd twh_a_28 a.toNatClampNeg e1))), (twt, .inl (cy, 8, .inl (upd twt_a_28 a.toNatClampNeg 0)))] := hD
              refine W.widen (k := 0) (n := 0) (by decide) (by decide) ?_
              exact hret ((tw_size + 1), (upd twk_a_28 a.toNatClampNeg b), (upd twv_a_28 a.toNatClampNeg d), (upd twh_a_28 a.toNatClampNeg e1), (upd twt_a_28 a.toNatClampNeg 0)) _ _ _ 90 (wk_sub9 (is := [0, 1, 2, 3, 4]) hP rfl) (hD.sub [0, 1, 2, 3, 4] rfl rfl) hS dX8_insert_90 ⟨hF.symm, (show (0 ≤ (tw_size + 1).toInt ∧ (tw_size + 1).toInt ≤ 8) from by omega), (show (¬ (a.toInt = tw_size.toInt ∧ tw_size.toInt ≤ 7) ∨ (tw_size + 1).toInt = tw_size.toInt + 1) from by omega)⟩
            · have k_4 : ¬ x5_28.toInt ≤ a.toInt := wk_nle c_4
              replace hF := hF.trans (pm2_n1 c_4)
              refine lv_aload_n hx hb dX8_insert_34 rfl (lv_at hl 1 rfl) ?_
              refine lv_iload hx hb dX8_insert_35 (lv_at hl 0 rfl) ?_
              refine lv_aload_n hx hb dX8_insert_37 rfl (lv_at hl 1 rfl) ?_
              refine lv_iload hx hb dX8_insert_38 (lv_at hl 0 rfl) ?_
              refine lv_iconst (v := 1) hx hb dX8_insert_40 (by decide) ?_
              refine lv_isub hx hb dX8_insert_41 ?_
              have k_6 : (x5_28 - 1).toInt = x5_28.toInt - 1 := wk_sub x5_28.toInt 1 rfl rfl (by omega) (by omega)
              refine wk_vV (As := [.int x5_28, .ref tw, .int (x5_28 - 1)]) (rest := []) (wc := [(tw, .inr (8, [.ref twk, .ref twv, .ref twh, .ref twt, .int tw_size])), (twk, .inl (cy, 8, .inl twk_a_28)), (twv, .inl (cy, 8, .inl twv_a_28)), (twh, .inl (cy, 8, .inl twh_a_28)), (twt, .inl (cy, 8, .inl twt_a_28))]) (wr := []) (n := 3) ⟨hx, hb, hml, hown, htb⟩ (c_X8_fill_s l D cy tw twk twv twh twt tw_size twk_a_28 twv_a_28 twh_a_28 twt_a_28 x5_28 (x5_28 - 1) (show 0 ≤ tw_size.toInt ∧ tw_size.toInt ≤ 8 from by omega) (show 0 ≤ x5_28.toInt ∧ x5_28.toInt ≤ 7 from by omega) (show 0 ≤ (x5_28 - 1).toInt ∧ (x5_28 - 1).toInt ≤ 7 from by omega)) tw_390 tw_387 tw_389 tw_4 tw_67 rfl rfl (by decide +kernel) ⟨Nat.le_of_ble_eq_true rfl, Nat.le_of_ble_eq_true rfl⟩ hK hP hD hS hA [0, 1, 2, 3, 4] [] rfl rfl rfl rfl (by decide) 0 (ci := 8) rfl rfl rfl hl.1 rfl (Nat.le_of_ble_eq_true rfl) dX8_insert_42 ⟨Nat.le_of_ble_eq_true rfl, Nat.le_of_ble_eq_true rfl⟩ (fun u_8 H locs hw_9 hP hD hS => ?_)
              refine W.widen (k := 0) (n := 0) (by decide) (by decide) ?_
              obtain ⟨o_10, o_11, o_12, o_13⟩ := u_8
              have hw_9 : (o_10, o_11, o_12, o_13) = (fn_X8_fill_s twk_a_28 twv_a_28 twh_a_28 twt_a_28 x5_28 (x5_28 - 1)) := hw_9
              rw [← hw_9] at hF
              rw [pm2_mk o_10 (o_11, o_12, o_13), pm2_mk o_11 (o_12, o_13), pm2_mk o_12 o_13] at hF
              have hP : va_P D classes [(tw, .inr (8, [.ref twk, .ref twv, .ref twh, .ref twt, .int tw_size])), (twk, .inl (cy, 8, .inl o_10)), (twv, .inl (cy, 8, .inl o_11)), (twh, .inl (cy, 8, .inl o_12)), (twt, .inl (cy, 8, .inl o_13))] H := hP
              have hD : va_D A [(tw, .inr (8, [.ref twk, .ref twv, .ref twh, .ref twt, .int tw_size])), (twk, .inl (cy, 8, .inl o_10)), (twv, .inl (cy, 8, .inl o_11)), (twh, .inl (cy, 8, .inl o_12)), (twt, .inl (cy, 8, .inl o_13))] := hD
              refine lv_iinc (v := (x5_28 + (-1))) (lv' := [(5, .int (x5_28 + (-1))), (0, .ref tw), (1, .int a), (2, .int b), (3, .int d), (4, .int e1)]) hx hb dX8_insert_45 hl (k := 0) rfl rfl (by decide) rfl (fun ls hl => ?_)
              have k_14 : (x5_28 + (-1)).toInt = x5_28.toInt + (-1) := wk_add x5_28.toInt (-1) rfl rfl (by omega) (by omega)
              refine lv_goto (tgt := 28) hx hb dX8_insert_48 (by decide) ?_
              exact ih_28 (x5_28 + (-1)) o_10 o_11 o_12 o_13 _ _ _ (show 0 ≤ (x5_28 + (-1)).toInt ∧ (x5_28 + (-1)).toInt ≤ 7 from by omega) (show a.toInt ≤ (x5_28 + (-1)).toInt from by omega) (show (x5_28 + (-1)).toInt - a.toInt < ((fu_28 : Nat) : Int) from by omega) hF hP hD hS (lv_sub hl [0, 1, 2, 3, 4, 5] rfl)
        exact hlp_28 10 tw_size twk_a twv_a twh_a twt_a _ _ _ (show 0 ≤ tw_size.toInt ∧ tw_size.toInt ≤ 7 from by omega) (show a.toInt ≤ tw_size.toInt from by omega) (show tw_size.toInt - a.toInt < ((10 : Nat) : Int) from by omega) hF hP hD hS (lv_sub hl [0, 1, 2, 3, 4, 5] rfl)
      · have k_3 : ¬ tw_size.toInt < 8 := wk_nlt c_3
        replace hF := hF.trans (if_neg c_3)
        refine W.widen (k := 0) (n := 0) (by decide) (by decide) ?_
        exact hret (tw_size, twk_a, twv_a, twh_a, twt_a) _ _ _ 21 (wk_sub9 (is := [0, 1, 2, 3, 4]) hP rfl) (hD.sub [0, 1, 2, 3, 4] rfl rfl) hS dX8_insert_21 ⟨hF.symm, (show (0 ≤ tw_size.toInt ∧ tw_size.toInt ≤ 8) from by omega), (show (¬ (a.toInt = tw_size.toInt ∧ tw_size.toInt ≤ 7) ∨ tw_size.toInt = tw_size.toInt + 1) from by omega)⟩
def lp_X8_takeOut_2 (tw_size : Int32) (twk_a : Nat → Int32) (twv_a : Nat → Int32) (twh_a : Nat → Int32) (twt_a : Nat → Int32) (a : Int32) : Nat → Int32 → (Nat → Int32) → (Nat → Int32) → (Nat → Int32) → (Nat → Int32) → Int32 × (Nat → Int32) × (Nat → Int32) × (Nat → Int32) × (Nat → Int32)
  | 0, _, _, _, _, _ => default
  | fu_2 + 1, x2_2, twk_a_2, twv_a_2, twh_a_2, twt_a_2 => (if tw_size ≤ (x2_2 + 1) then (x2_2, twk_a_2, twv_a_2, twh_a_2, twt_a_2) else (pm2 (fn_X8_fill_s twk_a_2 twv_a_2 twh_a_2 twt_a_2 x2_2 (x2_2 + 1)) (fun o_7 t_ => (pm2 (t_) (fun o_8 t_ => (pm2 (t_) (fun o_9 o_10 => (lp_X8_takeOut_2 tw_size twk_a twv_a twh_a twt_a a fu_2 (x2_2 + 1) o_7 o_8 o_9 o_10))))))))
termination_by n => n
def fn_X8_takeOut (tw_size : Int32) (twk_a : Nat → Int32) (twv_a : Nat → Int32) (twh_a : Nat → Int32) (twt_a : Nat → Int32) (a : Int32) : Int32 × (Nat → Int32) × (Nat → Int32) × (Nat → Int32) × (Nat → Int32) := (pm2 (lp_X8_takeOut_2 tw_size twk_a twv_a twh_a twt_a a 10 a twk_a twv_a twh_a twt_a) (fun x2_2 t_ => (pm2 (t_) (fun twk_a_2 t_ => (pm2 (t_) (fun twv_a_2 t_ => (pm2 (t_) (fun twh_a_2 twt_a_2 => ((tw_size - 1), twk_a_2, twv_a_2, twh_a_2, twt_a_2)))))))))
theorem dX8_takeOut_0 : decode cX8_takeOut 0 = .ok (.iload_n 1, 1) := by decide +kernel
theorem dX8_takeOut_1 : decode cX8_takeOut 1 = .ok (.istore_n 2, 1) := by decide +kernel
theorem dX8_takeOut_2 : decode cX8_takeOut 2 = .ok (.iload_n 2, 1) := by decide +kernel
theorem dX8_takeOut_3 : decode cX8_takeOut 3 = .ok (.iconst 1, 1) := by decide +kernel
theorem dX8_takeOut_4 : decode cX8_takeOut 4 = .ok (.iadd, 1) := by decide +kernel
theorem dX8_takeOut_5 : decode cX8_takeOut 5 = .ok (.aload_n 0, 1) := by decide +kernel
theorem dX8_takeOut_6 : decode cX8_takeOut 6 = .ok (.getfield 24, 3) := by decide +kernel
theorem dX8_takeOut_9 : decode cX8_takeOut 9 = .ok (.if_icmp .ge 18, 3) := by decide +kernel
theorem dX8_takeOut_12 : decode cX8_takeOut 12 = .ok (.aload_n 0, 1) := by decide +kernel
theorem dX8_takeOut_13 : decode cX8_takeOut 13 = .ok (.iload_n 2, 1) := by decide +kernel
theorem dX8_takeOut_14 : decode cX8_takeOut 14 = .ok (.aload_n 0, 1) := by decide +kernel
theorem dX8_takeOut_15 : decode cX8_takeOut 15 = .ok (.iload_n 2, 1) := by decide +kernel
theorem dX8_takeOut_16 : decode cX8_takeOut 16 = .ok (.iconst 1, 1) := by decide +kernel
theorem dX8_takeOut_17 : decode cX8_takeOut 17 = .ok (.iadd, 1) := by decide +kernel
theorem dX8_takeOut_18 : decode cX8_takeOut 18 = .ok (.invokevirtual 32, 3) := by decide +kernel
theorem dX8_takeOut_21 : decode cX8_takeOut 21 = .ok (.iinc 2 1, 3) := by decide +kernel
theorem dX8_takeOut_24 : decode cX8_takeOut 24 = .ok (.goto (-22), 3) := by decide +kernel
theorem dX8_takeOut_27 : decode cX8_takeOut 27 = .ok (.aload_n 0, 1) := by decide +kernel
theorem dX8_takeOut_28 : decode cX8_takeOut 28 = .ok (.dup, 1) := by decide +kernel
theorem dX8_takeOut_29 : decode cX8_takeOut 29 = .ok (.getfield 24, 3) := by decide +kernel
theorem dX8_takeOut_32 : decode cX8_takeOut 32 = .ok (.iconst 1, 1) := by decide +kernel
theorem dX8_takeOut_33 : decode cX8_takeOut 33 = .ok (.isub, 1) := by decide +kernel
theorem dX8_takeOut_34 : decode cX8_takeOut 34 = .ok (.putfield 24, 3) := by decide +kernel
theorem dX8_takeOut_37 : decode cX8_takeOut 37 = .ok (.return_, 1) := by decide +kernel
set_option maxHeartbeats 4000000 in
set_option maxRecDepth 100000 in
theorem c_X8_takeOut (l : Launch) (D : va_G) (cy : ClassId) (tw twk twv twh twt : Nat) (tw_size : Int32) (twk_a : Nat → Int32) (twv_a : Nat → Int32) (twh_a : Nat → Int32) (twt_a : Nat → Int32) (a : Int32) (g_0 : 0 ≤ tw_size.toInt ∧ tw_size.toInt ≤ 8) (g_1 : 0 ≤ a.toInt ∧ a.toInt ≤ 7) (g_2 : 1 ≤ tw_size.toInt) : wk_Cv l yX8_takeOut cX8_takeOut 3 none { frames := 1, cells := 0, slots := 0, locals := 23 } D cy [.ref tw, .int a] [(tw, .inr (8, [.ref twk, .ref twv, .ref twh, .ref twt, .int tw_size])), (twk, .inl (cy, 8, .inl twk_a)), (twv, .inl (cy, 8, .inl twv_a)), (twh, .inl (cy, 8, .inl twh_a)), (twt, .inl (cy, 8, .inl twt_a))] 0 0 (fun (u : Int32 × (Nat → Int32) × (Nat → Int32) × (Nat → Int32) × (Nat → Int32)) => u = (fn_X8_takeOut tw_size twk_a twv_a twh_a twt_a a) ∧ (0 ≤ u.1.toInt ∧ u.1.toInt ≤ 8)) (fun u => [(tw, .inr (8, [.ref twk, .ref twv, .ref twh, .ref twt, .int u.1])), (twk, .inl (cy, 8, .inl u.2.1)), (twv, .inl (cy, 8, .inl u.2.2.1)), (twh, .inl (cy, 8, .inl u.2.2.2.1)), (twt, .inl (cy, 8, .inl u.2.2.2.2))]) := by
  refine wk_mk2Cv (by decide) (Nat.le_of_ble_eq_true rfl) ?_
  intro p e s m args below meth c A ls Q B hA hK hP hD hS hl hret
  obtain ⟨hx, hb, hr, hlocks, hml, hown, htb, hin⟩ := B
  have hl : lv_has ls 3 [(0, .ref tw), (1, .int a)] := hl
  have hF : (fn_X8_takeOut tw_size twk_a twv_a twh_a twt_a a) = (fn_X8_takeOut tw_size twk_a twv_a twh_a twt_a a) := rfl
  conv at hF => rhs; unfold fn_X8_takeOut
  refine lv_iload_n hx hb dX8_takeOut_0 rfl (lv_at hl 1 rfl) ?_
  refine lv_istore_n (lv' := [(2, .int a), (0, .ref tw), (1, .int a)]) hx hb dX8_takeOut_1 rfl hl (by decide) rfl (fun ls hl => ?_)
  have hlp_2 : ∀ (fu_2 : Nat) (x2_2 : Int32) (twk_a_2 : Nat → Int32) (twv_a_2 : Nat → Int32) (twh_a_2 : Nat → Int32) (twt_a_2 : Nat → Int32) (H : Heap) (locs : List Loc) (ls : Array Slot), (0 ≤ x2_2.toInt ∧ x2_2.toInt ≤ 7) → 8 - x2_2.toInt < (fu_2 : Int) → ((fn_X8_takeOut tw_size twk_a twv_a twh_a twt_a a) = (pm2 (lp_X8_takeOut_2 tw_size twk_a twv_a twh_a twt_a a fu_2 x2_2 twk_a_2 twv_a_2 twh_a_2 twt_a_2) (fun x2_2 t_ => (pm2 (t_) (fun twk_a_2 t_ => (pm2 (t_) (fun twv_a_2 t_ => (pm2 (t_) (fun twh_a_2 twt_a_2 => ((tw_size - 1), twk_a_2, twv_a_2, twh_a_2, twt_a_2)))))))))) → va_P D classes [(tw, .inr (8, [.ref twk, .ref twv, .ref twh, .ref twt, .int tw_size])), (twk, .inl (cy, 8, .inl twk_a_2)), (twv, .inl (cy, 8, .inl twv_a_2)), (twh, .inl (cy, 8, .inl twh_a_2)), (twt, .inl (cy, 8, .inl twt_a_2))] H → va_D A [(tw, .inr (8, [.ref twk, .ref twv, .ref twh, .ref twt, .int tw_size])), (twk, .inl (cy, 8, .inl twk_a_2)), (twv, .inl (cy, 8, .inl twv_a_2)), (twh, .inl (cy, 8, .inl twh_a_2)), (twt, .inl (cy, 8, .inl twt_a_2))] → va_S A s.heap H locs → lv_has ls 3 [(2, .int x2_2), (0, .ref tw), (1, .int a)] → W p l e { frames := 1, cells := 0, slots := 0, locals := 23 } s m args below meth c H locs 0 0 Q (F0 m 2 ls []) := by
    intro fu_2
    induction fu_2 with
    | zero =>
      intro x2_2 twk_a_2 twv_a_2 twh_a_2 twt_a_2 H locs ls hi_2_0 hm hF hP hD hS hl
      exfalso; omega
    | succ fu_2 ih_2 =>
      intro x2_2 twk_a_2 twv_a_2 twh_a_2 twt_a_2 H locs ls hi_2_0 hm hF hP hD hS hl
      rw [lp_X8_takeOut_2] at hF
      refine lv_iload_n hx hb dX8_takeOut_2 rfl (lv_at hl 0 rfl) ?_
      refine lv_iconst (v := 1) hx hb dX8_takeOut_3 (by decide) ?_
      refine lv_iadd hx hb dX8_takeOut_4 ?_
      have k_1 : (x2_2 + 1).toInt = x2_2.toInt + 1 := wk_add x2_2.toInt 1 rfl rfl (by omega) (by omega)
      refine lv_aload_n hx hb dX8_takeOut_5 rfl (lv_at hl 1 rfl) ?_
      refine va_get (D := D) (ci := 8) (v := .int tw_size) (C := RX8) (T := TX8) (N := 5) hx hb htb inX8 hown hK hP 0 rfl rfl 4 (by decide) (htb _ tw_129) (fun _ h9 => h9) rfl dX8_takeOut_6 ?_
      refine lv_icmp_ge (tgt := 27) hx hb dX8_takeOut_9 (by decide) (fun c_2 => ?_) (fun c_2 => ?_)
      · have k_2 : tw_size.toInt ≤ (x2_2 + 1).toInt := wk_le c_2
        replace hF := hF.trans (pm2_p1 c_2)
        rw [pm2_mk x2_2 (twk_a_2, twv_a_2, twh_a_2, twt_a_2), pm2_mk twk_a_2 (twv_a_2, twh_a_2, twt_a_2), pm2_mk twv_a_2 (twh_a_2, twt_a_2), pm2_mk twh_a_2 twt_a_2] at hF
        refine lv_aload_n hx hb dX8_takeOut_27 rfl (lv_at hl 1 rfl) ?_
        refine lv_dup hx hb dX8_takeOut_28 rfl ?_
        refine va_get (D := D) (ci := 8) (v := .int tw_size) (C := RX8) (T := TX8) (N := 5) hx hb htb inX8 hown hK hP 0 rfl rfl 4 (by decide) (htb _ tw_129) (fun _ h9 => h9) rfl dX8_takeOut_29 ?_
        refine lv_iconst (v := 1) hx hb dX8_takeOut_32 (by decide) ?_
        refine lv_isub hx hb dX8_takeOut_33 ?_
        have k_3 : (tw_size - 1).toInt = tw_size.toInt - 1 := wk_sub tw_size.toInt 1 rfl rfl (by omega) (by omega)
        refine va_put (D := D) (ci := 8) (v := .int (tw_size - 1)) (ty := .int) (C := RX8) (T := TX8) (N := 5) hx hb htb inX8 tyX8 tyX8_ok nmX8 hown hK hP hD hS 0 rfl rfl 4 (by decide) (htb _ tw_129) (fun _ h9 => h9) rfl (by decide +kernel) rfl rfl (Nat.le_of_ble_eq_true rfl) dX8_takeOut_34 (fun H locs hP hD hS => ?_)
        have hP : va_P D classes [(tw, .inr (8, [.ref twk, .ref twv, .ref twh, .ref twt, .int (tw_size - 1)])), (twk, .inl (cy, 8, .inl twk_a_2)), (twv, .inl (cy, 8, .inl twv_a_2)), (twh, .inl (cy, 8, .inl twh_a_2)), (twt, .inl (cy, 8, .inl twt_a_2))] H := hP
        have hD : va_D A [(tw, .inr (8, [.ref twk, .ref twv, .ref twh, .ref twt, .int (tw_size - 1)])), (twk, .inl (cy, 8, .inl twk_a_2)), (twv, .inl (cy, 8, .inl twv_a_2)), (twh, .inl (cy, 8, .inl twh_a_2)), (twt, .inl (cy, 8, .inl twt_a_2))] := hD
        refine W.widen (k := 0) (n := 0) (by decide) (by decide) ?_
        exact hret ((tw_size - 1), twk_a_2, twv_a_2, twh_a_2, twt_a_2) _ _ _ 37 (wk_sub9 (is := [0, 1, 2, 3, 4]) hP rfl) (hD.sub [0, 1, 2, 3, 4] rfl rfl) hS dX8_takeOut_37 ⟨hF.symm, (show (0 ≤ (tw_size - 1).toInt ∧ (tw_size - 1).toInt ≤ 8) from by omega)⟩
      · have k_2 : ¬ tw_size.toInt ≤ (x2_2 + 1).toInt := wk_nle c_2
        replace hF := hF.trans (pm2_n1 c_2)
        refine lv_aload_n hx hb dX8_takeOut_12 rfl (lv_at hl 1 rfl) ?_
        refine lv_iload_n hx hb dX8_takeOut_13 rfl (lv_at hl 0 rfl) ?_
        refine lv_aload_n hx hb dX8_takeOut_14 rfl (lv_at hl 1 rfl) ?_
        refine lv_iload_n hx hb dX8_takeOut_15 rfl (lv_at hl 0 rfl) ?_
        refine lv_iconst (v := 1) hx hb dX8_takeOut_16 (by decide) ?_
        refine lv_iadd hx hb dX8_takeOut_17 ?_
        have k_4 : (x2_2 + 1).toInt = x2_2.toInt + 1 := wk_add x2_2.toInt 1 rfl rfl (by omega) (by omega)
        refine wk_vV (As := [.int x2_2, .ref tw, .int (x2_2 + 1)]) (rest := []) (wc := [(tw, .inr (8, [.ref twk, .ref twv, .ref twh, .ref twt, .int tw_size])), (twk, .inl (cy, 8, .inl twk_a_2)), (twv, .inl (cy, 8, .inl twv_a_2)), (twh, .inl (cy, 8, .inl twh_a_2)), (twt, .inl (cy, 8, .inl twt_a_2))]) (wr := []) (n := 3) ⟨hx, hb, hml, hown, htb⟩ (c_X8_fill_s l D cy tw twk twv twh twt tw_size twk_a_2 twv_a_2 twh_a_2 twt_a_2 x2_2 (x2_2 + 1) (show 0 ≤ tw_size.toInt ∧ tw_size.toInt ≤ 8 from by omega) (show 0 ≤ x2_2.toInt ∧ x2_2.toInt ≤ 7 from by omega) (show 0 ≤ (x2_2 + 1).toInt ∧ (x2_2 + 1).toInt ≤ 7 from by omega)) tw_390 tw_387 tw_389 tw_4 tw_67 rfl rfl (by decide +kernel) ⟨Nat.le_of_ble_eq_true rfl, Nat.le_of_ble_eq_true rfl⟩ hK hP hD hS hA [0, 1, 2, 3, 4] [] rfl rfl rfl rfl (by decide) 0 (ci := 8) rfl rfl rfl hl.1 rfl (Nat.le_of_ble_eq_true rfl) dX8_takeOut_18 ⟨Nat.le_of_ble_eq_true rfl, Nat.le_of_ble_eq_true rfl⟩ (fun u_6 H locs hw_7 hP hD hS => ?_)
        refine W.widen (k := 0) (n := 0) (by decide) (by decide) ?_
        obtain ⟨o_8, o_9, o_10, o_11⟩ := u_6
        have hw_7 : (o_8, o_9, o_10, o_11) = (fn_X8_fill_s twk_a_2 twv_a_2 twh_a_2 twt_a_2 x2_2 (x2_2 + 1)) := hw_7
        rw [← hw_7] at hF
        rw [pm2_mk o_8 (o_9, o_10, o_11), pm2_mk o_9 (o_10, o_11), pm2_mk o_10 o_11] at hF
        have hP : va_P D classes [(tw, .inr (8, [.ref twk, .ref twv, .ref twh, .ref twt, .int tw_size])), (twk, .inl (cy, 8, .inl o_8)), (twv, .inl (cy, 8, .inl o_9)), (twh, .inl (cy, 8, .inl o_10)), (twt, .inl (cy, 8, .inl o_11))] H := hP
        have hD : va_D A [(tw, .inr (8, [.ref twk, .ref twv, .ref twh, .ref twt, .int tw_size])), (twk, .inl (cy, 8, .inl o_8)), (twv, .inl (cy, 8, .inl o_9)), (twh, .inl (cy, 8, .inl o_10)), (twt, .inl (cy, 8, .inl o_11))] := hD
        refine lv_iinc (v := (x2_2 + 1)) (lv' := [(2, .int (x2_2 + 1)), (0, .ref tw), (1, .int a)]) hx hb dX8_takeOut_21 hl (k := 0) rfl rfl (by decide) rfl (fun ls hl => ?_)
        have k_12 : (x2_2 + 1).toInt = x2_2.toInt + 1 := wk_add x2_2.toInt 1 rfl rfl (by omega) (by omega)
        refine lv_goto (tgt := 2) hx hb dX8_takeOut_24 (by decide) ?_
        exact ih_2 (x2_2 + 1) o_8 o_9 o_10 o_11 _ _ _ (show 0 ≤ (x2_2 + 1).toInt ∧ (x2_2 + 1).toInt ≤ 7 from by omega) (show 8 - (x2_2 + 1).toInt < ((fu_2 : Nat) : Int) from by omega) hF hP hD hS (lv_sub hl [0, 1, 2] rfl)
  exact hlp_2 10 a twk_a twv_a twh_a twt_a _ _ _ (show 0 ≤ a.toInt ∧ a.toInt ≤ 7 from by omega) (show 8 - a.toInt < ((10 : Nat) : Int) from by omega) hF hP hD hS (lv_sub hl [0, 1, 2] rfl)
def lp_X8_firstNotLess_2 (tw_size : Int32) (twk_a : Nat → Int32) (a : Int32) : Nat → Int32 → Int32 × Unit
  | 0, _ => default
  | fu_2 + 1, x2_2 => (if tw_size ≤ x2_2 then (x2_2, ()) else (if a ≤ (twk_a x2_2.toNatClampNeg) then (x2_2, ()) else (lp_X8_firstNotLess_2 tw_size twk_a a fu_2 (x2_2 + 1))))
termination_by n => n
def fn_X8_firstNotLess (tw_size : Int32) (twk_a : Nat → Int32) (a : Int32) : Int32 := (pm2 (lp_X8_firstNotLess_2 tw_size twk_a a 10 0) (fun x2_2 _ => x2_2))
theorem dX8_firstNotLess_0 : decode cX8_firstNotLess 0 = .ok (.iconst 0, 1) := by decide +kernel
theorem dX8_firstNotLess_1 : decode cX8_firstNotLess 1 = .ok (.istore_n 2, 1) := by decide +kernel
theorem dX8_firstNotLess_2 : decode cX8_firstNotLess 2 = .ok (.iload_n 2, 1) := by decide +kernel
theorem dX8_firstNotLess_3 : decode cX8_firstNotLess 3 = .ok (.aload_n 0, 1) := by decide +kernel
theorem dX8_firstNotLess_4 : decode cX8_firstNotLess 4 = .ok (.getfield 24, 3) := by decide +kernel
theorem dX8_firstNotLess_7 : decode cX8_firstNotLess 7 = .ok (.if_icmp .ge 19, 3) := by decide +kernel
theorem dX8_firstNotLess_10 : decode cX8_firstNotLess 10 = .ok (.aload_n 0, 1) := by decide +kernel
theorem dX8_firstNotLess_11 : decode cX8_firstNotLess 11 = .ok (.getfield 9, 3) := by decide +kernel
theorem dX8_firstNotLess_14 : decode cX8_firstNotLess 14 = .ok (.iload_n 2, 1) := by decide +kernel
theorem dX8_firstNotLess_15 : decode cX8_firstNotLess 15 = .ok (.iaload, 1) := by decide +kernel
theorem dX8_firstNotLess_16 : decode cX8_firstNotLess 16 = .ok (.iload_n 1, 1) := by decide +kernel
theorem dX8_firstNotLess_17 : decode cX8_firstNotLess 17 = .ok (.if_icmp .ge 9, 3) := by decide +kernel
theorem dX8_firstNotLess_20 : decode cX8_firstNotLess 20 = .ok (.iinc 2 1, 3) := by decide +kernel
theorem dX8_firstNotLess_23 : decode cX8_firstNotLess 23 = .ok (.goto (-21), 3) := by decide +kernel
theorem dX8_firstNotLess_26 : decode cX8_firstNotLess 26 = .ok (.iload_n 2, 1) := by decide +kernel
theorem dX8_firstNotLess_27 : decode cX8_firstNotLess 27 = .ok (.ireturn, 1) := by decide +kernel
set_option maxHeartbeats 4000000 in
set_option maxRecDepth 100000 in
theorem c_X8_firstNotLess (l : Launch) (D : va_G) (cy : ClassId) (tw twk twv twh twt : Nat) (tw_size : Int32) (twk_a : Nat → Int32) (a : Int32) (g_0 : 0 ≤ tw_size.toInt ∧ tw_size.toInt ≤ 8) : wk_Ci l yX8_firstNotLess cX8_firstNotLess 3 (some .int) { frames := 0, cells := 0, slots := 0, locals := 0 } D cy [.ref tw, .int a] [(tw, .inr (8, [.ref twk, .ref twv, .ref twh, .ref twt, .int tw_size])), (twk, .inl (cy, 8, .inl twk_a))] 0 0 (fun (r : Int32) (u : Unit) => r = (fn_X8_firstNotLess tw_size twk_a a) ∧ (0 ≤ r.toInt ∧ r.toInt ≤ 8) ∧ (r.toInt ≤ tw_size.toInt)) (fun u => [(tw, .inr (8, [.ref twk, .ref twv, .ref twh, .ref twt, .int tw_size])), (twk, .inl (cy, 8, .inl twk_a))]) := by
  refine wk_mk2Ci (by decide) (Nat.le_of_ble_eq_true rfl) ?_
  intro p e s m args below meth c A ls Q B hA hK hP hD hS hl hret
  obtain ⟨hx, hb, hr, hlocks, hml, hown, htb, hin⟩ := B
  have hl : lv_has ls 3 [(0, .ref tw), (1, .int a)] := hl
  have hF : (fn_X8_firstNotLess tw_size twk_a a) = (fn_X8_firstNotLess tw_size twk_a a) := rfl
  conv at hF => rhs; unfold fn_X8_firstNotLess
  refine lv_iconst (v := 0) hx hb dX8_firstNotLess_0 (by decide) ?_
  refine lv_istore_n (lv' := [(2, .int 0), (0, .ref tw), (1, .int a)]) hx hb dX8_firstNotLess_1 rfl hl (by decide) rfl (fun ls hl => ?_)
  have hlp_2 : ∀ (fu_2 : Nat) (x2_2 : Int32) (H : Heap) (locs : List Loc) (ls : Array Slot), (0 ≤ x2_2.toInt ∧ x2_2.toInt ≤ 8) → (x2_2.toInt ≤ tw_size.toInt) → tw_size.toInt - x2_2.toInt < (fu_2 : Int) → ((fn_X8_firstNotLess tw_size twk_a a) = (pm2 (lp_X8_firstNotLess_2 tw_size twk_a a fu_2 x2_2) (fun x2_2 _ => x2_2))) → va_P D classes [(tw, .inr (8, [.ref twk, .ref twv, .ref twh, .ref twt, .int tw_size])), (twk, .inl (cy, 8, .inl twk_a))] H → va_D A [(tw, .inr (8, [.ref twk, .ref twv, .ref twh, .ref twt, .int tw_size])), (twk, .inl (cy, 8, .inl twk_a))] → va_S A s.heap H locs → lv_has ls 3 [(2, .int x2_2), (0, .ref tw), (1, .int a)] → W p l e { frames := 0, cells := 0, slots := 0, locals := 0 } s m args below meth c H locs 0 0 Q (F0 m 2 ls []) := by
    intro fu_2
    induction fu_2 with
    | zero =>
      intro x2_2 H locs ls hi_2_0 hi_2_1 hm hF hP hD hS hl
      exfalso; omega
    | succ fu_2 ih_2 =>
      intro x2_2 H locs ls hi_2_0 hi_2_1 hm hF hP hD hS hl
      rw [lp_X8_firstNotLess_2] at hF
      refine lv_iload_n hx hb dX8_firstNotLess_2 rfl (lv_at hl 0 rfl) ?_
      refine lv_aload_n hx hb dX8_firstNotLess_3 rfl (lv_at hl 1 rfl) ?_
      refine va_get (D := D) (ci := 8) (v := .int tw_size) (C := RX8) (T := TX8) (N := 5) hx hb htb inX8 hown hK hP 0 rfl rfl 4 (by decide) (htb _ tw_129) (fun _ h9 => h9) rfl dX8_firstNotLess_4 ?_
      refine lv_icmp_ge (tgt := 26) hx hb dX8_firstNotLess_7 (by decide) (fun c_1 => ?_) (fun c_1 => ?_)
      · have k_1 : tw_size.toInt ≤ x2_2.toInt := wk_le c_1
        replace hF := hF.trans (pm2_p1 c_1)
        rw [pm2_mk x2_2 ()] at hF
        refine lv_iload_n hx hb dX8_firstNotLess_26 rfl (lv_at hl 0 rfl) ?_
        refine W.widen (k := 0) (n := 0) (by decide) (by decide) ?_
        exact hret x2_2 () _ _ _ 27 (wk_sub9 (is := [0, 1]) hP rfl) (hD.sub [0, 1] rfl rfl) hS dX8_firstNotLess_27 ⟨hF.symm, (show (0 ≤ x2_2.toInt ∧ x2_2.toInt ≤ 8) from by omega), (show (x2_2.toInt ≤ tw_size.toInt) from by omega)⟩
      · have k_1 : ¬ tw_size.toInt ≤ x2_2.toInt := wk_nle c_1
        replace hF := hF.trans (pm2_n1 c_1)
        refine lv_aload_n hx hb dX8_firstNotLess_10 rfl (lv_at hl 1 rfl) ?_
        refine va_get (D := D) (ci := 8) (v := .ref twk) (C := RX8) (T := TX8) (N := 5) hx hb htb inX8 hown hK hP 0 rfl rfl 0 (by decide) (htb _ tw_114) (fun _ h9 => h9) rfl dX8_firstNotLess_11 ?_
        refine lv_iload_n hx hb dX8_firstNotLess_14 rfl (lv_at hl 0 rfl) ?_
        refine va_iald hx hb hK hP 1 0 rfl rfl (show vp_in x2_2 8 from vp_in_iff.mpr (show 0 ≤ x2_2.toInt ∧ x2_2.toInt < ((8 : Nat) : Int) from by omega)) dX8_firstNotLess_15 ?_
        refine lv_iload_n hx hb dX8_firstNotLess_16 rfl (lv_at hl 2 rfl) ?_
        refine lv_icmp_ge (tgt := 26) hx hb dX8_firstNotLess_17 (by decide) (fun c_2 => ?_) (fun c_2 => ?_)
        · have k_2 : a.toInt ≤ (twk_a x2_2.toNatClampNeg).toInt := wk_le c_2
          replace hF := hF.trans (pm2_p1 c_2)
          rw [pm2_mk x2_2 ()] at hF
          refine lv_iload_n hx hb dX8_firstNotLess_26 rfl (lv_at hl 0 rfl) ?_
          refine W.widen (k := 0) (n := 0) (by decide) (by decide) ?_
          exact hret x2_2 () _ _ _ 27 (wk_sub9 (is := [0, 1]) hP rfl) (hD.sub [0, 1] rfl rfl) hS dX8_firstNotLess_27 ⟨hF.symm, (show (0 ≤ x2_2.toInt ∧ x2_2.toInt ≤ 8) from by omega), (show (x2_2.toInt ≤ tw_size.toInt) from by omega)⟩
        · have k_2 : ¬ a.toInt ≤ (twk_a x2_2.toNatClampNeg).toInt := wk_nle c_2
          replace hF := hF.trans (pm2_n1 c_2)
          refine lv_iinc (v := (x2_2 + 1)) (lv' := [(2, .int (x2_2 + 1)), (0, .ref tw), (1, .int a)]) hx hb dX8_firstNotLess_20 hl (k := 0) rfl rfl (by decide) rfl (fun ls hl => ?_)
          have k_3 : (x2_2 + 1).toInt = x2_2.toInt + 1 := wk_add x2_2.toInt 1 rfl rfl (by omega) (by omega)
          refine lv_goto (tgt := 2) hx hb dX8_firstNotLess_23 (by decide) ?_
          exact ih_2 (x2_2 + 1) _ _ _ (show 0 ≤ (x2_2 + 1).toInt ∧ (x2_2 + 1).toInt ≤ 8 from by omega) (show (x2_2 + 1).toInt ≤ tw_size.toInt from by omega) (show tw_size.toInt - (x2_2 + 1).toInt < ((fu_2 : Nat) : Int) from by omega) hF hP hD hS (lv_sub hl [0, 1, 2] rfl)
  exact hlp_2 10 0 _ _ _ (show 0 ≤ 0 ∧ 0 ≤ 8 from by omega) (show 0 ≤ tw_size.toInt from by omega) (show tw_size.toInt - 0 < ((10 : Nat) : Int) from by omega) hF hP hD hS (lv_sub hl [0, 1, 2] rfl)
def fn_X8_numberOf (tw_size : Int32) (twk_a : Nat → Int32) (a : Int32) : Int32 := (if tw_size ≤ (fn_X8_firstNotLess tw_size twk_a a) then (-1) else (if (twk_a (fn_X8_firstNotLess tw_size twk_a a).toNatClampNeg) = a then (fn_X8_firstNotLess tw_size twk_a a) else (-1)))
theorem dX8_numberOf_0 : decode cX8_numberOf 0 = .ok (.aload_n 0, 1) := by decide +kernel
theorem dX8_numberOf_1 : decode cX8_numberOf 1 = .ok (.iload_n 1, 1) := by decide +kernel
theorem dX8_numberOf_2 : decode cX8_numberOf 2 = .ok (.invokevirtual 36, 3) := by decide +kernel
theorem dX8_numberOf_5 : decode cX8_numberOf 5 = .ok (.istore_n 2, 1) := by decide +kernel
theorem dX8_numberOf_6 : decode cX8_numberOf 6 = .ok (.iload_n 2, 1) := by decide +kernel
theorem dX8_numberOf_7 : decode cX8_numberOf 7 = .ok (.aload_n 0, 1) := by decide +kernel
theorem dX8_numberOf_8 : decode cX8_numberOf 8 = .ok (.getfield 24, 3) := by decide +kernel
theorem dX8_numberOf_11 : decode cX8_numberOf 11 = .ok (.if_icmp .ge 17, 3) := by decide +kernel
theorem dX8_numberOf_14 : decode cX8_numberOf 14 = .ok (.aload_n 0, 1) := by decide +kernel
theorem dX8_numberOf_15 : decode cX8_numberOf 15 = .ok (.getfield 9, 3) := by decide +kernel
theorem dX8_numberOf_18 : decode cX8_numberOf 18 = .ok (.iload_n 2, 1) := by decide +kernel
theorem dX8_numberOf_19 : decode cX8_numberOf 19 = .ok (.iaload, 1) := by decide +kernel
theorem dX8_numberOf_20 : decode cX8_numberOf 20 = .ok (.iload_n 1, 1) := by decide +kernel
theorem dX8_numberOf_21 : decode cX8_numberOf 21 = .ok (.if_icmp .ne 7, 3) := by decide +kernel
theorem dX8_numberOf_24 : decode cX8_numberOf 24 = .ok (.iload_n 2, 1) := by decide +kernel
theorem dX8_numberOf_25 : decode cX8_numberOf 25 = .ok (.goto 4, 3) := by decide +kernel
theorem dX8_numberOf_28 : decode cX8_numberOf 28 = .ok (.iconst (-1), 1) := by decide +kernel
theorem dX8_numberOf_29 : decode cX8_numberOf 29 = .ok (.ireturn, 1) := by decide +kernel
set_option maxHeartbeats 4000000 in
set_option maxRecDepth 100000 in
theorem c_X8_numberOf (l : Launch) (D : va_G) (cy : ClassId) (tw twk twv twh twt : Nat) (tw_size : Int32) (twk_a : Nat → Int32) (a : Int32) (g_0 : 0 ≤ tw_size.toInt ∧ tw_size.toInt ≤ 8) : wk_Ci l yX8_numberOf cX8_numberOf 3 (some .int) { frames := 1, cells := 0, slots := 0, locals := 22 } D cy [.ref tw, .int a] [(tw, .inr (8, [.ref twk, .ref twv, .ref twh, .ref twt, .int tw_size])), (twk, .inl (cy, 8, .inl twk_a))] 0 0 (fun (r : Int32) (u : Unit) => r = (fn_X8_numberOf tw_size twk_a a) ∧ ((-1) ≤ r.toInt ∧ r.toInt ≤ 7) ∧ (r.toInt < tw_size.toInt)) (fun u => [(tw, .inr (8, [.ref twk, .ref twv, .ref twh, .ref twt, .int tw_size])), (twk, .inl (cy, 8, .inl twk_a))]) := by
  refine wk_mk2Ci (by decide) (Nat.le_of_ble_eq_true rfl) ?_
  intro p e s m args below meth c A ls Q B hA hK hP hD hS hl hret
  obtain ⟨hx, hb, hr, hlocks, hml, hown, htb, hin⟩ := B
  have hl : lv_has ls 3 [(0, .ref tw), (1, .int a)] := hl
  have hF : (fn_X8_numberOf tw_size twk_a a) = (fn_X8_numberOf tw_size twk_a a) := rfl
  conv at hF => rhs; unfold fn_X8_numberOf
  refine lv_aload_n hx hb dX8_numberOf_0 rfl (lv_at hl 0 rfl) ?_
  refine lv_iload_n hx hb dX8_numberOf_1 rfl (lv_at hl 1 rfl) ?_
  refine wk_iV (As := [.int a]) (rest := []) (wc := [(tw, .inr (8, [.ref twk, .ref twv, .ref twh, .ref twt, .int tw_size])), (twk, .inl (cy, 8, .inl twk_a))]) (wr := []) (n := 1) ⟨hx, hb, hml, hown, htb⟩ (c_X8_firstNotLess l D cy tw twk twv twh twt tw_size twk_a a (show 0 ≤ tw_size.toInt ∧ tw_size.toInt ≤ 8 from by omega)) tw_595 tw_609 tw_593 tw_594 tw_67 rfl rfl (by decide +kernel) ⟨Nat.le_of_ble_eq_true rfl, Nat.le_of_ble_eq_true rfl⟩ hK hP hD hS hA [0, 1] [] rfl rfl rfl rfl (by decide) 0 (ci := 8) rfl rfl rfl hl.1 rfl (Nat.le_of_ble_eq_true rfl) dX8_numberOf_2 ⟨Nat.le_of_ble_eq_true rfl, Nat.le_of_ble_eq_true rfl⟩ (fun r_1 u_2 H locs hw_3 hP hD hS => ?_)
  refine W.widen (k := 0) (n := 0) (by decide) (by decide) ?_
  obtain ⟨hw_3, k_4, k_5⟩ := hw_3
  have hw_3 : r_1 = (fn_X8_firstNotLess tw_size twk_a a) := hw_3
  subst hw_3
  have k_4 : (0 ≤ (fn_X8_firstNotLess tw_size twk_a a).toInt ∧ (fn_X8_firstNotLess tw_size twk_a a).toInt ≤ 8) := k_4
  have k_5 : ((fn_X8_firstNotLess tw_size twk_a a).toInt ≤ tw_size.toInt) := k_5
  have hP : va_P D classes [(tw, .inr (8, [.ref twk, .ref twv, .ref twh, .ref twt, .int tw_size])), (twk, .inl (cy, 8, .inl twk_a))] H := hP
  have hD : va_D A [(tw, .inr (8, [.ref twk, .ref twv, .ref twh, .ref twt, .int tw_size])), (twk, .inl (cy, 8, .inl twk_a))] := hD
  refine lv_istore_n (lv' := [(2, .int (fn_X8_firstNotLess tw_size twk_a a)), (0, .ref tw), (1, .int a)]) hx hb dX8_numberOf_5 rfl hl (by decide) rfl (fun ls hl => ?_)
  refine lv_iload_n hx hb dX8_numberOf_6 rfl (lv_at hl 0 rfl) ?_
  refine lv_aload_n hx hb dX8_numberOf_7 rfl (lv_at hl 1 rfl) ?_
  refine va_get (D := D) (ci := 8) (v := .int tw_size) (C := RX8) (T := TX8) (N := 5) hx hb htb inX8 hown hK hP 0 rfl rfl 4 (by decide) (htb _ tw_129) (fun _ h9 => h9) rfl dX8_numberOf_8 ?_
  refine lv_icmp_ge (tgt := 28) hx hb dX8_numberOf_11 (by decide) (fun c_6 => ?_) (fun c_6 => ?_)
  · have k_6 : tw_size.toInt ≤ (fn_X8_firstNotLess tw_size twk_a a).toInt := wk_le c_6
    replace hF := hF.trans (if_pos c_6)
    refine lv_iconst (v := (-1)) hx hb dX8_numberOf_28 (by decide) ?_
    refine W.widen (k := 0) (n := 0) (by decide) (by decide) ?_
    exact hret (-1) () _ _ _ 29 (wk_sub9 (is := [0, 1]) hP rfl) (hD.sub [0, 1] rfl rfl) hS dX8_numberOf_29 ⟨hF.symm, (show ((-1) ≤ (-1) ∧ (-1) ≤ 7) from by omega), (show ((-1) < tw_size.toInt) from by omega)⟩
  · have k_6 : ¬ tw_size.toInt ≤ (fn_X8_firstNotLess tw_size twk_a a).toInt := wk_nle c_6
    replace hF := hF.trans (if_neg c_6)
    refine lv_aload_n hx hb dX8_numberOf_14 rfl (lv_at hl 1 rfl) ?_
    refine va_get (D := D) (ci := 8) (v := .ref twk) (C := RX8) (T := TX8) (N := 5) hx hb htb inX8 hown hK hP 0 rfl rfl 0 (by decide) (htb _ tw_114) (fun _ h9 => h9) rfl dX8_numberOf_15 ?_
    refine lv_iload_n hx hb dX8_numberOf_18 rfl (lv_at hl 0 rfl) ?_
    refine va_iald hx hb hK hP 1 0 rfl rfl (show vp_in (fn_X8_firstNotLess tw_size twk_a a) 8 from vp_in_iff.mpr (show 0 ≤ (fn_X8_firstNotLess tw_size twk_a a).toInt ∧ (fn_X8_firstNotLess tw_size twk_a a).toInt < ((8 : Nat) : Int) from by omega)) dX8_numberOf_19 ?_
    refine lv_iload_n hx hb dX8_numberOf_20 rfl (lv_at hl 2 rfl) ?_
    refine lv_icmp_ne (tgt := 28) hx hb dX8_numberOf_21 (by decide) (fun c_7 => ?_) (fun c_7 => ?_)
    · have k_7 : ¬ (twk_a (fn_X8_firstNotLess tw_size twk_a a).toNatClampNeg).toInt = a.toInt := wk_neq c_7
      replace hF := hF.trans (if_neg c_7)
      refine lv_iconst (v := (-1)) hx hb dX8_numberOf_28 (by decide) ?_
      refine W.widen (k := 0) (n := 0) (by decide) (by decide) ?_
      exact hret (-1) () _ _ _ 29 (wk_sub9 (is := [0, 1]) hP rfl) (hD.sub [0, 1] rfl rfl) hS dX8_numberOf_29 ⟨hF.symm, (show ((-1) ≤ (-1) ∧ (-1) ≤ 7) from by omega), (show ((-1) < tw_size.toInt) from by omega)⟩
    · have k_7 : (twk_a (fn_X8_firstNotLess tw_size twk_a a).toNatClampNeg).toInt = a.toInt := wk_eq c_7
      replace hF := hF.trans (if_pos c_7)
      refine lv_iload_n hx hb dX8_numberOf_24 rfl (lv_at hl 0 rfl) ?_
      refine lv_goto (tgt := 29) hx hb dX8_numberOf_25 (by decide) ?_
      refine W.widen (k := 0) (n := 0) (by decide) (by decide) ?_
      exact hret (fn_X8_firstNotLess tw_size twk_a a) () _ _ _ 29 (wk_sub9 (is := [0, 1]) hP rfl) (hD.sub [0, 1] rfl rfl) hS dX8_numberOf_29 ⟨hF.symm, (show ((-1) ≤ (fn_X8_firstNotLess tw_size twk_a a).toInt ∧ (fn_X8_firstNotLess tw_size twk_a a).toInt ≤ 7) from by omega), (show ((fn_X8_firstNotLess tw_size twk_a a).toInt < tw_size.toInt) from by omega)⟩
def fn_X8_lastKey (tw_size : Int32) (twk_a : Nat → Int32) : Int32 := (if tw_size ≤ 0 then (-1) else (twk_a (tw_size - 1).toNatClampNeg))
theorem dX8_lastKey_0 : decode cX8_lastKey 0 = .ok (.aload_n 0, 1) := by decide +kernel
theorem dX8_lastKey_1 : decode cX8_lastKey 1 = .ok (.getfield 24, 3) := by decide +kernel
theorem dX8_lastKey_4 : decode cX8_lastKey 4 = .ok (.ifCond .le 17, 3) := by decide +kernel
theorem dX8_lastKey_7 : decode cX8_lastKey 7 = .ok (.aload_n 0, 1) := by decide +kernel
theorem dX8_lastKey_8 : decode cX8_lastKey 8 = .ok (.getfield 9, 3) := by decide +kernel
theorem dX8_lastKey_11 : decode cX8_lastKey 11 = .ok (.aload_n 0, 1) := by decide +kernel
theorem dX8_lastKey_12 : decode cX8_lastKey 12 = .ok (.getfield 24, 3) := by decide +kernel
theorem dX8_lastKey_15 : decode cX8_lastKey 15 = .ok (.iconst 1, 1) := by decide +kernel
theorem dX8_lastKey_16 : decode cX8_lastKey 16 = .ok (.isub, 1) := by decide +kernel
theorem dX8_lastKey_17 : decode cX8_lastKey 17 = .ok (.iaload, 1) := by decide +kernel
theorem dX8_lastKey_18 : decode cX8_lastKey 18 = .ok (.goto 4, 3) := by decide +kernel
theorem dX8_lastKey_21 : decode cX8_lastKey 21 = .ok (.iconst (-1), 1) := by decide +kernel
theorem dX8_lastKey_22 : decode cX8_lastKey 22 = .ok (.ireturn, 1) := by decide +kernel
set_option maxHeartbeats 4000000 in
set_option maxRecDepth 100000 in
theorem c_X8_lastKey (l : Launch) (D : va_G) (cy : ClassId) (tw twk twv twh twt : Nat) (tw_size : Int32) (twk_a : Nat → Int32)  (g_0 : 0 ≤ tw_size.toInt ∧ tw_size.toInt ≤ 8) : wk_Ci l yX8_lastKey cX8_lastKey 1 (some .int) { frames := 0, cells := 0, slots := 0, locals := 0 } D cy [.ref tw] [(tw, .inr (8, [.ref twk, .ref twv, .ref twh, .ref twt, .int tw_size])), (twk, .inl (cy, 8, .inl twk_a))] 0 0 (fun (r : Int32) (u : Unit) => r = (fn_X8_lastKey tw_size twk_a)) (fun u => [(tw, .inr (8, [.ref twk, .ref twv, .ref twh, .ref twt, .int tw_size])), (twk, .inl (cy, 8, .inl twk_a))]) := by
  refine wk_mk2Ci (by decide) (Nat.le_of_ble_eq_true rfl) ?_
  intro p e s m args below meth c A ls Q B hA hK hP hD hS hl hret
  obtain ⟨hx, hb, hr, hlocks, hml, hown, htb, hin⟩ := B
  have hl : lv_has ls 1 [(0, .ref tw)] := hl
  have hF : (fn_X8_lastKey tw_size twk_a) = (fn_X8_lastKey tw_size twk_a) := rfl
  conv at hF => rhs; unfold fn_X8_lastKey
  refine lv_aload_n hx hb dX8_lastKey_0 rfl (lv_at hl 0 rfl) ?_
  refine va_get (D := D) (ci := 8) (v := .int tw_size) (C := RX8) (T := TX8) (N := 5) hx hb htb inX8 hown hK hP 0 rfl rfl 4 (by decide) (htb _ tw_129) (fun _ h9 => h9) rfl dX8_lastKey_1 ?_
  refine lv_if_le (tgt := 21) hx hb dX8_lastKey_4 (by decide) (fun c_1 => ?_) (fun c_1 => ?_)
  · have k_1 : tw_size.toInt ≤ 0 := wk_le c_1
    replace hF := hF.trans (if_pos c_1)
    refine lv_iconst (v := (-1)) hx hb dX8_lastKey_21 (by decide) ?_
    refine W.widen (k := 0) (n := 0) (by decide) (by decide) ?_
    exact hret (-1) () _ _ _ 22 (wk_sub9 (is := [0, 1]) hP rfl) (hD.sub [0, 1] rfl rfl) hS dX8_lastKey_22 hF.symm
  · have k_1 : ¬ tw_size.toInt ≤ 0 := wk_nle c_1
    replace hF := hF.trans (if_neg c_1)
    refine lv_aload_n hx hb dX8_lastKey_7 rfl (lv_at hl 0 rfl) ?_
    refine va_get (D := D) (ci := 8) (v := .ref twk) (C := RX8) (T := TX8) (N := 5) hx hb htb inX8 hown hK hP 0 rfl rfl 0 (by decide) (htb _ tw_114) (fun _ h9 => h9) rfl dX8_lastKey_8 ?_
    refine lv_aload_n hx hb dX8_lastKey_11 rfl (lv_at hl 0 rfl) ?_
    refine va_get (D := D) (ci := 8) (v := .int tw_size) (C := RX8) (T := TX8) (N := 5) hx hb htb inX8 hown hK hP 0 rfl rfl 4 (by decide) (htb _ tw_129) (fun _ h9 => h9) rfl dX8_lastKey_12 ?_
    refine lv_iconst (v := 1) hx hb dX8_lastKey_15 (by decide) ?_
    refine lv_isub hx hb dX8_lastKey_16 ?_
    have k_2 : (tw_size - 1).toInt = tw_size.toInt - 1 := wk_sub tw_size.toInt 1 rfl rfl (by omega) (by omega)
    refine va_iald hx hb hK hP 1 0 rfl rfl (show vp_in (tw_size - 1) 8 from vp_in_iff.mpr (show 0 ≤ (tw_size - 1).toInt ∧ (tw_size - 1).toInt < ((8 : Nat) : Int) from by omega)) dX8_lastKey_17 ?_
    refine lv_goto (tgt := 22) hx hb dX8_lastKey_18 (by decide) ?_
    refine W.widen (k := 0) (n := 0) (by decide) (by decide) ?_
    exact hret (twk_a (tw_size - 1).toNatClampNeg) () _ _ _ 22 (wk_sub9 (is := [0, 1]) hP rfl) (hD.sub [0, 1] rfl rfl) hS dX8_lastKey_22 hF.symm
def lp_X8_nextInLane_5 (tw_size : Int32) (ar_a : Nat → Int32) (a : Int32) (b : Int32) : Nat → Int32 → Int32
  | 0, _ => default
  | fu_5 + 1, x4_5 => (if tw_size ≤ x4_5 then (-1) else (if (ar_a x4_5.toNatClampNeg) ≤ b then (lp_X8_nextInLane_5 tw_size ar_a a b fu_5 (x4_5 + 1)) else x4_5))
termination_by n => n
def fn_X8_nextInLane (tw_size : Int32) (ar_a : Nat → Int32) (a : Int32) (b : Int32) : Int32 := (lp_X8_nextInLane_5 tw_size ar_a a b 10 (a + 1))
theorem dX8_nextInLane_0 : decode cX8_nextInLane 0 = .ok (.iload_n 2, 1) := by decide +kernel
theorem dX8_nextInLane_1 : decode cX8_nextInLane 1 = .ok (.iconst 1, 1) := by decide +kernel
theorem dX8_nextInLane_2 : decode cX8_nextInLane 2 = .ok (.iadd, 1) := by decide +kernel
theorem dX8_nextInLane_3 : decode cX8_nextInLane 3 = .ok (.istore 4, 2) := by decide +kernel
theorem dX8_nextInLane_5 : decode cX8_nextInLane 5 = .ok (.iload 4, 2) := by decide +kernel
theorem dX8_nextInLane_7 : decode cX8_nextInLane 7 = .ok (.aload_n 0, 1) := by decide +kernel
theorem dX8_nextInLane_8 : decode cX8_nextInLane 8 = .ok (.getfield 24, 3) := by decide +kernel
theorem dX8_nextInLane_11 : decode cX8_nextInLane 11 = .ok (.if_icmp .ge 20, 3) := by decide +kernel
theorem dX8_nextInLane_14 : decode cX8_nextInLane 14 = .ok (.aload_n 1, 1) := by decide +kernel
theorem dX8_nextInLane_15 : decode cX8_nextInLane 15 = .ok (.iload 4, 2) := by decide +kernel
theorem dX8_nextInLane_17 : decode cX8_nextInLane 17 = .ok (.iaload, 1) := by decide +kernel
theorem dX8_nextInLane_18 : decode cX8_nextInLane 18 = .ok (.iload_n 3, 1) := by decide +kernel
theorem dX8_nextInLane_19 : decode cX8_nextInLane 19 = .ok (.if_icmp .le 6, 3) := by decide +kernel
theorem dX8_nextInLane_22 : decode cX8_nextInLane 22 = .ok (.iload 4, 2) := by decide +kernel
theorem dX8_nextInLane_24 : decode cX8_nextInLane 24 = .ok (.ireturn, 1) := by decide +kernel
theorem dX8_nextInLane_25 : decode cX8_nextInLane 25 = .ok (.iinc 4 1, 3) := by decide +kernel
theorem dX8_nextInLane_28 : decode cX8_nextInLane 28 = .ok (.goto (-23), 3) := by decide +kernel
theorem dX8_nextInLane_31 : decode cX8_nextInLane 31 = .ok (.iconst (-1), 1) := by decide +kernel
theorem dX8_nextInLane_32 : decode cX8_nextInLane 32 = .ok (.ireturn, 1) := by decide +kernel
set_option maxHeartbeats 4000000 in
set_option maxRecDepth 100000 in
theorem c_X8_nextInLane (l : Launch) (D : va_G) (cy : ClassId) (tw twk twv twh twt ar : Nat) (tw_size : Int32) (ar_a : Nat → Int32) (a : Int32) (b : Int32) (g_0 : 0 ≤ tw_size.toInt ∧ tw_size.toInt ≤ 8) (g_1 : (-1) ≤ a.toInt ∧ a.toInt ≤ 7) : wk_Ci l yX8_nextInLane cX8_nextInLane 5 (some .int) { frames := 0, cells := 0, slots := 0, locals := 0 } D cy [.ref tw, .ref ar, .int a, .int b] [(tw, .inr (8, [.ref twk, .ref twv, .ref twh, .ref twt, .int tw_size])), (ar, .inl (cy, 8, .inl ar_a))] 0 0 (fun (r : Int32) (u : Unit) => r = (fn_X8_nextInLane tw_size ar_a a b) ∧ ((-1) ≤ r.toInt ∧ r.toInt ≤ 7) ∧ (r.toInt < tw_size.toInt)) (fun u => [(tw, .inr (8, [.ref twk, .ref twv, .ref twh, .ref twt, .int tw_size])), (ar, .inl (cy, 8, .inl ar_a))]) := by
  refine wk_mk2Ci (by decide) (Nat.le_of_ble_eq_true rfl) ?_
  intro p e s m args below meth c A ls Q B hA hK hP hD hS hl hret
  obtain ⟨hx, hb, hr, hlocks, hml, hown, htb, hin⟩ := B
  have hl : lv_has ls 5 [(0, .ref tw), (1, .ref ar), (2, .int a), (3, .int b)] := hl
  have hF : (fn_X8_nextInLane tw_size ar_a a b) = (fn_X8_nextInLane tw_size ar_a a b) := rfl
  conv at hF => rhs; unfold fn_X8_nextInLane
  refine lv_iload_n hx hb dX8_nextInLane_0 rfl (lv_at hl 2 rfl) ?_
  refine lv_iconst (v := 1) hx hb dX8_nextInLane_1 (by decide) ?_
  refine lv_iadd hx hb dX8_nextInLane_2 ?_
  have k_1 : (a + 1).toInt = a.toInt + 1 := wk_add a.toInt 1 rfl rfl (by omega) (by omega)
  refine lv_istore (lv' := [(4, .int (a + 1)), (0, .ref tw), (1, .ref ar), (2, .int a), (3, .int b)]) hx hb dX8_nextInLane_3 hl (by decide) rfl (fun ls hl => ?_)
  have hlp_5 : ∀ (fu_5 : Nat) (x4_5 : Int32) (H : Heap) (locs : List Loc) (ls : Array Slot), (0 ≤ x4_5.toInt ∧ x4_5.toInt ≤ 8) → 8 - x4_5.toInt < (fu_5 : Int) → ((fn_X8_nextInLane tw_size ar_a a b) = lp_X8_nextInLane_5 tw_size ar_a a b fu_5 x4_5) → va_P D classes [(tw, .inr (8, [.ref twk, .ref twv, .ref twh, .ref twt, .int tw_size])), (ar, .inl (cy, 8, .inl ar_a))] H → va_D A [(tw, .inr (8, [.ref twk, .ref twv, .ref twh, .ref twt, .int tw_size])), (ar, .inl (cy, 8, .inl ar_a))] → va_S A s.heap H locs → lv_has ls 5 [(4, .int x4_5), (0, .ref tw), (1, .ref ar), (2, .int a), (3, .int b)] → W p l e { frames := 0, cells := 0, slots := 0, locals := 0 } s m args below meth c H locs 0 0 Q (F0 m 5 ls []) := by
    intro fu_5
    induction fu_5 with
    | zero =>
      intro x4_5 H locs ls hi_5_0 hm hF hP hD hS hl
      exfalso; omega
    | succ fu_5 ih_5 =>
      intro x4_5 H locs ls hi_5_0 hm hF hP hD hS hl
      rw [lp_X8_nextInLane_5] at hF
      refine lv_iload hx hb dX8_nextInLane_5 (lv_at hl 0 rfl) ?_
      refine lv_aload_n hx hb dX8_nextInLane_7 rfl (lv_at hl 1 rfl) ?_
      refine va_get (D := D) (ci := 8) (v := .int tw_size) (C := RX8) (T := TX8) (N := 5) hx hb htb inX8 hown hK hP 0 rfl rfl 4 (by decide) (htb _ tw_129) (fun _ h9 => h9) rfl dX8_nextInLane_8 ?_
      refine lv_icmp_ge (tgt := 31) hx hb dX8_nextInLane_11 (by decide) (fun c_2 => ?_) (fun c_2 => ?_)
      · have k_2 : tw_size.toInt ≤ x4_5.toInt := wk_le c_2
        replace hF := hF.trans (if_pos c_2)
        refine lv_iconst (v := (-1)) hx hb dX8_nextInLane_31 (by decide) ?_
        refine W.widen (k := 0) (n := 0) (by decide) (by decide) ?_
        exact hret (-1) () _ _ _ 32 (wk_sub9 (is := [0, 1]) hP rfl) (hD.sub [0, 1] rfl rfl) hS dX8_nextInLane_32 ⟨hF.symm, (show ((-1) ≤ (-1) ∧ (-1) ≤ 7) from by omega), (show ((-1) < tw_size.toInt) from by omega)⟩
      · have k_2 : ¬ tw_size.toInt ≤ x4_5.toInt := wk_nle c_2
        replace hF := hF.trans (if_neg c_2)
        refine lv_aload_n hx hb dX8_nextInLane_14 rfl (lv_at hl 2 rfl) ?_
        refine lv_iload hx hb dX8_nextInLane_15 (lv_at hl 0 rfl) ?_
        refine va_iald hx hb hK hP 1 0 rfl rfl (show vp_in x4_5 8 from vp_in_iff.mpr (show 0 ≤ x4_5.toInt ∧ x4_5.toInt < ((8 : Nat) : Int) from by omega)) dX8_nextInLane_17 ?_
        refine lv_iload_n hx hb dX8_nextInLane_18 rfl (lv_at hl 4 rfl) ?_
        refine lv_icmp_le (tgt := 25) hx hb dX8_nextInLane_19 (by decide) (fun c_3 => ?_) (fun c_3 => ?_)
        · have k_3 : (ar_a x4_5.toNatClampNeg).toInt ≤ b.toInt := wk_le c_3
          replace hF := hF.trans (if_pos c_3)
          refine lv_iinc (v := (x4_5 + 1)) (lv' := [(4, .int (x4_5 + 1)), (0, .ref tw), (1, .ref ar), (2, .int a), (3, .int b)]) hx hb dX8_nextInLane_25 hl (k := 0) rfl rfl (by decide) rfl (fun ls hl => ?_)
          have k_4 : (x4_5 + 1).toInt = x4_5.toInt + 1 := wk_add x4_5.toInt 1 rfl rfl (by omega) (by omega)
          refine lv_goto (tgt := 5) hx hb dX8_nextInLane_28 (by decide) ?_
          exact ih_5 (x4_5 + 1) _ _ _ (show 0 ≤ (x4_5 + 1).toInt ∧ (x4_5 + 1).toInt ≤ 8 from by omega) (show 8 - (x4_5 + 1).toInt < ((fu_5 : Nat) : Int) from by omega) hF hP hD hS (lv_sub hl [0, 1, 2, 3, 4] rfl)
        · have k_3 : ¬ (ar_a x4_5.toNatClampNeg).toInt ≤ b.toInt := wk_nle c_3
          replace hF := hF.trans (if_neg c_3)
          refine lv_iload hx hb dX8_nextInLane_22 (lv_at hl 0 rfl) ?_
          refine W.widen (k := 0) (n := 0) (by decide) (by decide) ?_
          exact hret x4_5 () _ _ _ 24 (wk_sub9 (is := [0, 1]) hP rfl) (hD.sub [0, 1] rfl rfl) hS dX8_nextInLane_24 ⟨hF.symm, (show ((-1) ≤ x4_5.toInt ∧ x4_5.toInt ≤ 7) from by omega), (show (x4_5.toInt < tw_size.toInt) from by omega)⟩
  exact hlp_5 10 (a + 1) _ _ _ (show 0 ≤ (a + 1).toInt ∧ (a + 1).toInt ≤ 8 from by omega) (show 8 - (a + 1).toInt < ((10 : Nat) : Int) from by omega) hF hP hD hS (lv_sub hl [0, 1, 2, 3, 4] rfl)
def fn_X8_reaches (twh_a : Nat → Int32) (a : Int32) (b : Int32) : Int32 := (if a = (-1) then 1 else (if (twh_a a.toNatClampNeg) ≤ b then 0 else 1))
theorem dX8_reaches_0 : decode cX8_reaches 0 = .ok (.iload_n 1, 1) := by decide +kernel
theorem dX8_reaches_1 : decode cX8_reaches 1 = .ok (.iconst (-1), 1) := by decide +kernel
theorem dX8_reaches_2 : decode cX8_reaches 2 = .ok (.if_icmp .eq 13, 3) := by decide +kernel
theorem dX8_reaches_5 : decode cX8_reaches 5 = .ok (.aload_n 0, 1) := by decide +kernel
theorem dX8_reaches_6 : decode cX8_reaches 6 = .ok (.getfield 18, 3) := by decide +kernel
theorem dX8_reaches_9 : decode cX8_reaches 9 = .ok (.iload_n 1, 1) := by decide +kernel
theorem dX8_reaches_10 : decode cX8_reaches 10 = .ok (.iaload, 1) := by decide +kernel
theorem dX8_reaches_11 : decode cX8_reaches 11 = .ok (.iload_n 2, 1) := by decide +kernel
theorem dX8_reaches_12 : decode cX8_reaches 12 = .ok (.if_icmp .le 7, 3) := by decide +kernel
theorem dX8_reaches_15 : decode cX8_reaches 15 = .ok (.iconst 1, 1) := by decide +kernel
theorem dX8_reaches_16 : decode cX8_reaches 16 = .ok (.goto 4, 3) := by decide +kernel
theorem dX8_reaches_19 : decode cX8_reaches 19 = .ok (.iconst 0, 1) := by decide +kernel
theorem dX8_reaches_20 : decode cX8_reaches 20 = .ok (.ireturn, 1) := by decide +kernel
set_option maxHeartbeats 4000000 in
set_option maxRecDepth 100000 in
theorem c_X8_reaches (l : Launch) (D : va_G) (cy : ClassId) (tw twk twv twh twt : Nat) (tw_size : Int32) (twh_a : Nat → Int32) (a : Int32) (b : Int32) (g_0 : 0 ≤ tw_size.toInt ∧ tw_size.toInt ≤ 8) (g_1 : (-1) ≤ a.toInt ∧ a.toInt ≤ 7) : wk_Ci l yX8_reaches cX8_reaches 3 (some .boolean) { frames := 0, cells := 0, slots := 0, locals := 0 } D cy [.ref tw, .int a, .int b] [(tw, .inr (8, [.ref twk, .ref twv, .ref twh, .ref twt, .int tw_size])), (twh, .inl (cy, 8, .inl twh_a))] 0 0 (fun (r : Int32) (u : Unit) => r = (fn_X8_reaches twh_a a b) ∧ (r = 0 ∨ r = 1)) (fun u => [(tw, .inr (8, [.ref twk, .ref twv, .ref twh, .ref twt, .int tw_size])), (twh, .inl (cy, 8, .inl twh_a))]) := by
  refine wk_mk2Cz (by decide) (Nat.le_of_ble_eq_true rfl) ?_
  intro p e s m args below meth c A ls Q B hA hK hP hD hS hl hret
  obtain ⟨hx, hb, hr, hlocks, hml, hown, htb, hin⟩ := B
  have hl : lv_has ls 3 [(0, .ref tw), (1, .int a), (2, .int b)] := hl
  have hF : (fn_X8_reaches twh_a a b) = (fn_X8_reaches twh_a a b) := rfl
  conv at hF => rhs; unfold fn_X8_reaches
  refine lv_iload_n hx hb dX8_reaches_0 rfl (lv_at hl 1 rfl) ?_
  refine lv_iconst (v := (-1)) hx hb dX8_reaches_1 (by decide) ?_
  refine lv_icmp_eq (tgt := 15) hx hb dX8_reaches_2 (by decide) (fun c_1 => ?_) (fun c_1 => ?_)
  · have k_1 : a.toInt = (-1) := wk_eq c_1
    replace hF := hF.trans (if_pos c_1)
    refine lv_iconst (v := 1) hx hb dX8_reaches_15 (by decide) ?_
    refine lv_goto (tgt := 20) hx hb dX8_reaches_16 (by decide) ?_
    refine W.widen (k := 0) (n := 0) (by decide) (by decide) ?_
    exact hret 1 () _ _ _ 20 (wk_nb (by first | exact Or.inl rfl | exact Or.inr rfl | assumption)) (wk_sub9 (is := [0, 1]) hP rfl) (hD.sub [0, 1] rfl rfl) hS dX8_reaches_20 ⟨hF.symm, (by first | exact Or.inl rfl | exact Or.inr rfl | assumption)⟩
  · have k_1 : ¬ a.toInt = (-1) := wk_neq c_1
    replace hF := hF.trans (if_neg c_1)
    refine lv_aload_n hx hb dX8_reaches_5 rfl (lv_at hl 0 rfl) ?_
    refine va_get (D := D) (ci := 8) (v := .ref twh) (C := RX8) (T := TX8) (N := 5) hx hb htb inX8 hown hK hP 0 rfl rfl 2 (by decide) (htb _ tw_122) (fun _ h9 => h9) rfl dX8_reaches_6 ?_
    refine lv_iload_n hx hb dX8_reaches_9 rfl (lv_at hl 1 rfl) ?_
    refine va_iald hx hb hK hP 1 0 rfl rfl (show vp_in a 8 from vp_in_iff.mpr (show 0 ≤ a.toInt ∧ a.toInt < ((8 : Nat) : Int) from by omega)) dX8_reaches_10 ?_
    refine lv_iload_n hx hb dX8_reaches_11 rfl (lv_at hl 2 rfl) ?_
    refine lv_icmp_le (tgt := 19) hx hb dX8_reaches_12 (by decide) (fun c_2 => ?_) (fun c_2 => ?_)
    · have k_2 : (twh_a a.toNatClampNeg).toInt ≤ b.toInt := wk_le c_2
      replace hF := hF.trans (if_pos c_2)
      refine lv_iconst (v := 0) hx hb dX8_reaches_19 (by decide) ?_
      refine W.widen (k := 0) (n := 0) (by decide) (by decide) ?_
      exact hret 0 () _ _ _ 20 (wk_nb (by first | exact Or.inl rfl | exact Or.inr rfl | assumption)) (wk_sub9 (is := [0, 1]) hP rfl) (hD.sub [0, 1] rfl rfl) hS dX8_reaches_20 ⟨hF.symm, (by first | exact Or.inl rfl | exact Or.inr rfl | assumption)⟩
    · have k_2 : ¬ (twh_a a.toNatClampNeg).toInt ≤ b.toInt := wk_nle c_2
      replace hF := hF.trans (if_neg c_2)
      refine lv_iconst (v := 1) hx hb dX8_reaches_15 (by decide) ?_
      refine lv_goto (tgt := 20) hx hb dX8_reaches_16 (by decide) ?_
      refine W.widen (k := 0) (n := 0) (by decide) (by decide) ?_
      exact hret 1 () _ _ _ 20 (wk_nb (by first | exact Or.inl rfl | exact Or.inr rfl | assumption)) (wk_sub9 (is := [0, 1]) hP rfl) (hD.sub [0, 1] rfl rfl) hS dX8_reaches_20 ⟨hF.symm, (by first | exact Or.inl rfl | exact Or.inr rfl | assumption)⟩
def fn_X8_widthFrom (tw_size : Int32) (twh_a : Nat → Int32) (a : Int32) (b : Int32) : Int32 := (if (fn_X8_nextInLane tw_size twh_a a b) = (-1) then (-1) else (if (fn_X8_reaches twh_a a b) = 0 then (-1) else ((fn_X8_nextInLane tw_size twh_a a b) - a)))
theorem dX8_widthFrom_0 : decode cX8_widthFrom 0 = .ok (.aload_n 0, 1) := by decide +kernel
theorem dX8_widthFrom_1 : decode cX8_widthFrom 1 = .ok (.aload_n 0, 1) := by decide +kernel
theorem dX8_widthFrom_2 : decode cX8_widthFrom 2 = .ok (.getfield 18, 3) := by decide +kernel
theorem dX8_widthFrom_5 : decode cX8_widthFrom 5 = .ok (.iload_n 1, 1) := by decide +kernel
theorem dX8_widthFrom_6 : decode cX8_widthFrom 6 = .ok (.iload_n 2, 1) := by decide +kernel
theorem dX8_widthFrom_7 : decode cX8_widthFrom 7 = .ok (.invokevirtual 40, 3) := by decide +kernel
theorem dX8_widthFrom_10 : decode cX8_widthFrom 10 = .ok (.istore_n 3, 1) := by decide +kernel
theorem dX8_widthFrom_11 : decode cX8_widthFrom 11 = .ok (.iload_n 3, 1) := by decide +kernel
theorem dX8_widthFrom_12 : decode cX8_widthFrom 12 = .ok (.iconst (-1), 1) := by decide +kernel
theorem dX8_widthFrom_13 : decode cX8_widthFrom 13 = .ok (.if_icmp .eq 12, 3) := by decide +kernel
theorem dX8_widthFrom_16 : decode cX8_widthFrom 16 = .ok (.aload_n 0, 1) := by decide +kernel
theorem dX8_widthFrom_17 : decode cX8_widthFrom 17 = .ok (.iload_n 1, 1) := by decide +kernel
theorem dX8_widthFrom_18 : decode cX8_widthFrom 18 = .ok (.iload_n 2, 1) := by decide +kernel
theorem dX8_widthFrom_19 : decode cX8_widthFrom 19 = .ok (.invokevirtual 44, 3) := by decide +kernel
theorem dX8_widthFrom_22 : decode cX8_widthFrom 22 = .ok (.ifCond .ne 7, 3) := by decide +kernel
theorem dX8_widthFrom_25 : decode cX8_widthFrom 25 = .ok (.iconst (-1), 1) := by decide +kernel
theorem dX8_widthFrom_26 : decode cX8_widthFrom 26 = .ok (.goto 6, 3) := by decide +kernel
theorem dX8_widthFrom_29 : decode cX8_widthFrom 29 = .ok (.iload_n 3, 1) := by decide +kernel
theorem dX8_widthFrom_30 : decode cX8_widthFrom 30 = .ok (.iload_n 1, 1) := by decide +kernel
theorem dX8_widthFrom_31 : decode cX8_widthFrom 31 = .ok (.isub, 1) := by decide +kernel
theorem dX8_widthFrom_32 : decode cX8_widthFrom 32 = .ok (.ireturn, 1) := by decide +kernel
set_option maxHeartbeats 4000000 in
set_option maxRecDepth 100000 in
theorem c_X8_widthFrom (l : Launch) (D : va_G) (cy : ClassId) (tw twk twv twh twt : Nat) (tw_size : Int32) (twh_a : Nat → Int32) (a : Int32) (b : Int32) (g_0 : 0 ≤ tw_size.toInt ∧ tw_size.toInt ≤ 8) (g_1 : (-1) ≤ a.toInt ∧ a.toInt ≤ 7) : wk_Ci l yX8_widthFrom cX8_widthFrom 4 (some .int) { frames := 1, cells := 0, slots := 0, locals := 24 } D cy [.ref tw, .int a, .int b] [(tw, .inr (8, [.ref twk, .ref twv, .ref twh, .ref twt, .int tw_size])), (twh, .inl (cy, 8, .inl twh_a))] 0 0 (fun (r : Int32) (u : Unit) => r = (fn_X8_widthFrom tw_size twh_a a b)) (fun u => [(tw, .inr (8, [.ref twk, .ref twv, .ref twh, .ref twt, .int tw_size])), (twh, .inl (cy, 8, .inl twh_a))]) := by
  refine wk_mk2Ci (by decide) (Nat.le_of_ble_eq_true rfl) ?_
  intro p e s m args below meth c A ls Q B hA hK hP hD hS hl hret
  obtain ⟨hx, hb, hr, hlocks, hml, hown, htb, hin⟩ := B
  have hl : lv_has ls 4 [(0, .ref tw), (1, .int a), (2, .int b)] := hl
  have hF : (fn_X8_widthFrom tw_size twh_a a b) = (fn_X8_widthFrom tw_size twh_a a b) := rfl
  conv at hF => rhs; unfold fn_X8_widthFrom
  refine lv_aload_n hx hb dX8_widthFrom_0 rfl (lv_at hl 0 rfl) ?_
  refine lv_aload_n hx hb dX8_widthFrom_1 rfl (lv_at hl 0 rfl) ?_
  refine va_get (D := D) (ci := 8) (v := .ref twh) (C := RX8) (T := TX8) (N := 5) hx hb htb inX8 hown hK hP 0 rfl rfl 2 (by decide) (htb _ tw_122) (fun _ h9 => h9) rfl dX8_widthFrom_2 ?_
  refine lv_iload_n hx hb dX8_widthFrom_5 rfl (lv_at hl 1 rfl) ?_
  refine lv_iload_n hx hb dX8_widthFrom_6 rfl (lv_at hl 2 rfl) ?_
  refine wk_iV (As := [.ref twh, .int a, .int b]) (rest := []) (wc := [(tw, .inr (8, [.ref twk, .ref twv, .ref twh, .ref twt, .int tw_size])), (twh, .inl (cy, 8, .inl twh_a))]) (wr := []) (n := 3) ⟨hx, hb, hml, hown, htb⟩ (c_X8_nextInLane l D cy tw twk twv twh twt twh tw_size twh_a a b (show 0 ≤ tw_size.toInt ∧ tw_size.toInt ≤ 8 from by omega) (show (-1) ≤ a.toInt ∧ a.toInt ≤ 7 from by omega)) tw_500 tw_535 tw_498 tw_499 tw_67 rfl rfl (by decide +kernel) ⟨Nat.le_of_ble_eq_true rfl, Nat.le_of_ble_eq_true rfl⟩ hK hP hD hS hA [0, 1] [] rfl rfl rfl rfl (by decide) 0 (ci := 8) rfl rfl rfl hl.1 rfl (Nat.le_of_ble_eq_true rfl) dX8_widthFrom_7 ⟨Nat.le_of_ble_eq_true rfl, Nat.le_of_ble_eq_true rfl⟩ (fun r_1 u_2 H locs hw_3 hP hD hS => ?_)
  refine W.widen (k := 0) (n := 0) (by decide) (by decide) ?_
  obtain ⟨hw_3, k_4, k_5⟩ := hw_3
  have hw_3 : r_1 = (fn_X8_nextInLane tw_size twh_a a b) := hw_3
  subst hw_3
  have k_4 : ((-1) ≤ (fn_X8_nextInLane tw_size twh_a a b).toInt ∧ (fn_X8_nextInLane tw_size twh_a a b).toInt ≤ 7) := k_4
  have k_5 : ((fn_X8_nextInLane tw_size twh_a a b).toInt < tw_size.toInt) := k_5
  have hP : va_P D classes [(tw, .inr (8, [.ref twk, .ref twv, .ref twh, .ref twt, .int tw_size])), (twh, .inl (cy, 8, .inl twh_a))] H := hP
  have hD : va_D A [(tw, .inr (8, [.ref twk, .ref twv, .ref twh, .ref twt, .int tw_size])), (twh, .inl (cy, 8, .inl twh_a))] := hD
  refine lv_istore_n (lv' := [(3, .int (fn_X8_nextInLane tw_size twh_a a b)), (0, .ref tw), (1, .int a), (2, .int b)]) hx hb dX8_widthFrom_10 rfl hl (by decide) rfl (fun ls hl => ?_)
  refine lv_iload_n hx hb dX8_widthFrom_11 rfl (lv_at hl 0 rfl) ?_
  refine lv_iconst (v := (-1)) hx hb dX8_widthFrom_12 (by decide) ?_
  refine lv_icmp_eq (tgt := 25) hx hb dX8_widthFrom_13 (by decide) (fun c_6 => ?_) (fun c_6 => ?_)
  · have k_6 : (fn_X8_nextInLane tw_size twh_a a b).toInt = (-1) := wk_eq c_6
    replace hF := hF.trans (if_pos c_6)
    refine lv_iconst (v := (-1)) hx hb dX8_widthFrom_25 (by decide) ?_
    refine lv_goto (tgt := 32) hx hb dX8_widthFrom_26 (by decide) ?_
    refine W.widen (k := 0) (n := 0) (by decide) (by decide) ?_
    exact hret (-1) () _ _ _ 32 (wk_sub9 (is := [0, 1]) hP rfl) (hD.sub [0, 1] rfl rfl) hS dX8_widthFrom_32 hF.symm
  · have k_6 : ¬ (fn_X8_nextInLane tw_size twh_a a b).toInt = (-1) := wk_neq c_6
    replace hF := hF.trans (if_neg c_6)
    refine lv_aload_n hx hb dX8_widthFrom_16 rfl (lv_at hl 1 rfl) ?_
    refine lv_iload_n hx hb dX8_widthFrom_17 rfl (lv_at hl 2 rfl) ?_
    refine lv_iload_n hx hb dX8_widthFrom_18 rfl (lv_at hl 3 rfl) ?_
    refine wk_iV (As := [.int a, .int b]) (rest := []) (wc := [(tw, .inr (8, [.ref twk, .ref twv, .ref twh, .ref twt, .int tw_size])), (twh, .inl (cy, 8, .inl twh_a))]) (wr := []) (n := 2) ⟨hx, hb, hml, hown, htb⟩ (c_X8_reaches l D cy tw twk twv twh twt tw_size twh_a a b (show 0 ≤ tw_size.toInt ∧ tw_size.toInt ≤ 8 from by omega) (show (-1) ≤ a.toInt ∧ a.toInt ≤ 7 from by omega)) tw_539 tw_536 tw_538 tw_13 tw_67 rfl rfl (by decide +kernel) ⟨Nat.le_of_ble_eq_true rfl, Nat.le_of_ble_eq_true rfl⟩ hK hP hD hS hA [0, 1] [] rfl rfl rfl rfl (by decide) 0 (ci := 8) rfl rfl rfl hl.1 rfl (Nat.le_of_ble_eq_true rfl) dX8_widthFrom_19 ⟨Nat.le_of_ble_eq_true rfl, Nat.le_of_ble_eq_true rfl⟩ (fun r_7 u_8 H locs hw_9 hP hD hS => ?_)
    refine W.widen (k := 0) (n := 0) (by decide) (by decide) ?_
    obtain ⟨hw_9, k_10⟩ := hw_9
    have hw_9 : r_7 = (fn_X8_reaches twh_a a b) := hw_9
    subst hw_9
    have k_10 : ((fn_X8_reaches twh_a a b) = 0 ∨ (fn_X8_reaches twh_a a b) = 1) := k_10
    have k_11 : 0 ≤ (fn_X8_reaches twh_a a b).toInt ∧ (fn_X8_reaches twh_a a b).toInt ≤ 1 := wk_b01 (by assumption)
    have hP : va_P D classes [(tw, .inr (8, [.ref twk, .ref twv, .ref twh, .ref twt, .int tw_size])), (twh, .inl (cy, 8, .inl twh_a))] H := hP
    have hD : va_D A [(tw, .inr (8, [.ref twk, .ref twv, .ref twh, .ref twt, .int tw_size])), (twh, .inl (cy, 8, .inl twh_a))] := hD
    refine lv_if_ne (tgt := 29) hx hb dX8_widthFrom_22 (by decide) (fun c_12 => ?_) (fun c_12 => ?_)
    · have k_12 : ¬ (fn_X8_reaches twh_a a b).toInt = 0 := wk_neq c_12
      replace hF := hF.trans (if_neg c_12)
      refine lv_iload_n hx hb dX8_widthFrom_29 rfl (lv_at hl 0 rfl) ?_
      refine lv_iload_n hx hb dX8_widthFrom_30 rfl (lv_at hl 2 rfl) ?_
      refine lv_isub hx hb dX8_widthFrom_31 ?_
      have k_13 : ((fn_X8_nextInLane tw_size twh_a a b) - a).toInt = (fn_X8_nextInLane tw_size twh_a a b).toInt - a.toInt := wk_sub (fn_X8_nextInLane tw_size twh_a a b).toInt a.toInt rfl rfl (by omega) (by omega)
      refine W.widen (k := 0) (n := 0) (by decide) (by decide) ?_
      exact hret ((fn_X8_nextInLane tw_size twh_a a b) - a) () _ _ _ 32 (wk_sub9 (is := [0, 1]) hP rfl) (hD.sub [0, 1] rfl rfl) hS dX8_widthFrom_32 hF.symm
    · have k_12 : (fn_X8_reaches twh_a a b).toInt = 0 := wk_eq c_12
      replace hF := hF.trans (if_pos c_12)
      refine lv_iconst (v := (-1)) hx hb dX8_widthFrom_25 (by decide) ?_
      refine lv_goto (tgt := 32) hx hb dX8_widthFrom_26 (by decide) ?_
      refine W.widen (k := 0) (n := 0) (by decide) (by decide) ?_
      exact hret (-1) () _ _ _ 32 (wk_sub9 (is := [0, 1]) hP rfl) (hD.sub [0, 1] rfl rfl) hS dX8_widthFrom_32 hF.symm
def lp_X8_weightFrom_35 (tw_size : Int32) (twv_a : Nat → Int32) (twh_a : Nat → Int32) (a : Int32) (b : Int32) : Nat → Int32 → Int32 → Int32 × Int32
  | 0, _, _ => default
  | fu_35 + 1, x4_35, x5_35 => (if (fn_X8_nextInLane tw_size twh_a a b) < x5_35 then (x4_35, x5_35) else (lp_X8_weightFrom_35 tw_size twv_a twh_a a b fu_35 (x4_35 + (twv_a x5_35.toNatClampNeg)) (x5_35 + 1)))
termination_by n => n
def fn_X8_weightFrom (tw_size : Int32) (twv_a : Nat → Int32) (twh_a : Nat → Int32) (a : Int32) (b : Int32) : Int32 := (if (fn_X8_nextInLane tw_size twh_a a b) = (-1) then (-1) else (if (fn_X8_reaches twh_a a b) = 0 then (-1) else (pm2 (lp_X8_weightFrom_35 tw_size twv_a twh_a a b 10 0 (a + 1)) (fun x4_35 x5_35 => x4_35))))
theorem dX8_weightFrom_0 : decode cX8_weightFrom 0 = .ok (.aload_n 0, 1) := by decide +kernel
theorem dX8_weightFrom_1 : decode cX8_weightFrom 1 = .ok (.aload_n 0, 1) := by decide +kernel
theorem dX8_weightFrom_2 : decode cX8_weightFrom 2 = .ok (.getfield 18, 3) := by decide +kernel
theorem dX8_weightFrom_5 : decode cX8_weightFrom 5 = .ok (.iload_n 1, 1) := by decide +kernel
theorem dX8_weightFrom_6 : decode cX8_weightFrom 6 = .ok (.iload_n 2, 1) := by decide +kernel
theorem dX8_weightFrom_7 : decode cX8_weightFrom 7 = .ok (.invokevirtual 40, 3) := by decide +kernel
theorem dX8_weightFrom_10 : decode cX8_weightFrom 10 = .ok (.istore_n 3, 1) := by decide +kernel
theorem dX8_weightFrom_11 : decode cX8_weightFrom 11 = .ok (.iload_n 3, 1) := by decide +kernel
theorem dX8_weightFrom_12 : decode cX8_weightFrom 12 = .ok (.iconst (-1), 1) := by decide +kernel
theorem dX8_weightFrom_13 : decode cX8_weightFrom 13 = .ok (.if_icmp .eq 12, 3) := by decide +kernel
theorem dX8_weightFrom_16 : decode cX8_weightFrom 16 = .ok (.aload_n 0, 1) := by decide +kernel
theorem dX8_weightFrom_17 : decode cX8_weightFrom 17 = .ok (.iload_n 1, 1) := by decide +kernel
theorem dX8_weightFrom_18 : decode cX8_weightFrom 18 = .ok (.iload_n 2, 1) := by decide +kernel
theorem dX8_weightFrom_19 : decode cX8_weightFrom 19 = .ok (.invokevirtual 44, 3) := by decide +kernel
theorem dX8_weightFrom_22 : decode cX8_weightFrom 22 = .ok (.ifCond .ne 5, 3) := by decide +kernel
theorem dX8_weightFrom_25 : decode cX8_weightFrom 25 = .ok (.iconst (-1), 1) := by decide +kernel
theorem dX8_weightFrom_26 : decode cX8_weightFrom 26 = .ok (.ireturn, 1) := by decide +kernel
theorem dX8_weightFrom_27 : decode cX8_weightFrom 27 = .ok (.iconst 0, 1) := by decide +kernel
theorem dX8_weightFrom_28 : decode cX8_weightFrom 28 = .ok (.istore 4, 2) := by decide +kernel
theorem dX8_weightFrom_30 : decode cX8_weightFrom 30 = .ok (.iload_n 1, 1) := by decide +kernel
theorem dX8_weightFrom_31 : decode cX8_weightFrom 31 = .ok (.iconst 1, 1) := by decide +kernel
theorem dX8_weightFrom_32 : decode cX8_weightFrom 32 = .ok (.iadd, 1) := by decide +kernel
theorem dX8_weightFrom_33 : decode cX8_weightFrom 33 = .ok (.istore 5, 2) := by decide +kernel
theorem dX8_weightFrom_35 : decode cX8_weightFrom 35 = .ok (.iload 5, 2) := by decide +kernel
theorem dX8_weightFrom_37 : decode cX8_weightFrom 37 = .ok (.iload_n 3, 1) := by decide +kernel
theorem dX8_weightFrom_38 : decode cX8_weightFrom 38 = .ok (.if_icmp .gt 21, 3) := by decide +kernel
theorem dX8_weightFrom_41 : decode cX8_weightFrom 41 = .ok (.iload 4, 2) := by decide +kernel
theorem dX8_weightFrom_43 : decode cX8_weightFrom 43 = .ok (.aload_n 0, 1) := by decide +kernel
theorem dX8_weightFrom_44 : decode cX8_weightFrom 44 = .ok (.getfield 15, 3) := by decide +kernel
theorem dX8_weightFrom_47 : decode cX8_weightFrom 47 = .ok (.iload 5, 2) := by decide +kernel
theorem dX8_weightFrom_49 : decode cX8_weightFrom 49 = .ok (.iaload, 1) := by decide +kernel
theorem dX8_weightFrom_50 : decode cX8_weightFrom 50 = .ok (.iadd, 1) := by decide +kernel
theorem dX8_weightFrom_51 : decode cX8_weightFrom 51 = .ok (.istore 4, 2) := by decide +kernel
theorem dX8_weightFrom_53 : decode cX8_weightFrom 53 = .ok (.iinc 5 1, 3) := by decide +kernel
theorem dX8_weightFrom_56 : decode cX8_weightFrom 56 = .ok (.goto (-21), 3) := by decide +kernel
theorem dX8_weightFrom_59 : decode cX8_weightFrom 59 = .ok (.iload 4, 2) := by decide +kernel
theorem dX8_weightFrom_61 : decode cX8_weightFrom 61 = .ok (.ireturn, 1) := by decide +kernel
set_option maxHeartbeats 4000000 in
set_option maxRecDepth 100000 in
theorem c_X8_weightFrom (l : Launch) (D : va_G) (cy : ClassId) (tw twk twv twh twt : Nat) (tw_size : Int32) (twv_a : Nat → Int32) (twh_a : Nat → Int32) (a : Int32) (b : Int32) (g_0 : 0 ≤ tw_size.toInt ∧ tw_size.toInt ≤ 8) (g_1 : (-1) ≤ a.toInt ∧ a.toInt ≤ 7) : wk_Ci l yX8_weightFrom cX8_weightFrom 6 (some .int) { frames := 1, cells := 0, slots := 0, locals := 24 } D cy [.ref tw, .int a, .int b] [(tw, .inr (8, [.ref twk, .ref twv, .ref twh, .ref twt, .int tw_size])), (twv, .inl (cy, 8, .inl twv_a)), (twh, .inl (cy, 8, .inl twh_a))] 0 0 (fun (r : Int32) (u : Unit) => r = (fn_X8_weightFrom tw_size twv_a twh_a a b)) (fun u => [(tw, .inr (8, [.ref twk, .ref twv, .ref twh, .ref twt, .int tw_size])), (twv, .inl (cy, 8, .inl twv_a)), (twh, .inl (cy, 8, .inl twh_a))]) := by
  refine wk_mk2Ci (by decide) (Nat.le_of_ble_eq_true rfl) ?_
  intro p e s m args below meth c A ls Q B hA hK hP hD hS hl hret
  obtain ⟨hx, hb, hr, hlocks, hml, hown, htb, hin⟩ := B
  have hl : lv_has ls 6 [(0, .ref tw), (1, .int a), (2, .int b)] := hl
  have hF : (fn_X8_weightFrom tw_size twv_a twh_a a b) = (fn_X8_weightFrom tw_size twv_a twh_a a b) := rfl
  conv at hF => rhs; unfold fn_X8_weightFrom
  refine lv_aload_n hx hb dX8_weightFrom_0 rfl (lv_at hl 0 rfl) ?_
  refine lv_aload_n hx hb dX8_weightFrom_1 rfl (lv_at hl 0 rfl) ?_
  refine va_get (D := D) (ci := 8) (v := .ref twh) (C := RX8) (T := TX8) (N := 5) hx hb htb inX8 hown hK hP 0 rfl rfl 2 (by decide) (htb _ tw_122) (fun _ h9 => h9) rfl dX8_weightFrom_2 ?_
  refine lv_iload_n hx hb dX8_weightFrom_5 rfl (lv_at hl 1 rfl) ?_
  refine lv_iload_n hx hb dX8_weightFrom_6 rfl (lv_at hl 2 rfl) ?_
  refine wk_iV (As := [.ref twh, .int a, .int b]) (rest := []) (wc := [(tw, .inr (8, [.ref twk, .ref twv, .ref twh, .ref twt, .int tw_size])), (twh, .inl (cy, 8, .inl twh_a))]) (wr := [(twv, .inl (cy, 8, .inl twv_a))]) (n := 3) ⟨hx, hb, hml, hown, htb⟩ (c_X8_nextInLane l D cy tw twk twv twh twt twh tw_size twh_a a b (show 0 ≤ tw_size.toInt ∧ tw_size.toInt ≤ 8 from by omega) (show (-1) ≤ a.toInt ∧ a.toInt ≤ 7 from by omega)) tw_500 tw_535 tw_498 tw_499 tw_67 rfl rfl (by decide +kernel) ⟨Nat.le_of_ble_eq_true rfl, Nat.le_of_ble_eq_true rfl⟩ hK hP hD hS hA [0, 2] [1] rfl rfl rfl rfl (by decide) 0 (ci := 8) rfl rfl rfl hl.1 rfl (Nat.le_of_ble_eq_true rfl) dX8_weightFrom_7 ⟨Nat.le_of_ble_eq_true rfl, Nat.le_of_ble_eq_true rfl⟩ (fun r_1 u_2 H locs hw_3 hP hD hS => ?_)
  refine W.widen (k := 0) (n := 0) (by decide) (by decide) ?_
  obtain ⟨hw_3, k_4, k_5⟩ := hw_3
  have hw_3 : r_1 = (fn_X8_nextInLane tw_size twh_a a b) := hw_3
  subst hw_3
  have k_4 : ((-1) ≤ (fn_X8_nextInLane tw_size twh_a a b).toInt ∧ (fn_X8_nextInLane tw_size twh_a a b).toInt ≤ 7) := k_4
  have k_5 : ((fn_X8_nextInLane tw_size twh_a a b).toInt < tw_size.toInt) := k_5
  have hP : va_P D classes [(twv, .inl (cy, 8, .inl twv_a)), (tw, .inr (8, [.ref twk, .ref twv, .ref twh, .ref twt, .int tw_size])), (twh, .inl (cy, 8, .inl twh_a))] H := hP
  have hD : va_D A [(twv, .inl (cy, 8, .inl twv_a)), (tw, .inr (8, [.ref twk, .ref twv, .ref twh, .ref twt, .int tw_size])), (twh, .inl (cy, 8, .inl twh_a))] := hD
  refine lv_istore_n (lv' := [(3, .int (fn_X8_nextInLane tw_size twh_a a b)), (0, .ref tw), (1, .int a), (2, .int b)]) hx hb dX8_weightFrom_10 rfl hl (by decide) rfl (fun ls hl => ?_)
  refine lv_iload_n hx hb dX8_weightFrom_11 rfl (lv_at hl 0 rfl) ?_
  refine lv_iconst (v := (-1)) hx hb dX8_weightFrom_12 (by decide) ?_
  refine lv_icmp_eq (tgt := 25) hx hb dX8_weightFrom_13 (by decide) (fun c_6 => ?_) (fun c_6 => ?_)
  · have k_6 : (fn_X8_nextInLane tw_size twh_a a b).toInt = (-1) := wk_eq c_6
    replace hF := hF.trans (if_pos c_6)
    refine lv_iconst (v := (-1)) hx hb dX8_weightFrom_25 (by decide) ?_
    refine W.widen (k := 0) (n := 0) (by decide) (by decide) ?_
    exact hret (-1) () _ _ _ 26 (wk_sub9 (is := [1, 0, 2]) hP rfl) (hD.sub [1, 0, 2] rfl rfl) hS dX8_weightFrom_26 hF.symm
  · have k_6 : ¬ (fn_X8_nextInLane tw_size twh_a a b).toInt = (-1) := wk_neq c_6
    replace hF := hF.trans (if_neg c_6)
    refine lv_aload_n hx hb dX8_weightFrom_16 rfl (lv_at hl 1 rfl) ?_
    refine lv_iload_n hx hb dX8_weightFrom_17 rfl (lv_at hl 2 rfl) ?_
    refine lv_iload_n hx hb dX8_weightFrom_18 rfl (lv_at hl 3 rfl) ?_
    refine wk_iV (As := [.int a, .int b]) (rest := []) (wc := [(tw, .inr (8, [.ref twk, .ref twv, .ref twh, .ref twt, .int tw_size])), (twh, .inl (cy, 8, .inl twh_a))]) (wr := [(twv, .inl (cy, 8, .inl twv_a))]) (n := 2) ⟨hx, hb, hml, hown, htb⟩ (c_X8_reaches l D cy tw twk twv twh twt tw_size twh_a a b (show 0 ≤ tw_size.toInt ∧ tw_size.toInt ≤ 8 from by omega) (show (-1) ≤ a.toInt ∧ a.toInt ≤ 7 from by omega)) tw_539 tw_536 tw_538 tw_13 tw_67 rfl rfl (by decide +kernel) ⟨Nat.le_of_ble_eq_true rfl, Nat.le_of_ble_eq_true rfl⟩ hK hP hD hS hA [1, 2] [0] rfl rfl rfl rfl (by decide) 0 (ci := 8) rfl rfl rfl hl.1 rfl (Nat.le_of_ble_eq_true rfl) dX8_weightFrom_19 ⟨Nat.le_of_ble_eq_true rfl, Nat.le_of_ble_eq_true rfl⟩ (fun r_7 u_8 H locs hw_9 hP hD hS => ?_)
    refine W.widen (k := 0) (n := 0) (by decide) (by decide) ?_
    obtain ⟨hw_9, k_10⟩ := hw_9
    have hw_9 : r_7 = (fn_X8_reaches twh_a a b) := hw_9
    subst hw_9
    have k_10 : ((fn_X8_reaches twh_a a b) = 0 ∨ (fn_X8_reaches twh_a a b) = 1) := k_10
    have k_11 : 0 ≤ (fn_X8_reaches twh_a a b).toInt ∧ (fn_X8_reaches twh_a a b).toInt ≤ 1 := wk_b01 (by assumption)
    have hP : va_P D classes [(twv, .inl (cy, 8, .inl twv_a)), (tw, .inr (8, [.ref twk, .ref twv, .ref twh, .ref twt, .int tw_size])), (twh, .inl (cy, 8, .inl twh_a))] H := hP
    have hD : va_D A [(twv, .inl (cy, 8, .inl twv_a)), (tw, .inr (8, [.ref twk, .ref twv, .ref twh, .ref twt, .int tw_size])), (twh, .inl (cy, 8, .inl twh_a))] := hD
    refine lv_if_ne (tgt := 27) hx hb dX8_weightFrom_22 (by decide) (fun c_12 => ?_) (fun c_12 => ?_)
    · have k_12 : ¬ (fn_X8_reaches twh_a a b).toInt = 0 := wk_neq c_12
      replace hF := hF.trans (if_neg c_12)
      refine lv_iconst (v := 0) hx hb dX8_weightFrom_27 (by decide) ?_
      refine lv_istore (lv' := [(4, .int 0), (3, .int (fn_X8_nextInLane tw_size twh_a a b)), (0, .ref tw), (1, .int a), (2, .int b)]) hx hb dX8_weightFrom_28 hl (by decide) rfl (fun ls hl => ?_)
      refine lv_iload_n hx hb dX8_weightFrom_30 rfl (lv_at hl 3 rfl) ?_
      refine lv_iconst (v := 1) hx hb dX8_weightFrom_31 (by decide) ?_
      refine lv_iadd hx hb dX8_weightFrom_32 ?_
      have k_13 : (a + 1).toInt = a.toInt + 1 := wk_add a.toInt 1 rfl rfl (by omega) (by omega)
      refine lv_istore (lv' := [(5, .int (a + 1)), (4, .int 0), (3, .int (fn_X8_nextInLane tw_size twh_a a b)), (0, .ref tw), (1, .int a), (2, .int b)]) hx hb dX8_weightFrom_33 hl (by decide) rfl (fun ls hl => ?_)
      have hlp_35 : ∀ (fu_35 : Nat) (x4_35 : Int32) (x5_35 : Int32) (H : Heap) (locs : List Loc) (ls : Array Slot), (0 ≤ x5_35.toInt ∧ x5_35.toInt ≤ 8) → 8 - x5_35.toInt < (fu_35 : Int) → ((fn_X8_weightFrom tw_size twv_a twh_a a b) = (pm2 (lp_X8_weightFrom_35 tw_size twv_a twh_a a b fu_35 x4_35 x5_35) (fun x4_35 x5_35 => x4_35))) → va_P D classes [(twv, .inl (cy, 8, .inl twv_a)), (tw, .inr (8, [.ref twk, .ref twv, .ref twh, .ref twt, .int tw_size])), (twh, .inl (cy, 8, .inl twh_a))] H → va_D A [(twv, .inl (cy, 8, .inl twv_a)), (tw, .inr (8, [.ref twk, .ref twv, .ref twh, .ref twt, .int tw_size])), (twh, .inl (cy, 8, .inl twh_a))] → va_S A s.heap H locs → lv_has ls 6 [(5, .int x5_35), (4, .int x4_35), (3, .int (fn_X8_nextInLane tw_size twh_a a b)), (0, .ref tw), (1, .int a), (2, .int b)] → W p l e { frames := 1, cells := 0, slots := 0, locals := 24 } s m args below meth c H locs 0 0 Q (F0 m 35 ls []) := by
        intro fu_35
        induction fu_35 with
        | zero =>
          intro x4_35 x5_35 H locs ls hi_35_0 hm hF hP hD hS hl
          exfalso; omega
        | succ fu_35 ih_35 =>
          intro x4_35 x5_35 H locs ls hi_35_0 hm hF hP hD hS hl
          rw [lp_X8_weightFrom_35] at hF
          refine lv_iload hx hb dX8_weightFrom_35 (lv_at hl 0 rfl) ?_
          refine lv_iload_n hx hb dX8_weightFrom_37 rfl (lv_at hl 2 rfl) ?_
          refine lv_icmp_gt (tgt := 59) hx hb dX8_weightFrom_38 (by decide) (fun c_14 => ?_) (fun c_14 => ?_)
          · have k_14 : (fn_X8_nextInLane tw_size twh_a a b).toInt < x5_35.toInt := wk_lt c_14
            replace hF := hF.trans (pm2_p1 c_14)
            rw [pm2_mk x4_35 x5_35] at hF
            refine lv_iload hx hb dX8_weightFrom_59 (lv_at hl 1 rfl) ?_
            refine W.widen (k := 0) (n := 0) (by decide) (by decide) ?_
            exact hret x4_35 () _ _ _ 61 (wk_sub9 (is := [1, 0, 2]) hP rfl) (hD.sub [1, 0, 2] rfl rfl) hS dX8_weightFrom_61 hF.symm
          · have k_14 : ¬ (fn_X8_nextInLane tw_size twh_a a b).toInt < x5_35.toInt := wk_nlt c_14
            replace hF := hF.trans (pm2_n1 c_14)
            refine lv_iload hx hb dX8_weightFrom_41 (lv_at hl 1 rfl) ?_
            refine lv_aload_n hx hb dX8_weightFrom_43 rfl (lv_at hl 3 rfl) ?_
            refine va_get (D := D) (ci := 8) (v := .ref twv) (C := RX8) (T := TX8) (N := 5) hx hb htb inX8 hown hK hP 1 rfl rfl 1 (by decide) (htb _ tw_119) (fun _ h9 => h9) rfl dX8_weightFrom_44 ?_
            refine lv_iload hx hb dX8_weightFrom_47 (lv_at hl 0 rfl) ?_
            refine va_iald hx hb hK hP 0 0 rfl rfl (show vp_in x5_35 8 from vp_in_iff.mpr (show 0 ≤ x5_35.toInt ∧ x5_35.toInt < ((8 : Nat) : Int) from by omega)) dX8_weightFrom_49 ?_
            refine lv_iadd hx hb dX8_weightFrom_50 ?_
            refine lv_istore (lv' := [(4, .int (x4_35 + (twv_a x5_35.toNatClampNeg))), (5, .int x5_35), (3, .int (fn_X8_nextInLane tw_size twh_a a b)), (0, .ref tw), (1, .int a), (2, .int b)]) hx hb dX8_weightFrom_51 hl (by decide) rfl (fun ls hl => ?_)
            refine lv_iinc (v := (x5_35 + 1)) (lv' := [(5, .int (x5_35 + 1)), (4, .int (x4_35 + (twv_a x5_35.toNatClampNeg))), (3, .int (fn_X8_nextInLane tw_size twh_a a b)), (0, .ref tw), (1, .int a), (2, .int b)]) hx hb dX8_weightFrom_53 hl (k := 1) rfl rfl (by decide) rfl (fun ls hl => ?_)
            have k_15 : (x5_35 + 1).toInt = x5_35.toInt + 1 := wk_add x5_35.toInt 1 rfl rfl (by omega) (by omega)
            refine lv_goto (tgt := 35) hx hb dX8_weightFrom_56 (by decide) ?_
            exact ih_35 (x4_35 + (twv_a x5_35.toNatClampNeg)) (x5_35 + 1) _ _ _ (show 0 ≤ (x5_35 + 1).toInt ∧ (x5_35 + 1).toInt ≤ 8 from by omega) (show 8 - (x5_35 + 1).toInt < ((fu_35 : Nat) : Int) from by omega) hF hP hD hS (lv_sub hl [0, 1, 2, 3, 4, 5] rfl)
      exact hlp_35 10 0 (a + 1) _ _ _ (show 0 ≤ (a + 1).toInt ∧ (a + 1).toInt ≤ 8 from by omega) (show 8 - (a + 1).toInt < ((10 : Nat) : Int) from by omega) hF hP hD hS (lv_sub hl [0, 1, 2, 3, 4, 5] rfl)
    · have k_12 : (fn_X8_reaches twh_a a b).toInt = 0 := wk_eq c_12
      replace hF := hF.trans (if_pos c_12)
      refine lv_iconst (v := (-1)) hx hb dX8_weightFrom_25 (by decide) ?_
      refine W.widen (k := 0) (n := 0) (by decide) (by decide) ?_
      exact hret (-1) () _ _ _ 26 (wk_sub9 (is := [1, 0, 2]) hP rfl) (hD.sub [1, 0, 2] rfl rfl) hS dX8_weightFrom_26 hF.symm
def lp_X8_greatestWidth_9 (tw_size : Int32) (twh_a : Nat → Int32) (a : Int32) : Nat → Int32 → Int32 → Int32 × Int32
  | 0, _, _ => default
  | fu_9 + 1, x2_9, x3_9 => (if tw_size ≤ x3_9 then (x2_9, x3_9) else (lp_X8_greatestWidth_9 tw_size twh_a a fu_9 (if x2_9 < (fn_X8_widthFrom tw_size twh_a x3_9 a) then (fn_X8_widthFrom tw_size twh_a x3_9 a) else x2_9) (x3_9 + 1)))
termination_by n => n
def fn_X8_greatestWidth (tw_size : Int32) (twh_a : Nat → Int32) (a : Int32) : Int32 := (pm2 (lp_X8_greatestWidth_9 tw_size twh_a a 10 (fn_X8_widthFrom tw_size twh_a (-1) a) 0) (fun x2_9 x3_9 => x2_9))
theorem dX8_greatestWidth_0 : decode cX8_greatestWidth 0 = .ok (.aload_n 0, 1) := by decide +kernel
theorem dX8_greatestWidth_1 : decode cX8_greatestWidth 1 = .ok (.iconst (-1), 1) := by decide +kernel
theorem dX8_greatestWidth_2 : decode cX8_greatestWidth 2 = .ok (.iload_n 1, 1) := by decide +kernel
theorem dX8_greatestWidth_3 : decode cX8_greatestWidth 3 = .ok (.invokevirtual 48, 3) := by decide +kernel
theorem dX8_greatestWidth_6 : decode cX8_greatestWidth 6 = .ok (.istore_n 2, 1) := by decide +kernel
theorem dX8_greatestWidth_7 : decode cX8_greatestWidth 7 = .ok (.iconst 0, 1) := by decide +kernel
theorem dX8_greatestWidth_8 : decode cX8_greatestWidth 8 = .ok (.istore_n 3, 1) := by decide +kernel
theorem dX8_greatestWidth_9 : decode cX8_greatestWidth 9 = .ok (.iload_n 3, 1) := by decide +kernel
theorem dX8_greatestWidth_10 : decode cX8_greatestWidth 10 = .ok (.aload_n 0, 1) := by decide +kernel
theorem dX8_greatestWidth_11 : decode cX8_greatestWidth 11 = .ok (.getfield 24, 3) := by decide +kernel
theorem dX8_greatestWidth_14 : decode cX8_greatestWidth 14 = .ok (.if_icmp .ge 20, 3) := by decide +kernel
theorem dX8_greatestWidth_17 : decode cX8_greatestWidth 17 = .ok (.iload_n 2, 1) := by decide +kernel
theorem dX8_greatestWidth_18 : decode cX8_greatestWidth 18 = .ok (.aload_n 0, 1) := by decide +kernel
theorem dX8_greatestWidth_19 : decode cX8_greatestWidth 19 = .ok (.iload_n 3, 1) := by decide +kernel
theorem dX8_greatestWidth_20 : decode cX8_greatestWidth 20 = .ok (.iload_n 1, 1) := by decide +kernel
theorem dX8_greatestWidth_21 : decode cX8_greatestWidth 21 = .ok (.invokevirtual 48, 3) := by decide +kernel
theorem dX8_greatestWidth_24 : decode cX8_greatestWidth 24 = .ok (.invokestatic 52, 3) := by decide +kernel
theorem dX8_greatestWidth_27 : decode cX8_greatestWidth 27 = .ok (.istore_n 2, 1) := by decide +kernel
theorem dX8_greatestWidth_28 : decode cX8_greatestWidth 28 = .ok (.iinc 3 1, 3) := by decide +kernel
theorem dX8_greatestWidth_31 : decode cX8_greatestWidth 31 = .ok (.goto (-22), 3) := by decide +kernel
theorem dX8_greatestWidth_34 : decode cX8_greatestWidth 34 = .ok (.iload_n 2, 1) := by decide +kernel
theorem dX8_greatestWidth_35 : decode cX8_greatestWidth 35 = .ok (.ireturn, 1) := by decide +kernel
set_option maxHeartbeats 4000000 in
set_option maxRecDepth 100000 in
theorem c_X8_greatestWidth (l : Launch) (D : va_G) (cy : ClassId) (tw twk twv twh twt : Nat) (tw_size : Int32) (twh_a : Nat → Int32) (a : Int32) (g_0 : 0 ≤ tw_size.toInt ∧ tw_size.toInt ≤ 8) : wk_Ci l yX8_greatestWidth cX8_greatestWidth 4 (some .int) { frames := 2, cells := 0, slots := 0, locals := 47 } D cy [.ref tw, .int a] [(tw, .inr (8, [.ref twk, .ref twv, .ref twh, .ref twt, .int tw_size])), (twh, .inl (cy, 8, .inl twh_a))] 0 0 (fun (r : Int32) (u : Unit) => r = (fn_X8_greatestWidth tw_size twh_a a)) (fun u => [(tw, .inr (8, [.ref twk, .ref twv, .ref twh, .ref twt, .int tw_size])), (twh, .inl (cy, 8, .inl twh_a))]) := by
  refine wk_mk2Ci (by decide) (Nat.le_of_ble_eq_true rfl) ?_
  intro p e s m args below meth c A ls Q B hA hK hP hD hS hl hret
  obtain ⟨hx, hb, hr, hlocks, hml, hown, htb, hin⟩ := B
  have hl : lv_has ls 4 [(0, .ref tw), (1, .int a)] := hl
  have hF : (fn_X8_greatestWidth tw_size twh_a a) = (fn_X8_greatestWidth tw_size twh_a a) := rfl
  conv at hF => rhs; unfold fn_X8_greatestWidth
  refine lv_aload_n hx hb dX8_greatestWidth_0 rfl (lv_at hl 0 rfl) ?_
  refine lv_iconst (v := (-1)) hx hb dX8_greatestWidth_1 (by decide) ?_
  refine lv_iload_n hx hb dX8_greatestWidth_2 rfl (lv_at hl 1 rfl) ?_
  refine wk_iV (As := [.int (-1), .int a]) (rest := []) (wc := [(tw, .inr (8, [.ref twk, .ref twv, .ref twh, .ref twt, .int tw_size])), (twh, .inl (cy, 8, .inl twh_a))]) (wr := []) (n := 2) ⟨hx, hb, hml, hown, htb⟩ (c_X8_widthFrom l D cy tw twk twv twh twt tw_size twh_a (-1) a (show 0 ≤ tw_size.toInt ∧ tw_size.toInt ≤ 8 from by omega) (show (-1) ≤ (-1) ∧ (-1) ≤ 7 from by omega)) tw_534 tw_556 tw_532 tw_533 tw_67 rfl rfl (by decide +kernel) ⟨Nat.le_of_ble_eq_true rfl, Nat.le_of_ble_eq_true rfl⟩ hK hP hD hS hA [0, 1] [] rfl rfl rfl rfl (by decide) 0 (ci := 8) rfl rfl rfl hl.1 rfl (Nat.le_of_ble_eq_true rfl) dX8_greatestWidth_3 ⟨Nat.le_of_ble_eq_true rfl, Nat.le_of_ble_eq_true rfl⟩ (fun r_1 u_2 H locs hw_3 hP hD hS => ?_)
  refine W.widen (k := 0) (n := 0) (by decide) (by decide) ?_
  have hw_3 : r_1 = (fn_X8_widthFrom tw_size twh_a (-1) a) := hw_3
  subst hw_3
  have hP : va_P D classes [(tw, .inr (8, [.ref twk, .ref twv, .ref twh, .ref twt, .int tw_size])), (twh, .inl (cy, 8, .inl twh_a))] H := hP
  have hD : va_D A [(tw, .inr (8, [.ref twk, .ref twv, .ref twh, .ref twt, .int tw_size])), (twh, .inl (cy, 8, .inl twh_a))] := hD
  refine lv_istore_n (lv' := [(2, .int (fn_X8_widthFrom tw_size twh_a (-1) a)), (0, .ref tw), (1, .int a)]) hx hb dX8_greatestWidth_6 rfl hl (by decide) rfl (fun ls hl => ?_)
  refine lv_iconst (v := 0) hx hb dX8_greatestWidth_7 (by decide) ?_
  refine lv_istore_n (lv' := [(3, .int 0), (2, .int (fn_X8_widthFrom tw_size twh_a (-1) a)), (0, .ref tw), (1, .int a)]) hx hb dX8_greatestWidth_8 rfl hl (by decide) rfl (fun ls hl => ?_)
  have hlp_9 : ∀ (fu_9 : Nat) (x2_9 : Int32) (x3_9 : Int32) (H : Heap) (locs : List Loc) (ls : Array Slot), (0 ≤ x3_9.toInt ∧ x3_9.toInt ≤ 8) → 8 - x3_9.toInt < (fu_9 : Int) → ((fn_X8_greatestWidth tw_size twh_a a) = (pm2 (lp_X8_greatestWidth_9 tw_size twh_a a fu_9 x2_9 x3_9) (fun x2_9 x3_9 => x2_9))) → va_P D classes [(tw, .inr (8, [.ref twk, .ref twv, .ref twh, .ref twt, .int tw_size])), (twh, .inl (cy, 8, .inl twh_a))] H → va_D A [(tw, .inr (8, [.ref twk, .ref twv, .ref twh, .ref twt, .int tw_size])), (twh, .inl (cy, 8, .inl twh_a))] → va_S A s.heap H locs → lv_has ls 4 [(3, .int x3_9), (2, .int x2_9), (0, .ref tw), (1, .int a)] → W p l e { frames := 2, cells := 0, slots := 0, locals := 47 } s m args below meth c H locs 0 0 Q (F0 m 9 ls []) := by
    intro fu_9
    induction fu_9 with
    | zero =>
      intro x2_9 x3_9 H locs ls hi_9_0 hm hF hP hD hS hl
      exfalso; omega
    | succ fu_9 ih_9 =>
      intro x2_9 x3_9 H locs ls hi_9_0 hm hF hP hD hS hl
      rw [lp_X8_greatestWidth_9] at hF
      refine lv_iload_n hx hb dX8_greatestWidth_9 rfl (lv_at hl 0 rfl) ?_
      refine lv_aload_n hx hb dX8_greatestWidth_10 rfl (lv_at hl 2 rfl) ?_
      refine va_get (D := D) (ci := 8) (v := .int tw_size) (C := RX8) (T := TX8) (N := 5) hx hb htb inX8 hown hK hP 0 rfl rfl 4 (by decide) (htb _ tw_129) (fun _ h9 => h9) rfl dX8_greatestWidth_11 ?_
      refine lv_icmp_ge (tgt := 34) hx hb dX8_greatestWidth_14 (by decide) (fun c_4 => ?_) (fun c_4 => ?_)
      · have k_4 : tw_size.toInt ≤ x3_9.toInt := wk_le c_4
        replace hF := hF.trans (pm2_p1 c_4)
        rw [pm2_mk x2_9 x3_9] at hF
        refine lv_iload_n hx hb dX8_greatestWidth_34 rfl (lv_at hl 1 rfl) ?_
        refine W.widen (k := 0) (n := 0) (by decide) (by decide) ?_
        exact hret x2_9 () _ _ _ 35 (wk_sub9 (is := [0, 1]) hP rfl) (hD.sub [0, 1] rfl rfl) hS dX8_greatestWidth_35 hF.symm
      · have k_4 : ¬ tw_size.toInt ≤ x3_9.toInt := wk_nle c_4
        replace hF := hF.trans (pm2_n1 c_4)
        refine lv_iload_n hx hb dX8_greatestWidth_17 rfl (lv_at hl 1 rfl) ?_
        refine lv_aload_n hx hb dX8_greatestWidth_18 rfl (lv_at hl 2 rfl) ?_
        refine lv_iload_n hx hb dX8_greatestWidth_19 rfl (lv_at hl 0 rfl) ?_
        refine lv_iload_n hx hb dX8_greatestWidth_20 rfl (lv_at hl 3 rfl) ?_
        refine wk_iV (As := [.int x3_9, .int a]) (rest := [.int x2_9]) (wc := [(tw, .inr (8, [.ref twk, .ref twv, .ref twh, .ref twt, .int tw_size])), (twh, .inl (cy, 8, .inl twh_a))]) (wr := []) (n := 2) ⟨hx, hb, hml, hown, htb⟩ (c_X8_widthFrom l D cy tw twk twv twh twt tw_size twh_a x3_9 a (show 0 ≤ tw_size.toInt ∧ tw_size.toInt ≤ 8 from by omega) (show (-1) ≤ x3_9.toInt ∧ x3_9.toInt ≤ 7 from by omega)) tw_534 tw_556 tw_532 tw_533 tw_67 rfl rfl (by decide +kernel) ⟨Nat.le_of_ble_eq_true rfl, Nat.le_of_ble_eq_true rfl⟩ hK hP hD hS hA [0, 1] [] rfl rfl rfl rfl (by decide) 0 (ci := 8) rfl rfl rfl hl.1 rfl (Nat.le_of_ble_eq_true rfl) dX8_greatestWidth_21 ⟨Nat.le_of_ble_eq_true rfl, Nat.le_of_ble_eq_true rfl⟩ (fun r_5 u_6 H locs hw_7 hP hD hS => ?_)
        refine W.widen (k := 0) (n := 0) (by decide) (by decide) ?_
        have hw_7 : r_5 = (fn_X8_widthFrom tw_size twh_a x3_9 a) := hw_7
        subst hw_7
        have hP : va_P D classes [(tw, .inr (8, [.ref twk, .ref twv, .ref twh, .ref twt, .int tw_size])), (twh, .inl (cy, 8, .inl twh_a))] H := hP
        have hD : va_D A [(tw, .inr (8, [.ref twk, .ref twv, .ref twh, .ref twt, .int tw_size])), (twh, .inl (cy, 8, .inl twh_a))] := hD
        refine va_mmax hx hb (hml.trans hl.1.symm) hown (htb _ tw_494) (htb _ tw_495) (htb _ tw_77) (htb _ tw_496) (Nat.le_of_ble_eq_true rfl) (Nat.le_of_ble_eq_true rfl) (Nat.le_of_ble_eq_true rfl) (Nat.le_of_ble_eq_true rfl) dX8_greatestWidth_24 ?_
        refine lv_istore_n (lv' := [(2, .int (if x2_9 < (fn_X8_widthFrom tw_size twh_a x3_9 a) then (fn_X8_widthFrom tw_size twh_a x3_9 a) else x2_9)), (3, .int x3_9), (0, .ref tw), (1, .int a)]) hx hb dX8_greatestWidth_27 rfl hl (by decide) rfl (fun ls hl => ?_)
        refine lv_iinc (v := (x3_9 + 1)) (lv' := [(3, .int (x3_9 + 1)), (2, .int (if x2_9 < (fn_X8_widthFrom tw_size twh_a x3_9 a) then (fn_X8_widthFrom tw_size twh_a x3_9 a) else x2_9)), (0, .ref tw), (1, .int a)]) hx hb dX8_greatestWidth_28 hl (k := 1) rfl rfl (by decide) rfl (fun ls hl => ?_)
        have k_8 : (x3_9 + 1).toInt = x3_9.toInt + 1 := wk_add x3_9.toInt 1 rfl rfl (by omega) (by omega)
        refine lv_goto (tgt := 9) hx hb dX8_greatestWidth_31 (by decide) ?_
        exact ih_9 (if x2_9 < (fn_X8_widthFrom tw_size twh_a x3_9 a) then (fn_X8_widthFrom tw_size twh_a x3_9 a) else x2_9) (x3_9 + 1) _ _ _ (show 0 ≤ (x3_9 + 1).toInt ∧ (x3_9 + 1).toInt ≤ 8 from by omega) (show 8 - (x3_9 + 1).toInt < ((fu_9 : Nat) : Int) from by omega) hF hP hD hS (lv_sub hl [0, 1, 2, 3] rfl)
  exact hlp_9 10 (fn_X8_widthFrom tw_size twh_a (-1) a) 0 _ _ _ (show 0 ≤ 0 ∧ 0 ≤ 8 from by omega) (show 8 - 0 < ((10 : Nat) : Int) from by omega) hF hP hD hS (lv_sub hl [0, 1, 2, 3] rfl)
def lp_X8_keysInLane_4 (tw_size : Int32) (twh_a : Nat → Int32) (a : Int32) : Nat → Int32 → Int32 → Int32 × Int32
  | 0, _, _ => default
  | fu_4 + 1, x2_4, x3_4 => (if tw_size ≤ x3_4 then (x2_4, x3_4) else (if (twh_a x3_4.toNatClampNeg) ≤ a then (lp_X8_keysInLane_4 tw_size twh_a a fu_4 (x2_4 + 0) (x3_4 + 1)) else (lp_X8_keysInLane_4 tw_size twh_a a fu_4 (x2_4 + 1) (x3_4 + 1))))
termination_by n => n
def fn_X8_keysInLane (tw_size : Int32) (twh_a : Nat → Int32) (a : Int32) : Int32 := (pm2 (lp_X8_keysInLane_4 tw_size twh_a a 10 0 0) (fun x2_4 x3_4 => x2_4))
theorem dX8_keysInLane_0 : decode cX8_keysInLane 0 = .ok (.iconst 0, 1) := by decide +kernel
theorem dX8_keysInLane_1 : decode cX8_keysInLane 1 = .ok (.istore_n 2, 1) := by decide +kernel
theorem dX8_keysInLane_2 : decode cX8_keysInLane 2 = .ok (.iconst 0, 1) := by decide +kernel
theorem dX8_keysInLane_3 : decode cX8_keysInLane 3 = .ok (.istore_n 3, 1) := by decide +kernel
theorem dX8_keysInLane_4 : decode cX8_keysInLane 4 = .ok (.iload_n 3, 1) := by decide +kernel
theorem dX8_keysInLane_5 : decode cX8_keysInLane 5 = .ok (.aload_n 0, 1) := by decide +kernel
theorem dX8_keysInLane_6 : decode cX8_keysInLane 6 = .ok (.getfield 24, 3) := by decide +kernel
theorem dX8_keysInLane_9 : decode cX8_keysInLane 9 = .ok (.if_icmp .ge 27, 3) := by decide +kernel
theorem dX8_keysInLane_12 : decode cX8_keysInLane 12 = .ok (.iload_n 2, 1) := by decide +kernel
theorem dX8_keysInLane_13 : decode cX8_keysInLane 13 = .ok (.aload_n 0, 1) := by decide +kernel
theorem dX8_keysInLane_14 : decode cX8_keysInLane 14 = .ok (.getfield 18, 3) := by decide +kernel
theorem dX8_keysInLane_17 : decode cX8_keysInLane 17 = .ok (.iload_n 3, 1) := by decide +kernel
theorem dX8_keysInLane_18 : decode cX8_keysInLane 18 = .ok (.iaload, 1) := by decide +kernel
theorem dX8_keysInLane_19 : decode cX8_keysInLane 19 = .ok (.iload_n 1, 1) := by decide +kernel
theorem dX8_keysInLane_20 : decode cX8_keysInLane 20 = .ok (.if_icmp .le 7, 3) := by decide +kernel
theorem dX8_keysInLane_23 : decode cX8_keysInLane 23 = .ok (.iconst 1, 1) := by decide +kernel
theorem dX8_keysInLane_24 : decode cX8_keysInLane 24 = .ok (.goto 4, 3) := by decide +kernel
theorem dX8_keysInLane_27 : decode cX8_keysInLane 27 = .ok (.iconst 0, 1) := by decide +kernel
theorem dX8_keysInLane_28 : decode cX8_keysInLane 28 = .ok (.iadd, 1) := by decide +kernel
theorem dX8_keysInLane_29 : decode cX8_keysInLane 29 = .ok (.istore_n 2, 1) := by decide +kernel
theorem dX8_keysInLane_30 : decode cX8_keysInLane 30 = .ok (.iinc 3 1, 3) := by decide +kernel
theorem dX8_keysInLane_33 : decode cX8_keysInLane 33 = .ok (.goto (-29), 3) := by decide +kernel
theorem dX8_keysInLane_36 : decode cX8_keysInLane 36 = .ok (.iload_n 2, 1) := by decide +kernel
theorem dX8_keysInLane_37 : decode cX8_keysInLane 37 = .ok (.ireturn, 1) := by decide +kernel
set_option maxHeartbeats 4000000 in
set_option maxRecDepth 100000 in
theorem c_X8_keysInLane (l : Launch) (D : va_G) (cy : ClassId) (tw twk twv twh twt : Nat) (tw_size : Int32) (twh_a : Nat → Int32) (a : Int32) (g_0 : 0 ≤ tw_size.toInt ∧ tw_size.toInt ≤ 8) : wk_Ci l yX8_keysInLane cX8_keysInLane 4 (some .int) { frames := 0, cells := 0, slots := 0, locals := 0 } D cy [.ref tw, .int a] [(tw, .inr (8, [.ref twk, .ref twv, .ref twh, .ref twt, .int tw_size])), (twh, .inl (cy, 8, .inl twh_a))] 0 0 (fun (r : Int32) (u : Unit) => r = (fn_X8_keysInLane tw_size twh_a a)) (fun u => [(tw, .inr (8, [.ref twk, .ref twv, .ref twh, .ref twt, .int tw_size])), (twh, .inl (cy, 8, .inl twh_a))]) := by
  refine wk_mk2Ci (by decide) (Nat.le_of_ble_eq_true rfl) ?_
  intro p e s m args below meth c A ls Q B hA hK hP hD hS hl hret
  obtain ⟨hx, hb, hr, hlocks, hml, hown, htb, hin⟩ := B
  have hl : lv_has ls 4 [(0, .ref tw), (1, .int a)] := hl
  have hF : (fn_X8_keysInLane tw_size twh_a a) = (fn_X8_keysInLane tw_size twh_a a) := rfl
  conv at hF => rhs; unfold fn_X8_keysInLane
  refine lv_iconst (v := 0) hx hb dX8_keysInLane_0 (by decide) ?_
  refine lv_istore_n (lv' := [(2, .int 0), (0, .ref tw), (1, .int a)]) hx hb dX8_keysInLane_1 rfl hl (by decide) rfl (fun ls hl => ?_)
  refine lv_iconst (v := 0) hx hb dX8_keysInLane_2 (by decide) ?_
  refine lv_istore_n (lv' := [(3, .int 0), (2, .int 0), (0, .ref tw), (1, .int a)]) hx hb dX8_keysInLane_3 rfl hl (by decide) rfl (fun ls hl => ?_)
  have hlp_4 : ∀ (fu_4 : Nat) (x2_4 : Int32) (x3_4 : Int32) (H : Heap) (locs : List Loc) (ls : Array Slot), (0 ≤ x3_4.toInt ∧ x3_4.toInt ≤ 8) → 8 - x3_4.toInt < (fu_4 : Int) → ((fn_X8_keysInLane tw_size twh_a a) = (pm2 (lp_X8_keysInLane_4 tw_size twh_a a fu_4 x2_4 x3_4) (fun x2_4 x3_4 => x2_4))) → va_P D classes [(tw, .inr (8, [.ref twk, .ref twv, .ref twh, .ref twt, .int tw_size])), (twh, .inl (cy, 8, .inl twh_a))] H → va_D A [(tw, .inr (8, [.ref twk, .ref twv, .ref twh, .ref twt, .int tw_size])), (twh, .inl (cy, 8, .inl twh_a))] → va_S A s.heap H locs → lv_has ls 4 [(3, .int x3_4), (2, .int x2_4), (0, .ref tw), (1, .int a)] → W p l e { frames := 0, cells := 0, slots := 0, locals := 0 } s m args below meth c H locs 0 0 Q (F0 m 4 ls []) := by
    intro fu_4
    induction fu_4 with
    | zero =>
      intro x2_4 x3_4 H locs ls hi_4_0 hm hF hP hD hS hl
      exfalso; omega
    | succ fu_4 ih_4 =>
      intro x2_4 x3_4 H locs ls hi_4_0 hm hF hP hD hS hl
      rw [lp_X8_keysInLane_4] at hF
      refine lv_iload_n hx hb dX8_keysInLane_4 rfl (lv_at hl 0 rfl) ?_
      refine lv_aload_n hx hb dX8_keysInLane_5 rfl (lv_at hl 2 rfl) ?_
      refine va_get (D := D) (ci := 8) (v := .int tw_size) (C := RX8) (T := TX8) (N := 5) hx hb htb inX8 hown hK hP 0 rfl rfl 4 (by decide) (htb _ tw_129) (fun _ h9 => h9) rfl dX8_keysInLane_6 ?_
      refine lv_icmp_ge (tgt := 36) hx hb dX8_keysInLane_9 (by decide) (fun c_1 => ?_) (fun c_1 => ?_)
      · have k_1 : tw_size.toInt ≤ x3_4.toInt := wk_le c_1
        replace hF := hF.trans (pm2_p1 c_1)
        rw [pm2_mk x2_4 x3_4] at hF
        refine lv_iload_n hx hb dX8_keysInLane_36 rfl (lv_at hl 1 rfl) ?_
        refine W.widen (k := 0) (n := 0) (by decide) (by decide) ?_
        exact hret x2_4 () _ _ _ 37 (wk_sub9 (is := [0, 1]) hP rfl) (hD.sub [0, 1] rfl rfl) hS dX8_keysInLane_37 hF.symm
      · have k_1 : ¬ tw_size.toInt ≤ x3_4.toInt := wk_nle c_1
        replace hF := hF.trans (pm2_n1 c_1)
        refine lv_iload_n hx hb dX8_keysInLane_12 rfl (lv_at hl 1 rfl) ?_
        refine lv_aload_n hx hb dX8_keysInLane_13 rfl (lv_at hl 2 rfl) ?_
        refine va_get (D := D) (ci := 8) (v := .ref twh) (C := RX8) (T := TX8) (N := 5) hx hb htb inX8 hown hK hP 0 rfl rfl 2 (by decide) (htb _ tw_122) (fun _ h9 => h9) rfl dX8_keysInLane_14 ?_
        refine lv_iload_n hx hb dX8_keysInLane_17 rfl (lv_at hl 0 rfl) ?_
        refine va_iald hx hb hK hP 1 0 rfl rfl (show vp_in x3_4 8 from vp_in_iff.mpr (show 0 ≤ x3_4.toInt ∧ x3_4.toInt < ((8 : Nat) : Int) from by omega)) dX8_keysInLane_18 ?_
        refine lv_iload_n hx hb dX8_keysInLane_19 rfl (lv_at hl 3 rfl) ?_
        refine lv_icmp_le (tgt := 27) hx hb dX8_keysInLane_20 (by decide) (fun c_2 => ?_) (fun c_2 => ?_)
        · have k_2 : (twh_a x3_4.toNatClampNeg).toInt ≤ a.toInt := wk_le c_2
          replace hF := hF.trans (pm2_p1 c_2)
          refine lv_iconst (v := 0) hx hb dX8_keysInLane_27 (by decide) ?_
          refine lv_iadd hx hb dX8_keysInLane_28 ?_
          refine lv_istore_n (lv' := [(2, .int (x2_4 + 0)), (3, .int x3_4), (0, .ref tw), (1, .int a)]) hx hb dX8_keysInLane_29 rfl hl (by decide) rfl (fun ls hl => ?_)
          refine lv_iinc (v := (x3_4 + 1)) (lv' := [(3, .int (x3_4 + 1)), (2, .int (x2_4 + 0)), (0, .ref tw), (1, .int a)]) hx hb dX8_keysInLane_30 hl (k := 1) rfl rfl (by decide) rfl (fun ls hl => ?_)
          have k_3 : (x3_4 + 1).toInt = x3_4.toInt + 1 := wk_add x3_4.toInt 1 rfl rfl (by omega) (by omega)
          refine lv_goto (tgt := 4) hx hb dX8_keysInLane_33 (by decide) ?_
          exact ih_4 (x2_4 + 0) (x3_4 + 1) _ _ _ (show 0 ≤ (x3_4 + 1).toInt ∧ (x3_4 + 1).toInt ≤ 8 from by omega) (show 8 - (x3_4 + 1).toInt < ((fu_4 : Nat) : Int) from by omega) hF hP hD hS (lv_sub hl [0, 1, 2, 3] rfl)
        · have k_2 : ¬ (twh_a x3_4.toNatClampNeg).toInt ≤ a.toInt := wk_nle c_2
          replace hF := hF.trans (pm2_n1 c_2)
          refine lv_iconst (v := 1) hx hb dX8_keysInLane_23 (by decide) ?_
          refine lv_goto (tgt := 28) hx hb dX8_keysInLane_24 (by decide) ?_
          refine lv_iadd hx hb dX8_keysInLane_28 ?_
          refine lv_istore_n (lv' := [(2, .int (x2_4 + 1)), (3, .int x3_4), (0, .ref tw), (1, .int a)]) hx hb dX8_keysInLane_29 rfl hl (by decide) rfl (fun ls hl => ?_)
          refine lv_iinc (v := (x3_4 + 1)) (lv' := [(3, .int (x3_4 + 1)), (2, .int (x2_4 + 1)), (0, .ref tw), (1, .int a)]) hx hb dX8_keysInLane_30 hl (k := 1) rfl rfl (by decide) rfl (fun ls hl => ?_)
          have k_4 : (x3_4 + 1).toInt = x3_4.toInt + 1 := wk_add x3_4.toInt 1 rfl rfl (by omega) (by omega)
          refine lv_goto (tgt := 4) hx hb dX8_keysInLane_33 (by decide) ?_
          exact ih_4 (x2_4 + 1) (x3_4 + 1) _ _ _ (show 0 ≤ (x3_4 + 1).toInt ∧ (x3_4 + 1).toInt ≤ 8 from by omega) (show 8 - (x3_4 + 1).toInt < ((fu_4 : Nat) : Int) from by omega) hF hP hD hS (lv_sub hl [0, 1, 2, 3] rfl)
  exact hlp_4 10 0 0 _ _ _ (show 0 ≤ 0 ∧ 0 ≤ 8 from by omega) (show 8 - 0 < ((10 : Nat) : Int) from by omega) hF hP hD hS (lv_sub hl [0, 1, 2, 3] rfl)
def lp_X8_highestOf_4 (tw_size : Int32) (ar_a : Nat → Int32) : Nat → Int32 → Int32 → Int32 × Int32
  | 0, _, _ => default
  | fu_4 + 1, x2_4, x3_4 => (if tw_size ≤ x3_4 then (x2_4, x3_4) else (lp_X8_highestOf_4 tw_size ar_a fu_4 (if x2_4 < (ar_a x3_4.toNatClampNeg) then (ar_a x3_4.toNatClampNeg) else x2_4) (x3_4 + 1)))
termination_by n => n
def fn_X8_highestOf (tw_size : Int32) (ar_a : Nat → Int32) : Int32 := (pm2 (lp_X8_highestOf_4 tw_size ar_a 10 0 0) (fun x2_4 x3_4 => x2_4))
theorem dX8_highestOf_0 : decode cX8_highestOf 0 = .ok (.iconst 0, 1) := by decide +kernel
theorem dX8_highestOf_1 : decode cX8_highestOf 1 = .ok (.istore_n 2, 1) := by decide +kernel
theorem dX8_highestOf_2 : decode cX8_highestOf 2 = .ok (.iconst 0, 1) := by decide +kernel
theorem dX8_highestOf_3 : decode cX8_highestOf 3 = .ok (.istore_n 3, 1) := by decide +kernel
theorem dX8_highestOf_4 : decode cX8_highestOf 4 = .ok (.iload_n 3, 1) := by decide +kernel
theorem dX8_highestOf_5 : decode cX8_highestOf 5 = .ok (.aload_n 0, 1) := by decide +kernel
theorem dX8_highestOf_6 : decode cX8_highestOf 6 = .ok (.getfield 24, 3) := by decide +kernel
theorem dX8_highestOf_9 : decode cX8_highestOf 9 = .ok (.if_icmp .ge 17, 3) := by decide +kernel
theorem dX8_highestOf_12 : decode cX8_highestOf 12 = .ok (.iload_n 2, 1) := by decide +kernel
theorem dX8_highestOf_13 : decode cX8_highestOf 13 = .ok (.aload_n 1, 1) := by decide +kernel
theorem dX8_highestOf_14 : decode cX8_highestOf 14 = .ok (.iload_n 3, 1) := by decide +kernel
theorem dX8_highestOf_15 : decode cX8_highestOf 15 = .ok (.iaload, 1) := by decide +kernel
theorem dX8_highestOf_16 : decode cX8_highestOf 16 = .ok (.invokestatic 52, 3) := by decide +kernel
theorem dX8_highestOf_19 : decode cX8_highestOf 19 = .ok (.istore_n 2, 1) := by decide +kernel
theorem dX8_highestOf_20 : decode cX8_highestOf 20 = .ok (.iinc 3 1, 3) := by decide +kernel
theorem dX8_highestOf_23 : decode cX8_highestOf 23 = .ok (.goto (-19), 3) := by decide +kernel
theorem dX8_highestOf_26 : decode cX8_highestOf 26 = .ok (.iload_n 2, 1) := by decide +kernel
theorem dX8_highestOf_27 : decode cX8_highestOf 27 = .ok (.ireturn, 1) := by decide +kernel
set_option maxHeartbeats 4000000 in
set_option maxRecDepth 100000 in
theorem c_X8_highestOf (l : Launch) (D : va_G) (cy : ClassId) (tw twk twv twh twt ar : Nat) (tw_size : Int32) (ar_a : Nat → Int32)  (g_0 : 0 ≤ tw_size.toInt ∧ tw_size.toInt ≤ 8) : wk_Ci l yX8_highestOf cX8_highestOf 4 (some .int) { frames := 1, cells := 0, slots := 0, locals := 13 } D cy [.ref tw, .ref ar] [(tw, .inr (8, [.ref twk, .ref twv, .ref twh, .ref twt, .int tw_size])), (ar, .inl (cy, 8, .inl ar_a))] 0 0 (fun (r : Int32) (u : Unit) => r = (fn_X8_highestOf tw_size ar_a)) (fun u => [(tw, .inr (8, [.ref twk, .ref twv, .ref twh, .ref twt, .int tw_size])), (ar, .inl (cy, 8, .inl ar_a))]) := by
  refine wk_mk2Ci (by decide) (Nat.le_of_ble_eq_true rfl) ?_
  intro p e s m args below meth c A ls Q B hA hK hP hD hS hl hret
  obtain ⟨hx, hb, hr, hlocks, hml, hown, htb, hin⟩ := B
  have hl : lv_has ls 4 [(0, .ref tw), (1, .ref ar)] := hl
  have hF : (fn_X8_highestOf tw_size ar_a) = (fn_X8_highestOf tw_size ar_a) := rfl
  conv at hF => rhs; unfold fn_X8_highestOf
  refine lv_iconst (v := 0) hx hb dX8_highestOf_0 (by decide) ?_
  refine lv_istore_n (lv' := [(2, .int 0), (0, .ref tw), (1, .ref ar)]) hx hb dX8_highestOf_1 rfl hl (by decide) rfl (fun ls hl => ?_)
  refine lv_iconst (v := 0) hx hb dX8_highestOf_2 (by decide) ?_
  refine lv_istore_n (lv' := [(3, .int 0), (2, .int 0), (0, .ref tw), (1, .ref ar)]) hx hb dX8_highestOf_3 rfl hl (by decide) rfl (fun ls hl => ?_)
  have hlp_4 : ∀ (fu_4 : Nat) (x2_4 : Int32) (x3_4 : Int32) (H : Heap) (locs : List Loc) (ls : Array Slot), (0 ≤ x3_4.toInt ∧ x3_4.toInt ≤ 8) → 8 - x3_4.toInt < (fu_4 : Int) → ((fn_X8_highestOf tw_size ar_a) = (pm2 (lp_X8_highestOf_4 tw_size ar_a fu_4 x2_4 x3_4) (fun x2_4 x3_4 => x2_4))) → va_P D classes [(tw, .inr (8, [.ref twk, .ref twv, .ref twh, .ref twt, .int tw_size])), (ar, .inl (cy, 8, .inl ar_a))] H → va_D A [(tw, .inr (8, [.ref twk, .ref twv, .ref twh, .ref twt, .int tw_size])), (ar, .inl (cy, 8, .inl ar_a))] → va_S A s.heap H locs → lv_has ls 4 [(3, .int x3_4), (2, .int x2_4), (0, .ref tw), (1, .ref ar)] → W p l e { frames := 1, cells := 0, slots := 0, locals := 13 } s m args below meth c H locs 0 0 Q (F0 m 4 ls []) := by
    intro fu_4
    induction fu_4 with
    | zero =>
      intro x2_4 x3_4 H locs ls hi_4_0 hm hF hP hD hS hl
      exfalso; omega
    | succ fu_4 ih_4 =>
      intro x2_4 x3_4 H locs ls hi_4_0 hm hF hP hD hS hl
      rw [lp_X8_highestOf_4] at hF
      refine lv_iload_n hx hb dX8_highestOf_4 rfl (lv_at hl 0 rfl) ?_
      refine lv_aload_n hx hb dX8_highestOf_5 rfl (lv_at hl 2 rfl) ?_
      refine va_get (D := D) (ci := 8) (v := .int tw_size) (C := RX8) (T := TX8) (N := 5) hx hb htb inX8 hown hK hP 0 rfl rfl 4 (by decide) (htb _ tw_129) (fun _ h9 => h9) rfl dX8_highestOf_6 ?_
      refine lv_icmp_ge (tgt := 26) hx hb dX8_highestOf_9 (by decide) (fun c_1 => ?_) (fun c_1 => ?_)
      · have k_1 : tw_size.toInt ≤ x3_4.toInt := wk_le c_1
        replace hF := hF.trans (pm2_p1 c_1)
        rw [pm2_mk x2_4 x3_4] at hF
        refine lv_iload_n hx hb dX8_highestOf_26 rfl (lv_at hl 1 rfl) ?_
        refine W.widen (k := 0) (n := 0) (by decide) (by decide) ?_
        exact hret x2_4 () _ _ _ 27 (wk_sub9 (is := [0, 1]) hP rfl) (hD.sub [0, 1] rfl rfl) hS dX8_highestOf_27 hF.symm
      · have k_1 : ¬ tw_size.toInt ≤ x3_4.toInt := wk_nle c_1
        replace hF := hF.trans (pm2_n1 c_1)
        refine lv_iload_n hx hb dX8_highestOf_12 rfl (lv_at hl 1 rfl) ?_
        refine lv_aload_n hx hb dX8_highestOf_13 rfl (lv_at hl 3 rfl) ?_
        refine lv_iload_n hx hb dX8_highestOf_14 rfl (lv_at hl 0 rfl) ?_
        refine va_iald hx hb hK hP 1 0 rfl rfl (show vp_in x3_4 8 from vp_in_iff.mpr (show 0 ≤ x3_4.toInt ∧ x3_4.toInt < ((8 : Nat) : Int) from by omega)) dX8_highestOf_15 ?_
        refine va_mmax hx hb (hml.trans hl.1.symm) hown (htb _ tw_494) (htb _ tw_495) (htb _ tw_77) (htb _ tw_496) (Nat.le_of_ble_eq_true rfl) (Nat.le_of_ble_eq_true rfl) (Nat.le_of_ble_eq_true rfl) (Nat.le_of_ble_eq_true rfl) dX8_highestOf_16 ?_
        refine lv_istore_n (lv' := [(2, .int (if x2_4 < (ar_a x3_4.toNatClampNeg) then (ar_a x3_4.toNatClampNeg) else x2_4)), (3, .int x3_4), (0, .ref tw), (1, .ref ar)]) hx hb dX8_highestOf_19 rfl hl (by decide) rfl (fun ls hl => ?_)
        refine lv_iinc (v := (x3_4 + 1)) (lv' := [(3, .int (x3_4 + 1)), (2, .int (if x2_4 < (ar_a x3_4.toNatClampNeg) then (ar_a x3_4.toNatClampNeg) else x2_4)), (0, .ref tw), (1, .ref ar)]) hx hb dX8_highestOf_20 hl (k := 1) rfl rfl (by decide) rfl (fun ls hl => ?_)
        have k_2 : (x3_4 + 1).toInt = x3_4.toInt + 1 := wk_add x3_4.toInt 1 rfl rfl (by omega) (by omega)
        refine lv_goto (tgt := 4) hx hb dX8_highestOf_23 (by decide) ?_
        exact ih_4 (if x2_4 < (ar_a x3_4.toNatClampNeg) then (ar_a x3_4.toNatClampNeg) else x2_4) (x3_4 + 1) _ _ _ (show 0 ≤ (x3_4 + 1).toInt ∧ (x3_4 + 1).toInt ≤ 8 from by omega) (show 8 - (x3_4 + 1).toInt < ((fu_4 : Nat) : Int) from by omega) hF hP hD hS (lv_sub hl [0, 1, 2, 3] rfl)
  exact hlp_4 10 0 0 _ _ _ (show 0 ≤ 0 ∧ 0 ≤ 8 from by omega) (show 8 - 0 < ((10 : Nat) : Int) from by omega) hF hP hD hS (lv_sub hl [0, 1, 2, 3] rfl)
def lp_X8_linksOf_4 (tw_size : Int32) (ar_a : Nat → Int32) : Nat → Int32 → Int32 → Int32 × Int32
  | 0, _, _ => default
  | fu_4 + 1, x2_4, x3_4 => (if tw_size ≤ x3_4 then (x2_4, x3_4) else (lp_X8_linksOf_4 tw_size ar_a fu_4 (x2_4 + (ar_a x3_4.toNatClampNeg)) (x3_4 + 1)))
termination_by n => n
def fn_X8_linksOf (tw_size : Int32) (ar_a : Nat → Int32) : Int32 := (pm2 (lp_X8_linksOf_4 tw_size ar_a 10 0 0) (fun x2_4 x3_4 => x2_4))
theorem dX8_linksOf_0 : decode cX8_linksOf 0 = .ok (.iconst 0, 1) := by decide +kernel
theorem dX8_linksOf_1 : decode cX8_linksOf 1 = .ok (.istore_n 2, 1) := by decide +kernel
theorem dX8_linksOf_2 : decode cX8_linksOf 2 = .ok (.iconst 0, 1) := by decide +kernel
theorem dX8_linksOf_3 : decode cX8_linksOf 3 = .ok (.istore_n 3, 1) := by decide +kernel
theorem dX8_linksOf_4 : decode cX8_linksOf 4 = .ok (.iload_n 3, 1) := by decide +kernel
theorem dX8_linksOf_5 : decode cX8_linksOf 5 = .ok (.aload_n 0, 1) := by decide +kernel
theorem dX8_linksOf_6 : decode cX8_linksOf 6 = .ok (.getfield 24, 3) := by decide +kernel
theorem dX8_linksOf_9 : decode cX8_linksOf 9 = .ok (.if_icmp .ge 15, 3) := by decide +kernel
theorem dX8_linksOf_12 : decode cX8_linksOf 12 = .ok (.iload_n 2, 1) := by decide +kernel
theorem dX8_linksOf_13 : decode cX8_linksOf 13 = .ok (.aload_n 1, 1) := by decide +kernel
theorem dX8_linksOf_14 : decode cX8_linksOf 14 = .ok (.iload_n 3, 1) := by decide +kernel
theorem dX8_linksOf_15 : decode cX8_linksOf 15 = .ok (.iaload, 1) := by decide +kernel
theorem dX8_linksOf_16 : decode cX8_linksOf 16 = .ok (.iadd, 1) := by decide +kernel
theorem dX8_linksOf_17 : decode cX8_linksOf 17 = .ok (.istore_n 2, 1) := by decide +kernel
theorem dX8_linksOf_18 : decode cX8_linksOf 18 = .ok (.iinc 3 1, 3) := by decide +kernel
theorem dX8_linksOf_21 : decode cX8_linksOf 21 = .ok (.goto (-17), 3) := by decide +kernel
theorem dX8_linksOf_24 : decode cX8_linksOf 24 = .ok (.iload_n 2, 1) := by decide +kernel
theorem dX8_linksOf_25 : decode cX8_linksOf 25 = .ok (.ireturn, 1) := by decide +kernel
set_option maxHeartbeats 4000000 in
set_option maxRecDepth 100000 in
theorem c_X8_linksOf (l : Launch) (D : va_G) (cy : ClassId) (tw twk twv twh twt ar : Nat) (tw_size : Int32) (ar_a : Nat → Int32)  (g_0 : 0 ≤ tw_size.toInt ∧ tw_size.toInt ≤ 8) : wk_Ci l yX8_linksOf cX8_linksOf 4 (some .int) { frames := 0, cells := 0, slots := 0, locals := 0 } D cy [.ref tw, .ref ar] [(tw, .inr (8, [.ref twk, .ref twv, .ref twh, .ref twt, .int tw_size])), (ar, .inl (cy, 8, .inl ar_a))] 0 0 (fun (r : Int32) (u : Unit) => r = (fn_X8_linksOf tw_size ar_a)) (fun u => [(tw, .inr (8, [.ref twk, .ref twv, .ref twh, .ref twt, .int tw_size])), (ar, .inl (cy, 8, .inl ar_a))]) := by
  refine wk_mk2Ci (by decide) (Nat.le_of_ble_eq_true rfl) ?_
  intro p e s m args below meth c A ls Q B hA hK hP hD hS hl hret
  obtain ⟨hx, hb, hr, hlocks, hml, hown, htb, hin⟩ := B
  have hl : lv_has ls 4 [(0, .ref tw), (1, .ref ar)] := hl
  have hF : (fn_X8_linksOf tw_size ar_a) = (fn_X8_linksOf tw_size ar_a) := rfl
  conv at hF => rhs; unfold fn_X8_linksOf
  refine lv_iconst (v := 0) hx hb dX8_linksOf_0 (by decide) ?_
  refine lv_istore_n (lv' := [(2, .int 0), (0, .ref tw), (1, .ref ar)]) hx hb dX8_linksOf_1 rfl hl (by decide) rfl (fun ls hl => ?_)
  refine lv_iconst (v := 0) hx hb dX8_linksOf_2 (by decide) ?_
  refine lv_istore_n (lv' := [(3, .int 0), (2, .int 0), (0, .ref tw), (1, .ref ar)]) hx hb dX8_linksOf_3 rfl hl (by decide) rfl (fun ls hl => ?_)
  have hlp_4 : ∀ (fu_4 : Nat) (x2_4 : Int32) (x3_4 : Int32) (H : Heap) (locs : List Loc) (ls : Array Slot), (0 ≤ x3_4.toInt ∧ x3_4.toInt ≤ 8) → 8 - x3_4.toInt < (fu_4 : Int) → ((fn_X8_linksOf tw_size ar_a) = (pm2 (lp_X8_linksOf_4 tw_size ar_a fu_4 x2_4 x3_4) (fun x2_4 x3_4 => x2_4))) → va_P D classes [(tw, .inr (8, [.ref twk, .ref twv, .ref twh, .ref twt, .int tw_size])), (ar, .inl (cy, 8, .inl ar_a))] H → va_D A [(tw, .inr (8, [.ref twk, .ref twv, .ref twh, .ref twt, .int tw_size])), (ar, .inl (cy, 8, .inl ar_a))] → va_S A s.heap H locs → lv_has ls 4 [(3, .int x3_4), (2, .int x2_4), (0, .ref tw), (1, .ref ar)] → W p l e { frames := 0, cells := 0, slots := 0, locals := 0 } s m args below meth c H locs 0 0 Q (F0 m 4 ls []) := by
    intro fu_4
    induction fu_4 with
    | zero =>
      intro x2_4 x3_4 H locs ls hi_4_0 hm hF hP hD hS hl
      exfalso; omega
    | succ fu_4 ih_4 =>
      intro x2_4 x3_4 H locs ls hi_4_0 hm hF hP hD hS hl
      rw [lp_X8_linksOf_4] at hF
      refine lv_iload_n hx hb dX8_linksOf_4 rfl (lv_at hl 0 rfl) ?_
      refine lv_aload_n hx hb dX8_linksOf_5 rfl (lv_at hl 2 rfl) ?_
      refine va_get (D := D) (ci := 8) (v := .int tw_size) (C := RX8) (T := TX8) (N := 5) hx hb htb inX8 hown hK hP 0 rfl rfl 4 (by decide) (htb _ tw_129) (fun _ h9 => h9) rfl dX8_linksOf_6 ?_
      refine lv_icmp_ge (tgt := 24) hx hb dX8_linksOf_9 (by decide) (fun c_1 => ?_) (fun c_1 => ?_)
      · have k_1 : tw_size.toInt ≤ x3_4.toInt := wk_le c_1
        replace hF := hF.trans (pm2_p1 c_1)
        rw [pm2_mk x2_4 x3_4] at hF
        refine lv_iload_n hx hb dX8_linksOf_24 rfl (lv_at hl 1 rfl) ?_
        refine W.widen (k := 0) (n := 0) (by decide) (by decide) ?_
        exact hret x2_4 () _ _ _ 25 (wk_sub9 (is := [0, 1]) hP rfl) (hD.sub [0, 1] rfl rfl) hS dX8_linksOf_25 hF.symm
      · have k_1 : ¬ tw_size.toInt ≤ x3_4.toInt := wk_nle c_1
        replace hF := hF.trans (pm2_n1 c_1)
        refine lv_iload_n hx hb dX8_linksOf_12 rfl (lv_at hl 1 rfl) ?_
        refine lv_aload_n hx hb dX8_linksOf_13 rfl (lv_at hl 3 rfl) ?_
        refine lv_iload_n hx hb dX8_linksOf_14 rfl (lv_at hl 0 rfl) ?_
        refine va_iald hx hb hK hP 1 0 rfl rfl (show vp_in x3_4 8 from vp_in_iff.mpr (show 0 ≤ x3_4.toInt ∧ x3_4.toInt < ((8 : Nat) : Int) from by omega)) dX8_linksOf_15 ?_
        refine lv_iadd hx hb dX8_linksOf_16 ?_
        refine lv_istore_n (lv' := [(2, .int (x2_4 + (ar_a x3_4.toNatClampNeg))), (3, .int x3_4), (0, .ref tw), (1, .ref ar)]) hx hb dX8_linksOf_17 rfl hl (by decide) rfl (fun ls hl => ?_)
        refine lv_iinc (v := (x3_4 + 1)) (lv' := [(3, .int (x3_4 + 1)), (2, .int (x2_4 + (ar_a x3_4.toNatClampNeg))), (0, .ref tw), (1, .ref ar)]) hx hb dX8_linksOf_18 hl (k := 1) rfl rfl (by decide) rfl (fun ls hl => ?_)
        have k_2 : (x3_4 + 1).toInt = x3_4.toInt + 1 := wk_add x3_4.toInt 1 rfl rfl (by omega) (by omega)
        refine lv_goto (tgt := 4) hx hb dX8_linksOf_21 (by decide) ?_
        exact ih_4 (x2_4 + (ar_a x3_4.toNatClampNeg)) (x3_4 + 1) _ _ _ (show 0 ≤ (x3_4 + 1).toInt ∧ (x3_4 + 1).toInt ≤ 8 from by omega) (show 8 - (x3_4 + 1).toInt < ((fu_4 : Nat) : Int) from by omega) hF hP hD hS (lv_sub hl [0, 1, 2, 3] rfl)
  exact hlp_4 10 0 0 _ _ _ (show 0 ≤ 0 ∧ 0 ≤ 8 from by omega) (show 8 - 0 < ((10 : Nat) : Int) from by omega) hF hP hD hS (lv_sub hl [0, 1, 2, 3] rfl)
def lp_X8_valuesBetween_5 (tw_size : Int32) (twk_a : Nat → Int32) (twv_a : Nat → Int32) (a : Int32) (b : Int32) : Nat → Int32 → Int32 → Int32 × Int32
  | 0, _, _ => default
  | fu_5 + 1, x3_5, x4_5 => (if tw_size ≤ x4_5 then (x3_5, x4_5) else (if (twk_a x4_5.toNatClampNeg) < a then (lp_X8_valuesBetween_5 tw_size twk_a twv_a a b fu_5 (x3_5 + 0) (x4_5 + 1)) else (if b < (twk_a x4_5.toNatClampNeg) then (lp_X8_valuesBetween_5 tw_size twk_a twv_a a b fu_5 (x3_5 + 0) (x4_5 + 1)) else (lp_X8_valuesBetween_5 tw_size twk_a twv_a a b fu_5 (x3_5 + (twv_a x4_5.toNatClampNeg)) (x4_5 + 1)))))
termination_by n => n
def fn_X8_valuesBetween (tw_size : Int32) (twk_a : Nat → Int32) (twv_a : Nat → Int32) (a : Int32) (b : Int32) : Int32 := (pm2 (lp_X8_valuesBetween_5 tw_size twk_a twv_a a b 10 0 0) (fun x3_5 x4_5 => x3_5))
theorem dX8_valuesBetween_0 : decode cX8_valuesBetween 0 = .ok (.iconst 0, 1) := by decide +kernel
theorem dX8_valuesBetween_1 : decode cX8_valuesBetween 1 = .ok (.istore_n 3, 1) := by decide +kernel
theorem dX8_valuesBetween_2 : decode cX8_valuesBetween 2 = .ok (.iconst 0, 1) := by decide +kernel
theorem dX8_valuesBetween_3 : decode cX8_valuesBetween 3 = .ok (.istore 4, 2) := by decide +kernel
theorem dX8_valuesBetween_5 : decode cX8_valuesBetween 5 = .ok (.iload 4, 2) := by decide +kernel
theorem dX8_valuesBetween_7 : decode cX8_valuesBetween 7 = .ok (.aload_n 0, 1) := by decide +kernel
theorem dX8_valuesBetween_8 : decode cX8_valuesBetween 8 = .ok (.getfield 24, 3) := by decide +kernel
theorem dX8_valuesBetween_11 : decode cX8_valuesBetween 11 = .ok (.if_icmp .ge 45, 3) := by decide +kernel
theorem dX8_valuesBetween_14 : decode cX8_valuesBetween 14 = .ok (.iload_n 3, 1) := by decide +kernel
theorem dX8_valuesBetween_15 : decode cX8_valuesBetween 15 = .ok (.aload_n 0, 1) := by decide +kernel
theorem dX8_valuesBetween_16 : decode cX8_valuesBetween 16 = .ok (.getfield 9, 3) := by decide +kernel
theorem dX8_valuesBetween_19 : decode cX8_valuesBetween 19 = .ok (.iload 4, 2) := by decide +kernel
theorem dX8_valuesBetween_21 : decode cX8_valuesBetween 21 = .ok (.iaload, 1) := by decide +kernel
theorem dX8_valuesBetween_22 : decode cX8_valuesBetween 22 = .ok (.iload_n 1, 1) := by decide +kernel
theorem dX8_valuesBetween_23 : decode cX8_valuesBetween 23 = .ok (.if_icmp .lt 24, 3) := by decide +kernel
theorem dX8_valuesBetween_26 : decode cX8_valuesBetween 26 = .ok (.aload_n 0, 1) := by decide +kernel
theorem dX8_valuesBetween_27 : decode cX8_valuesBetween 27 = .ok (.getfield 9, 3) := by decide +kernel
theorem dX8_valuesBetween_30 : decode cX8_valuesBetween 30 = .ok (.iload 4, 2) := by decide +kernel
theorem dX8_valuesBetween_32 : decode cX8_valuesBetween 32 = .ok (.iaload, 1) := by decide +kernel
theorem dX8_valuesBetween_33 : decode cX8_valuesBetween 33 = .ok (.iload_n 2, 1) := by decide +kernel
theorem dX8_valuesBetween_34 : decode cX8_valuesBetween 34 = .ok (.if_icmp .gt 13, 3) := by decide +kernel
theorem dX8_valuesBetween_37 : decode cX8_valuesBetween 37 = .ok (.aload_n 0, 1) := by decide +kernel
theorem dX8_valuesBetween_38 : decode cX8_valuesBetween 38 = .ok (.getfield 15, 3) := by decide +kernel
theorem dX8_valuesBetween_41 : decode cX8_valuesBetween 41 = .ok (.iload 4, 2) := by decide +kernel
theorem dX8_valuesBetween_43 : decode cX8_valuesBetween 43 = .ok (.iaload, 1) := by decide +kernel
theorem dX8_valuesBetween_44 : decode cX8_valuesBetween 44 = .ok (.goto 4, 3) := by decide +kernel
theorem dX8_valuesBetween_47 : decode cX8_valuesBetween 47 = .ok (.iconst 0, 1) := by decide +kernel
theorem dX8_valuesBetween_48 : decode cX8_valuesBetween 48 = .ok (.iadd, 1) := by decide +kernel
theorem dX8_valuesBetween_49 : decode cX8_valuesBetween 49 = .ok (.istore_n 3, 1) := by decide +kernel
theorem dX8_valuesBetween_50 : decode cX8_valuesBetween 50 = .ok (.iinc 4 1, 3) := by decide +kernel
theorem dX8_valuesBetween_53 : decode cX8_valuesBetween 53 = .ok (.goto (-48), 3) := by decide +kernel
theorem dX8_valuesBetween_56 : decode cX8_valuesBetween 56 = .ok (.iload_n 3, 1) := by decide +kernel
theorem dX8_valuesBetween_57 : decode cX8_valuesBetween 57 = .ok (.ireturn, 1) := by decide +kernel
set_option maxHeartbeats 4000000 in
set_option maxRecDepth 100000 in
theorem c_X8_valuesBetween (l : Launch) (D : va_G) (cy : ClassId) (tw twk twv twh twt : Nat) (tw_size : Int32) (twk_a : Nat → Int32) (twv_a : Nat → Int32) (a : Int32) (b : Int32) (g_0 : 0 ≤ tw_size.toInt ∧ tw_size.toInt ≤ 8) : wk_Ci l yX8_valuesBetween cX8_valuesBetween 5 (some .int) { frames := 0, cells := 0, slots := 0, locals := 0 } D cy [.ref tw, .int a, .int b] [(tw, .inr (8, [.ref twk, .ref twv, .ref twh, .ref twt, .int tw_size])), (twk, .inl (cy, 8, .inl twk_a)), (twv, .inl (cy, 8, .inl twv_a))] 0 0 (fun (r : Int32) (u : Unit) => r = (fn_X8_valuesBetween tw_size twk_a twv_a a b)) (fun u => [(tw, .inr (8, [.ref twk, .ref twv, .ref twh, .ref twt, .int tw_size])), (twk, .inl (cy, 8, .inl twk_a)), (twv, .inl (cy, 8, .inl twv_a))]) := by
  refine wk_mk2Ci (by decide) (Nat.le_of_ble_eq_true rfl) ?_
  intro p e s m args below meth c A ls Q B hA hK hP hD hS hl hret
  obtain ⟨hx, hb, hr, hlocks, hml, hown, htb, hin⟩ := B
  have hl : lv_has ls 5 [(0, .ref tw), (1, .int a), (2, .int b)] := hl
  have hF : (fn_X8_valuesBetween tw_size twk_a twv_a a b) = (fn_X8_valuesBetween tw_size twk_a twv_a a b) := rfl
  conv at hF => rhs; unfold fn_X8_valuesBetween
  refine lv_iconst (v := 0) hx hb dX8_valuesBetween_0 (by decide) ?_
  refine lv_istore_n (lv' := [(3, .int 0), (0, .ref tw), (1, .int a), (2, .int b)]) hx hb dX8_valuesBetween_1 rfl hl (by decide) rfl (fun ls hl => ?_)
  refine lv_iconst (v := 0) hx hb dX8_valuesBetween_2 (by decide) ?_
  refine lv_istore (lv' := [(4, .int 0), (3, .int 0), (0, .ref tw), (1, .int a), (2, .int b)]) hx hb dX8_valuesBetween_3 hl (by decide) rfl (fun ls hl => ?_)
  have hlp_5 : ∀ (fu_5 : Nat) (x3_5 : Int32) (x4_5 : Int32) (H : Heap) (locs : List Loc) (ls : Array Slot), (0 ≤ x4_5.toInt ∧ x4_5.toInt ≤ 8) → 8 - x4_5.toInt < (fu_5 : Int) → ((fn_X8_valuesBetween tw_size twk_a twv_a a b) = (pm2 (lp_X8_valuesBetween_5 tw_size twk_a twv_a a b fu_5 x3_5 x4_5) (fun x3_5 x4_5 => x3_5))) → va_P D classes [(tw, .inr (8, [.ref twk, .ref twv, .ref twh, .ref twt, .int tw_size])), (twk, .inl (cy, 8, .inl twk_a)), (twv, .inl (cy, 8, .inl twv_a))] H → va_D A [(tw, .inr (8, [.ref twk, .ref twv, .ref twh, .ref twt, .int tw_size])), (twk, .inl (cy, 8, .inl twk_a)), (twv, .inl (cy, 8, .inl twv_a))] → va_S A s.heap H locs → lv_has ls 5 [(4, .int x4_5), (3, .int x3_5), (0, .ref tw), (1, .int a), (2, .int b)] → W p l e { frames := 0, cells := 0, slots := 0, locals := 0 } s m args below meth c H locs 0 0 Q (F0 m 5 ls []) := by
    intro fu_5
    induction fu_5 with
    | zero =>
      intro x3_5 x4_5 H locs ls hi_5_0 hm hF hP hD hS hl
      exfalso; omega
    | succ fu_5 ih_5 =>
      intro x3_5 x4_5 H locs ls hi_5_0 hm hF hP hD hS hl
      rw [lp_X8_valuesBetween_5] at hF
      refine lv_iload hx hb dX8_valuesBetween_5 (lv_at hl 0 rfl) ?_
      refine lv_aload_n hx hb dX8_valuesBetween_7 rfl (lv_at hl 2 rfl) ?_
      refine va_get (D := D) (ci := 8) (v := .int tw_size) (C := RX8) (T := TX8) (N := 5) hx hb htb inX8 hown hK hP 0 rfl rfl 4 (by decide) (htb _ tw_129) (fun _ h9 => h9) rfl dX8_valuesBetween_8 ?_
      refine lv_icmp_ge (tgt := 56) hx hb dX8_valuesBetween_11 (by decide) (fun c_1 => ?_) (fun c_1 => ?_)
      · have k_1 : tw_size.toInt ≤ x4_5.toInt := wk_le c_1
        replace hF := hF.trans (pm2_p1 c_1)
        rw [pm2_mk x3_5 x4_5] at hF
        refine lv_iload_n hx hb dX8_valuesBetween_56 rfl (lv_at hl 1 rfl) ?_
        refine W.widen (k := 0) (n := 0) (by decide) (by decide) ?_
        exact hret x3_5 () _ _ _ 57 (wk_sub9 (is := [0, 1, 2]) hP rfl) (hD.sub [0, 1, 2] rfl rfl) hS dX8_valuesBetween_57 hF.symm
      · have k_1 : ¬ tw_size.toInt ≤ x4_5.toInt := wk_nle c_1
        replace hF := hF.trans (pm2_n1 c_1)
        refine lv_iload_n hx hb dX8_valuesBetween_14 rfl (lv_at hl 1 rfl) ?_
        refine lv_aload_n hx hb dX8_valuesBetween_15 rfl (lv_at hl 2 rfl) ?_
        refine va_get (D := D) (ci := 8) (v := .ref twk) (C := RX8) (T := TX8) (N := 5) hx hb htb inX8 hown hK hP 0 rfl rfl 0 (by decide) (htb _ tw_114) (fun _ h9 => h9) rfl dX8_valuesBetween_16 ?_
        refine lv_iload hx hb dX8_valuesBetween_19 (lv_at hl 0 rfl) ?_
        refine va_iald hx hb hK hP 1 0 rfl rfl (show vp_in x4_5 8 from vp_in_iff.mpr (show 0 ≤ x4_5.toInt ∧ x4_5.toInt < ((8 : Nat) : Int) from by omega)) dX8_valuesBetween_21 ?_
        refine lv_iload_n hx hb dX8_valuesBetween_22 rfl (lv_at hl 3 rfl) ?_
        refine lv_icmp_lt (tgt := 47) hx hb dX8_valuesBetween_23 (by decide) (fun c_2 => ?_) (fun c_2 => ?_)
        · have k_2 : (twk_a x4_5.toNatClampNeg).toInt < a.toInt := wk_lt c_2
          replace hF := hF.trans (pm2_p1 c_2)
          refine lv_iconst (v := 0) hx hb dX8_valuesBetween_47 (by decide) ?_
          refine lv_iadd hx hb dX8_valuesBetween_48 ?_
          refine lv_istore_n (lv' := [(3, .int (x3_5 + 0)), (4, .int x4_5), (0, .ref tw), (1, .int a), (2, .int b)]) hx hb dX8_valuesBetween_49 rfl hl (by decide) rfl (fun ls hl => ?_)
          refine lv_iinc (v := (x4_5 + 1)) (lv' := [(4, .int (x4_5 + 1)), (3, .int (x3_5 + 0)), (0, .ref tw), (1, .int a), (2, .int b)]) hx hb dX8_valuesBetween_50 hl (k := 1) rfl rfl (by decide) rfl (fun ls hl => ?_)
          have k_3 : (x4_5 + 1).toInt = x4_5.toInt + 1 := wk_add x4_5.toInt 1 rfl rfl (by omega) (by omega)
          refine lv_goto (tgt := 5) hx hb dX8_valuesBetween_53 (by decide) ?_
          exact ih_5 (x3_5 + 0) (x4_5 + 1) _ _ _ (show 0 ≤ (x4_5 + 1).toInt ∧ (x4_5 + 1).toInt ≤ 8 from by omega) (show 8 - (x4_5 + 1).toInt < ((fu_5 : Nat) : Int) from by omega) hF hP hD hS (lv_sub hl [0, 1, 2, 3, 4] rfl)
        · have k_2 : ¬ (twk_a x4_5.toNatClampNeg).toInt < a.toInt := wk_nlt c_2
          replace hF := hF.trans (pm2_n1 c_2)
          refine lv_aload_n hx hb dX8_valuesBetween_26 rfl (lv_at hl 2 rfl) ?_
          refine va_get (D := D) (ci := 8) (v := .ref twk) (C := RX8) (T := TX8) (N := 5) hx hb htb inX8 hown hK hP 0 rfl rfl 0 (by decide) (htb _ tw_114) (fun _ h9 => h9) rfl dX8_valuesBetween_27 ?_
          refine lv_iload hx hb dX8_valuesBetween_30 (lv_at hl 0 rfl) ?_
          refine va_iald hx hb hK hP 1 0 rfl rfl (show vp_in x4_5 8 from vp_in_iff.mpr (show 0 ≤ x4_5.toInt ∧ x4_5.toInt < ((8 : Nat) : Int) from by omega)) dX8_valuesBetween_32 ?_
          refine lv_iload_n hx hb dX8_valuesBetween_33 rfl (lv_at hl 4 rfl) ?_
          refine lv_icmp_gt (tgt := 47) hx hb dX8_valuesBetween_34 (by decide) (fun c_4 => ?_) (fun c_4 => ?_)
          · have k_4 : b.toInt < (twk_a x4_5.toNatClampNeg).toInt := wk_lt c_4
            replace hF := hF.trans (pm2_p1 c_4)
            refine lv_iconst (v := 0) hx hb dX8_valuesBetween_47 (by decide) ?_
            refine lv_iadd hx hb dX8_valuesBetween_48 ?_
            refine lv_istore_n (lv' := [(3, .int (x3_5 + 0)), (4, .int x4_5), (0, .ref tw), (1, .int a), (2, .int b)]) hx hb dX8_valuesBetween_49 rfl hl (by decide) rfl (fun ls hl => ?_)
            refine lv_iinc (v := (x4_5 + 1)) (lv' := [(4, .int (x4_5 + 1)), (3, .int (x3_5 + 0)), (0, .ref tw), (1, .int a), (2, .int b)]) hx hb dX8_valuesBetween_50 hl (k := 1) rfl rfl (by decide) rfl (fun ls hl => ?_)
            have k_5 : (x4_5 + 1).toInt = x4_5.toInt + 1 := wk_add x4_5.toInt 1 rfl rfl (by omega) (by omega)
            refine lv_goto (tgt := 5) hx hb dX8_valuesBetween_53 (by decide) ?_
            exact ih_5 (x3_5 + 0) (x4_5 + 1) _ _ _ (show 0 ≤ (x4_5 + 1).toInt ∧ (x4_5 + 1).toInt ≤ 8 from by omega) (show 8 - (x4_5 + 1).toInt < ((fu_5 : Nat) : Int) from by omega) hF hP hD hS (lv_sub hl [0, 1, 2, 3, 4] rfl)
          · have k_4 : ¬ b.toInt < (twk_a x4_5.toNatClampNeg).toInt := wk_nlt c_4
            replace hF := hF.trans (pm2_n1 c_4)
            refine lv_aload_n hx hb dX8_valuesBetween_37 rfl (lv_at hl 2 rfl) ?_
            refine va_get (D := D) (ci := 8) (v := .ref twv) (C := RX8) (T := TX8) (N := 5) hx hb htb inX8 hown hK hP 0 rfl rfl 1 (by decide) (htb _ tw_119) (fun _ h9 => h9) rfl dX8_valuesBetween_38 ?_
            refine lv_iload hx hb dX8_valuesBetween_41 (lv_at hl 0 rfl) ?_
            refine va_iald hx hb hK hP 2 0 rfl rfl (show vp_in x4_5 8 from vp_in_iff.mpr (show 0 ≤ x4_5.toInt ∧ x4_5.toInt < ((8 : Nat) : Int) from by omega)) dX8_valuesBetween_43 ?_
            refine lv_goto (tgt := 48) hx hb dX8_valuesBetween_44 (by decide) ?_
            refine lv_iadd hx hb dX8_valuesBetween_48 ?_
            refine lv_istore_n (lv' := [(3, .int (x3_5 + (twv_a x4_5.toNatClampNeg))), (4, .int x4_5), (0, .ref tw), (1, .int a), (2, .int b)]) hx hb dX8_valuesBetween_49 rfl hl (by decide) rfl (fun ls hl => ?_)
            refine lv_iinc (v := (x4_5 + 1)) (lv' := [(4, .int (x4_5 + 1)), (3, .int (x3_5 + (twv_a x4_5.toNatClampNeg))), (0, .ref tw), (1, .int a), (2, .int b)]) hx hb dX8_valuesBetween_50 hl (k := 1) rfl rfl (by decide) rfl (fun ls hl => ?_)
            have k_6 : (x4_5 + 1).toInt = x4_5.toInt + 1 := wk_add x4_5.toInt 1 rfl rfl (by omega) (by omega)
            refine lv_goto (tgt := 5) hx hb dX8_valuesBetween_53 (by decide) ?_
            exact ih_5 (x3_5 + (twv_a x4_5.toNatClampNeg)) (x4_5 + 1) _ _ _ (show 0 ≤ (x4_5 + 1).toInt ∧ (x4_5 + 1).toInt ≤ 8 from by omega) (show 8 - (x4_5 + 1).toInt < ((fu_5 : Nat) : Int) from by omega) hF hP hD hS (lv_sub hl [0, 1, 2, 3, 4] rfl)
  exact hlp_5 10 0 0 _ _ _ (show 0 ≤ 0 ∧ 0 ≤ 8 from by omega) (show 8 - 0 < ((10 : Nat) : Int) from by omega) hF hP hD hS (lv_sub hl [0, 1, 2, 3, 4] rfl)
def lp_X8_allHeat_4 (tw_size : Int32) (twt_a : Nat → Int32) : Nat → Int32 → Int32 → Int32 × Int32
  | 0, _, _ => default
  | fu_4 + 1, x1_4, x2_4 => (if tw_size ≤ x2_4 then (x1_4, x2_4) else (lp_X8_allHeat_4 tw_size twt_a fu_4 (x1_4 + (twt_a x2_4.toNatClampNeg)) (x2_4 + 1)))
termination_by n => n
def fn_X8_allHeat (tw_size : Int32) (twt_a : Nat → Int32) : Int32 := (pm2 (lp_X8_allHeat_4 tw_size twt_a 10 0 0) (fun x1_4 x2_4 => x1_4))
theorem dX8_allHeat_0 : decode cX8_allHeat 0 = .ok (.iconst 0, 1) := by decide +kernel
theorem dX8_allHeat_1 : decode cX8_allHeat 1 = .ok (.istore_n 1, 1) := by decide +kernel
theorem dX8_allHeat_2 : decode cX8_allHeat 2 = .ok (.iconst 0, 1) := by decide +kernel
theorem dX8_allHeat_3 : decode cX8_allHeat 3 = .ok (.istore_n 2, 1) := by decide +kernel
theorem dX8_allHeat_4 : decode cX8_allHeat 4 = .ok (.iload_n 2, 1) := by decide +kernel
theorem dX8_allHeat_5 : decode cX8_allHeat 5 = .ok (.aload_n 0, 1) := by decide +kernel
theorem dX8_allHeat_6 : decode cX8_allHeat 6 = .ok (.getfield 24, 3) := by decide +kernel
theorem dX8_allHeat_9 : decode cX8_allHeat 9 = .ok (.if_icmp .ge 18, 3) := by decide +kernel
theorem dX8_allHeat_12 : decode cX8_allHeat 12 = .ok (.iload_n 1, 1) := by decide +kernel
theorem dX8_allHeat_13 : decode cX8_allHeat 13 = .ok (.aload_n 0, 1) := by decide +kernel
theorem dX8_allHeat_14 : decode cX8_allHeat 14 = .ok (.getfield 21, 3) := by decide +kernel
theorem dX8_allHeat_17 : decode cX8_allHeat 17 = .ok (.iload_n 2, 1) := by decide +kernel
theorem dX8_allHeat_18 : decode cX8_allHeat 18 = .ok (.iaload, 1) := by decide +kernel
theorem dX8_allHeat_19 : decode cX8_allHeat 19 = .ok (.iadd, 1) := by decide +kernel
theorem dX8_allHeat_20 : decode cX8_allHeat 20 = .ok (.istore_n 1, 1) := by decide +kernel
theorem dX8_allHeat_21 : decode cX8_allHeat 21 = .ok (.iinc 2 1, 3) := by decide +kernel
theorem dX8_allHeat_24 : decode cX8_allHeat 24 = .ok (.goto (-20), 3) := by decide +kernel
theorem dX8_allHeat_27 : decode cX8_allHeat 27 = .ok (.iload_n 1, 1) := by decide +kernel
theorem dX8_allHeat_28 : decode cX8_allHeat 28 = .ok (.ireturn, 1) := by decide +kernel
set_option maxHeartbeats 4000000 in
set_option maxRecDepth 100000 in
theorem c_X8_allHeat (l : Launch) (D : va_G) (cy : ClassId) (tw twk twv twh twt : Nat) (tw_size : Int32) (twt_a : Nat → Int32)  (g_0 : 0 ≤ tw_size.toInt ∧ tw_size.toInt ≤ 8) : wk_Ci l yX8_allHeat cX8_allHeat 3 (some .int) { frames := 0, cells := 0, slots := 0, locals := 0 } D cy [.ref tw] [(tw, .inr (8, [.ref twk, .ref twv, .ref twh, .ref twt, .int tw_size])), (twt, .inl (cy, 8, .inl twt_a))] 0 0 (fun (r : Int32) (u : Unit) => r = (fn_X8_allHeat tw_size twt_a)) (fun u => [(tw, .inr (8, [.ref twk, .ref twv, .ref twh, .ref twt, .int tw_size])), (twt, .inl (cy, 8, .inl twt_a))]) := by
  refine wk_mk2Ci (by decide) (Nat.le_of_ble_eq_true rfl) ?_
  intro p e s m args below meth c A ls Q B hA hK hP hD hS hl hret
  obtain ⟨hx, hb, hr, hlocks, hml, hown, htb, hin⟩ := B
  have hl : lv_has ls 3 [(0, .ref tw)] := hl
  have hF : (fn_X8_allHeat tw_size twt_a) = (fn_X8_allHeat tw_size twt_a) := rfl
  conv at hF => rhs; unfold fn_X8_allHeat
  refine lv_iconst (v := 0) hx hb dX8_allHeat_0 (by decide) ?_
  refine lv_istore_n (lv' := [(1, .int 0), (0, .ref tw)]) hx hb dX8_allHeat_1 rfl hl (by decide) rfl (fun ls hl => ?_)
  refine lv_iconst (v := 0) hx hb dX8_allHeat_2 (by decide) ?_
  refine lv_istore_n (lv' := [(2, .int 0), (1, .int 0), (0, .ref tw)]) hx hb dX8_allHeat_3 rfl hl (by decide) rfl (fun ls hl => ?_)
  have hlp_4 : ∀ (fu_4 : Nat) (x1_4 : Int32) (x2_4 : Int32) (H : Heap) (locs : List Loc) (ls : Array Slot), (0 ≤ x2_4.toInt ∧ x2_4.toInt ≤ 8) → 8 - x2_4.toInt < (fu_4 : Int) → ((fn_X8_allHeat tw_size twt_a) = (pm2 (lp_X8_allHeat_4 tw_size twt_a fu_4 x1_4 x2_4) (fun x1_4 x2_4 => x1_4))) → va_P D classes [(tw, .inr (8, [.ref twk, .ref twv, .ref twh, .ref twt, .int tw_size])), (twt, .inl (cy, 8, .inl twt_a))] H → va_D A [(tw, .inr (8, [.ref twk, .ref twv, .ref twh, .ref twt, .int tw_size])), (twt, .inl (cy, 8, .inl twt_a))] → va_S A s.heap H locs → lv_has ls 3 [(2, .int x2_4), (1, .int x1_4), (0, .ref tw)] → W p l e { frames := 0, cells := 0, slots := 0, locals := 0 } s m args below meth c H locs 0 0 Q (F0 m 4 ls []) := by
    intro fu_4
    induction fu_4 with
    | zero =>
      intro x1_4 x2_4 H locs ls hi_4_0 hm hF hP hD hS hl
      exfalso; omega
    | succ fu_4 ih_4 =>
      intro x1_4 x2_4 H locs ls hi_4_0 hm hF hP hD hS hl
      rw [lp_X8_allHeat_4] at hF
      refine lv_iload_n hx hb dX8_allHeat_4 rfl (lv_at hl 0 rfl) ?_
      refine lv_aload_n hx hb dX8_allHeat_5 rfl (lv_at hl 2 rfl) ?_
      refine va_get (D := D) (ci := 8) (v := .int tw_size) (C := RX8) (T := TX8) (N := 5) hx hb htb inX8 hown hK hP 0 rfl rfl 4 (by decide) (htb _ tw_129) (fun _ h9 => h9) rfl dX8_allHeat_6 ?_
      refine lv_icmp_ge (tgt := 27) hx hb dX8_allHeat_9 (by decide) (fun c_1 => ?_) (fun c_1 => ?_)
      · have k_1 : tw_size.toInt ≤ x2_4.toInt := wk_le c_1
        replace hF := hF.trans (pm2_p1 c_1)
        rw [pm2_mk x1_4 x2_4] at hF
        refine lv_iload_n hx hb dX8_allHeat_27 rfl (lv_at hl 1 rfl) ?_
        refine W.widen (k := 0) (n := 0) (by decide) (by decide) ?_
        exact hret x1_4 () _ _ _ 28 (wk_sub9 (is := [0, 1]) hP rfl) (hD.sub [0, 1] rfl rfl) hS dX8_allHeat_28 hF.symm
      · have k_1 : ¬ tw_size.toInt ≤ x2_4.toInt := wk_nle c_1
        replace hF := hF.trans (pm2_n1 c_1)
        refine lv_iload_n hx hb dX8_allHeat_12 rfl (lv_at hl 1 rfl) ?_
        refine lv_aload_n hx hb dX8_allHeat_13 rfl (lv_at hl 2 rfl) ?_
        refine va_get (D := D) (ci := 8) (v := .ref twt) (C := RX8) (T := TX8) (N := 5) hx hb htb inX8 hown hK hP 0 rfl rfl 3 (by decide) (htb _ tw_126) (fun _ h9 => h9) rfl dX8_allHeat_14 ?_
        refine lv_iload_n hx hb dX8_allHeat_17 rfl (lv_at hl 0 rfl) ?_
        refine va_iald hx hb hK hP 1 0 rfl rfl (show vp_in x2_4 8 from vp_in_iff.mpr (show 0 ≤ x2_4.toInt ∧ x2_4.toInt < ((8 : Nat) : Int) from by omega)) dX8_allHeat_18 ?_
        refine lv_iadd hx hb dX8_allHeat_19 ?_
        refine lv_istore_n (lv' := [(1, .int (x1_4 + (twt_a x2_4.toNatClampNeg))), (2, .int x2_4), (0, .ref tw)]) hx hb dX8_allHeat_20 rfl hl (by decide) rfl (fun ls hl => ?_)
        refine lv_iinc (v := (x2_4 + 1)) (lv' := [(2, .int (x2_4 + 1)), (1, .int (x1_4 + (twt_a x2_4.toNatClampNeg))), (0, .ref tw)]) hx hb dX8_allHeat_21 hl (k := 1) rfl rfl (by decide) rfl (fun ls hl => ?_)
        have k_2 : (x2_4 + 1).toInt = x2_4.toInt + 1 := wk_add x2_4.toInt 1 rfl rfl (by omega) (by omega)
        refine lv_goto (tgt := 4) hx hb dX8_allHeat_24 (by decide) ?_
        exact ih_4 (x1_4 + (twt_a x2_4.toNatClampNeg)) (x2_4 + 1) _ _ _ (show 0 ≤ (x2_4 + 1).toInt ∧ (x2_4 + 1).toInt ≤ 8 from by omega) (show 8 - (x2_4 + 1).toInt < ((fu_4 : Nat) : Int) from by omega) hF hP hD hS (lv_sub hl [0, 1, 2] rfl)
  exact hlp_4 10 0 0 _ _ _ (show 0 ≤ 0 ∧ 0 ≤ 8 from by omega) (show 8 - 0 < ((10 : Nat) : Int) from by omega) hF hP hD hS (lv_sub hl [0, 1, 2] rfl)
