def fn_X11_lane_N (a : Int32) (b : Int32) : Int32 := (-101)
theorem dX11_lane_0 : decode cX11_lane 0 = .ok (.aload_n 0, 1) := by decide +kernel
theorem dX11_lane_1 : decode cX11_lane 1 = .ok (.getfield 71, 3) := by decide +kernel
theorem dX11_lane_4 : decode cX11_lane 4 = .ok (.ifnull 12, 3) := by decide +kernel
theorem dX11_lane_16 : decode cX11_lane 16 = .ok (.bipush (-101), 2) := by decide +kernel
theorem dX11_lane_18 : decode cX11_lane 18 = .ok (.ireturn, 1) := by decide +kernel
set_option maxHeartbeats 4000000 in
set_option maxRecDepth 100000 in
theorem c_X11_lane_N (l : Launch) (D : va_G) (cy : ClassId) (x pg wr nw kp wk tr : Nat) (x_rowsRead : Int32) (x_rowOfImage : Int32) (x_bestsDone : Int32) (a : Int32) (b : Int32)  : wk_Ci l yX11_lane cX11_lane 3 (some .int) { frames := 0, cells := 0, slots := 0, locals := 0 } D cy [.ref x, .int a, .int b] [(x, .inr (11, [.ref pg, .ref wr, .ref nw, .ref kp, .ref wk, .ref tr, .null, .int x_rowsRead, .int x_rowOfImage, .int x_bestsDone]))] 0 0 (fun (r : Int32) (u : Unit) => r = (fn_X11_lane_N a b)) (fun u => [(x, .inr (11, [.ref pg, .ref wr, .ref nw, .ref kp, .ref wk, .ref tr, .null, .int x_rowsRead, .int x_rowOfImage, .int x_bestsDone]))]) := by
  refine wk_mk2Ci (by decide) (Nat.le_of_ble_eq_true rfl) ?_
  intro p e s m args below meth c A ls Q B hA hK hP hD hS hl hret
  obtain ⟨hx, hb, hr, hlocks, hml, hown, htb, hin⟩ := B
  have hl : lv_has ls 3 [(0, .ref x), (1, .int a), (2, .int b)] := hl
  have hF : (fn_X11_lane_N a b) = (fn_X11_lane_N a b) := rfl
  conv at hF => rhs; unfold fn_X11_lane_N
  refine lv_aload_n hx hb dX11_lane_0 rfl (lv_at hl 0 rfl) ?_
  refine va_get (D := D) (ci := 11) (v := .null) (C := RX11) (T := TX11) (N := 10) hx hb htb inX11 hown hK hP 0 rfl rfl 6 (by decide) (htb _ tw_258) (fun _ h9 => h9) rfl dX11_lane_1 ?_
  refine lv_ifnullN (tgt := 16) hx hb dX11_lane_4 (by decide) ?_
  refine lv_bipush (v := (-101)) hx hb dX11_lane_16 (by decide) ?_
  refine W.widen (k := 0) (n := 0) (by decide) (by decide) ?_
  exact hret (-101) () _ _ _ 18 (wk_sub9 (is := [0]) hP rfl) (hD.sub [0] rfl rfl) hS dX11_lane_18 hF.symm
def fn_X11_lane_R (nwf_size : Int32) (nwfv_a : Nat → Int32) (nwfh_a : Nat → Int32) (a : Int32) (b : Int32) : Int32 := (if a < 0 then (-101) else (if a < 4 then (if b = 0 then (fn_X8_keysInLane nwf_size nwfh_a a) else (if b = 1 then (fn_X8_widthFrom nwf_size nwfh_a (-1) a) else (if b = 2 then (fn_X8_weightFrom nwf_size nwfv_a nwfh_a (-1) a) else (if b = 3 then (fn_X8_greatestWidth nwf_size nwfh_a a) else (-102))))) else (-101)))
theorem dX11_lane_7 : decode cX11_lane 7 = .ok (.iload_n 1, 1) := by decide +kernel
theorem dX11_lane_8 : decode cX11_lane 8 = .ok (.ifCond .lt 8, 3) := by decide +kernel
theorem dX11_lane_11 : decode cX11_lane 11 = .ok (.iload_n 1, 1) := by decide +kernel
theorem dX11_lane_12 : decode cX11_lane 12 = .ok (.iconst 4, 1) := by decide +kernel
theorem dX11_lane_13 : decode cX11_lane 13 = .ok (.if_icmp .lt 6, 3) := by decide +kernel
theorem dX11_lane_19 : decode cX11_lane 19 = .ok (.iload_n 2, 1) := by decide +kernel
theorem dX11_lane_20 : decode cX11_lane 20 = .ok (.tableswitch 82 0 3 #[32, 44, 57, 70], 32) := by decide +kernel
theorem dX11_lane_52 : decode cX11_lane 52 = .ok (.aload_n 0, 1) := by decide +kernel
theorem dX11_lane_53 : decode cX11_lane 53 = .ok (.getfield 22, 3) := by decide +kernel
theorem dX11_lane_56 : decode cX11_lane 56 = .ok (.getfield 77, 3) := by decide +kernel
theorem dX11_lane_59 : decode cX11_lane 59 = .ok (.iload_n 1, 1) := by decide +kernel
theorem dX11_lane_60 : decode cX11_lane 60 = .ok (.invokevirtual 141, 3) := by decide +kernel
theorem dX11_lane_63 : decode cX11_lane 63 = .ok (.ireturn, 1) := by decide +kernel
theorem dX11_lane_64 : decode cX11_lane 64 = .ok (.aload_n 0, 1) := by decide +kernel
theorem dX11_lane_65 : decode cX11_lane 65 = .ok (.getfield 22, 3) := by decide +kernel
theorem dX11_lane_68 : decode cX11_lane 68 = .ok (.getfield 77, 3) := by decide +kernel
theorem dX11_lane_71 : decode cX11_lane 71 = .ok (.iconst (-1), 1) := by decide +kernel
theorem dX11_lane_72 : decode cX11_lane 72 = .ok (.iload_n 1, 1) := by decide +kernel
theorem dX11_lane_73 : decode cX11_lane 73 = .ok (.invokevirtual 134, 3) := by decide +kernel
theorem dX11_lane_76 : decode cX11_lane 76 = .ok (.ireturn, 1) := by decide +kernel
theorem dX11_lane_77 : decode cX11_lane 77 = .ok (.aload_n 0, 1) := by decide +kernel
theorem dX11_lane_78 : decode cX11_lane 78 = .ok (.getfield 22, 3) := by decide +kernel
theorem dX11_lane_81 : decode cX11_lane 81 = .ok (.getfield 77, 3) := by decide +kernel
theorem dX11_lane_84 : decode cX11_lane 84 = .ok (.iconst (-1), 1) := by decide +kernel
theorem dX11_lane_85 : decode cX11_lane 85 = .ok (.iload_n 1, 1) := by decide +kernel
theorem dX11_lane_86 : decode cX11_lane 86 = .ok (.invokevirtual 138, 3) := by decide +kernel
theorem dX11_lane_89 : decode cX11_lane 89 = .ok (.ireturn, 1) := by decide +kernel
theorem dX11_lane_90 : decode cX11_lane 90 = .ok (.aload_n 0, 1) := by decide +kernel
theorem dX11_lane_91 : decode cX11_lane 91 = .ok (.getfield 22, 3) := by decide +kernel
theorem dX11_lane_94 : decode cX11_lane 94 = .ok (.getfield 77, 3) := by decide +kernel
theorem dX11_lane_97 : decode cX11_lane 97 = .ok (.iload_n 1, 1) := by decide +kernel
theorem dX11_lane_98 : decode cX11_lane 98 = .ok (.invokevirtual 144, 3) := by decide +kernel
theorem dX11_lane_101 : decode cX11_lane 101 = .ok (.ireturn, 1) := by decide +kernel
theorem dX11_lane_102 : decode cX11_lane 102 = .ok (.bipush (-102), 2) := by decide +kernel
theorem dX11_lane_104 : decode cX11_lane 104 = .ok (.ireturn, 1) := by decide +kernel
set_option maxHeartbeats 4000000 in
set_option maxRecDepth 100000 in
theorem c_X11_lane_R (l : Launch) (D : va_G) (cy : ClassId) (x pg wr nw kp wk tr lw nwf nws nwe nwfk nwfv nwfh nwft : Nat) (x_rowsRead : Int32) (x_rowOfImage : Int32) (x_bestsDone : Int32) (nw_asked : Int32) (nw_looksOfAsked : Int32) (nw_changes : Int32) (nwf_size : Int32) (nwfv_a : Nat → Int32) (nwfh_a : Nat → Int32) (a : Int32) (b : Int32) (g_0 : 0 ≤ nwf_size.toInt ∧ nwf_size.toInt ≤ 8) : wk_Ci l yX11_lane cX11_lane 3 (some .int) { frames := 3, cells := 0, slots := 0, locals := 70 } D cy [.ref x, .int a, .int b] [(x, .inr (11, [.ref pg, .ref wr, .ref nw, .ref kp, .ref wk, .ref tr, .ref lw, .int x_rowsRead, .int x_rowOfImage, .int x_bestsDone])), (nw, .inr (2, [.ref nwf, .ref nws, .ref nwe, .int nw_asked, .int nw_looksOfAsked, .int nw_changes])), (nwf, .inr (8, [.ref nwfk, .ref nwfv, .ref nwfh, .ref nwft, .int nwf_size])), (nwfv, .inl (cy, 8, .inl nwfv_a)), (nwfh, .inl (cy, 8, .inl nwfh_a))] 0 0 (fun (r : Int32) (u : Unit) => r = (fn_X11_lane_R nwf_size nwfv_a nwfh_a a b)) (fun u => [(x, .inr (11, [.ref pg, .ref wr, .ref nw, .ref kp, .ref wk, .ref tr, .ref lw, .int x_rowsRead, .int x_rowOfImage, .int x_bestsDone])), (nw, .inr (2, [.ref nwf, .ref nws, .ref nwe, .int nw_asked, .int nw_looksOfAsked, .int nw_changes])), (nwf, .inr (8, [.ref nwfk, .ref nwfv, .ref nwfh, .ref nwft, .int nwf_size])), (nwfv, .inl (cy, 8, .inl nwfv_a)), (nwfh, .inl (cy, 8, .inl nwfh_a))]) := by
  refine wk_mk2Ci (by decide) (Nat.le_of_ble_eq_true rfl) ?_
  intro p e s m args below meth c A ls Q B hA hK hP hD hS hl hret
  obtain ⟨hx, hb, hr, hlocks, hml, hown, htb, hin⟩ := B
  have hl : lv_has ls 3 [(0, .ref x), (1, .int a), (2, .int b)] := hl
  have hF : (fn_X11_lane_R nwf_size nwfv_a nwfh_a a b) = (fn_X11_lane_R nwf_size nwfv_a nwfh_a a b) := rfl
  conv at hF => rhs; unfold fn_X11_lane_R
  refine lv_aload_n hx hb dX11_lane_0 rfl (lv_at hl 0 rfl) ?_
  refine va_get (D := D) (ci := 11) (v := .ref lw) (C := RX11) (T := TX11) (N := 10) hx hb htb inX11 hown hK hP 0 rfl rfl 6 (by decide) (htb _ tw_258) (fun _ h9 => h9) rfl dX11_lane_1 ?_
  refine lv_ifnull hx hb dX11_lane_4 ?_
  refine lv_iload_n hx hb dX11_lane_7 rfl (lv_at hl 1 rfl) ?_
  refine lv_if_lt (tgt := 16) hx hb dX11_lane_8 (by decide) (fun c_1 => ?_) (fun c_1 => ?_)
  · have k_1 : a.toInt < 0 := wk_lt c_1
    replace hF := hF.trans (if_pos c_1)
    refine lv_bipush (v := (-101)) hx hb dX11_lane_16 (by decide) ?_
    refine W.widen (k := 0) (n := 0) (by decide) (by decide) ?_
    exact hret (-101) () _ _ _ 18 (wk_sub9 (is := [0, 1, 2, 3, 4]) hP rfl) (hD.sub [0, 1, 2, 3, 4] rfl rfl) hS dX11_lane_18 hF.symm
  · have k_1 : ¬ a.toInt < 0 := wk_nlt c_1
    replace hF := hF.trans (if_neg c_1)
    refine lv_iload_n hx hb dX11_lane_11 rfl (lv_at hl 1 rfl) ?_
    refine lv_iconst (v := 4) hx hb dX11_lane_12 (by decide) ?_
    refine lv_icmp_lt (tgt := 19) hx hb dX11_lane_13 (by decide) (fun c_2 => ?_) (fun c_2 => ?_)
    · have k_2 : a.toInt < 4 := wk_lt c_2
      replace hF := hF.trans (if_pos c_2)
      refine lv_iload_n hx hb dX11_lane_19 rfl (lv_at hl 2 rfl) ?_
      by_cases c_3 : b = 0
      · refine wk_toi c_3 ?_
        replace hF := hF.trans (if_pos c_3)
        have k_3 : b.toInt = 0 := wk_eq c_3
        refine lv_tableIn (off := 32) (tgt := 52) hx hb dX11_lane_20 (by decide) (by decide) (by decide) (by decide) ?_
        refine lv_aload_n hx hb dX11_lane_52 rfl (lv_at hl 0 rfl) ?_
        refine va_get (D := D) (ci := 11) (v := .ref nw) (C := RX11) (T := TX11) (N := 10) hx hb htb inX11 hown hK hP 0 rfl rfl 2 (by decide) (htb _ tw_254) (fun _ h9 => h9) rfl dX11_lane_53 ?_
        refine va_get (D := D) (ci := 2) (v := .ref nwf) (C := RX2) (T := TX2) (N := 6) hx hb htb inX2 hown hK hP 1 rfl rfl 0 (by decide) (htb _ tw_171) (fun _ h9 => h9) rfl dX11_lane_56 ?_
        refine lv_iload_n hx hb dX11_lane_59 rfl (lv_at hl 1 rfl) ?_
        refine wk_iV (As := [.int a]) (rest := []) (wc := [(nwf, .inr (8, [.ref nwfk, .ref nwfv, .ref nwfh, .ref nwft, .int nwf_size])), (nwfh, .inl (cy, 8, .inl nwfh_a))]) (wr := [(x, .inr (11, [.ref pg, .ref wr, .ref nw, .ref kp, .ref wk, .ref tr, .ref lw, .int x_rowsRead, .int x_rowOfImage, .int x_bestsDone])), (nw, .inr (2, [.ref nwf, .ref nws, .ref nwe, .int nw_asked, .int nw_looksOfAsked, .int nw_changes])), (nwfv, .inl (cy, 8, .inl nwfv_a))]) (n := 1) ⟨hx, hb, hml, hown, htb⟩ (c_X8_keysInLane l D cy nwf nwfk nwfv nwfh nwft nwf_size nwfh_a a (show 0 ≤ nwf_size.toInt ∧ nwf_size.toInt ≤ 8 from by omega)) tw_551 tw_548 tw_549 tw_550 tw_67 rfl rfl (by decide +kernel) ⟨Nat.le_of_ble_eq_true rfl, Nat.le_of_ble_eq_true rfl⟩ hK hP hD hS hA [2, 4] [0, 1, 3] rfl rfl rfl rfl (by decide) 0 (ci := 8) rfl rfl rfl hl.1 rfl (Nat.le_of_ble_eq_true rfl) dX11_lane_60 ⟨Nat.le_of_ble_eq_true rfl, Nat.le_of_ble_eq_true rfl⟩ (fun r_4 u_5 H locs hw_6 hP hD hS => ?_)
        refine W.widen (k := 0) (n := 0) (by decide) (by decide) ?_
        have hw_6 : r_4 = (fn_X8_keysInLane nwf_size nwfh_a a) := hw_6
        subst hw_6
        have hP : va_P D classes [(x, .inr (11, [.ref pg, .ref wr, .ref nw, .ref kp, .ref wk, .ref tr, .ref lw, .int x_rowsRead, .int x_rowOfImage, .int x_bestsDone])), (nw, .inr (2, [.ref nwf, .ref nws, .ref nwe, .int nw_asked, .int nw_looksOfAsked, .int nw_changes])), (nwfv, .inl (cy, 8, .inl nwfv_a)), (nwf, .inr (8, [.ref nwfk, .ref nwfv, .ref nwfh, .ref nwft, .int nwf_size])), (nwfh, .inl (cy, 8, .inl nwfh_a))] H := hP
        have hD : va_D A [(x, .inr (11, [.ref pg, .ref wr, .ref nw, .ref kp, .ref wk, .ref tr, .ref lw, .int x_rowsRead, .int x_rowOfImage, .int x_bestsDone])), (nw, .inr (2, [.ref nwf, .ref nws, .ref nwe, .int nw_asked, .int nw_looksOfAsked, .int nw_changes])), (nwfv, .inl (cy, 8, .inl nwfv_a)), (nwf, .inr (8, [.ref nwfk, .ref nwfv, .ref nwfh, .ref nwft, .int nwf_size])), (nwfh, .inl (cy, 8, .inl nwfh_a))] := hD
        refine W.widen (k := 0) (n := 0) (by decide) (by decide) ?_
        exact hret (fn_X8_keysInLane nwf_size nwfh_a a) () _ _ _ 63 (wk_sub9 (is := [0, 1, 3, 2, 4]) hP rfl) (hD.sub [0, 1, 3, 2, 4] rfl rfl) hS dX11_lane_63 hF.symm
      replace hF := hF.trans (if_neg c_3)
      have k_3 : ¬ b.toInt = 0 := wk_neq c_3
      by_cases c_7 : b = 1
      · refine wk_toi c_7 ?_
        replace hF := hF.trans (if_pos c_7)
        have k_7 : b.toInt = 1 := wk_eq c_7
        refine lv_tableIn (off := 44) (tgt := 64) hx hb dX11_lane_20 (by decide) (by decide) (by decide) (by decide) ?_
        refine lv_aload_n hx hb dX11_lane_64 rfl (lv_at hl 0 rfl) ?_
        refine va_get (D := D) (ci := 11) (v := .ref nw) (C := RX11) (T := TX11) (N := 10) hx hb htb inX11 hown hK hP 0 rfl rfl 2 (by decide) (htb _ tw_254) (fun _ h9 => h9) rfl dX11_lane_65 ?_
        refine va_get (D := D) (ci := 2) (v := .ref nwf) (C := RX2) (T := TX2) (N := 6) hx hb htb inX2 hown hK hP 1 rfl rfl 0 (by decide) (htb _ tw_171) (fun _ h9 => h9) rfl dX11_lane_68 ?_
        refine lv_iconst (v := (-1)) hx hb dX11_lane_71 (by decide) ?_
        refine lv_iload_n hx hb dX11_lane_72 rfl (lv_at hl 1 rfl) ?_
        refine wk_iV (As := [.int (-1), .int a]) (rest := []) (wc := [(nwf, .inr (8, [.ref nwfk, .ref nwfv, .ref nwfh, .ref nwft, .int nwf_size])), (nwfh, .inl (cy, 8, .inl nwfh_a))]) (wr := [(x, .inr (11, [.ref pg, .ref wr, .ref nw, .ref kp, .ref wk, .ref tr, .ref lw, .int x_rowsRead, .int x_rowOfImage, .int x_bestsDone])), (nw, .inr (2, [.ref nwf, .ref nws, .ref nwe, .int nw_asked, .int nw_looksOfAsked, .int nw_changes])), (nwfv, .inl (cy, 8, .inl nwfv_a))]) (n := 2) ⟨hx, hb, hml, hown, htb⟩ (c_X8_widthFrom l D cy nwf nwfk nwfv nwfh nwft nwf_size nwfh_a (-1) a (show 0 ≤ nwf_size.toInt ∧ nwf_size.toInt ≤ 8 from by omega) (show (-1) ≤ (-1) ∧ (-1) ≤ 7 from by omega)) tw_534 tw_531 tw_532 tw_533 tw_67 rfl rfl (by decide +kernel) ⟨Nat.le_of_ble_eq_true rfl, Nat.le_of_ble_eq_true rfl⟩ hK hP hD hS hA [2, 4] [0, 1, 3] rfl rfl rfl rfl (by decide) 0 (ci := 8) rfl rfl rfl hl.1 rfl (Nat.le_of_ble_eq_true rfl) dX11_lane_73 ⟨Nat.le_of_ble_eq_true rfl, Nat.le_of_ble_eq_true rfl⟩ (fun r_8 u_9 H locs hw_10 hP hD hS => ?_)
        refine W.widen (k := 0) (n := 0) (by decide) (by decide) ?_
        have hw_10 : r_8 = (fn_X8_widthFrom nwf_size nwfh_a (-1) a) := hw_10
        subst hw_10
        have hP : va_P D classes [(x, .inr (11, [.ref pg, .ref wr, .ref nw, .ref kp, .ref wk, .ref tr, .ref lw, .int x_rowsRead, .int x_rowOfImage, .int x_bestsDone])), (nw, .inr (2, [.ref nwf, .ref nws, .ref nwe, .int nw_asked, .int nw_looksOfAsked, .int nw_changes])), (nwfv, .inl (cy, 8, .inl nwfv_a)), (nwf, .inr (8, [.ref nwfk, .ref nwfv, .ref nwfh, .ref nwft, .int nwf_size])), (nwfh, .inl (cy, 8, .inl nwfh_a))] H := hP
        have hD : va_D A [(x, .inr (11, [.ref pg, .ref wr, .ref nw, .ref kp, .ref wk, .ref tr, .ref lw, .int x_rowsRead, .int x_rowOfImage, .int x_bestsDone])), (nw, .inr (2, [.ref nwf, .ref nws, .ref nwe, .int nw_asked, .int nw_looksOfAsked, .int nw_changes])), (nwfv, .inl (cy, 8, .inl nwfv_a)), (nwf, .inr (8, [.ref nwfk, .ref nwfv, .ref nwfh, .ref nwft, .int nwf_size])), (nwfh, .inl (cy, 8, .inl nwfh_a))] := hD
        refine W.widen (k := 0) (n := 0) (by decide) (by decide) ?_
        exact hret (fn_X8_widthFrom nwf_size nwfh_a (-1) a) () _ _ _ 76 (wk_sub9 (is := [0, 1, 3, 2, 4]) hP rfl) (hD.sub [0, 1, 3, 2, 4] rfl rfl) hS dX11_lane_76 hF.symm
      replace hF := hF.trans (if_neg c_7)
      have k_7 : ¬ b.toInt = 1 := wk_neq c_7
      by_cases c_11 : b = 2
      · refine wk_toi c_11 ?_
        replace hF := hF.trans (if_pos c_11)
        have k_11 : b.toInt = 2 := wk_eq c_11
        refine lv_tableIn (off := 57) (tgt := 77) hx hb dX11_lane_20 (by decide) (by decide) (by decide) (by decide) ?_
        refine lv_aload_n hx hb dX11_lane_77 rfl (lv_at hl 0 rfl) ?_
        refine va_get (D := D) (ci := 11) (v := .ref nw) (C := RX11) (T := TX11) (N := 10) hx hb htb inX11 hown hK hP 0 rfl rfl 2 (by decide) (htb _ tw_254) (fun _ h9 => h9) rfl dX11_lane_78 ?_
        refine va_get (D := D) (ci := 2) (v := .ref nwf) (C := RX2) (T := TX2) (N := 6) hx hb htb inX2 hown hK hP 1 rfl rfl 0 (by decide) (htb _ tw_171) (fun _ h9 => h9) rfl dX11_lane_81 ?_
        refine lv_iconst (v := (-1)) hx hb dX11_lane_84 (by decide) ?_
        refine lv_iload_n hx hb dX11_lane_85 rfl (lv_at hl 1 rfl) ?_
        refine wk_iV (As := [.int (-1), .int a]) (rest := []) (wc := [(nwf, .inr (8, [.ref nwfk, .ref nwfv, .ref nwfh, .ref nwft, .int nwf_size])), (nwfv, .inl (cy, 8, .inl nwfv_a)), (nwfh, .inl (cy, 8, .inl nwfh_a))]) (wr := [(x, .inr (11, [.ref pg, .ref wr, .ref nw, .ref kp, .ref wk, .ref tr, .ref lw, .int x_rowsRead, .int x_rowOfImage, .int x_bestsDone])), (nw, .inr (2, [.ref nwf, .ref nws, .ref nwe, .int nw_asked, .int nw_looksOfAsked, .int nw_changes]))]) (n := 2) ⟨hx, hb, hml, hown, htb⟩ (c_X8_weightFrom l D cy nwf nwfk nwfv nwfh nwft nwf_size nwfv_a nwfh_a (-1) a (show 0 ≤ nwf_size.toInt ∧ nwf_size.toInt ≤ 8 from by omega) (show (-1) ≤ (-1) ∧ (-1) ≤ 7 from by omega)) tw_543 tw_540 tw_541 tw_542 tw_67 rfl rfl (by decide +kernel) ⟨Nat.le_of_ble_eq_true rfl, Nat.le_of_ble_eq_true rfl⟩ hK hP hD hS hA [2, 3, 4] [0, 1] rfl rfl rfl rfl (by decide) 0 (ci := 8) rfl rfl rfl hl.1 rfl (Nat.le_of_ble_eq_true rfl) dX11_lane_86 ⟨Nat.le_of_ble_eq_true rfl, Nat.le_of_ble_eq_true rfl⟩ (fun r_12 u_13 H locs hw_14 hP hD hS => ?_)
        refine W.widen (k := 0) (n := 0) (by decide) (by decide) ?_
        have hw_14 : r_12 = (fn_X8_weightFrom nwf_size nwfv_a nwfh_a (-1) a) := hw_14
        subst hw_14
        have hP : va_P D classes [(x, .inr (11, [.ref pg, .ref wr, .ref nw, .ref kp, .ref wk, .ref tr, .ref lw, .int x_rowsRead, .int x_rowOfImage, .int x_bestsDone])), (nw, .inr (2, [.ref nwf, .ref nws, .ref nwe, .int nw_asked, .int nw_looksOfAsked, .int nw_changes])), (nwf, .inr (8, [.ref nwfk, .ref nwfv, .ref nwfh, .ref nwft, .int nwf_size])), (nwfv, .inl (cy, 8, .inl nwfv_a)), (nwfh, .inl (cy, 8, .inl nwfh_a))] H := hP
        have hD : va_D A [(x, .inr (11, [.ref pg, .ref wr, .ref nw, .ref kp, .ref wk, .ref tr, .ref lw, .int x_rowsRead, .int x_rowOfImage, .int x_bestsDone])), (nw, .inr (2, [.ref nwf, .ref nws, .ref nwe, .int nw_asked, .int nw_looksOfAsked, .int nw_changes])), (nwf, .inr (8, [.ref nwfk, .ref nwfv, .ref nwfh, .ref nwft, .int nwf_size])), (nwfv, .inl (cy, 8, .inl nwfv_a)), (nwfh, .inl (cy, 8, .inl nwfh_a))] := hD
        refine W.widen (k := 0) (n := 0) (by decide) (by decide) ?_
        exact hret (fn_X8_weightFrom nwf_size nwfv_a nwfh_a (-1) a) () _ _ _ 89 (wk_sub9 (is := [0, 1, 2, 3, 4]) hP rfl) (hD.sub [0, 1, 2, 3, 4] rfl rfl) hS dX11_lane_89 hF.symm
      replace hF := hF.trans (if_neg c_11)
      have k_11 : ¬ b.toInt = 2 := wk_neq c_11
      by_cases c_15 : b = 3
      · refine wk_toi c_15 ?_
        replace hF := hF.trans (if_pos c_15)
        have k_15 : b.toInt = 3 := wk_eq c_15
        refine lv_tableIn (off := 70) (tgt := 90) hx hb dX11_lane_20 (by decide) (by decide) (by decide) (by decide) ?_
        refine lv_aload_n hx hb dX11_lane_90 rfl (lv_at hl 0 rfl) ?_
        refine va_get (D := D) (ci := 11) (v := .ref nw) (C := RX11) (T := TX11) (N := 10) hx hb htb inX11 hown hK hP 0 rfl rfl 2 (by decide) (htb _ tw_254) (fun _ h9 => h9) rfl dX11_lane_91 ?_
        refine va_get (D := D) (ci := 2) (v := .ref nwf) (C := RX2) (T := TX2) (N := 6) hx hb htb inX2 hown hK hP 1 rfl rfl 0 (by decide) (htb _ tw_171) (fun _ h9 => h9) rfl dX11_lane_94 ?_
        refine lv_iload_n hx hb dX11_lane_97 rfl (lv_at hl 1 rfl) ?_
        refine wk_iV (As := [.int a]) (rest := []) (wc := [(nwf, .inr (8, [.ref nwfk, .ref nwfv, .ref nwfh, .ref nwft, .int nwf_size])), (nwfh, .inl (cy, 8, .inl nwfh_a))]) (wr := [(x, .inr (11, [.ref pg, .ref wr, .ref nw, .ref kp, .ref wk, .ref tr, .ref lw, .int x_rowsRead, .int x_rowOfImage, .int x_bestsDone])), (nw, .inr (2, [.ref nwf, .ref nws, .ref nwe, .int nw_asked, .int nw_looksOfAsked, .int nw_changes])), (nwfv, .inl (cy, 8, .inl nwfv_a))]) (n := 1) ⟨hx, hb, hml, hown, htb⟩ (c_X8_greatestWidth l D cy nwf nwfk nwfv nwfh nwft nwf_size nwfh_a a (show 0 ≤ nwf_size.toInt ∧ nwf_size.toInt ≤ 8 from by omega)) tw_555 tw_552 tw_553 tw_554 tw_67 rfl rfl (by decide +kernel) ⟨Nat.le_of_ble_eq_true rfl, Nat.le_of_ble_eq_true rfl⟩ hK hP hD hS hA [2, 4] [0, 1, 3] rfl rfl rfl rfl (by decide) 0 (ci := 8) rfl rfl rfl hl.1 rfl (Nat.le_of_ble_eq_true rfl) dX11_lane_98 ⟨Nat.le_of_ble_eq_true rfl, Nat.le_of_ble_eq_true rfl⟩ (fun r_16 u_17 H locs hw_18 hP hD hS => ?_)
        refine W.widen (k := 0) (n := 0) (by decide) (by decide) ?_
        have hw_18 : r_16 = (fn_X8_greatestWidth nwf_size nwfh_a a) := hw_18
        subst hw_18
        have hP : va_P D classes [(x, .inr (11, [.ref pg, .ref wr, .ref nw, .ref kp, .ref wk, .ref tr, .ref lw, .int x_rowsRead, .int x_rowOfImage, .int x_bestsDone])), (nw, .inr (2, [.ref nwf, .ref nws, .ref nwe, .int nw_asked, .int nw_looksOfAsked, .int nw_changes])), (nwfv, .inl (cy, 8, .inl nwfv_a)), (nwf, .inr (8, [.ref nwfk, .ref nwfv, .ref nwfh, .ref nwft, .int nwf_size])), (nwfh, .inl (cy, 8, .inl nwfh_a))] H := hP
        have hD : va_D A [(x, .inr (11, [.ref pg, .ref wr, .ref nw, .ref kp, .ref wk, .ref tr, .ref lw, .int x_rowsRead, .int x_rowOfImage, .int x_bestsDone])), (nw, .inr (2, [.ref nwf, .ref nws, .ref nwe, .int nw_asked, .int nw_looksOfAsked, .int nw_changes])), (nwfv, .inl (cy, 8, .inl nwfv_a)), (nwf, .inr (8, [.ref nwfk, .ref nwfv, .ref nwfh, .ref nwft, .int nwf_size])), (nwfh, .inl (cy, 8, .inl nwfh_a))] := hD
        refine W.widen (k := 0) (n := 0) (by decide) (by decide) ?_
        exact hret (fn_X8_greatestWidth nwf_size nwfh_a a) () _ _ _ 101 (wk_sub9 (is := [0, 1, 3, 2, 4]) hP rfl) (hD.sub [0, 1, 3, 2, 4] rfl rfl) hS dX11_lane_101 hF.symm
      replace hF := hF.trans (if_neg c_15)
      have k_15 : ¬ b.toInt = 3 := wk_neq c_15
      refine lv_tableOut (tgt := 102) hx hb dX11_lane_20 (show b.toInt < 0 ∨ 3 < b.toInt from by omega) (by decide) ?_
      refine lv_bipush (v := (-102)) hx hb dX11_lane_102 (by decide) ?_
      refine W.widen (k := 0) (n := 0) (by decide) (by decide) ?_
      exact hret (-102) () _ _ _ 104 (wk_sub9 (is := [0, 1, 2, 3, 4]) hP rfl) (hD.sub [0, 1, 2, 3, 4] rfl rfl) hS dX11_lane_104 hF.symm
    · have k_2 : ¬ a.toInt < 4 := wk_nlt c_2
      replace hF := hF.trans (if_neg c_2)
      refine lv_bipush (v := (-101)) hx hb dX11_lane_16 (by decide) ?_
      refine W.widen (k := 0) (n := 0) (by decide) (by decide) ?_
      exact hret (-101) () _ _ _ 18 (wk_sub9 (is := [0, 1, 2, 3, 4]) hP rfl) (hD.sub [0, 1, 2, 3, 4] rfl rfl) hS dX11_lane_18 hF.symm
def fn_X11_find_N (a : Int32) (b : Int32) : Int32 := (if (fn_X11_isNoKey a) = 0 then (if b < 0 then (-102) else (if b ≤ 3 then (-103) else (-102))) else (-102))
theorem dX11_find_0 : decode cX11_find 0 = .ok (.iload_n 1, 1) := by decide +kernel
theorem dX11_find_1 : decode cX11_find 1 = .ok (.invokestatic 147, 3) := by decide +kernel
theorem dX11_find_4 : decode cX11_find 4 = .ok (.ifCond .ne 12, 3) := by decide +kernel
theorem dX11_find_7 : decode cX11_find 7 = .ok (.iload_n 2, 1) := by decide +kernel
theorem dX11_find_8 : decode cX11_find 8 = .ok (.ifCond .lt 8, 3) := by decide +kernel
theorem dX11_find_11 : decode cX11_find 11 = .ok (.iload_n 2, 1) := by decide +kernel
theorem dX11_find_12 : decode cX11_find 12 = .ok (.iconst 3, 1) := by decide +kernel
theorem dX11_find_13 : decode cX11_find 13 = .ok (.if_icmp .le 6, 3) := by decide +kernel
theorem dX11_find_16 : decode cX11_find 16 = .ok (.bipush (-102), 2) := by decide +kernel
theorem dX11_find_18 : decode cX11_find 18 = .ok (.ireturn, 1) := by decide +kernel
theorem dX11_find_19 : decode cX11_find 19 = .ok (.aload_n 0, 1) := by decide +kernel
theorem dX11_find_20 : decode cX11_find 20 = .ok (.getfield 71, 3) := by decide +kernel
theorem dX11_find_23 : decode cX11_find 23 = .ok (.ifnonnull 6, 3) := by decide +kernel
theorem dX11_find_26 : decode cX11_find 26 = .ok (.bipush (-103), 2) := by decide +kernel
theorem dX11_find_28 : decode cX11_find 28 = .ok (.ireturn, 1) := by decide +kernel
set_option maxHeartbeats 4000000 in
set_option maxRecDepth 100000 in
theorem c_X11_find_N (l : Launch) (D : va_G) (cy : ClassId) (x pg wr nw kp wk tr : Nat) (x_rowsRead : Int32) (x_rowOfImage : Int32) (x_bestsDone : Int32) (a : Int32) (b : Int32)  : wk_Ci l yX11_find cX11_find 3 (some .int) { frames := 1, cells := 0, slots := 0, locals := 20 } D cy [.ref x, .int a, .int b] [(x, .inr (11, [.ref pg, .ref wr, .ref nw, .ref kp, .ref wk, .ref tr, .null, .int x_rowsRead, .int x_rowOfImage, .int x_bestsDone]))] 0 0 (fun (r : Int32) (u : Unit) => r = (fn_X11_find_N a b)) (fun u => [(x, .inr (11, [.ref pg, .ref wr, .ref nw, .ref kp, .ref wk, .ref tr, .null, .int x_rowsRead, .int x_rowOfImage, .int x_bestsDone]))]) := by
  refine wk_mk2Ci (by decide) (Nat.le_of_ble_eq_true rfl) ?_
  intro p e s m args below meth c A ls Q B hA hK hP hD hS hl hret
  obtain ⟨hx, hb, hr, hlocks, hml, hown, htb, hin⟩ := B
  have hl : lv_has ls 3 [(0, .ref x), (1, .int a), (2, .int b)] := hl
  have hF : (fn_X11_find_N a b) = (fn_X11_find_N a b) := rfl
  conv at hF => rhs; unfold fn_X11_find_N
  refine lv_iload_n hx hb dX11_find_0 rfl (lv_at hl 1 rfl) ?_
  refine wk_iS (As := [.int a]) (rest := []) (wc := []) (wr := [(x, .inr (11, [.ref pg, .ref wr, .ref nw, .ref kp, .ref wk, .ref tr, .null, .int x_rowsRead, .int x_rowOfImage, .int x_bestsDone]))]) (n := 1) ⟨hx, hb, hml, hown, htb⟩ (c_X11_isNoKey l D cy   a ) tw_563 tw_561 tw_562 tw_64 rfl rfl (by decide +kernel) ⟨Nat.le_of_ble_eq_true rfl, Nat.le_of_ble_eq_true rfl⟩ hK hP hD hS hA [] [0] rfl rfl rfl rfl (by decide) rfl hl.1 rfl (Nat.le_of_ble_eq_true rfl) dX11_find_1 ⟨Nat.le_of_ble_eq_true rfl, Nat.le_of_ble_eq_true rfl⟩ (fun r_1 u_2 H locs hw_3 hP hD hS => ?_)
  refine W.widen (k := 0) (n := 0) (by decide) (by decide) ?_
  obtain ⟨hw_3, k_4, k_5⟩ := hw_3
  have hw_3 : r_1 = (fn_X11_isNoKey a) := hw_3
  subst hw_3
  have k_4 : ((fn_X11_isNoKey a) = 0 ∨ (fn_X11_isNoKey a) = 1) := k_4
  have k_5 : (wk_or ((fn_X11_isNoKey a).toInt = 1) (0 ≤ a.toInt ∧ a.toInt ≤ 99)) := k_5
  have k_6 : 0 ≤ (fn_X11_isNoKey a).toInt ∧ (fn_X11_isNoKey a).toInt ≤ 1 := wk_b01 (by assumption)
  have hP : va_P D classes [(x, .inr (11, [.ref pg, .ref wr, .ref nw, .ref kp, .ref wk, .ref tr, .null, .int x_rowsRead, .int x_rowOfImage, .int x_bestsDone]))] H := hP
  have hD : va_D A [(x, .inr (11, [.ref pg, .ref wr, .ref nw, .ref kp, .ref wk, .ref tr, .null, .int x_rowsRead, .int x_rowOfImage, .int x_bestsDone]))] := hD
  refine lv_if_ne (tgt := 16) hx hb dX11_find_4 (by decide) (fun c_7 => ?_) (fun c_7 => ?_)
  · have k_7 : ¬ (fn_X11_isNoKey a).toInt = 0 := wk_neq c_7
    replace hF := hF.trans (if_neg c_7)
    refine lv_bipush (v := (-102)) hx hb dX11_find_16 (by decide) ?_
    refine W.widen (k := 0) (n := 0) (by decide) (by decide) ?_
    exact hret (-102) () _ _ _ 18 (wk_sub9 (is := [0]) hP rfl) (hD.sub [0] rfl rfl) hS dX11_find_18 hF.symm
  · have k_7 : (fn_X11_isNoKey a).toInt = 0 := wk_eq c_7
    have k_8 : 0 ≤ a.toInt ∧ a.toInt ≤ 99 := wk_orR k_5 (by rw [k_7]; decide)
    replace hF := hF.trans (if_pos c_7)
    refine lv_iload_n hx hb dX11_find_7 rfl (lv_at hl 2 rfl) ?_
    refine lv_if_lt (tgt := 16) hx hb dX11_find_8 (by decide) (fun c_9 => ?_) (fun c_9 => ?_)
    · have k_9 : b.toInt < 0 := wk_lt c_9
      replace hF := hF.trans (if_pos c_9)
      refine lv_bipush (v := (-102)) hx hb dX11_find_16 (by decide) ?_
      refine W.widen (k := 0) (n := 0) (by decide) (by decide) ?_
      exact hret (-102) () _ _ _ 18 (wk_sub9 (is := [0]) hP rfl) (hD.sub [0] rfl rfl) hS dX11_find_18 hF.symm
    · have k_9 : ¬ b.toInt < 0 := wk_nlt c_9
      replace hF := hF.trans (if_neg c_9)
      refine lv_iload_n hx hb dX11_find_11 rfl (lv_at hl 2 rfl) ?_
      refine lv_iconst (v := 3) hx hb dX11_find_12 (by decide) ?_
      refine lv_icmp_le (tgt := 19) hx hb dX11_find_13 (by decide) (fun c_10 => ?_) (fun c_10 => ?_)
      · have k_10 : b.toInt ≤ 3 := wk_le c_10
        replace hF := hF.trans (if_pos c_10)
        refine lv_aload_n hx hb dX11_find_19 rfl (lv_at hl 0 rfl) ?_
        refine va_get (D := D) (ci := 11) (v := .null) (C := RX11) (T := TX11) (N := 10) hx hb htb inX11 hown hK hP 0 rfl rfl 6 (by decide) (htb _ tw_258) (fun _ h9 => h9) rfl dX11_find_20 ?_
        refine lv_ifnonnullN hx hb dX11_find_23 ?_
        refine lv_bipush (v := (-103)) hx hb dX11_find_26 (by decide) ?_
        refine W.widen (k := 0) (n := 0) (by decide) (by decide) ?_
        exact hret (-103) () _ _ _ 28 (wk_sub9 (is := [0]) hP rfl) (hD.sub [0] rfl rfl) hS dX11_find_28 hF.symm
      · have k_10 : ¬ b.toInt ≤ 3 := wk_nle c_10
        replace hF := hF.trans (if_neg c_10)
        refine lv_bipush (v := (-102)) hx hb dX11_find_16 (by decide) ?_
        refine W.widen (k := 0) (n := 0) (by decide) (by decide) ?_
        exact hret (-102) () _ _ _ 18 (wk_sub9 (is := [0]) hP rfl) (hD.sub [0] rfl rfl) hS dX11_find_18 hF.symm
def fn_X11_find_R (nwf_size : Int32) (nwfk_a : Nat → Int32) (nwfv_a : Nat → Int32) (nwfh_a : Nat → Int32) (wk_number : Int32) (wk_lane : Int32) (wk_looks : Int32) (a : Int32) (b : Int32) : Int32 × Int32 × Int32 × Int32 := (if (fn_X11_isNoKey a) = 0 then (if b < 0 then ((-102), wk_number, wk_lane, wk_looks) else (if b ≤ 3 then (pm2 (fn_X10_go wk_number wk_lane wk_looks nwf_size nwfk_a nwfh_a (-1) a) (fun o_13 t_ => (pm2 (t_) (fun o_14 o_15 => (if b = 0 then (o_13, o_13, o_14, o_15) else (if b = 1 then (o_15, o_13, o_14, o_15) else (if b = 2 then (o_14, o_13, o_14, o_15) else ((fn_X11_valueOf nwf_size nwfv_a o_13), o_13, o_14, o_15)))))))) else ((-102), wk_number, wk_lane, wk_looks))) else ((-102), wk_number, wk_lane, wk_looks))
theorem dX11_find_29 : decode cX11_find 29 = .ok (.aload_n 0, 1) := by decide +kernel
theorem dX11_find_30 : decode cX11_find 30 = .ok (.getfield 32, 3) := by decide +kernel
theorem dX11_find_33 : decode cX11_find 33 = .ok (.aload_n 0, 1) := by decide +kernel
theorem dX11_find_34 : decode cX11_find 34 = .ok (.getfield 22, 3) := by decide +kernel
theorem dX11_find_37 : decode cX11_find 37 = .ok (.getfield 77, 3) := by decide +kernel
theorem dX11_find_40 : decode cX11_find 40 = .ok (.aload_n 0, 1) := by decide +kernel
theorem dX11_find_41 : decode cX11_find 41 = .ok (.getfield 22, 3) := by decide +kernel
theorem dX11_find_44 : decode cX11_find 44 = .ok (.getfield 77, 3) := by decide +kernel
theorem dX11_find_47 : decode cX11_find 47 = .ok (.getfield 111, 3) := by decide +kernel
theorem dX11_find_50 : decode cX11_find 50 = .ok (.iconst (-1), 1) := by decide +kernel
theorem dX11_find_51 : decode cX11_find 51 = .ok (.iload_n 1, 1) := by decide +kernel
theorem dX11_find_52 : decode cX11_find 52 = .ok (.invokevirtual 150, 3) := by decide +kernel
theorem dX11_find_55 : decode cX11_find 55 = .ok (.iload_n 2, 1) := by decide +kernel
theorem dX11_find_56 : decode cX11_find 56 = .ok (.tableswitch 52 0 2 #[28, 36, 44], 28) := by decide +kernel
theorem dX11_find_84 : decode cX11_find 84 = .ok (.aload_n 0, 1) := by decide +kernel
theorem dX11_find_85 : decode cX11_find 85 = .ok (.getfield 32, 3) := by decide +kernel
theorem dX11_find_88 : decode cX11_find 88 = .ok (.getfield 154, 3) := by decide +kernel
theorem dX11_find_91 : decode cX11_find 91 = .ok (.ireturn, 1) := by decide +kernel
theorem dX11_find_92 : decode cX11_find 92 = .ok (.aload_n 0, 1) := by decide +kernel
theorem dX11_find_93 : decode cX11_find 93 = .ok (.getfield 32, 3) := by decide +kernel
theorem dX11_find_96 : decode cX11_find 96 = .ok (.getfield 157, 3) := by decide +kernel
theorem dX11_find_99 : decode cX11_find 99 = .ok (.ireturn, 1) := by decide +kernel
theorem dX11_find_100 : decode cX11_find 100 = .ok (.aload_n 0, 1) := by decide +kernel
theorem dX11_find_101 : decode cX11_find 101 = .ok (.getfield 32, 3) := by decide +kernel
theorem dX11_find_104 : decode cX11_find 104 = .ok (.getfield 160, 3) := by decide +kernel
theorem dX11_find_107 : decode cX11_find 107 = .ok (.ireturn, 1) := by decide +kernel
theorem dX11_find_108 : decode cX11_find 108 = .ok (.aload_n 0, 1) := by decide +kernel
theorem dX11_find_109 : decode cX11_find 109 = .ok (.aload_n 0, 1) := by decide +kernel
theorem dX11_find_110 : decode cX11_find 110 = .ok (.getfield 32, 3) := by decide +kernel
theorem dX11_find_113 : decode cX11_find 113 = .ok (.getfield 154, 3) := by decide +kernel
theorem dX11_find_116 : decode cX11_find 116 = .ok (.invokevirtual 163, 3) := by decide +kernel
theorem dX11_find_119 : decode cX11_find 119 = .ok (.ireturn, 1) := by decide +kernel
set_option maxHeartbeats 4000000 in
set_option maxRecDepth 100000 in
theorem c_X11_find_R (l : Launch) (D : va_G) (cy : ClassId) (x pg wr nw kp wk tr lw nwf nws nwe nwfk nwfv nwfh nwft : Nat) (x_rowsRead : Int32) (x_rowOfImage : Int32) (x_bestsDone : Int32) (nw_asked : Int32) (nw_looksOfAsked : Int32) (nw_changes : Int32) (nwf_size : Int32) (nwfk_a : Nat → Int32) (nwfv_a : Nat → Int32) (nwfh_a : Nat → Int32) (wk_number : Int32) (wk_lane : Int32) (wk_looks : Int32) (a : Int32) (b : Int32) (g_0 : 0 ≤ nwf_size.toInt ∧ nwf_size.toInt ≤ 8) (g_1 : (-1) ≤ wk_number.toInt ∧ wk_number.toInt ≤ 7) : wk_Ci l yX11_find cX11_find 3 (some .int) { frames := 3, cells := 0, slots := 0, locals := 65 } D cy [.ref x, .int a, .int b] [(x, .inr (11, [.ref pg, .ref wr, .ref nw, .ref kp, .ref wk, .ref tr, .ref lw, .int x_rowsRead, .int x_rowOfImage, .int x_bestsDone])), (nw, .inr (2, [.ref nwf, .ref nws, .ref nwe, .int nw_asked, .int nw_looksOfAsked, .int nw_changes])), (nwf, .inr (8, [.ref nwfk, .ref nwfv, .ref nwfh, .ref nwft, .int nwf_size])), (nwfk, .inl (cy, 8, .inl nwfk_a)), (nwfv, .inl (cy, 8, .inl nwfv_a)), (nwfh, .inl (cy, 8, .inl nwfh_a)), (wk, .inr (10, [.int wk_number, .int wk_lane, .int wk_looks]))] 0 0 (fun (r : Int32) (u : Int32 × Int32 × Int32) => (r, u) = (fn_X11_find_R nwf_size nwfk_a nwfv_a nwfh_a wk_number wk_lane wk_looks a b) ∧ ((-1) ≤ u.1.toInt ∧ u.1.toInt ≤ 7)) (fun u => [(x, .inr (11, [.ref pg, .ref wr, .ref nw, .ref kp, .ref wk, .ref tr, .ref lw, .int x_rowsRead, .int x_rowOfImage, .int x_bestsDone])), (nw, .inr (2, [.ref nwf, .ref nws, .ref nwe, .int nw_asked, .int nw_looksOfAsked, .int nw_changes])), (nwf, .inr (8, [.ref nwfk, .ref nwfv, .ref nwfh, .ref nwft, .int nwf_size])), (nwfk, .inl (cy, 8, .inl nwfk_a)), (nwfv, .inl (cy, 8, .inl nwfv_a)), (nwfh, .inl (cy, 8, .inl nwfh_a)), (wk, .inr (10, [.int u.1, .int u.2.1, .int u.2.2]))]) := by
  refine wk_mk2Ci (by decide) (Nat.le_of_ble_eq_true rfl) ?_
  intro p e s m args below meth c A ls Q B hA hK hP hD hS hl hret
  obtain ⟨hx, hb, hr, hlocks, hml, hown, htb, hin⟩ := B
  have hl : lv_has ls 3 [(0, .ref x), (1, .int a), (2, .int b)] := hl
  have hF : (fn_X11_find_R nwf_size nwfk_a nwfv_a nwfh_a wk_number wk_lane wk_looks a b) = (fn_X11_find_R nwf_size nwfk_a nwfv_a nwfh_a wk_number wk_lane wk_looks a b) := rfl
  conv at hF => rhs; unfold fn_X11_find_R
  refine lv_iload_n hx hb dX11_find_0 rfl (lv_at hl 1 rfl) ?_
  refine wk_iS (As := [.int a]) (rest := []) (wc := []) (wr := [(x, .inr (11, [.ref pg, .ref wr, .ref nw, .ref kp, .ref wk, .ref tr, .ref lw, .int x_rowsRead, .int x_rowOfImage, .int x_bestsDone])), (nw, .inr (2, [.ref nwf, .ref nws, .ref nwe, .int nw_asked, .int nw_looksOfAsked, .int nw_changes])), (nwf, .inr (8, [.ref nwfk, .ref nwfv, .ref nwfh, .ref nwft, .int nwf_size])), (nwfk, .inl (cy, 8, .inl nwfk_a)), (nwfv, .inl (cy, 8, .inl nwfv_a)), (nwfh, .inl (cy, 8, .inl nwfh_a)), (wk, .inr (10, [.int wk_number, .int wk_lane, .int wk_looks]))]) (n := 1) ⟨hx, hb, hml, hown, htb⟩ (c_X11_isNoKey l D cy   a ) tw_563 tw_561 tw_562 tw_64 rfl rfl (by decide +kernel) ⟨Nat.le_of_ble_eq_true rfl, Nat.le_of_ble_eq_true rfl⟩ hK hP hD hS hA [] [0, 1, 2, 3, 4, 5, 6] rfl rfl rfl rfl (by decide) rfl hl.1 rfl (Nat.le_of_ble_eq_true rfl) dX11_find_1 ⟨Nat.le_of_ble_eq_true rfl, Nat.le_of_ble_eq_true rfl⟩ (fun r_1 u_2 H locs hw_3 hP hD hS => ?_)
  refine W.widen (k := 0) (n := 0) (by decide) (by decide) ?_
  obtain ⟨hw_3, k_4, k_5⟩ := hw_3
  have hw_3 : r_1 = (fn_X11_isNoKey a) := hw_3
  subst hw_3
  have k_4 : ((fn_X11_isNoKey a) = 0 ∨ (fn_X11_isNoKey a) = 1) := k_4
  have k_5 : (wk_or ((fn_X11_isNoKey a).toInt = 1) (0 ≤ a.toInt ∧ a.toInt ≤ 99)) := k_5
  have k_6 : 0 ≤ (fn_X11_isNoKey a).toInt ∧ (fn_X11_isNoKey a).toInt ≤ 1 := wk_b01 (by assumption)
  have hP : va_P D classes [(x, .inr (11, [.ref pg, .ref wr, .ref nw, .ref kp, .ref wk, .ref tr, .ref lw, .int x_rowsRead, .int x_rowOfImage, .int x_bestsDone])), (nw, .inr (2, [.ref nwf, .ref nws, .ref nwe, .int nw_asked, .int nw_looksOfAsked, .int nw_changes])), (nwf, .inr (8, [.ref nwfk, .ref nwfv, .ref nwfh, .ref nwft, .int nwf_size])), (nwfk, .inl (cy, 8, .inl nwfk_a)), (nwfv, .inl (cy, 8, .inl nwfv_a)), (nwfh, .inl (cy, 8, .inl nwfh_a)), (wk, .inr (10, [.int wk_number, .int wk_lane, .int wk_looks]))] H := hP
  have hD : va_D A [(x, .inr (11, [.ref pg, .ref wr, .ref nw, .ref kp, .ref wk, .ref tr, .ref lw, .int x_rowsRead, .int x_rowOfImage, .int x_bestsDone])), (nw, .inr (2, [.ref nwf, .ref nws, .ref nwe, .int nw_asked, .int nw_looksOfAsked, .int nw_changes])), (nwf, .inr (8, [.ref nwfk, .ref nwfv, .ref nwfh, .ref nwft, .int nwf_size])), (nwfk, .inl (cy, 8, .inl nwfk_a)), (nwfv, .inl (cy, 8, .inl nwfv_a)), (nwfh, .inl (cy, 8, .inl nwfh_a)), (wk, .inr (10, [.int wk_number, .int wk_lane, .int wk_looks]))] := hD
  refine lv_if_ne (tgt := 16) hx hb dX11_find_4 (by decide) (fun c_7 => ?_) (fun c_7 => ?_)
  · have k_7 : ¬ (fn_X11_isNoKey a).toInt = 0 := wk_neq c_7
    replace hF := hF.trans (if_neg c_7)
    refine lv_bipush (v := (-102)) hx hb dX11_find_16 (by decide) ?_
    refine W.widen (k := 0) (n := 0) (by decide) (by decide) ?_
    exact hret (-102) (wk_number, wk_lane, wk_looks) _ _ _ 18 (wk_sub9 (is := [0, 1, 2, 3, 4, 5, 6]) hP rfl) (hD.sub [0, 1, 2, 3, 4, 5, 6] rfl rfl) hS dX11_find_18 ⟨hF.symm, (show ((-1) ≤ wk_number.toInt ∧ wk_number.toInt ≤ 7) from by omega)⟩
  · have k_7 : (fn_X11_isNoKey a).toInt = 0 := wk_eq c_7
    have k_8 : 0 ≤ a.toInt ∧ a.toInt ≤ 99 := wk_orR k_5 (by rw [k_7]; decide)
    replace hF := hF.trans (if_pos c_7)
    refine lv_iload_n hx hb dX11_find_7 rfl (lv_at hl 2 rfl) ?_
    refine lv_if_lt (tgt := 16) hx hb dX11_find_8 (by decide) (fun c_9 => ?_) (fun c_9 => ?_)
    · have k_9 : b.toInt < 0 := wk_lt c_9
      replace hF := hF.trans (if_pos c_9)
      refine lv_bipush (v := (-102)) hx hb dX11_find_16 (by decide) ?_
      refine W.widen (k := 0) (n := 0) (by decide) (by decide) ?_
      exact hret (-102) (wk_number, wk_lane, wk_looks) _ _ _ 18 (wk_sub9 (is := [0, 1, 2, 3, 4, 5, 6]) hP rfl) (hD.sub [0, 1, 2, 3, 4, 5, 6] rfl rfl) hS dX11_find_18 ⟨hF.symm, (show ((-1) ≤ wk_number.toInt ∧ wk_number.toInt ≤ 7) from by omega)⟩
    · have k_9 : ¬ b.toInt < 0 := wk_nlt c_9
      replace hF := hF.trans (if_neg c_9)
      refine lv_iload_n hx hb dX11_find_11 rfl (lv_at hl 2 rfl) ?_
      refine lv_iconst (v := 3) hx hb dX11_find_12 (by decide) ?_
      refine lv_icmp_le (tgt := 19) hx hb dX11_find_13 (by decide) (fun c_10 => ?_) (fun c_10 => ?_)
      · have k_10 : b.toInt ≤ 3 := wk_le c_10
        replace hF := hF.trans (if_pos c_10)
        refine lv_aload_n hx hb dX11_find_19 rfl (lv_at hl 0 rfl) ?_
        refine va_get (D := D) (ci := 11) (v := .ref lw) (C := RX11) (T := TX11) (N := 10) hx hb htb inX11 hown hK hP 0 rfl rfl 6 (by decide) (htb _ tw_258) (fun _ h9 => h9) rfl dX11_find_20 ?_
        refine lv_ifnonnull (tgt := 29) hx hb dX11_find_23 (by decide) ?_
        refine lv_aload_n hx hb dX11_find_29 rfl (lv_at hl 0 rfl) ?_
        refine va_get (D := D) (ci := 11) (v := .ref wk) (C := RX11) (T := TX11) (N := 10) hx hb htb inX11 hown hK hP 0 rfl rfl 4 (by decide) (htb _ tw_256) (fun _ h9 => h9) rfl dX11_find_30 ?_
        refine lv_aload_n hx hb dX11_find_33 rfl (lv_at hl 0 rfl) ?_
        refine va_get (D := D) (ci := 11) (v := .ref nw) (C := RX11) (T := TX11) (N := 10) hx hb htb inX11 hown hK hP 0 rfl rfl 2 (by decide) (htb _ tw_254) (fun _ h9 => h9) rfl dX11_find_34 ?_
        refine va_get (D := D) (ci := 2) (v := .ref nwf) (C := RX2) (T := TX2) (N := 6) hx hb htb inX2 hown hK hP 1 rfl rfl 0 (by decide) (htb _ tw_171) (fun _ h9 => h9) rfl dX11_find_37 ?_
        refine lv_aload_n hx hb dX11_find_40 rfl (lv_at hl 0 rfl) ?_
        refine va_get (D := D) (ci := 11) (v := .ref nw) (C := RX11) (T := TX11) (N := 10) hx hb htb inX11 hown hK hP 0 rfl rfl 2 (by decide) (htb _ tw_254) (fun _ h9 => h9) rfl dX11_find_41 ?_
        refine va_get (D := D) (ci := 2) (v := .ref nwf) (C := RX2) (T := TX2) (N := 6) hx hb htb inX2 hown hK hP 1 rfl rfl 0 (by decide) (htb _ tw_171) (fun _ h9 => h9) rfl dX11_find_44 ?_
        refine va_get (D := D) (ci := 8) (v := .ref nwfh) (C := RX8) (T := TX8) (N := 5) hx hb htb inX8 hown hK hP 2 rfl rfl 2 (by decide) (htb _ tw_125) (fun _ h9 => h9) rfl dX11_find_47 ?_
        refine lv_iconst (v := (-1)) hx hb dX11_find_50 (by decide) ?_
        refine lv_iload_n hx hb dX11_find_51 rfl (lv_at hl 1 rfl) ?_
        refine wk_vV (As := [.ref nwf, .ref nwfh, .int (-1), .int a]) (rest := []) (wc := [(wk, .inr (10, [.int wk_number, .int wk_lane, .int wk_looks])), (nwf, .inr (8, [.ref nwfk, .ref nwfv, .ref nwfh, .ref nwft, .int nwf_size])), (nwfk, .inl (cy, 8, .inl nwfk_a)), (nwfh, .inl (cy, 8, .inl nwfh_a))]) (wr := [(x, .inr (11, [.ref pg, .ref wr, .ref nw, .ref kp, .ref wk, .ref tr, .ref lw, .int x_rowsRead, .int x_rowOfImage, .int x_bestsDone])), (nw, .inr (2, [.ref nwf, .ref nws, .ref nwe, .int nw_asked, .int nw_looksOfAsked, .int nw_changes])), (nwfv, .inl (cy, 8, .inl nwfv_a))]) (n := 4) ⟨hx, hb, hml, hown, htb⟩ (c_X10_go l D cy wk nwf nwfk nwfv nwfh nwft nwfh wk_number wk_lane wk_looks nwf_size nwfk_a nwfh_a (-1) a (show (-1) ≤ wk_number.toInt ∧ wk_number.toInt ≤ 7 from by omega) (show 0 ≤ nwf_size.toInt ∧ nwf_size.toInt ≤ 8 from by omega)) tw_489 tw_486 tw_487 tw_488 tw_69 rfl rfl (by decide +kernel) ⟨Nat.le_of_ble_eq_true rfl, Nat.le_of_ble_eq_true rfl⟩ hK hP hD hS hA [6, 2, 3, 5] [0, 1, 4] rfl rfl rfl rfl (by decide) 0 (ci := 10) rfl rfl rfl hl.1 rfl (Nat.le_of_ble_eq_true rfl) dX11_find_52 ⟨Nat.le_of_ble_eq_true rfl, Nat.le_of_ble_eq_true rfl⟩ (fun u_12 H locs hw_13 hP hD hS => ?_)
        refine W.widen (k := 0) (n := 0) (by decide) (by decide) ?_
        obtain ⟨o_14, o_15, o_16⟩ := u_12
        obtain ⟨hw_13, k_17⟩ := hw_13
        have hw_13 : (o_14, o_15, o_16) = (fn_X10_go wk_number wk_lane wk_looks nwf_size nwfk_a nwfh_a (-1) a) := hw_13
        have k_17 : ((-1) ≤ o_14.toInt ∧ o_14.toInt ≤ 7) := k_17
        rw [← hw_13] at hF
        rw [pm2_mk o_14 (o_15, o_16), pm2_mk o_15 o_16] at hF
        have hP : va_P D classes [(x, .inr (11, [.ref pg, .ref wr, .ref nw, .ref kp, .ref wk, .ref tr, .ref lw, .int x_rowsRead, .int x_rowOfImage, .int x_bestsDone])), (nw, .inr (2, [.ref nwf, .ref nws, .ref nwe, .int nw_asked, .int nw_looksOfAsked, .int nw_changes])), (nwfv, .inl (cy, 8, .inl nwfv_a)), (wk, .inr (10, [.int o_14, .int o_15, .int o_16])), (nwf, .inr (8, [.ref nwfk, .ref nwfv, .ref nwfh, .ref nwft, .int nwf_size])), (nwfk, .inl (cy, 8, .inl nwfk_a)), (nwfh, .inl (cy, 8, .inl nwfh_a))] H := hP
        have hD : va_D A [(x, .inr (11, [.ref pg, .ref wr, .ref nw, .ref kp, .ref wk, .ref tr, .ref lw, .int x_rowsRead, .int x_rowOfImage, .int x_bestsDone])), (nw, .inr (2, [.ref nwf, .ref nws, .ref nwe, .int nw_asked, .int nw_looksOfAsked, .int nw_changes])), (nwfv, .inl (cy, 8, .inl nwfv_a)), (wk, .inr (10, [.int o_14, .int o_15, .int o_16])), (nwf, .inr (8, [.ref nwfk, .ref nwfv, .ref nwfh, .ref nwft, .int nwf_size])), (nwfk, .inl (cy, 8, .inl nwfk_a)), (nwfh, .inl (cy, 8, .inl nwfh_a))] := hD
        refine lv_iload_n hx hb dX11_find_55 rfl (lv_at hl 2 rfl) ?_
        by_cases c_18 : b = 0
        · refine wk_toi c_18 ?_
          replace hF := hF.trans (if_pos c_18)
          have k_18 : b.toInt = 0 := wk_eq c_18
          refine lv_tableIn (off := 28) (tgt := 84) hx hb dX11_find_56 (by decide) (by decide) (by decide) (by decide) ?_
          refine lv_aload_n hx hb dX11_find_84 rfl (lv_at hl 0 rfl) ?_
          refine va_get (D := D) (ci := 11) (v := .ref wk) (C := RX11) (T := TX11) (N := 10) hx hb htb inX11 hown hK hP 0 rfl rfl 4 (by decide) (htb _ tw_256) (fun _ h9 => h9) rfl dX11_find_85 ?_
          refine va_get (D := D) (ci := 10) (v := .int o_14) (C := RX10) (T := TX10) (N := 3) hx hb htb inX10 hown hK hP 3 rfl rfl 0 (by decide) (htb _ tw_202) (fun _ h9 => h9) rfl dX11_find_88 ?_
          refine W.widen (k := 0) (n := 0) (by decide) (by decide) ?_
          exact hret o_14 (o_14, o_15, o_16) _ _ _ 91 (wk_sub9 (is := [0, 1, 4, 5, 2, 6, 3]) hP rfl) (hD.sub [0, 1, 4, 5, 2, 6, 3] rfl rfl) hS dX11_find_91 ⟨hF.symm, (show ((-1) ≤ o_14.toInt ∧ o_14.toInt ≤ 7) from by omega)⟩
        replace hF := hF.trans (if_neg c_18)
        have k_18 : ¬ b.toInt = 0 := wk_neq c_18
        by_cases c_19 : b = 1
        · refine wk_toi c_19 ?_
          replace hF := hF.trans (if_pos c_19)
          have k_19 : b.toInt = 1 := wk_eq c_19
          refine lv_tableIn (off := 36) (tgt := 92) hx hb dX11_find_56 (by decide) (by decide) (by decide) (by decide) ?_
          refine lv_aload_n hx hb dX11_find_92 rfl (lv_at hl 0 rfl) ?_
          refine va_get (D := D) (ci := 11) (v := .ref wk) (C := RX11) (T := TX11) (N := 10) hx hb htb inX11 hown hK hP 0 rfl rfl 4 (by decide) (htb _ tw_256) (fun _ h9 => h9) rfl dX11_find_93 ?_
          refine va_get (D := D) (ci := 10) (v := .int o_16) (C := RX10) (T := TX10) (N := 3) hx hb htb inX10 hown hK hP 3 rfl rfl 2 (by decide) (htb _ tw_207) (fun _ h9 => h9) rfl dX11_find_96 ?_
          refine W.widen (k := 0) (n := 0) (by decide) (by decide) ?_
          exact hret o_16 (o_14, o_15, o_16) _ _ _ 99 (wk_sub9 (is := [0, 1, 4, 5, 2, 6, 3]) hP rfl) (hD.sub [0, 1, 4, 5, 2, 6, 3] rfl rfl) hS dX11_find_99 ⟨hF.symm, (show ((-1) ≤ o_14.toInt ∧ o_14.toInt ≤ 7) from by omega)⟩
        replace hF := hF.trans (if_neg c_19)
        have k_19 : ¬ b.toInt = 1 := wk_neq c_19
        by_cases c_20 : b = 2
        · refine wk_toi c_20 ?_
          replace hF := hF.trans (if_pos c_20)
          have k_20 : b.toInt = 2 := wk_eq c_20
          refine lv_tableIn (off := 44) (tgt := 100) hx hb dX11_find_56 (by decide) (by decide) (by decide) (by decide) ?_
          refine lv_aload_n hx hb dX11_find_100 rfl (lv_at hl 0 rfl) ?_
          refine va_get (D := D) (ci := 11) (v := .ref wk) (C := RX11) (T := TX11) (N := 10) hx hb htb inX11 hown hK hP 0 rfl rfl 4 (by decide) (htb _ tw_256) (fun _ h9 => h9) rfl dX11_find_101 ?_
          refine va_get (D := D) (ci := 10) (v := .int o_15) (C := RX10) (T := TX10) (N := 3) hx hb htb inX10 hown hK hP 3 rfl rfl 1 (by decide) (htb _ tw_204) (fun _ h9 => h9) rfl dX11_find_104 ?_
          refine W.widen (k := 0) (n := 0) (by decide) (by decide) ?_
          exact hret o_15 (o_14, o_15, o_16) _ _ _ 107 (wk_sub9 (is := [0, 1, 4, 5, 2, 6, 3]) hP rfl) (hD.sub [0, 1, 4, 5, 2, 6, 3] rfl rfl) hS dX11_find_107 ⟨hF.symm, (show ((-1) ≤ o_14.toInt ∧ o_14.toInt ≤ 7) from by omega)⟩
        replace hF := hF.trans (if_neg c_20)
        have k_20 : ¬ b.toInt = 2 := wk_neq c_20
        refine lv_tableOut (tgt := 108) hx hb dX11_find_56 (show b.toInt < 0 ∨ 2 < b.toInt from by omega) (by decide) ?_
        refine lv_aload_n hx hb dX11_find_108 rfl (lv_at hl 0 rfl) ?_
        refine lv_aload_n hx hb dX11_find_109 rfl (lv_at hl 0 rfl) ?_
        refine va_get (D := D) (ci := 11) (v := .ref wk) (C := RX11) (T := TX11) (N := 10) hx hb htb inX11 hown hK hP 0 rfl rfl 4 (by decide) (htb _ tw_256) (fun _ h9 => h9) rfl dX11_find_110 ?_
        refine va_get (D := D) (ci := 10) (v := .int o_14) (C := RX10) (T := TX10) (N := 3) hx hb htb inX10 hown hK hP 3 rfl rfl 0 (by decide) (htb _ tw_202) (fun _ h9 => h9) rfl dX11_find_113 ?_
        refine wk_iV (As := [.int o_14]) (rest := []) (wc := [(x, .inr (11, [.ref pg, .ref wr, .ref nw, .ref kp, .ref wk, .ref tr, .ref lw, .int x_rowsRead, .int x_rowOfImage, .int x_bestsDone])), (nw, .inr (2, [.ref nwf, .ref nws, .ref nwe, .int nw_asked, .int nw_looksOfAsked, .int nw_changes])), (nwf, .inr (8, [.ref nwfk, .ref nwfv, .ref nwfh, .ref nwft, .int nwf_size])), (nwfv, .inl (cy, 8, .inl nwfv_a))]) (wr := [(wk, .inr (10, [.int o_14, .int o_15, .int o_16])), (nwfk, .inl (cy, 8, .inl nwfk_a)), (nwfh, .inl (cy, 8, .inl nwfh_a))]) (n := 1) ⟨hx, hb, hml, hown, htb⟩ (c_X11_valueOf l D cy x pg wr nw kp wk tr nwf nws nwe nwfk nwfv nwfh nwft (.ref lw) x_rowsRead x_rowOfImage x_bestsDone nw_asked nw_looksOfAsked nw_changes nwf_size nwfv_a o_14 (show 0 ≤ nwf_size.toInt ∧ nwf_size.toInt ≤ 8 from by omega)) tw_567 tw_564 tw_566 tw_14 tw_64 rfl rfl (by decide +kernel) ⟨Nat.le_of_ble_eq_true rfl, Nat.le_of_ble_eq_true rfl⟩ hK hP hD hS hA [0, 1, 4, 2] [3, 5, 6] rfl rfl rfl rfl (by decide) 0 (ci := 11) rfl rfl rfl hl.1 rfl (Nat.le_of_ble_eq_true rfl) dX11_find_116 ⟨Nat.le_of_ble_eq_true rfl, Nat.le_of_ble_eq_true rfl⟩ (fun r_21 u_22 H locs hw_23 hP hD hS => ?_)
        refine W.widen (k := 0) (n := 0) (by decide) (by decide) ?_
        have hw_23 : r_21 = (fn_X11_valueOf nwf_size nwfv_a o_14) := hw_23
        subst hw_23
        have hP : va_P D classes [(wk, .inr (10, [.int o_14, .int o_15, .int o_16])), (nwfk, .inl (cy, 8, .inl nwfk_a)), (nwfh, .inl (cy, 8, .inl nwfh_a)), (x, .inr (11, [.ref pg, .ref wr, .ref nw, .ref kp, .ref wk, .ref tr, .ref lw, .int x_rowsRead, .int x_rowOfImage, .int x_bestsDone])), (nw, .inr (2, [.ref nwf, .ref nws, .ref nwe, .int nw_asked, .int nw_looksOfAsked, .int nw_changes])), (nwf, .inr (8, [.ref nwfk, .ref nwfv, .ref nwfh, .ref nwft, .int nwf_size])), (nwfv, .inl (cy, 8, .inl nwfv_a))] H := hP
        have hD : va_D A [(wk, .inr (10, [.int o_14, .int o_15, .int o_16])), (nwfk, .inl (cy, 8, .inl nwfk_a)), (nwfh, .inl (cy, 8, .inl nwfh_a)), (x, .inr (11, [.ref pg, .ref wr, .ref nw, .ref kp, .ref wk, .ref tr, .ref lw, .int x_rowsRead, .int x_rowOfImage, .int x_bestsDone])), (nw, .inr (2, [.ref nwf, .ref nws, .ref nwe, .int nw_asked, .int nw_looksOfAsked, .int nw_changes])), (nwf, .inr (8, [.ref nwfk, .ref nwfv, .ref nwfh, .ref nwft, .int nwf_size])), (nwfv, .inl (cy, 8, .inl nwfv_a))] := hD
        refine W.widen (k := 0) (n := 0) (by decide) (by decide) ?_
        exact hret (fn_X11_valueOf nwf_size nwfv_a o_14) (o_14, o_15, o_16) _ _ _ 119 (wk_sub9 (is := [3, 4, 5, 1, 6, 2, 0]) hP rfl) (hD.sub [3, 4, 5, 1, 6, 2, 0] rfl rfl) hS dX11_find_119 ⟨hF.symm, (show ((-1) ≤ o_14.toInt ∧ o_14.toInt ≤ 7) from by omega)⟩
      · have k_10 : ¬ b.toInt ≤ 3 := wk_nle c_10
        replace hF := hF.trans (if_neg c_10)
        refine lv_bipush (v := (-102)) hx hb dX11_find_16 (by decide) ?_
        refine W.widen (k := 0) (n := 0) (by decide) (by decide) ?_
        exact hret (-102) (wk_number, wk_lane, wk_looks) _ _ _ 18 (wk_sub9 (is := [0, 1, 2, 3, 4, 5, 6]) hP rfl) (hD.sub [0, 1, 2, 3, 4, 5, 6] rfl rfl) hS dX11_find_18 ⟨hF.symm, (show ((-1) ≤ wk_number.toInt ∧ wk_number.toInt ≤ 7) from by omega)⟩
def fn_X11_sum_N (a : Int32) (b : Int32) : Int32 := (if (fn_X11_isNoKey a) = 0 then (if (fn_X11_isNoKey b) = 0 then (if a ≤ b then (-103) else (-102)) else (-102)) else (-102))
theorem dX11_sum_0 : decode cX11_sum 0 = .ok (.iload_n 1, 1) := by decide +kernel
theorem dX11_sum_1 : decode cX11_sum 1 = .ok (.invokestatic 147, 3) := by decide +kernel
theorem dX11_sum_4 : decode cX11_sum 4 = .ok (.ifCond .ne 15, 3) := by decide +kernel
theorem dX11_sum_7 : decode cX11_sum 7 = .ok (.iload_n 2, 1) := by decide +kernel
theorem dX11_sum_8 : decode cX11_sum 8 = .ok (.invokestatic 147, 3) := by decide +kernel
theorem dX11_sum_11 : decode cX11_sum 11 = .ok (.ifCond .ne 8, 3) := by decide +kernel
theorem dX11_sum_14 : decode cX11_sum 14 = .ok (.iload_n 1, 1) := by decide +kernel
theorem dX11_sum_15 : decode cX11_sum 15 = .ok (.iload_n 2, 1) := by decide +kernel
theorem dX11_sum_16 : decode cX11_sum 16 = .ok (.if_icmp .le 6, 3) := by decide +kernel
theorem dX11_sum_19 : decode cX11_sum 19 = .ok (.bipush (-102), 2) := by decide +kernel
theorem dX11_sum_21 : decode cX11_sum 21 = .ok (.ireturn, 1) := by decide +kernel
theorem dX11_sum_22 : decode cX11_sum 22 = .ok (.aload_n 0, 1) := by decide +kernel
theorem dX11_sum_23 : decode cX11_sum 23 = .ok (.getfield 71, 3) := by decide +kernel
theorem dX11_sum_26 : decode cX11_sum 26 = .ok (.ifnonnull 6, 3) := by decide +kernel
theorem dX11_sum_29 : decode cX11_sum 29 = .ok (.bipush (-103), 2) := by decide +kernel
theorem dX11_sum_31 : decode cX11_sum 31 = .ok (.ireturn, 1) := by decide +kernel
set_option maxHeartbeats 4000000 in
set_option maxRecDepth 100000 in
theorem c_X11_sum_N (l : Launch) (D : va_G) (cy : ClassId) (x pg wr nw kp wk tr : Nat) (x_rowsRead : Int32) (x_rowOfImage : Int32) (x_bestsDone : Int32) (a : Int32) (b : Int32)  : wk_Ci l yX11_sum cX11_sum 3 (some .int) { frames := 1, cells := 0, slots := 0, locals := 20 } D cy [.ref x, .int a, .int b] [(x, .inr (11, [.ref pg, .ref wr, .ref nw, .ref kp, .ref wk, .ref tr, .null, .int x_rowsRead, .int x_rowOfImage, .int x_bestsDone]))] 0 0 (fun (r : Int32) (u : Unit) => r = (fn_X11_sum_N a b)) (fun u => [(x, .inr (11, [.ref pg, .ref wr, .ref nw, .ref kp, .ref wk, .ref tr, .null, .int x_rowsRead, .int x_rowOfImage, .int x_bestsDone]))]) := by
  refine wk_mk2Ci (by decide) (Nat.le_of_ble_eq_true rfl) ?_
  intro p e s m args below meth c A ls Q B hA hK hP hD hS hl hret
  obtain ⟨hx, hb, hr, hlocks, hml, hown, htb, hin⟩ := B
  have hl : lv_has ls 3 [(0, .ref x), (1, .int a), (2, .int b)] := hl
  have hF : (fn_X11_sum_N a b) = (fn_X11_sum_N a b) := rfl
  conv at hF => rhs; unfold fn_X11_sum_N
  refine lv_iload_n hx hb dX11_sum_0 rfl (lv_at hl 1 rfl) ?_
  refine wk_iS (As := [.int a]) (rest := []) (wc := []) (wr := [(x, .inr (11, [.ref pg, .ref wr, .ref nw, .ref kp, .ref wk, .ref tr, .null, .int x_rowsRead, .int x_rowOfImage, .int x_bestsDone]))]) (n := 1) ⟨hx, hb, hml, hown, htb⟩ (c_X11_isNoKey l D cy   a ) tw_563 tw_561 tw_562 tw_64 rfl rfl (by decide +kernel) ⟨Nat.le_of_ble_eq_true rfl, Nat.le_of_ble_eq_true rfl⟩ hK hP hD hS hA [] [0] rfl rfl rfl rfl (by decide) rfl hl.1 rfl (Nat.le_of_ble_eq_true rfl) dX11_sum_1 ⟨Nat.le_of_ble_eq_true rfl, Nat.le_of_ble_eq_true rfl⟩ (fun r_1 u_2 H locs hw_3 hP hD hS => ?_)
  refine W.widen (k := 0) (n := 0) (by decide) (by decide) ?_
  obtain ⟨hw_3, k_4, k_5⟩ := hw_3
  have hw_3 : r_1 = (fn_X11_isNoKey a) := hw_3
  subst hw_3
  have k_4 : ((fn_X11_isNoKey a) = 0 ∨ (fn_X11_isNoKey a) = 1) := k_4
  have k_5 : (wk_or ((fn_X11_isNoKey a).toInt = 1) (0 ≤ a.toInt ∧ a.toInt ≤ 99)) := k_5
  have k_6 : 0 ≤ (fn_X11_isNoKey a).toInt ∧ (fn_X11_isNoKey a).toInt ≤ 1 := wk_b01 (by assumption)
  have hP : va_P D classes [(x, .inr (11, [.ref pg, .ref wr, .ref nw, .ref kp, .ref wk, .ref tr, .null, .int x_rowsRead, .int x_rowOfImage, .int x_bestsDone]))] H := hP
  have hD : va_D A [(x, .inr (11, [.ref pg, .ref wr, .ref nw, .ref kp, .ref wk, .ref tr, .null, .int x_rowsRead, .int x_rowOfImage, .int x_bestsDone]))] := hD
  refine lv_if_ne (tgt := 19) hx hb dX11_sum_4 (by decide) (fun c_7 => ?_) (fun c_7 => ?_)
  · have k_7 : ¬ (fn_X11_isNoKey a).toInt = 0 := wk_neq c_7
    replace hF := hF.trans (if_neg c_7)
    refine lv_bipush (v := (-102)) hx hb dX11_sum_19 (by decide) ?_
    refine W.widen (k := 0) (n := 0) (by decide) (by decide) ?_
    exact hret (-102) () _ _ _ 21 (wk_sub9 (is := [0]) hP rfl) (hD.sub [0] rfl rfl) hS dX11_sum_21 hF.symm
  · have k_7 : (fn_X11_isNoKey a).toInt = 0 := wk_eq c_7
    have k_8 : 0 ≤ a.toInt ∧ a.toInt ≤ 99 := wk_orR k_5 (by rw [k_7]; decide)
    replace hF := hF.trans (if_pos c_7)
    refine lv_iload_n hx hb dX11_sum_7 rfl (lv_at hl 2 rfl) ?_
    refine wk_iS (As := [.int b]) (rest := []) (wc := []) (wr := [(x, .inr (11, [.ref pg, .ref wr, .ref nw, .ref kp, .ref wk, .ref tr, .null, .int x_rowsRead, .int x_rowOfImage, .int x_bestsDone]))]) (n := 1) ⟨hx, hb, hml, hown, htb⟩ (c_X11_isNoKey l D cy   b ) tw_563 tw_561 tw_562 tw_64 rfl rfl (by decide +kernel) ⟨Nat.le_of_ble_eq_true rfl, Nat.le_of_ble_eq_true rfl⟩ hK hP hD hS hA [] [0] rfl rfl rfl rfl (by decide) rfl hl.1 rfl (Nat.le_of_ble_eq_true rfl) dX11_sum_8 ⟨Nat.le_of_ble_eq_true rfl, Nat.le_of_ble_eq_true rfl⟩ (fun r_9 u_10 H locs hw_11 hP hD hS => ?_)
    refine W.widen (k := 0) (n := 0) (by decide) (by decide) ?_
    obtain ⟨hw_11, k_12, k_13⟩ := hw_11
    have hw_11 : r_9 = (fn_X11_isNoKey b) := hw_11
    subst hw_11
    have k_12 : ((fn_X11_isNoKey b) = 0 ∨ (fn_X11_isNoKey b) = 1) := k_12
    have k_13 : (wk_or ((fn_X11_isNoKey b).toInt = 1) (0 ≤ b.toInt ∧ b.toInt ≤ 99)) := k_13
    have k_14 : 0 ≤ (fn_X11_isNoKey b).toInt ∧ (fn_X11_isNoKey b).toInt ≤ 1 := wk_b01 (by assumption)
    have hP : va_P D classes [(x, .inr (11, [.ref pg, .ref wr, .ref nw, .ref kp, .ref wk, .ref tr, .null, .int x_rowsRead, .int x_rowOfImage, .int x_bestsDone]))] H := hP
    have hD : va_D A [(x, .inr (11, [.ref pg, .ref wr, .ref nw, .ref kp, .ref wk, .ref tr, .null, .int x_rowsRead, .int x_rowOfImage, .int x_bestsDone]))] := hD
    refine lv_if_ne (tgt := 19) hx hb dX11_sum_11 (by decide) (fun c_15 => ?_) (fun c_15 => ?_)
    · have k_15 : ¬ (fn_X11_isNoKey b).toInt = 0 := wk_neq c_15
      replace hF := hF.trans (if_neg c_15)
      refine lv_bipush (v := (-102)) hx hb dX11_sum_19 (by decide) ?_
      refine W.widen (k := 0) (n := 0) (by decide) (by decide) ?_
      exact hret (-102) () _ _ _ 21 (wk_sub9 (is := [0]) hP rfl) (hD.sub [0] rfl rfl) hS dX11_sum_21 hF.symm
    · have k_15 : (fn_X11_isNoKey b).toInt = 0 := wk_eq c_15
      have k_16 : 0 ≤ b.toInt ∧ b.toInt ≤ 99 := wk_orR k_13 (by rw [k_15]; decide)
      replace hF := hF.trans (if_pos c_15)
      refine lv_iload_n hx hb dX11_sum_14 rfl (lv_at hl 1 rfl) ?_
      refine lv_iload_n hx hb dX11_sum_15 rfl (lv_at hl 2 rfl) ?_
      refine lv_icmp_le (tgt := 22) hx hb dX11_sum_16 (by decide) (fun c_17 => ?_) (fun c_17 => ?_)
      · have k_17 : a.toInt ≤ b.toInt := wk_le c_17
        replace hF := hF.trans (if_pos c_17)
        refine lv_aload_n hx hb dX11_sum_22 rfl (lv_at hl 0 rfl) ?_
        refine va_get (D := D) (ci := 11) (v := .null) (C := RX11) (T := TX11) (N := 10) hx hb htb inX11 hown hK hP 0 rfl rfl 6 (by decide) (htb _ tw_258) (fun _ h9 => h9) rfl dX11_sum_23 ?_
        refine lv_ifnonnullN hx hb dX11_sum_26 ?_
        refine lv_bipush (v := (-103)) hx hb dX11_sum_29 (by decide) ?_
        refine W.widen (k := 0) (n := 0) (by decide) (by decide) ?_
        exact hret (-103) () _ _ _ 31 (wk_sub9 (is := [0]) hP rfl) (hD.sub [0] rfl rfl) hS dX11_sum_31 hF.symm
      · have k_17 : ¬ a.toInt ≤ b.toInt := wk_nle c_17
        replace hF := hF.trans (if_neg c_17)
        refine lv_bipush (v := (-102)) hx hb dX11_sum_19 (by decide) ?_
        refine W.widen (k := 0) (n := 0) (by decide) (by decide) ?_
        exact hret (-102) () _ _ _ 21 (wk_sub9 (is := [0]) hP rfl) (hD.sub [0] rfl rfl) hS dX11_sum_21 hF.symm
def fn_X11_sum_R (nwf_size : Int32) (nwfk_a : Nat → Int32) (nwfv_a : Nat → Int32) (a : Int32) (b : Int32) : Int32 := (if (fn_X11_isNoKey a) = 0 then (if (fn_X11_isNoKey b) = 0 then (if a ≤ b then (fn_X8_valuesBetween nwf_size nwfk_a nwfv_a a b) else (-102)) else (-102)) else (-102))
theorem dX11_sum_32 : decode cX11_sum 32 = .ok (.aload_n 0, 1) := by decide +kernel
theorem dX11_sum_33 : decode cX11_sum 33 = .ok (.getfield 22, 3) := by decide +kernel
theorem dX11_sum_36 : decode cX11_sum 36 = .ok (.getfield 77, 3) := by decide +kernel
theorem dX11_sum_39 : decode cX11_sum 39 = .ok (.iload_n 1, 1) := by decide +kernel
theorem dX11_sum_40 : decode cX11_sum 40 = .ok (.iload_n 2, 1) := by decide +kernel
theorem dX11_sum_41 : decode cX11_sum 41 = .ok (.invokevirtual 166, 3) := by decide +kernel
theorem dX11_sum_44 : decode cX11_sum 44 = .ok (.ireturn, 1) := by decide +kernel
set_option maxHeartbeats 4000000 in
set_option maxRecDepth 100000 in
theorem c_X11_sum_R (l : Launch) (D : va_G) (cy : ClassId) (x pg wr nw kp wk tr lw nwf nws nwe nwfk nwfv nwfh nwft : Nat) (x_rowsRead : Int32) (x_rowOfImage : Int32) (x_bestsDone : Int32) (nw_asked : Int32) (nw_looksOfAsked : Int32) (nw_changes : Int32) (nwf_size : Int32) (nwfk_a : Nat → Int32) (nwfv_a : Nat → Int32) (a : Int32) (b : Int32) (g_0 : 0 ≤ nwf_size.toInt ∧ nwf_size.toInt ≤ 8) : wk_Ci l yX11_sum cX11_sum 3 (some .int) { frames := 1, cells := 0, slots := 0, locals := 24 } D cy [.ref x, .int a, .int b] [(x, .inr (11, [.ref pg, .ref wr, .ref nw, .ref kp, .ref wk, .ref tr, .ref lw, .int x_rowsRead, .int x_rowOfImage, .int x_bestsDone])), (nw, .inr (2, [.ref nwf, .ref nws, .ref nwe, .int nw_asked, .int nw_looksOfAsked, .int nw_changes])), (nwf, .inr (8, [.ref nwfk, .ref nwfv, .ref nwfh, .ref nwft, .int nwf_size])), (nwfk, .inl (cy, 8, .inl nwfk_a)), (nwfv, .inl (cy, 8, .inl nwfv_a))] 0 0 (fun (r : Int32) (u : Unit) => r = (fn_X11_sum_R nwf_size nwfk_a nwfv_a a b)) (fun u => [(x, .inr (11, [.ref pg, .ref wr, .ref nw, .ref kp, .ref wk, .ref tr, .ref lw, .int x_rowsRead, .int x_rowOfImage, .int x_bestsDone])), (nw, .inr (2, [.ref nwf, .ref nws, .ref nwe, .int nw_asked, .int nw_looksOfAsked, .int nw_changes])), (nwf, .inr (8, [.ref nwfk, .ref nwfv, .ref nwfh, .ref nwft, .int nwf_size])), (nwfk, .inl (cy, 8, .inl nwfk_a)), (nwfv, .inl (cy, 8, .inl nwfv_a))]) := by
  refine wk_mk2Ci (by decide) (Nat.le_of_ble_eq_true rfl) ?_
  intro p e s m args below meth c A ls Q B hA hK hP hD hS hl hret
  obtain ⟨hx, hb, hr, hlocks, hml, hown, htb, hin⟩ := B
  have hl : lv_has ls 3 [(0, .ref x), (1, .int a), (2, .int b)] := hl
  have hF : (fn_X11_sum_R nwf_size nwfk_a nwfv_a a b) = (fn_X11_sum_R nwf_size nwfk_a nwfv_a a b) := rfl
  conv at hF => rhs; unfold fn_X11_sum_R
  refine lv_iload_n hx hb dX11_sum_0 rfl (lv_at hl 1 rfl) ?_
  refine wk_iS (As := [.int a]) (rest := []) (wc := []) (wr := [(x, .inr (11, [.ref pg, .ref wr, .ref nw, .ref kp, .ref wk, .ref tr, .ref lw, .int x_rowsRead, .int x_rowOfImage, .int x_bestsDone])), (nw, .inr (2, [.ref nwf, .ref nws, .ref nwe, .int nw_asked, .int nw_looksOfAsked, .int nw_changes])), (nwf, .inr (8, [.ref nwfk, .ref nwfv, .ref nwfh, .ref nwft, .int nwf_size])), (nwfk, .inl (cy, 8, .inl nwfk_a)), (nwfv, .inl (cy, 8, .inl nwfv_a))]) (n := 1) ⟨hx, hb, hml, hown, htb⟩ (c_X11_isNoKey l D cy   a ) tw_563 tw_561 tw_562 tw_64 rfl rfl (by decide +kernel) ⟨Nat.le_of_ble_eq_true rfl, Nat.le_of_ble_eq_true rfl⟩ hK hP hD hS hA [] [0, 1, 2, 3, 4] rfl rfl rfl rfl (by decide) rfl hl.1 rfl (Nat.le_of_ble_eq_true rfl) dX11_sum_1 ⟨Nat.le_of_ble_eq_true rfl, Nat.le_of_ble_eq_true rfl⟩ (fun r_1 u_2 H locs hw_3 hP hD hS => ?_)
  refine W.widen (k := 0) (n := 0) (by decide) (by decide) ?_
  obtain ⟨hw_3, k_4, k_5⟩ := hw_3
  have hw_3 : r_1 = (fn_X11_isNoKey a) := hw_3
  subst hw_3
  have k_4 : ((fn_X11_isNoKey a) = 0 ∨ (fn_X11_isNoKey a) = 1) := k_4
  have k_5 : (wk_or ((fn_X11_isNoKey a).toInt = 1) (0 ≤ a.toInt ∧ a.toInt ≤ 99)) := k_5
  have k_6 : 0 ≤ (fn_X11_isNoKey a).toInt ∧ (fn_X11_isNoKey a).toInt ≤ 1 := wk_b01 (by assumption)
  have hP : va_P D classes [(x, .inr (11, [.ref pg, .ref wr, .ref nw, .ref kp, .ref wk, .ref tr, .ref lw, .int x_rowsRead, .int x_rowOfImage, .int x_bestsDone])), (nw, .inr (2, [.ref nwf, .ref nws, .ref nwe, .int nw_asked, .int nw_looksOfAsked, .int nw_changes])), (nwf, .inr (8, [.ref nwfk, .ref nwfv, .ref nwfh, .ref nwft, .int nwf_size])), (nwfk, .inl (cy, 8, .inl nwfk_a)), (nwfv, .inl (cy, 8, .inl nwfv_a))] H := hP
  have hD : va_D A [(x, .inr (11, [.ref pg, .ref wr, .ref nw, .ref kp, .ref wk, .ref tr, .ref lw, .int x_rowsRead, .int x_rowOfImage, .int x_bestsDone])), (nw, .inr (2, [.ref nwf, .ref nws, .ref nwe, .int nw_asked, .int nw_looksOfAsked, .int nw_changes])), (nwf, .inr (8, [.ref nwfk, .ref nwfv, .ref nwfh, .ref nwft, .int nwf_size])), (nwfk, .inl (cy, 8, .inl nwfk_a)), (nwfv, .inl (cy, 8, .inl nwfv_a))] := hD
  refine lv_if_ne (tgt := 19) hx hb dX11_sum_4 (by decide) (fun c_7 => ?_) (fun c_7 => ?_)
  · have k_7 : ¬ (fn_X11_isNoKey a).toInt = 0 := wk_neq c_7
    replace hF := hF.trans (if_neg c_7)
    refine lv_bipush (v := (-102)) hx hb dX11_sum_19 (by decide) ?_
    refine W.widen (k := 0) (n := 0) (by decide) (by decide) ?_
    exact hret (-102) () _ _ _ 21 (wk_sub9 (is := [0, 1, 2, 3, 4]) hP rfl) (hD.sub [0, 1, 2, 3, 4] rfl rfl) hS dX11_sum_21 hF.symm
  · have k_7 : (fn_X11_isNoKey a).toInt = 0 := wk_eq c_7
    have k_8 : 0 ≤ a.toInt ∧ a.toInt ≤ 99 := wk_orR k_5 (by rw [k_7]; decide)
    replace hF := hF.trans (if_pos c_7)
    refine lv_iload_n hx hb dX11_sum_7 rfl (lv_at hl 2 rfl) ?_
    refine wk_iS (As := [.int b]) (rest := []) (wc := []) (wr := [(x, .inr (11, [.ref pg, .ref wr, .ref nw, .ref kp, .ref wk, .ref tr, .ref lw, .int x_rowsRead, .int x_rowOfImage, .int x_bestsDone])), (nw, .inr (2, [.ref nwf, .ref nws, .ref nwe, .int nw_asked, .int nw_looksOfAsked, .int nw_changes])), (nwf, .inr (8, [.ref nwfk, .ref nwfv, .ref nwfh, .ref nwft, .int nwf_size])), (nwfk, .inl (cy, 8, .inl nwfk_a)), (nwfv, .inl (cy, 8, .inl nwfv_a))]) (n := 1) ⟨hx, hb, hml, hown, htb⟩ (c_X11_isNoKey l D cy   b ) tw_563 tw_561 tw_562 tw_64 rfl rfl (by decide +kernel) ⟨Nat.le_of_ble_eq_true rfl, Nat.le_of_ble_eq_true rfl⟩ hK hP hD hS hA [] [0, 1, 2, 3, 4] rfl rfl rfl rfl (by decide) rfl hl.1 rfl (Nat.le_of_ble_eq_true rfl) dX11_sum_8 ⟨Nat.le_of_ble_eq_true rfl, Nat.le_of_ble_eq_true rfl⟩ (fun r_9 u_10 H locs hw_11 hP hD hS => ?_)
    refine W.widen (k := 0) (n := 0) (by decide) (by decide) ?_
    obtain ⟨hw_11, k_12, k_13⟩ := hw_11
    have hw_11 : r_9 = (fn_X11_isNoKey b) := hw_11
    subst hw_11
    have k_12 : ((fn_X11_isNoKey b) = 0 ∨ (fn_X11_isNoKey b) = 1) := k_12
    have k_13 : (wk_or ((fn_X11_isNoKey b).toInt = 1) (0 ≤ b.toInt ∧ b.toInt ≤ 99)) := k_13
    have k_14 : 0 ≤ (fn_X11_isNoKey b).toInt ∧ (fn_X11_isNoKey b).toInt ≤ 1 := wk_b01 (by assumption)
    have hP : va_P D classes [(x, .inr (11, [.ref pg, .ref wr, .ref nw, .ref kp, .ref wk, .ref tr, .ref lw, .int x_rowsRead, .int x_rowOfImage, .int x_bestsDone])), (nw, .inr (2, [.ref nwf, .ref nws, .ref nwe, .int nw_asked, .int nw_looksOfAsked, .int nw_changes])), (nwf, .inr (8, [.ref nwfk, .ref nwfv, .ref nwfh, .ref nwft, .int nwf_size])), (nwfk, .inl (cy, 8, .inl nwfk_a)), (nwfv, .inl (cy, 8, .inl nwfv_a))] H := hP
    have hD : va_D A [(x, .inr (11, [.ref pg, .ref wr, .ref nw, .ref kp, .ref wk, .ref tr, .ref lw, .int x_rowsRead, .int x_rowOfImage, .int x_bestsDone])), (nw, .inr (2, [.ref nwf, .ref nws, .ref nwe, .int nw_asked, .int nw_looksOfAsked, .int nw_changes])), (nwf, .inr (8, [.ref nwfk, .ref nwfv, .ref nwfh, .ref nwft, .int nwf_size])), (nwfk, .inl (cy, 8, .inl nwfk_a)), (nwfv, .inl (cy, 8, .inl nwfv_a))] := hD
    refine lv_if_ne (tgt := 19) hx hb dX11_sum_11 (by decide) (fun c_15 => ?_) (fun c_15 => ?_)
    · have k_15 : ¬ (fn_X11_isNoKey b).toInt = 0 := wk_neq c_15
      replace hF := hF.trans (if_neg c_15)
      refine lv_bipush (v := (-102)) hx hb dX11_sum_19 (by decide) ?_
      refine W.widen (k := 0) (n := 0) (by decide) (by decide) ?_
      exact hret (-102) () _ _ _ 21 (wk_sub9 (is := [0, 1, 2, 3, 4]) hP rfl) (hD.sub [0, 1, 2, 3, 4] rfl rfl) hS dX11_sum_21 hF.symm
    · have k_15 : (fn_X11_isNoKey b).toInt = 0 := wk_eq c_15
      have k_16 : 0 ≤ b.toInt ∧ b.toInt ≤ 99 := wk_orR k_13 (by rw [k_15]; decide)
      replace hF := hF.trans (if_pos c_15)
      refine lv_iload_n hx hb dX11_sum_14 rfl (lv_at hl 1 rfl) ?_
      refine lv_iload_n hx hb dX11_sum_15 rfl (lv_at hl 2 rfl) ?_
      refine lv_icmp_le (tgt := 22) hx hb dX11_sum_16 (by decide) (fun c_17 => ?_) (fun c_17 => ?_)
      · have k_17 : a.toInt ≤ b.toInt := wk_le c_17
        replace hF := hF.trans (if_pos c_17)
        refine lv_aload_n hx hb dX11_sum_22 rfl (lv_at hl 0 rfl) ?_
        refine va_get (D := D) (ci := 11) (v := .ref lw) (C := RX11) (T := TX11) (N := 10) hx hb htb inX11 hown hK hP 0 rfl rfl 6 (by decide) (htb _ tw_258) (fun _ h9 => h9) rfl dX11_sum_23 ?_
        refine lv_ifnonnull (tgt := 32) hx hb dX11_sum_26 (by decide) ?_
        refine lv_aload_n hx hb dX11_sum_32 rfl (lv_at hl 0 rfl) ?_
        refine va_get (D := D) (ci := 11) (v := .ref nw) (C := RX11) (T := TX11) (N := 10) hx hb htb inX11 hown hK hP 0 rfl rfl 2 (by decide) (htb _ tw_254) (fun _ h9 => h9) rfl dX11_sum_33 ?_
        refine va_get (D := D) (ci := 2) (v := .ref nwf) (C := RX2) (T := TX2) (N := 6) hx hb htb inX2 hown hK hP 1 rfl rfl 0 (by decide) (htb _ tw_171) (fun _ h9 => h9) rfl dX11_sum_36 ?_
        refine lv_iload_n hx hb dX11_sum_39 rfl (lv_at hl 1 rfl) ?_
        refine lv_iload_n hx hb dX11_sum_40 rfl (lv_at hl 2 rfl) ?_
        refine wk_iV (As := [.int a, .int b]) (rest := []) (wc := [(nwf, .inr (8, [.ref nwfk, .ref nwfv, .ref nwfh, .ref nwft, .int nwf_size])), (nwfk, .inl (cy, 8, .inl nwfk_a)), (nwfv, .inl (cy, 8, .inl nwfv_a))]) (wr := [(x, .inr (11, [.ref pg, .ref wr, .ref nw, .ref kp, .ref wk, .ref tr, .ref lw, .int x_rowsRead, .int x_rowOfImage, .int x_bestsDone])), (nw, .inr (2, [.ref nwf, .ref nws, .ref nwe, .int nw_asked, .int nw_looksOfAsked, .int nw_changes]))]) (n := 2) ⟨hx, hb, hml, hown, htb⟩ (c_X8_valuesBetween l D cy nwf nwfk nwfv nwfh nwft nwf_size nwfk_a nwfv_a a b (show 0 ≤ nwf_size.toInt ∧ nwf_size.toInt ≤ 8 from by omega)) tw_579 tw_576 tw_577 tw_578 tw_67 rfl rfl (by decide +kernel) ⟨Nat.le_of_ble_eq_true rfl, Nat.le_of_ble_eq_true rfl⟩ hK hP hD hS hA [2, 3, 4] [0, 1] rfl rfl rfl rfl (by decide) 0 (ci := 8) rfl rfl rfl hl.1 rfl (Nat.le_of_ble_eq_true rfl) dX11_sum_41 ⟨Nat.le_of_ble_eq_true rfl, Nat.le_of_ble_eq_true rfl⟩ (fun r_18 u_19 H locs hw_20 hP hD hS => ?_)
        refine W.widen (k := 0) (n := 0) (by decide) (by decide) ?_
        have hw_20 : r_18 = (fn_X8_valuesBetween nwf_size nwfk_a nwfv_a a b) := hw_20
        subst hw_20
        have hP : va_P D classes [(x, .inr (11, [.ref pg, .ref wr, .ref nw, .ref kp, .ref wk, .ref tr, .ref lw, .int x_rowsRead, .int x_rowOfImage, .int x_bestsDone])), (nw, .inr (2, [.ref nwf, .ref nws, .ref nwe, .int nw_asked, .int nw_looksOfAsked, .int nw_changes])), (nwf, .inr (8, [.ref nwfk, .ref nwfv, .ref nwfh, .ref nwft, .int nwf_size])), (nwfk, .inl (cy, 8, .inl nwfk_a)), (nwfv, .inl (cy, 8, .inl nwfv_a))] H := hP
        have hD : va_D A [(x, .inr (11, [.ref pg, .ref wr, .ref nw, .ref kp, .ref wk, .ref tr, .ref lw, .int x_rowsRead, .int x_rowOfImage, .int x_bestsDone])), (nw, .inr (2, [.ref nwf, .ref nws, .ref nwe, .int nw_asked, .int nw_looksOfAsked, .int nw_changes])), (nwf, .inr (8, [.ref nwfk, .ref nwfv, .ref nwfh, .ref nwft, .int nwf_size])), (nwfk, .inl (cy, 8, .inl nwfk_a)), (nwfv, .inl (cy, 8, .inl nwfv_a))] := hD
        refine W.widen (k := 0) (n := 0) (by decide) (by decide) ?_
        exact hret (fn_X8_valuesBetween nwf_size nwfk_a nwfv_a a b) () _ _ _ 44 (wk_sub9 (is := [0, 1, 2, 3, 4]) hP rfl) (hD.sub [0, 1, 2, 3, 4] rfl rfl) hS dX11_sum_44 hF.symm
      · have k_17 : ¬ a.toInt ≤ b.toInt := wk_nle c_17
        replace hF := hF.trans (if_neg c_17)
        refine lv_bipush (v := (-102)) hx hb dX11_sum_19 (by decide) ?_
        refine W.widen (k := 0) (n := 0) (by decide) (by decide) ?_
        exact hret (-102) () _ _ _ 21 (wk_sub9 (is := [0, 1, 2, 3, 4]) hP rfl) (hD.sub [0, 1, 2, 3, 4] rfl rfl) hS dX11_sum_21 hF.symm
def fn_X11_ask_N (a : Int32) : Int32 := (if (fn_X11_isNoKey a) = 0 then (-103) else (-102))
theorem dX11_ask_0 : decode cX11_ask 0 = .ok (.iload_n 1, 1) := by decide +kernel
theorem dX11_ask_1 : decode cX11_ask 1 = .ok (.invokestatic 147, 3) := by decide +kernel
theorem dX11_ask_4 : decode cX11_ask 4 = .ok (.ifCond .eq 6, 3) := by decide +kernel
theorem dX11_ask_7 : decode cX11_ask 7 = .ok (.bipush (-102), 2) := by decide +kernel
theorem dX11_ask_9 : decode cX11_ask 9 = .ok (.ireturn, 1) := by decide +kernel
theorem dX11_ask_10 : decode cX11_ask 10 = .ok (.aload_n 0, 1) := by decide +kernel
theorem dX11_ask_11 : decode cX11_ask 11 = .ok (.getfield 71, 3) := by decide +kernel
theorem dX11_ask_14 : decode cX11_ask 14 = .ok (.ifnonnull 6, 3) := by decide +kernel
theorem dX11_ask_17 : decode cX11_ask 17 = .ok (.bipush (-103), 2) := by decide +kernel
theorem dX11_ask_19 : decode cX11_ask 19 = .ok (.ireturn, 1) := by decide +kernel
set_option maxHeartbeats 4000000 in
set_option maxRecDepth 100000 in
theorem c_X11_ask_N (l : Launch) (D : va_G) (cy : ClassId) (x pg wr nw kp wk tr : Nat) (x_rowsRead : Int32) (x_rowOfImage : Int32) (x_bestsDone : Int32) (a : Int32)  : wk_Ci l yX11_ask cX11_ask 3 (some .int) { frames := 1, cells := 0, slots := 0, locals := 20 } D cy [.ref x, .int a] [(x, .inr (11, [.ref pg, .ref wr, .ref nw, .ref kp, .ref wk, .ref tr, .null, .int x_rowsRead, .int x_rowOfImage, .int x_bestsDone]))] 0 0 (fun (r : Int32) (u : Unit) => r = (fn_X11_ask_N a)) (fun u => [(x, .inr (11, [.ref pg, .ref wr, .ref nw, .ref kp, .ref wk, .ref tr, .null, .int x_rowsRead, .int x_rowOfImage, .int x_bestsDone]))]) := by
  refine wk_mk2Ci (by decide) (Nat.le_of_ble_eq_true rfl) ?_
  intro p e s m args below meth c A ls Q B hA hK hP hD hS hl hret
  obtain ⟨hx, hb, hr, hlocks, hml, hown, htb, hin⟩ := B
  have hl : lv_has ls 3 [(0, .ref x), (1, .int a)] := hl
  have hF : (fn_X11_ask_N a) = (fn_X11_ask_N a) := rfl
  conv at hF => rhs; unfold fn_X11_ask_N
  refine lv_iload_n hx hb dX11_ask_0 rfl (lv_at hl 1 rfl) ?_
  refine wk_iS (As := [.int a]) (rest := []) (wc := []) (wr := [(x, .inr (11, [.ref pg, .ref wr, .ref nw, .ref kp, .ref wk, .ref tr, .null, .int x_rowsRead, .int x_rowOfImage, .int x_bestsDone]))]) (n := 1) ⟨hx, hb, hml, hown, htb⟩ (c_X11_isNoKey l D cy   a ) tw_563 tw_561 tw_562 tw_64 rfl rfl (by decide +kernel) ⟨Nat.le_of_ble_eq_true rfl, Nat.le_of_ble_eq_true rfl⟩ hK hP hD hS hA [] [0] rfl rfl rfl rfl (by decide) rfl hl.1 rfl (Nat.le_of_ble_eq_true rfl) dX11_ask_1 ⟨Nat.le_of_ble_eq_true rfl, Nat.le_of_ble_eq_true rfl⟩ (fun r_1 u_2 H locs hw_3 hP hD hS => ?_)
  refine W.widen (k := 0) (n := 0) (by decide) (by decide) ?_
  obtain ⟨hw_3, k_4, k_5⟩ := hw_3
  have hw_3 : r_1 = (fn_X11_isNoKey a) := hw_3
  subst hw_3
  have k_4 : ((fn_X11_isNoKey a) = 0 ∨ (fn_X11_isNoKey a) = 1) := k_4
  have k_5 : (wk_or ((fn_X11_isNoKey a).toInt = 1) (0 ≤ a.toInt ∧ a.toInt ≤ 99)) := k_5
  have k_6 : 0 ≤ (fn_X11_isNoKey a).toInt ∧ (fn_X11_isNoKey a).toInt ≤ 1 := wk_b01 (by assumption)
  have hP : va_P D classes [(x, .inr (11, [.ref pg, .ref wr, .ref nw, .ref kp, .ref wk, .ref tr, .null, .int x_rowsRead, .int x_rowOfImage, .int x_bestsDone]))] H := hP
  have hD : va_D A [(x, .inr (11, [.ref pg, .ref wr, .ref nw, .ref kp, .ref wk, .ref tr, .null, .int x_rowsRead, .int x_rowOfImage, .int x_bestsDone]))] := hD
  refine lv_if_eq (tgt := 10) hx hb dX11_ask_4 (by decide) (fun c_7 => ?_) (fun c_7 => ?_)
  · have k_7 : (fn_X11_isNoKey a).toInt = 0 := wk_eq c_7
    have k_8 : 0 ≤ a.toInt ∧ a.toInt ≤ 99 := wk_orR k_5 (by rw [k_7]; decide)
    replace hF := hF.trans (if_pos c_7)
    refine lv_aload_n hx hb dX11_ask_10 rfl (lv_at hl 0 rfl) ?_
    refine va_get (D := D) (ci := 11) (v := .null) (C := RX11) (T := TX11) (N := 10) hx hb htb inX11 hown hK hP 0 rfl rfl 6 (by decide) (htb _ tw_258) (fun _ h9 => h9) rfl dX11_ask_11 ?_
    refine lv_ifnonnullN hx hb dX11_ask_14 ?_
    refine lv_bipush (v := (-103)) hx hb dX11_ask_17 (by decide) ?_
    refine W.widen (k := 0) (n := 0) (by decide) (by decide) ?_
    exact hret (-103) () _ _ _ 19 (wk_sub9 (is := [0]) hP rfl) (hD.sub [0] rfl rfl) hS dX11_ask_19 hF.symm
  · have k_7 : ¬ (fn_X11_isNoKey a).toInt = 0 := wk_neq c_7
    replace hF := hF.trans (if_neg c_7)
    refine lv_bipush (v := (-102)) hx hb dX11_ask_7 (by decide) ?_
    refine W.widen (k := 0) (n := 0) (by decide) (by decide) ?_
    exact hret (-102) () _ _ _ 9 (wk_sub9 (is := [0]) hP rfl) (hD.sub [0] rfl rfl) hS dX11_ask_9 hF.symm
def fn_X11_ask_R (nw_asked : Int32) (nw_looksOfAsked : Int32) (nwf_size : Int32) (nwfk_a : Nat → Int32) (nwfv_a : Nat → Int32) (nwfh_a : Nat → Int32) (nwft_a : Nat → Int32) (wk_number : Int32) (wk_lane : Int32) (wk_looks : Int32) (a : Int32) : Int32 × Int32 × Int32 × (Nat → Int32) × Int32 × Int32 × Int32 := (if (fn_X11_isNoKey a) = 0 then (pm2 (fn_X10_go wk_number wk_lane wk_looks nwf_size nwfk_a nwfh_a (-1) a) (fun o_11 t_ => (pm2 (t_) (fun o_12 o_13 => (if o_11 < 0 then (if o_11 < 0 then ((fn_X11_valueOf nwf_size nwfv_a o_11), (nw_asked + 1), (nw_looksOfAsked + o_13), nwft_a, o_11, o_12, o_13) else default) else (if (nwft_a o_11.toNatClampNeg) < 99 then (if o_11 < 0 then default else ((fn_X11_valueOf nwf_size nwfv_a o_11), (nw_asked + 1), (nw_looksOfAsked + o_13), (upd nwft_a o_11.toNatClampNeg ((nwft_a o_11.toNatClampNeg) + 1)), o_11, o_12, o_13)) else ((-104), nw_asked, nw_looksOfAsked, nwft_a, o_11, o_12, o_13))))))) else ((-102), nw_asked, nw_looksOfAsked, nwft_a, wk_number, wk_lane, wk_looks))
theorem dX11_ask_20 : decode cX11_ask 20 = .ok (.aload_n 0, 1) := by decide +kernel
theorem dX11_ask_21 : decode cX11_ask 21 = .ok (.getfield 32, 3) := by decide +kernel
theorem dX11_ask_24 : decode cX11_ask 24 = .ok (.aload_n 0, 1) := by decide +kernel
theorem dX11_ask_25 : decode cX11_ask 25 = .ok (.getfield 22, 3) := by decide +kernel
theorem dX11_ask_28 : decode cX11_ask 28 = .ok (.getfield 77, 3) := by decide +kernel
theorem dX11_ask_31 : decode cX11_ask 31 = .ok (.aload_n 0, 1) := by decide +kernel
theorem dX11_ask_32 : decode cX11_ask 32 = .ok (.getfield 22, 3) := by decide +kernel
theorem dX11_ask_35 : decode cX11_ask 35 = .ok (.getfield 77, 3) := by decide +kernel
theorem dX11_ask_38 : decode cX11_ask 38 = .ok (.getfield 111, 3) := by decide +kernel
theorem dX11_ask_41 : decode cX11_ask 41 = .ok (.iconst (-1), 1) := by decide +kernel
theorem dX11_ask_42 : decode cX11_ask 42 = .ok (.iload_n 1, 1) := by decide +kernel
theorem dX11_ask_43 : decode cX11_ask 43 = .ok (.invokevirtual 150, 3) := by decide +kernel
theorem dX11_ask_46 : decode cX11_ask 46 = .ok (.aload_n 0, 1) := by decide +kernel
theorem dX11_ask_47 : decode cX11_ask 47 = .ok (.getfield 32, 3) := by decide +kernel
theorem dX11_ask_50 : decode cX11_ask 50 = .ok (.getfield 154, 3) := by decide +kernel
theorem dX11_ask_53 : decode cX11_ask 53 = .ok (.istore_n 2, 1) := by decide +kernel
theorem dX11_ask_54 : decode cX11_ask 54 = .ok (.iload_n 2, 1) := by decide +kernel
theorem dX11_ask_55 : decode cX11_ask 55 = .ok (.ifCond .lt 23, 3) := by decide +kernel
theorem dX11_ask_58 : decode cX11_ask 58 = .ok (.aload_n 0, 1) := by decide +kernel
theorem dX11_ask_59 : decode cX11_ask 59 = .ok (.getfield 22, 3) := by decide +kernel
theorem dX11_ask_62 : decode cX11_ask 62 = .ok (.getfield 77, 3) := by decide +kernel
theorem dX11_ask_65 : decode cX11_ask 65 = .ok (.getfield 114, 3) := by decide +kernel
theorem dX11_ask_68 : decode cX11_ask 68 = .ok (.iload_n 2, 1) := by decide +kernel
theorem dX11_ask_69 : decode cX11_ask 69 = .ok (.iaload, 1) := by decide +kernel
theorem dX11_ask_70 : decode cX11_ask 70 = .ok (.bipush 99, 2) := by decide +kernel
theorem dX11_ask_72 : decode cX11_ask 72 = .ok (.if_icmp .lt 6, 3) := by decide +kernel
theorem dX11_ask_75 : decode cX11_ask 75 = .ok (.bipush (-104), 2) := by decide +kernel
theorem dX11_ask_77 : decode cX11_ask 77 = .ok (.ireturn, 1) := by decide +kernel
theorem dX11_ask_78 : decode cX11_ask 78 = .ok (.aload_n 0, 1) := by decide +kernel
theorem dX11_ask_79 : decode cX11_ask 79 = .ok (.getfield 22, 3) := by decide +kernel
theorem dX11_ask_82 : decode cX11_ask 82 = .ok (.dup, 1) := by decide +kernel
theorem dX11_ask_83 : decode cX11_ask 83 = .ok (.getfield 169, 3) := by decide +kernel
theorem dX11_ask_86 : decode cX11_ask 86 = .ok (.iconst 1, 1) := by decide +kernel
theorem dX11_ask_87 : decode cX11_ask 87 = .ok (.iadd, 1) := by decide +kernel
theorem dX11_ask_88 : decode cX11_ask 88 = .ok (.putfield 169, 3) := by decide +kernel
theorem dX11_ask_91 : decode cX11_ask 91 = .ok (.aload_n 0, 1) := by decide +kernel
theorem dX11_ask_92 : decode cX11_ask 92 = .ok (.getfield 22, 3) := by decide +kernel
theorem dX11_ask_95 : decode cX11_ask 95 = .ok (.dup, 1) := by decide +kernel
theorem dX11_ask_96 : decode cX11_ask 96 = .ok (.getfield 172, 3) := by decide +kernel
theorem dX11_ask_99 : decode cX11_ask 99 = .ok (.aload_n 0, 1) := by decide +kernel
theorem dX11_ask_100 : decode cX11_ask 100 = .ok (.getfield 32, 3) := by decide +kernel
theorem dX11_ask_103 : decode cX11_ask 103 = .ok (.getfield 157, 3) := by decide +kernel
theorem dX11_ask_106 : decode cX11_ask 106 = .ok (.iadd, 1) := by decide +kernel
theorem dX11_ask_107 : decode cX11_ask 107 = .ok (.putfield 172, 3) := by decide +kernel
theorem dX11_ask_110 : decode cX11_ask 110 = .ok (.iload_n 2, 1) := by decide +kernel
theorem dX11_ask_111 : decode cX11_ask 111 = .ok (.ifCond .lt 19, 3) := by decide +kernel
theorem dX11_ask_114 : decode cX11_ask 114 = .ok (.aload_n 0, 1) := by decide +kernel
theorem dX11_ask_115 : decode cX11_ask 115 = .ok (.getfield 22, 3) := by decide +kernel
theorem dX11_ask_118 : decode cX11_ask 118 = .ok (.getfield 77, 3) := by decide +kernel
theorem dX11_ask_121 : decode cX11_ask 121 = .ok (.getfield 114, 3) := by decide +kernel
theorem dX11_ask_124 : decode cX11_ask 124 = .ok (.iload_n 2, 1) := by decide +kernel
theorem dX11_ask_125 : decode cX11_ask 125 = .ok (.dup2, 1) := by decide +kernel
theorem dX11_ask_126 : decode cX11_ask 126 = .ok (.iaload, 1) := by decide +kernel
theorem dX11_ask_127 : decode cX11_ask 127 = .ok (.iconst 1, 1) := by decide +kernel
theorem dX11_ask_128 : decode cX11_ask 128 = .ok (.iadd, 1) := by decide +kernel
theorem dX11_ask_129 : decode cX11_ask 129 = .ok (.iastore, 1) := by decide +kernel
theorem dX11_ask_130 : decode cX11_ask 130 = .ok (.aload_n 0, 1) := by decide +kernel
theorem dX11_ask_131 : decode cX11_ask 131 = .ok (.iload_n 2, 1) := by decide +kernel
theorem dX11_ask_132 : decode cX11_ask 132 = .ok (.invokevirtual 163, 3) := by decide +kernel
theorem dX11_ask_135 : decode cX11_ask 135 = .ok (.ireturn, 1) := by decide +kernel
set_option maxHeartbeats 4000000 in
set_option maxRecDepth 100000 in
theorem c_X11_ask_R (l : Launch) (D : va_G) (cy : ClassId) (x pg wr nw kp wk tr lw nwf nws nwe nwfk nwfv nwfh nwft : Nat) (x_rowsRead : Int32) (x_rowOfImage : Int32) (x_bestsDone : Int32) (nw_asked : Int32) (nw_looksOfAsked : Int32) (nw_changes : Int32) (nwf_size : Int32) (nwfk_a : Nat → Int32) (nwfv_a : Nat → Int32) (nwfh_a : Nat → Int32) (nwft_a : Nat → Int32) (wk_number : Int32) (wk_lane : Int32) (wk_looks : Int32) (a : Int32) (g_0 : 0 ≤ nwf_size.toInt ∧ nwf_size.toInt ≤ 8) (g_1 : (-1) ≤ wk_number.toInt ∧ wk_number.toInt ≤ 7) : wk_Ci l yX11_ask cX11_ask 3 (some .int) { frames := 3, cells := 0, slots := 0, locals := 65 } D cy [.ref x, .int a] [(x, .inr (11, [.ref pg, .ref wr, .ref nw, .ref kp, .ref wk, .ref tr, .ref lw, .int x_rowsRead, .int x_rowOfImage, .int x_bestsDone])), (nw, .inr (2, [.ref nwf, .ref nws, .ref nwe, .int nw_asked, .int nw_looksOfAsked, .int nw_changes])), (nwf, .inr (8, [.ref nwfk, .ref nwfv, .ref nwfh, .ref nwft, .int nwf_size])), (nwfk, .inl (cy, 8, .inl nwfk_a)), (nwfv, .inl (cy, 8, .inl nwfv_a)), (nwfh, .inl (cy, 8, .inl nwfh_a)), (nwft, .inl (cy, 8, .inl nwft_a)), (wk, .inr (10, [.int wk_number, .int wk_lane, .int wk_looks]))] 0 0 (fun (r : Int32) (u : Int32 × Int32 × (Nat → Int32) × Int32 × Int32 × Int32) => (r, u) = (fn_X11_ask_R nw_asked nw_looksOfAsked nwf_size nwfk_a nwfv_a nwfh_a nwft_a wk_number wk_lane wk_looks a) ∧ ((-1) ≤ u.2.2.2.1.toInt ∧ u.2.2.2.1.toInt ≤ 7)) (fun u => [(x, .inr (11, [.ref pg, .ref wr, .ref nw, .ref kp, .ref wk, .ref tr, .ref lw, .int x_rowsRead, .int x_rowOfImage, .int x_bestsDone])), (nw, .inr (2, [.ref nwf, .ref nws, .ref nwe, .int u.1, .int u.2.1, .int nw_changes])), (nwf, .inr (8, [.ref nwfk, .ref nwfv, .ref nwfh, .ref nwft, .int nwf_size])), (nwfk, .inl (cy, 8, .inl nwfk_a)), (nwfv, .inl (cy, 8, .inl nwfv_a)), (nwfh, .inl (cy, 8, .inl nwfh_a)), (nwft, .inl (cy, 8, .inl u.2.2.1)), (wk, .inr (10, [.int u.2.2.2.1, .int u.2.2.2.2.1, .int u.2.2.2.2.2]))]) := by
  refine wk_mk2Ci (by decide) (Nat.le_of_ble_eq_true rfl) ?_
  intro p e s m args below meth c A ls Q B hA hK hP hD hS hl hret
  obtain ⟨hx, hb, hr, hlocks, hml, hown, htb, hin⟩ := B
  have hl : lv_has ls 3 [(0, .ref x), (1, .int a)] := hl
  have hF : (fn_X11_ask_R nw_asked nw_looksOfAsked nwf_size nwfk_a nwfv_a nwfh_a nwft_a wk_number wk_lane wk_looks a) = (fn_X11_ask_R nw_asked nw_looksOfAsked nwf_size nwfk_a nwfv_a nwfh_a nwft_a wk_number wk_lane wk_looks a) := rfl
  conv at hF => rhs; unfold fn_X11_ask_R
  refine lv_iload_n hx hb dX11_ask_0 rfl (lv_at hl 1 rfl) ?_
  refine wk_iS (As := [.int a]) (rest := []) (wc := []) (wr := [(x, .inr (11, [.ref pg, .ref wr, .ref nw, .ref kp, .ref wk, .ref tr, .ref lw, .int x_rowsRead, .int x_rowOfImage, .int x_bestsDone])), (nw, .inr (2, [.ref nwf, .ref nws, .ref nwe, .int nw_asked, .int nw_looksOfAsked, .int nw_changes])), (nwf, .inr (8, [.ref nwfk, .ref nwfv, .ref nwfh, .ref nwft, .int nwf_size])), (nwfk, .inl (cy, 8, .inl nwfk_a)), (nwfv, .inl (cy, 8, .inl nwfv_a)), (nwfh, .inl (cy, 8, .inl nwfh_a)), (nwft, .inl (cy, 8, .inl nwft_a)), (wk, .inr (10, [.int wk_number, .int wk_lane, .int wk_looks]))]) (n := 1) ⟨hx, hb, hml, hown, htb⟩ (c_X11_isNoKey l D cy   a ) tw_563 tw_561 tw_562 tw_64 rfl rfl (by decide +kernel) ⟨Nat.le_of_ble_eq_true rfl, Nat.le_of_ble_eq_true rfl⟩ hK hP hD hS hA [] [0, 1, 2, 3, 4, 5, 6, 7] rfl rfl rfl rfl (by decide) rfl hl.1 rfl (Nat.le_of_ble_eq_true rfl) dX11_ask_1 ⟨Nat.le_of_ble_eq_true rfl, Nat.le_of_ble_eq_true rfl⟩ (fun r_1 u_2 H locs hw_3 hP hD hS => ?_)
  refine W.widen (k := 0) (n := 0) (by decide) (by decide) ?_
  obtain ⟨hw_3, k_4, k_5⟩ := hw_3
  have hw_3 : r_1 = (fn_X11_isNoKey a) := hw_3
  subst hw_3
  have k_4 : ((fn_X11_isNoKey a) = 0 ∨ (fn_X11_isNoKey a) = 1) := k_4
  have k_5 : (wk_or ((fn_X11_isNoKey a).toInt = 1) (0 ≤ a.toInt ∧ a.toInt ≤ 99)) := k_5
  have k_6 : 0 ≤ (fn_X11_isNoKey a).toInt ∧ (fn_X11_isNoKey a).toInt ≤ 1 := wk_b01 (by assumption)
  have hP : va_P D classes [(x, .inr (11, [.ref pg, .ref wr, .ref nw, .ref kp, .ref wk, .ref tr, .ref lw, .int x_rowsRead, .int x_rowOfImage, .int x_bestsDone])), (nw, .inr (2, [.ref nwf, .ref nws, .ref nwe, .int nw_asked, .int nw_looksOfAsked, .int nw_changes])), (nwf, .inr (8, [.ref nwfk, .ref nwfv, .ref nwfh, .ref nwft, .int nwf_size])), (nwfk, .inl (cy, 8, .inl nwfk_a)), (nwfv, .inl (cy, 8, .inl nwfv_a)), (nwfh, .inl (cy, 8, .inl nwfh_a)), (nwft, .inl (cy, 8, .inl nwft_a)), (wk, .inr (10, [.int wk_number, .int wk_lane, .int wk_looks]))] H := hP
  have hD : va_D A [(x, .inr (11, [.ref pg, .ref wr, .ref nw, .ref kp, .ref wk, .ref tr, .ref lw, .int x_rowsRead, .int x_rowOfImage, .int x_bestsDone])), (nw, .inr (2, [.ref nwf, .ref nws, .ref nwe, .int nw_asked, .int nw_looksOfAsked, .int nw_changes])), (nwf, .inr (8, [.ref nwfk, .ref nwfv, .ref nwfh, .ref nwft, .int nwf_size])), (nwfk, .inl (cy, 8, .inl nwfk_a)), (nwfv, .inl (cy, 8, .inl nwfv_a)), (nwfh, .inl (cy, 8, .inl nwfh_a)), (nwft, .inl (cy, 8, .inl nwft_a)), (wk, .inr (10, [.int wk_number, .int wk_lane, .int wk_looks]))] := hD
  refine lv_if_eq (tgt := 10) hx hb dX11_ask_4 (by decide) (fun c_7 => ?_) (fun c_7 => ?_)
  · have k_7 : (fn_X11_isNoKey a).toInt = 0 := wk_eq c_7
    have k_8 : 0 ≤ a.toInt ∧ a.toInt ≤ 99 := wk_orR k_5 (by rw [k_7]; decide)
    replace hF := hF.trans (if_pos c_7)
    refine lv_aload_n hx hb dX11_ask_10 rfl (lv_at hl 0 rfl) ?_
    refine va_get (D := D) (ci := 11) (v := .ref lw) (C := RX11) (T := TX11) (N := 10) hx hb htb inX11 hown hK hP 0 rfl rfl 6 (by decide) (htb _ tw_258) (fun _ h9 => h9) rfl dX11_ask_11 ?_
    refine lv_ifnonnull (tgt := 20) hx hb dX11_ask_14 (by decide) ?_
    refine lv_aload_n hx hb dX11_ask_20 rfl (lv_at hl 0 rfl) ?_
    refine va_get (D := D) (ci := 11) (v := .ref wk) (C := RX11) (T := TX11) (N := 10) hx hb htb inX11 hown hK hP 0 rfl rfl 4 (by decide) (htb _ tw_256) (fun _ h9 => h9) rfl dX11_ask_21 ?_
    refine lv_aload_n hx hb dX11_ask_24 rfl (lv_at hl 0 rfl) ?_
    refine va_get (D := D) (ci := 11) (v := .ref nw) (C := RX11) (T := TX11) (N := 10) hx hb htb inX11 hown hK hP 0 rfl rfl 2 (by decide) (htb _ tw_254) (fun _ h9 => h9) rfl dX11_ask_25 ?_
    refine va_get (D := D) (ci := 2) (v := .ref nwf) (C := RX2) (T := TX2) (N := 6) hx hb htb inX2 hown hK hP 1 rfl rfl 0 (by decide) (htb _ tw_171) (fun _ h9 => h9) rfl dX11_ask_28 ?_
    refine lv_aload_n hx hb dX11_ask_31 rfl (lv_at hl 0 rfl) ?_
    refine va_get (D := D) (ci := 11) (v := .ref nw) (C := RX11) (T := TX11) (N := 10) hx hb htb inX11 hown hK hP 0 rfl rfl 2 (by decide) (htb _ tw_254) (fun _ h9 => h9) rfl dX11_ask_32 ?_
    refine va_get (D := D) (ci := 2) (v := .ref nwf) (C := RX2) (T := TX2) (N := 6) hx hb htb inX2 hown hK hP 1 rfl rfl 0 (by decide) (htb _ tw_171) (fun _ h9 => h9) rfl dX11_ask_35 ?_
    refine va_get (D := D) (ci := 8) (v := .ref nwfh) (C := RX8) (T := TX8) (N := 5) hx hb htb inX8 hown hK hP 2 rfl rfl 2 (by decide) (htb _ tw_125) (fun _ h9 => h9) rfl dX11_ask_38 ?_
    refine lv_iconst (v := (-1)) hx hb dX11_ask_41 (by decide) ?_
    refine lv_iload_n hx hb dX11_ask_42 rfl (lv_at hl 1 rfl) ?_
    refine wk_vV (As := [.ref nwf, .ref nwfh, .int (-1), .int a]) (rest := []) (wc := [(wk, .inr (10, [.int wk_number, .int wk_lane, .int wk_looks])), (nwf, .inr (8, [.ref nwfk, .ref nwfv, .ref nwfh, .ref nwft, .int nwf_size])), (nwfk, .inl (cy, 8, .inl nwfk_a)), (nwfh, .inl (cy, 8, .inl nwfh_a))]) (wr := [(x, .inr (11, [.ref pg, .ref wr, .ref nw, .ref kp, .ref wk, .ref tr, .ref lw, .int x_rowsRead, .int x_rowOfImage, .int x_bestsDone])), (nw, .inr (2, [.ref nwf, .ref nws, .ref nwe, .int nw_asked, .int nw_looksOfAsked, .int nw_changes])), (nwfv, .inl (cy, 8, .inl nwfv_a)), (nwft, .inl (cy, 8, .inl nwft_a))]) (n := 4) ⟨hx, hb, hml, hown, htb⟩ (c_X10_go l D cy wk nwf nwfk nwfv nwfh nwft nwfh wk_number wk_lane wk_looks nwf_size nwfk_a nwfh_a (-1) a (show (-1) ≤ wk_number.toInt ∧ wk_number.toInt ≤ 7 from by omega) (show 0 ≤ nwf_size.toInt ∧ nwf_size.toInt ≤ 8 from by omega)) tw_489 tw_486 tw_487 tw_488 tw_69 rfl rfl (by decide +kernel) ⟨Nat.le_of_ble_eq_true rfl, Nat.le_of_ble_eq_true rfl⟩ hK hP hD hS hA [7, 2, 3, 5] [0, 1, 4, 6] rfl rfl rfl rfl (by decide) 0 (ci := 10) rfl rfl rfl hl.1 rfl (Nat.le_of_ble_eq_true rfl) dX11_ask_43 ⟨Nat.le_of_ble_eq_true rfl, Nat.le_of_ble_eq_true rfl⟩ (fun u_10 H locs hw_11 hP hD hS => ?_)
    refine W.widen (k := 0) (n := 0) (by decide) (by decide) ?_
    obtain ⟨o_12, o_13, o_14⟩ := u_10
    obtain ⟨hw_11, k_15⟩ := hw_11
    have hw_11 : (o_12, o_13, o_14) = (fn_X10_go wk_number wk_lane wk_looks nwf_size nwfk_a nwfh_a (-1) a) := hw_11
    have k_15 : ((-1) ≤ o_12.toInt ∧ o_12.toInt ≤ 7) := k_15
    rw [← hw_11] at hF
    rw [pm2_mk o_12 (o_13, o_14), pm2_mk o_13 o_14] at hF
    have hP : va_P D classes [(x, .inr (11, [.ref pg, .ref wr, .ref nw, .ref kp, .ref wk, .ref tr, .ref lw, .int x_rowsRead, .int x_rowOfImage, .int x_bestsDone])), (nw, .inr (2, [.ref nwf, .ref nws, .ref nwe, .int nw_asked, .int nw_looksOfAsked, .int nw_changes])), (nwfv, .inl (cy, 8, .inl nwfv_a)), (nwft, .inl (cy, 8, .inl nwft_a)), (wk, .inr (10, [.int o_12, .int o_13, .int o_14])), (nwf, .inr (8, [.ref nwfk, .ref nwfv, .ref nwfh, .ref nwft, .int nwf_size])), (nwfk, .inl (cy, 8, .inl nwfk_a)), (nwfh, .inl (cy, 8, .inl nwfh_a))] H := hP
    have hD : va_D A [(x, .inr (11, [.ref pg, .ref wr, .ref nw, .ref kp, .ref wk, .ref tr, .ref lw, .int x_rowsRead, .int x_rowOfImage, .int x_bestsDone])), (nw, .inr (2, [.ref nwf, .ref nws, .ref nwe, .int nw_asked, .int nw_looksOfAsked, .int nw_changes])), (nwfv, .inl (cy, 8, .inl nwfv_a)), (nwft, .inl (cy, 8, .inl nwft_a)), (wk, .inr (10, [.int o_12, .int o_13, .int o_14])), (nwf, .inr (8, [.ref nwfk, .ref nwfv, .ref nwfh, .ref nwft, .int nwf_size])), (nwfk, .inl (cy, 8, .inl nwfk_a)), (nwfh, .inl (cy, 8, .inl nwfh_a))] := hD
    refine lv_aload_n hx hb dX11_ask_46 rfl (lv_at hl 0 rfl) ?_
    refine va_get (D := D) (ci := 11) (v := .ref wk) (C := RX11) (T := TX11) (N := 10) hx hb htb inX11 hown hK hP 0 rfl rfl 4 (by decide) (htb _ tw_256) (fun _ h9 => h9) rfl dX11_ask_47 ?_
    refine va_get (D := D) (ci := 10) (v := .int o_12) (C := RX10) (T := TX10) (N := 3) hx hb htb inX10 hown hK hP 4 rfl rfl 0 (by decide) (htb _ tw_202) (fun _ h9 => h9) rfl dX11_ask_50 ?_
    refine lv_istore_n (lv' := [(2, .int o_12), (0, .ref x), (1, .int a)]) hx hb dX11_ask_53 rfl hl (by decide) rfl (fun ls hl => ?_)
    refine lv_iload_n hx hb dX11_ask_54 rfl (lv_at hl 0 rfl) ?_
    refine lv_if_lt (tgt := 78) hx hb dX11_ask_55 (by decide) (fun c_16 => ?_) (fun c_16 => ?_)
    · have k_16 : o_12.toInt < 0 := wk_lt c_16
      replace hF := hF.trans (if_pos c_16)
      refine lv_aload_n hx hb dX11_ask_78 rfl (lv_at hl 1 rfl) ?_
      refine va_get (D := D) (ci := 11) (v := .ref nw) (C := RX11) (T := TX11) (N := 10) hx hb htb inX11 hown hK hP 0 rfl rfl 2 (by decide) (htb _ tw_254) (fun _ h9 => h9) rfl dX11_ask_79 ?_
      refine lv_dup hx hb dX11_ask_82 rfl ?_
      refine va_get (D := D) (ci := 2) (v := .int nw_asked) (C := RX2) (T := TX2) (N := 6) hx hb htb inX2 hown hK hP 1 rfl rfl 3 (by decide) (htb _ tw_177) (fun _ h9 => h9) rfl dX11_ask_83 ?_
      refine lv_iconst (v := 1) hx hb dX11_ask_86 (by decide) ?_
      refine lv_iadd hx hb dX11_ask_87 ?_
      refine va_put (D := D) (ci := 2) (v := .int (nw_asked + 1)) (ty := .int) (C := RX2) (T := TX2) (N := 6) hx hb htb inX2 tyX2 tyX2_ok nmX2 hown hK hP hD hS 1 rfl rfl 3 (by decide) (htb _ tw_177) (fun _ h9 => h9) rfl (by decide +kernel) rfl rfl (Nat.le_of_ble_eq_true rfl) dX11_ask_88 (fun H locs hP hD hS => ?_)
      have hP : va_P D classes [(x, .inr (11, [.ref pg, .ref wr, .ref nw, .ref kp, .ref wk, .ref tr, .ref lw, .int x_rowsRead, .int x_rowOfImage, .int x_bestsDone])), (nw, .inr (2, [.ref nwf, .ref nws, .ref nwe, .int (nw_asked + 1), .int nw_looksOfAsked, .int nw_changes])), (nwfv, .inl (cy, 8, .inl nwfv_a)), (nwft, .inl (cy, 8, .inl nwft_a)), (wk, .inr (10, [.int o_12, .int o_13, .int o_14])), (nwf, .inr (8, [.ref nwfk, .ref nwfv, .ref nwfh, .ref nwft, .int nwf_size])), (nwfk, .inl (cy, 8, .inl nwfk_a)), (nwfh, .inl (cy, 8, .inl nwfh_a))] H := hP
      have hD : va_D A [(x, .inr (11, [.ref pg, .ref wr, .ref nw, .ref kp, .ref wk, .ref tr, .ref lw, .int x_rowsRead, .int x_rowOfImage, .int x_bestsDone])), (nw, .inr (2, [.ref nwf, .ref nws, .ref nwe, .int (nw_asked + 1), .int nw_looksOfAsked, .int nw_changes])), (nwfv, .inl (cy, 8, .inl nwfv_a)), (nwft, .inl (cy, 8, .inl nwft_a)), (wk, .inr (10, [.int o_12, .int o_13, .int o_14])), (nwf, .inr (8, [.ref nwfk, .ref nwfv, .ref nwfh, .ref nwft, .int nwf_size])), (nwfk, .inl (cy, 8, .inl nwfk_a)), (nwfh, .inl (cy, 8, .inl nwfh_a))] := hD
      refine lv_aload_n hx hb dX11_ask_91 rfl (lv_at hl 1 rfl) ?_
      refine va_get (D := D) (ci := 11) (v := .ref nw) (C := RX11) (T := TX11) (N := 10) hx hb htb inX11 hown hK hP 0 rfl rfl 2 (by decide) (htb _ tw_254) (fun _ h9 => h9) rfl dX11_ask_92 ?_
      refine lv_dup hx hb dX11_ask_95 rfl ?_
      refine va_get (D := D) (ci := 2) (v := .int nw_looksOfAsked) (C := RX2) (T := TX2) (N := 6) hx hb htb inX2 hown hK hP 1 rfl rfl 4 (by decide) (htb _ tw_179) (fun _ h9 => h9) rfl dX11_ask_96 ?_
      refine lv_aload_n hx hb dX11_ask_99 rfl (lv_at hl 1 rfl) ?_
      refine va_get (D := D) (ci := 11) (v := .ref wk) (C := RX11) (T := TX11) (N := 10) hx hb htb inX11 hown hK hP 0 rfl rfl 4 (by decide) (htb _ tw_256) (fun _ h9 => h9) rfl dX11_ask_100 ?_
      refine va_get (D := D) (ci := 10) (v := .int o_14) (C := RX10) (T := TX10) (N := 3) hx hb htb inX10 hown hK hP 4 rfl rfl 2 (by decide) (htb _ tw_207) (fun _ h9 => h9) rfl dX11_ask_103 ?_
      refine lv_iadd hx hb dX11_ask_106 ?_
      refine va_put (D := D) (ci := 2) (v := .int (nw_looksOfAsked + o_14)) (ty := .int) (C := RX2) (T := TX2) (N := 6) hx hb htb inX2 tyX2 tyX2_ok nmX2 hown hK hP hD hS 1 rfl rfl 4 (by decide) (htb _ tw_179) (fun _ h9 => h9) rfl (by decide +kernel) rfl rfl (Nat.le_of_ble_eq_true rfl) dX11_ask_107 (fun H locs hP hD hS => ?_)
      have hP : va_P D classes [(x, .inr (11, [.ref pg, .ref wr, .ref nw, .ref kp, .ref wk, .ref tr, .ref lw, .int x_rowsRead, .int x_rowOfImage, .int x_bestsDone])), (nw, .inr (2, [.ref nwf, .ref nws, .ref nwe, .int (nw_asked + 1), .int (nw_looksOfAsked + o_14), .int nw_changes])), (nwfv, .inl (cy, 8, .inl nwfv_a)), (nwft, .inl (cy, 8, .inl nwft_a)), (wk, .inr (10, [.int o_12, .int o_13, .int o_14])), (nwf, .inr (8, [.ref nwfk, .ref nwfv, .ref nwfh, .ref nwft, .int nwf_size])), (nwfk, .inl (cy, 8, .inl nwfk_a)), (nwfh, .inl (cy, 8, .inl nwfh_a))] H := hP
      have hD : va_D A [(x, .inr (11, [.ref pg, .ref wr, .ref nw, .ref kp, .ref wk, .ref tr, .ref lw, .int x_rowsRead, .int x_rowOfImage, .int x_bestsDone])), (nw, .inr (2, [.ref nwf, .ref nws, .ref nwe, .int (nw_asked + 1), .int (nw_looksOfAsked + o_14), .int nw_changes])), (nwfv, .inl (cy, 8, .inl nwfv_a)), (nwft, .inl (cy, 8, .inl nwft_a)), (wk, .inr (10, [.int o_12, .int o_13, .int o_14])), (nwf, .inr (8, [.ref nwfk, .ref nwfv, .ref nwfh, .ref nwft, .int nwf_size])), (nwfk, .inl (cy, 8, .inl nwfk_a)), (nwfh, .inl (cy, 8, .inl nwfh_a))] := hD
      refine lv_iload_n hx hb dX11_ask_110 rfl (lv_at hl 0 rfl) ?_
      refine lv_if_lt (tgt := 130) hx hb dX11_ask_111 (by decide) (fun c_17 => ?_) (fun c_17 => ?_)
      · have k_17 : o_12.toInt < 0 := wk_lt c_17
        replace hF := hF.trans (if_pos c_17)
        refine lv_aload_n hx hb dX11_ask_130 rfl (lv_at hl 1 rfl) ?_
        refine lv_iload_n hx hb dX11_ask_131 rfl (lv_at hl 0 rfl) ?_
        refine wk_iV (As := [.int o_12]) (rest := []) (wc := [(x, .inr (11, [.ref pg, .ref wr, .ref nw, .ref kp, .ref wk, .ref tr, .ref lw, .int x_rowsRead, .int x_rowOfImage, .int x_bestsDone])), (nw, .inr (2, [.ref nwf, .ref nws, .ref nwe, .int (nw_asked + 1), .int (nw_looksOfAsked + o_14), .int nw_changes])), (nwf, .inr (8, [.ref nwfk, .ref nwfv, .ref nwfh, .ref nwft, .int nwf_size])), (nwfv, .inl (cy, 8, .inl nwfv_a))]) (wr := [(nwft, .inl (cy, 8, .inl nwft_a)), (wk, .inr (10, [.int o_12, .int o_13, .int o_14])), (nwfk, .inl (cy, 8, .inl nwfk_a)), (nwfh, .inl (cy, 8, .inl nwfh_a))]) (n := 1) ⟨hx, hb, hml, hown, htb⟩ (c_X11_valueOf l D cy x pg wr nw kp wk tr nwf nws nwe nwfk nwfv nwfh nwft (.ref lw) x_rowsRead x_rowOfImage x_bestsDone (nw_asked + 1) (nw_looksOfAsked + o_14) nw_changes nwf_size nwfv_a o_12 (show 0 ≤ nwf_size.toInt ∧ nwf_size.toInt ≤ 8 from by omega)) tw_567 tw_564 tw_566 tw_14 tw_64 rfl rfl (by decide +kernel) ⟨Nat.le_of_ble_eq_true rfl, Nat.le_of_ble_eq_true rfl⟩ hK hP hD hS hA [0, 1, 5, 2] [3, 4, 6, 7] rfl rfl rfl rfl (by decide) 0 (ci := 11) rfl rfl rfl hl.1 rfl (Nat.le_of_ble_eq_true rfl) dX11_ask_132 ⟨Nat.le_of_ble_eq_true rfl, Nat.le_of_ble_eq_true rfl⟩ (fun r_18 u_19 H locs hw_20 hP hD hS => ?_)
        refine W.widen (k := 0) (n := 0) (by decide) (by decide) ?_
        have hw_20 : r_18 = (fn_X11_valueOf nwf_size nwfv_a o_12) := hw_20
        subst hw_20
        have hP : va_P D classes [(nwft, .inl (cy, 8, .inl nwft_a)), (wk, .inr (10, [.int o_12, .int o_13, .int o_14])), (nwfk, .inl (cy, 8, .inl nwfk_a)), (nwfh, .inl (cy, 8, .inl nwfh_a)), (x, .inr (11, [.ref pg, .ref wr, .ref nw, .ref kp, .ref wk, .ref tr, .ref lw, .int x_rowsRead, .int x_rowOfImage, .int x_bestsDone])), (nw, .inr (2, [.ref nwf, .ref nws, .ref nwe, .int (nw_asked + 1), .int (nw_looksOfAsked + o_14), .int nw_changes])), (nwf, .inr (8, [.ref nwfk, .ref nwfv, .ref nwfh, .ref nwft, .int nwf_size])), (nwfv, .inl (cy, 8, .inl nwfv_a))] H := hP
        have hD : va_D A [(nwft, .inl (cy, 8, .inl nwft_a)), (wk, .inr (10, [.int o_12, .int o_13, .int o_14])), (nwfk, .inl (cy, 8, .inl nwfk_a)), (nwfh, .inl (cy, 8, .inl nwfh_a)), (x, .inr (11, [.ref pg, .ref wr, .ref nw, .ref kp, .ref wk, .ref tr, .ref lw, .int x_rowsRead, .int x_rowOfImage, .int x_bestsDone])), (nw, .inr (2, [.ref nwf, .ref nws, .ref nwe, .int (nw_asked + 1), .int (nw_looksOfAsked + o_14), .int nw_changes])), (nwf, .inr (8, [.ref nwfk, .ref nwfv, .ref nwfh, .ref nwft, .int nwf_size])), (nwfv, .inl (cy, 8, .inl nwfv_a))] := hD
        refine W.widen (k := 0) (n := 0) (by decide) (by decide) ?_
        exact hret (fn_X11_valueOf nwf_size nwfv_a o_12) ((nw_asked + 1), (nw_looksOfAsked + o_14), nwft_a, o_12, o_13, o_14) _ _ _ 135 (wk_sub9 (is := [4, 5, 6, 2, 7, 3, 0, 1]) hP rfl) (hD.sub [4, 5, 6, 2, 7, 3, 0, 1] rfl rfl) hS dX11_ask_135 ⟨hF.symm, (show ((-1) ≤ o_12.toInt ∧ o_12.toInt ≤ 7) from by omega)⟩
      · have k_17 : ¬ o_12.toInt < 0 := wk_nlt c_17
        replace hF := hF.trans (if_neg c_17)
        exfalso; omega
    · have k_16 : ¬ o_12.toInt < 0 := wk_nlt c_16
      replace hF := hF.trans (if_neg c_16)
      refine lv_aload_n hx hb dX11_ask_58 rfl (lv_at hl 1 rfl) ?_
      refine va_get (D := D) (ci := 11) (v := .ref nw) (C := RX11) (T := TX11) (N := 10) hx hb htb inX11 hown hK hP 0 rfl rfl 2 (by decide) (htb _ tw_254) (fun _ h9 => h9) rfl dX11_ask_59 ?_
      refine va_get (D := D) (ci := 2) (v := .ref nwf) (C := RX2) (T := TX2) (N := 6) hx hb htb inX2 hown hK hP 1 rfl rfl 0 (by decide) (htb _ tw_171) (fun _ h9 => h9) rfl dX11_ask_62 ?_
      refine va_get (D := D) (ci := 8) (v := .ref nwft) (C := RX8) (T := TX8) (N := 5) hx hb htb inX8 hown hK hP 5 rfl rfl 3 (by decide) (htb _ tw_128) (fun _ h9 => h9) rfl dX11_ask_65 ?_
      refine lv_iload_n hx hb dX11_ask_68 rfl (lv_at hl 0 rfl) ?_
      refine va_iald hx hb hK hP 3 0 rfl rfl (show vp_in o_12 8 from vp_in_iff.mpr (show 0 ≤ o_12.toInt ∧ o_12.toInt < ((8 : Nat) : Int) from by omega)) dX11_ask_69 ?_
      refine lv_bipush (v := 99) hx hb dX11_ask_70 (by decide) ?_
      refine lv_icmp_lt (tgt := 78) hx hb dX11_ask_72 (by decide) (fun c_21 => ?_) (fun c_21 => ?_)
      · have k_21 : (nwft_a o_12.toNatClampNeg).toInt < 99 := wk_lt c_21
        replace hF := hF.trans (if_pos c_21)
        refine lv_aload_n hx hb dX11_ask_78 rfl (lv_at hl 1 rfl) ?_
        refine va_get (D := D) (ci := 11) (v := .ref nw) (C := RX11) (T := TX11) (N := 10) hx hb htb inX11 hown hK hP 0 rfl rfl 2 (by decide) (htb _ tw_254) (fun _ h9 => h9) rfl dX11_ask_79 ?_
        refine lv_dup hx hb dX11_ask_82 rfl ?_
        refine va_get (D := D) (ci := 2) (v := .int nw_asked) (C := RX2) (T := TX2) (N := 6) hx hb htb inX2 hown hK hP 1 rfl rfl 3 (by decide) (htb _ tw_177) (fun _ h9 => h9) rfl dX11_ask_83 ?_
        refine lv_iconst (v := 1) hx hb dX11_ask_86 (by decide) ?_
        refine lv_iadd hx hb dX11_ask_87 ?_
        refine va_put (D := D) (ci := 2) (v := .int (nw_asked + 1)) (ty := .int) (C := RX2) (T := TX2) (N := 6) hx hb htb inX2 tyX2 tyX2_ok nmX2 hown hK hP hD hS 1 rfl rfl 3 (by decide) (htb _ tw_177) (fun _ h9 => h9) rfl (by decide +kernel) rfl rfl (Nat.le_of_ble_eq_true rfl) dX11_ask_88 (fun H locs hP hD hS => ?_)
        have hP : va_P D classes [(x, .inr (11, [.ref pg, .ref wr, .ref nw, .ref kp, .ref wk, .ref tr, .ref lw, .int x_rowsRead, .int x_rowOfImage, .int x_bestsDone])), (nw, .inr (2, [.ref nwf, .ref nws, .ref nwe, .int (nw_asked + 1), .int nw_looksOfAsked, .int nw_changes])), (nwfv, .inl (cy, 8, .inl nwfv_a)), (nwft, .inl (cy, 8, .inl nwft_a)), (wk, .inr (10, [.int o_12, .int o_13, .int o_14])), (nwf, .inr (8, [.ref nwfk, .ref nwfv, .ref nwfh, .ref nwft, .int nwf_size])), (nwfk, .inl (cy, 8, .inl nwfk_a)), (nwfh, .inl (cy, 8, .inl nwfh_a))] H := hP
        have hD : va_D A [(x, .inr (11, [.ref pg, .ref wr, .ref nw, .ref kp, .ref wk, .ref tr, .ref lw, .int x_rowsRead, .int x_rowOfImage, .int x_bestsDone])), (nw, .inr (2, [.ref nwf, .ref nws, .ref nwe, .int (nw_asked + 1), .int nw_looksOfAsked, .int nw_changes])), (nwfv, .inl (cy, 8, .inl nwfv_a)), (nwft, .inl (cy, 8, .inl nwft_a)), (wk, .inr (10, [.int o_12, .int o_13, .int o_14])), (nwf, .inr (8, [.ref nwfk, .ref nwfv, .ref nwfh, .ref nwft, .int nwf_size])), (nwfk, .inl (cy, 8, .inl nwfk_a)), (nwfh, .inl (cy, 8, .inl nwfh_a))] := hD
        refine lv_aload_n hx hb dX11_ask_91 rfl (lv_at hl 1 rfl) ?_
        refine va_get (D := D) (ci := 11) (v := .ref nw) (C := RX11) (T := TX11) (N := 10) hx hb htb inX11 hown hK hP 0 rfl rfl 2 (by decide) (htb _ tw_254) (fun _ h9 => h9) rfl dX11_ask_92 ?_
        refine lv_dup hx hb dX11_ask_95 rfl ?_
        refine va_get (D := D) (ci := 2) (v := .int nw_looksOfAsked) (C := RX2) (T := TX2) (N := 6) hx hb htb inX2 hown hK hP 1 rfl rfl 4 (by decide) (htb _ tw_179) (fun _ h9 => h9) rfl dX11_ask_96 ?_
        refine lv_aload_n hx hb dX11_ask_99 rfl (lv_at hl 1 rfl) ?_
        refine va_get (D := D) (ci := 11) (v := .ref wk) (C := RX11) (T := TX11) (N := 10) hx hb htb inX11 hown hK hP 0 rfl rfl 4 (by decide) (htb _ tw_256) (fun _ h9 => h9) rfl dX11_ask_100 ?_
        refine va_get (D := D) (ci := 10) (v := .int o_14) (C := RX10) (T := TX10) (N := 3) hx hb htb inX10 hown hK hP 4 rfl rfl 2 (by decide) (htb _ tw_207) (fun _ h9 => h9) rfl dX11_ask_103 ?_
        refine lv_iadd hx hb dX11_ask_106 ?_
        refine va_put (D := D) (ci := 2) (v := .int (nw_looksOfAsked + o_14)) (ty := .int) (C := RX2) (T := TX2) (N := 6) hx hb htb inX2 tyX2 tyX2_ok nmX2 hown hK hP hD hS 1 rfl rfl 4 (by decide) (htb _ tw_179) (fun _ h9 => h9) rfl (by decide +kernel) rfl rfl (Nat.le_of_ble_eq_true rfl) dX11_ask_107 (fun H locs hP hD hS => ?_)
        have hP : va_P D classes [(x, .inr (11, [.ref pg, .ref wr, .ref nw, .ref kp, .ref wk, .ref tr, .ref lw, .int x_rowsRead, .int x_rowOfImage, .int x_bestsDone])), (nw, .inr (2, [.ref nwf, .ref nws, .ref nwe, .int (nw_asked + 1), .int (nw_looksOfAsked + o_14), .int nw_changes])), (nwfv, .inl (cy, 8, .inl nwfv_a)), (nwft, .inl (cy, 8, .inl nwft_a)), (wk, .inr (10, [.int o_12, .int o_13, .int o_14])), (nwf, .inr (8, [.ref nwfk, .ref nwfv, .ref nwfh, .ref nwft, .int nwf_size])), (nwfk, .inl (cy, 8, .inl nwfk_a)), (nwfh, .inl (cy, 8, .inl nwfh_a))] H := hP
        have hD : va_D A [(x, .inr (11, [.ref pg, .ref wr, .ref nw, .ref kp, .ref wk, .ref tr, .ref lw, .int x_rowsRead, .int x_rowOfImage, .int x_bestsDone])), (nw, .inr (2, [.ref nwf, .ref nws, .ref nwe, .int (nw_asked + 1), .int (nw_looksOfAsked + o_14), .int nw_changes])), (nwfv, .inl (cy, 8, .inl nwfv_a)), (nwft, .inl (cy, 8, .inl nwft_a)), (wk, .inr (10, [.int o_12, .int o_13, .int o_14])), (nwf, .inr (8, [.ref nwfk, .ref nwfv, .ref nwfh, .ref nwft, .int nwf_size])), (nwfk, .inl (cy, 8, .inl nwfk_a)), (nwfh, .inl (cy, 8, .inl nwfh_a))] := hD
        refine lv_iload_n hx hb dX11_ask_110 rfl (lv_at hl 0 rfl) ?_
        refine lv_if_lt (tgt := 130) hx hb dX11_ask_111 (by decide) (fun c_22 => ?_) (fun c_22 => ?_)
        · have k_22 : o_12.toInt < 0 := wk_lt c_22
          replace hF := hF.trans (if_pos c_22)
          exfalso; omega
        · have k_22 : ¬ o_12.toInt < 0 := wk_nlt c_22
          replace hF := hF.trans (if_neg c_22)
          refine lv_aload_n hx hb dX11_ask_114 rfl (lv_at hl 1 rfl) ?_
          refine va_get (D := D) (ci := 11) (v := .ref nw) (C := RX11) (T := TX11) (N := 10) hx hb htb inX11 hown hK hP 0 rfl rfl 2 (by decide) (htb _ tw_254) (fun _ h9 => h9) rfl dX11_ask_115 ?_
          refine va_get (D := D) (ci := 2) (v := .ref nwf) (C := RX2) (T := TX2) (N := 6) hx hb htb inX2 hown hK hP 1 rfl rfl 0 (by decide) (htb _ tw_171) (fun _ h9 => h9) rfl dX11_ask_118 ?_
          refine va_get (D := D) (ci := 8) (v := .ref nwft) (C := RX8) (T := TX8) (N := 5) hx hb htb inX8 hown hK hP 5 rfl rfl 3 (by decide) (htb _ tw_128) (fun _ h9 => h9) rfl dX11_ask_121 ?_
          refine lv_iload_n hx hb dX11_ask_124 rfl (lv_at hl 0 rfl) ?_
          refine lv_dup2_11 hx hb dX11_ask_125 rfl rfl ?_
          refine va_iald hx hb hK hP 3 0 rfl rfl (show vp_in o_12 8 from vp_in_iff.mpr (show 0 ≤ o_12.toInt ∧ o_12.toInt < ((8 : Nat) : Int) from by omega)) dX11_ask_126 ?_
          refine lv_iconst (v := 1) hx hb dX11_ask_127 (by decide) ?_
          refine lv_iadd hx hb dX11_ask_128 ?_
          refine va_iast hx hb hK hP hD hS 3 0 rfl rfl (show vp_in o_12 8 from vp_in_iff.mpr (show 0 ≤ o_12.toInt ∧ o_12.toInt < ((8 : Nat) : Int) from by omega)) dX11_ask_129 (fun H locs hP hD hS => ?_)
          have hP : va_P D classes [(x, .inr (11, [.ref pg, .ref wr, .ref nw, .ref kp, .ref wk, .ref tr, .ref lw, .int x_rowsRead, .int x_rowOfImage, .int x_bestsDone])), (nw, .inr (2, [.ref nwf, .ref nws, .ref nwe, .int (nw_asked + 1), .int (nw_looksOfAsked + o_14), .int nw_changes])), (nwfv, .inl (cy, 8, .inl nwfv_a)), (nwft, .inl (cy, 8, .inl (upd nwft_a o_12.toNatClampNeg ((nwft_a o_12.toNatClampNeg) + 1)))), (wk, .inr (10, [.int o_12, .int o_13, .int o_14])), (nwf, .inr (8, [.ref nwfk, .ref nwfv, .ref nwfh, .ref nwft, .int nwf_size])), (nwfk, .inl (cy, 8, .inl nwfk_a)), (nwfh, .inl (cy, 8, .inl nwfh_a))] H := hP
          have hD : va_D A [(x, .inr (11, [.ref pg, .ref wr, .ref nw, .ref kp, .ref wk, .ref tr, .ref lw, .int x_rowsRead, .int x_rowOfImage, .int x_bestsDone])), (nw, .inr (2, [.ref nwf, .ref nws, .ref nwe, .int (nw_asked + 1), .int (nw_looksOfAsked + o_14), .int nw_changes])), (nwfv, .inl (cy, 8, .inl nwfv_a)), (nwft, .inl (cy, 8, .inl (upd nwft_a o_12.toNatClampNeg ((nwft_a o_12.toNatClampNeg) + 1)))), (wk, .inr (10, [.int o_12, .int o_13, .int o_14])), (nwf, .inr (8, [.ref nwfk, .ref nwfv, .ref nwfh, .ref nwft, .int nwf_size])), (nwfk, .inl (cy, 8, .inl nwfk_a)), (nwfh, .inl (cy, 8, .inl nwfh_a))] := hD
          refine lv_aload_n hx hb dX11_ask_130 rfl (lv_at hl 1 rfl) ?_
          refine lv_iload_n hx hb dX11_ask_131 rfl (lv_at hl 0 rfl) ?_
          refine wk_iV (As := [.int o_12]) (rest := []) (wc := [(x, .inr (11, [.ref pg, .ref wr, .ref nw, .ref kp, .ref wk, .ref tr, .ref lw, .int x_rowsRead, .int x_rowOfImage, .int x_bestsDone])), (nw, .inr (2, [.ref nwf, .ref nws, .ref nwe, .int (nw_asked + 1), .int (nw_looksOfAsked + o_14), .int nw_changes])), (nwf, .inr (8, [.ref nwfk, .ref nwfv, .ref nwfh, .ref nwft, .int nwf_size])), (nwfv, .inl (cy, 8, .inl nwfv_a))]) (wr := [(nwft, .inl (cy, 8, .inl (upd nwft_a o_12.toNatClampNeg ((nwft_a o_12.toNatClampNeg) + 1)))), (wk, .inr (10, [.int o_12, .int o_13, .int o_14])), (nwfk, .inl (cy, 8, .inl nwfk_a)), (nwfh, .inl (cy, 8, .inl nwfh_a))]) (n := 1) ⟨hx, hb, hml, hown, htb⟩ (c_X11_valueOf l D cy x pg wr nw kp wk tr nwf nws nwe nwfk nwfv nwfh nwft (.ref lw) x_rowsRead x_rowOfImage x_bestsDone (nw_asked + 1) (nw_looksOfAsked + o_14) nw_changes nwf_size nwfv_a o_12 (show 0 ≤ nwf_size.toInt ∧ nwf_size.toInt ≤ 8 from by omega)) tw_567 tw_564 tw_566 tw_14 tw_64 rfl rfl (by decide +kernel) ⟨Nat.le_of_ble_eq_true rfl, Nat.le_of_ble_eq_true rfl⟩ hK hP hD hS hA [0, 1, 5, 2] [3, 4, 6, 7] rfl rfl rfl rfl (by decide) 0 (ci := 11) rfl rfl rfl hl.1 rfl (Nat.le_of_ble_eq_true rfl) dX11_ask_132 ⟨Nat.le_of_ble_eq_true rfl, Nat.le_of_ble_eq_true rfl⟩ (fun r_23 u_24 H locs hw_25 hP hD hS => ?_)
          refine W.widen (k := 0) (n := 0) (by decide) (by decide) ?_
          have hw_25 : r_23 = (fn_X11_valueOf nwf_size nwfv_a o_12) := hw_25
          subst hw_25
          have hP : va_P D classes [(nwft, .inl (cy, 8, .inl (upd nwft_a o_12.toNatClampNeg ((nwft_a o_12.toNatClampNeg) + 1)))), (wk, .inr (10, [.int o_12, .int o_13, .int o_14])), (nwfk, .inl (cy, 8, .inl nwfk_a)), (nwfh, .inl (cy, 8, .inl nwfh_a)), (x, .inr (11, [.ref pg, .ref wr, .ref nw, .ref kp, .ref wk, .ref tr, .ref lw, .int x_rowsRead, .int x_rowOfImage, .int x_bestsDone])), (nw, .inr (2, [.ref nwf, .ref nws, .ref nwe, .int (nw_asked + 1), .int (nw_looksOfAsked + o_14), .int nw_changes])), (nwf, .inr (8, [.ref nwfk, .ref nwfv, .ref nwfh, .ref nwft, .int nwf_size])), (nwfv, .inl (cy, 8, .inl nwfv_a))] H := hP
          have hD : va_D A [(nwft, .inl (cy, 8, .inl (upd nwft_a o_12.toNatClampNeg ((nwft_a o_12.toNatClampNeg) + 1)))), (wk, .inr (10, [.int o_12, .int o_13, .int o_14])), (nwfk, .inl (cy, 8, .inl nwfk_a)), (nwfh, .inl (cy, 8, .inl nwfh_a)), (x, .inr (11, [.ref pg, .ref wr, .ref nw, .ref kp, .ref wk, .ref tr, .ref lw, .int x_rowsRead, .int x_rowOfImage, .int x_bestsDone])), (nw, .inr (2, [.ref nwf, .ref nws, .ref nwe, .int (nw_asked + 1), .int (nw_looksOfAsked + o_14), .int nw_changes])), (nwf, .inr (8, [.ref nwfk, .ref nwfv, .ref nwfh, .ref nwft, .int nwf_size])), (nwfv, .inl (cy, 8, .inl nwfv_a))] := hD
          refine W.widen (k := 0) (n := 0) (by decide) (by decide) ?_
          exact hret (fn_X11_valueOf nwf_size nwfv_a o_12) ((nw_asked + 1), (nw_looksOfAsked + o_14), (upd nwft_a o_12.toNatClampNeg ((nwft_a o_12.toNatClampNeg) + 1)), o_12, o_13, o_14) _ _ _ 135 (wk_sub9 (is := [4, 5, 6, 2, 7, 3, 0, 1]) hP rfl) (hD.sub [4, 5, 6, 2, 7, 3, 0, 1] rfl rfl) hS dX11_ask_135 ⟨hF.symm, (show ((-1) ≤ o_12.toInt ∧ o_12.toInt ≤ 7) from by omega)⟩
      · have k_21 : ¬ (nwft_a o_12.toNatClampNeg).toInt < 99 := wk_nlt c_21
        replace hF := hF.trans (if_neg c_21)
        refine lv_bipush (v := (-104)) hx hb dX11_ask_75 (by decide) ?_
        refine W.widen (k := 0) (n := 0) (by decide) (by decide) ?_
        exact hret (-104) (nw_asked, nw_looksOfAsked, nwft_a, o_12, o_13, o_14) _ _ _ 77 (wk_sub9 (is := [0, 1, 5, 6, 2, 7, 3, 4]) hP rfl) (hD.sub [0, 1, 5, 6, 2, 7, 3, 4] rfl rfl) hS dX11_ask_77 ⟨hF.symm, (show ((-1) ≤ o_12.toInt ∧ o_12.toInt ≤ 7) from by omega)⟩
  · have k_7 : ¬ (fn_X11_isNoKey a).toInt = 0 := wk_neq c_7
    replace hF := hF.trans (if_neg c_7)
    refine lv_bipush (v := (-102)) hx hb dX11_ask_7 (by decide) ?_
    refine W.widen (k := 0) (n := 0) (by decide) (by decide) ?_
    exact hret (-102) (nw_asked, nw_looksOfAsked, nwft_a, wk_number, wk_lane, wk_looks) _ _ _ 9 (wk_sub9 (is := [0, 1, 2, 3, 4, 5, 6, 7]) hP rfl) (hD.sub [0, 1, 2, 3, 4, 5, 6, 7] rfl rfl) hS dX11_ask_9 ⟨hF.symm, (show ((-1) ≤ wk_number.toInt ∧ wk_number.toInt ≤ 7) from by omega)⟩
def fn_X11_cost_N  : Int32 := (-103)
theorem dX11_cost_0 : decode cX11_cost 0 = .ok (.aload_n 0, 1) := by decide +kernel
theorem dX11_cost_1 : decode cX11_cost 1 = .ok (.getfield 71, 3) := by decide +kernel
theorem dX11_cost_4 : decode cX11_cost 4 = .ok (.ifnonnull 6, 3) := by decide +kernel
theorem dX11_cost_7 : decode cX11_cost 7 = .ok (.bipush (-103), 2) := by decide +kernel
theorem dX11_cost_9 : decode cX11_cost 9 = .ok (.ireturn, 1) := by decide +kernel
set_option maxHeartbeats 4000000 in
set_option maxRecDepth 100000 in
theorem c_X11_cost_N (l : Launch) (D : va_G) (cy : ClassId) (x pg wr nw kp wk tr : Nat) (x_rowsRead : Int32) (x_rowOfImage : Int32) (x_bestsDone : Int32)   : wk_Ci l yX11_cost cX11_cost 1 (some .int) { frames := 0, cells := 0, slots := 0, locals := 0 } D cy [.ref x] [(x, .inr (11, [.ref pg, .ref wr, .ref nw, .ref kp, .ref wk, .ref tr, .null, .int x_rowsRead, .int x_rowOfImage, .int x_bestsDone]))] 0 0 (fun (r : Int32) (u : Unit) => r = fn_X11_cost_N) (fun u => [(x, .inr (11, [.ref pg, .ref wr, .ref nw, .ref kp, .ref wk, .ref tr, .null, .int x_rowsRead, .int x_rowOfImage, .int x_bestsDone]))]) := by
  refine wk_mk2Ci (by decide) (Nat.le_of_ble_eq_true rfl) ?_
  intro p e s m args below meth c A ls Q B hA hK hP hD hS hl hret
  obtain ⟨hx, hb, hr, hlocks, hml, hown, htb, hin⟩ := B
  have hl : lv_has ls 1 [(0, .ref x)] := hl
  have hF : fn_X11_cost_N = fn_X11_cost_N := rfl
  conv at hF => rhs; unfold fn_X11_cost_N
  refine lv_aload_n hx hb dX11_cost_0 rfl (lv_at hl 0 rfl) ?_
  refine va_get (D := D) (ci := 11) (v := .null) (C := RX11) (T := TX11) (N := 10) hx hb htb inX11 hown hK hP 0 rfl rfl 6 (by decide) (htb _ tw_258) (fun _ h9 => h9) rfl dX11_cost_1 ?_
  refine lv_ifnonnullN hx hb dX11_cost_4 ?_
  refine lv_bipush (v := (-103)) hx hb dX11_cost_7 (by decide) ?_
  refine W.widen (k := 0) (n := 0) (by decide) (by decide) ?_
  exact hret (-103) () _ _ _ 9 (wk_sub9 (is := [0]) hP rfl) (hD.sub [0] rfl rfl) hS dX11_cost_9 hF.symm
def fn_X11_cost_R (nwf_size : Int32) (nwfk_a : Nat → Int32) (nwfh_a : Nat → Int32) (nwft_a : Nat → Int32) (trw_number : Int32) (trw_lane : Int32) (trw_looks : Int32) : Int32 × Int32 × Int32 × Int32 := (pm2 (fn_X9_costOf trw_number trw_lane trw_looks nwf_size nwfk_a nwft_a nwfh_a) (fun r_1 t_ => (pm2 (t_) (fun o_4 t_ => (pm2 (t_) (fun o_5 o_6 => (r_1, o_4, o_5, o_6)))))))
theorem dX11_cost_10 : decode cX11_cost 10 = .ok (.aload_n 0, 1) := by decide +kernel
theorem dX11_cost_11 : decode cX11_cost 11 = .ok (.getfield 39, 3) := by decide +kernel
theorem dX11_cost_14 : decode cX11_cost 14 = .ok (.aload_n 0, 1) := by decide +kernel
theorem dX11_cost_15 : decode cX11_cost 15 = .ok (.getfield 22, 3) := by decide +kernel
theorem dX11_cost_18 : decode cX11_cost 18 = .ok (.getfield 77, 3) := by decide +kernel
theorem dX11_cost_21 : decode cX11_cost 21 = .ok (.aload_n 0, 1) := by decide +kernel
theorem dX11_cost_22 : decode cX11_cost 22 = .ok (.getfield 22, 3) := by decide +kernel
theorem dX11_cost_25 : decode cX11_cost 25 = .ok (.getfield 77, 3) := by decide +kernel
theorem dX11_cost_28 : decode cX11_cost 28 = .ok (.getfield 111, 3) := by decide +kernel
theorem dX11_cost_31 : decode cX11_cost 31 = .ok (.invokevirtual 202, 3) := by decide +kernel
theorem dX11_cost_34 : decode cX11_cost 34 = .ok (.ireturn, 1) := by decide +kernel
set_option maxHeartbeats 4000000 in
set_option maxRecDepth 100000 in
theorem c_X11_cost_R (l : Launch) (D : va_G) (cy : ClassId) (x pg wr nw kp wk tr lw nwf nws nwe nwfk nwfv nwfh nwft trw tra trb trc : Nat) (x_rowsRead : Int32) (x_rowOfImage : Int32) (x_bestsDone : Int32) (nw_asked : Int32) (nw_looksOfAsked : Int32) (nw_changes : Int32) (nwf_size : Int32) (nwfk_a : Nat → Int32) (nwfh_a : Nat → Int32) (nwft_a : Nat → Int32) (tr_least : Int32) (tr_bestLinks : Int32) (tr_changeNumber : Int32) (tr_changeHeight : Int32) (trw_number : Int32) (trw_lane : Int32) (trw_looks : Int32)  (g_0 : 0 ≤ nwf_size.toInt ∧ nwf_size.toInt ≤ 8) (g_1 : (-1) ≤ trw_number.toInt ∧ trw_number.toInt ≤ 7) : wk_Ci l yX11_cost cX11_cost 1 (some .int) { frames := 4, cells := 0, slots := 0, locals := 89 } D cy [.ref x] [(x, .inr (11, [.ref pg, .ref wr, .ref nw, .ref kp, .ref wk, .ref tr, .ref lw, .int x_rowsRead, .int x_rowOfImage, .int x_bestsDone])), (nw, .inr (2, [.ref nwf, .ref nws, .ref nwe, .int nw_asked, .int nw_looksOfAsked, .int nw_changes])), (nwf, .inr (8, [.ref nwfk, .ref nwfv, .ref nwfh, .ref nwft, .int nwf_size])), (nwfk, .inl (cy, 8, .inl nwfk_a)), (nwfh, .inl (cy, 8, .inl nwfh_a)), (nwft, .inl (cy, 8, .inl nwft_a)), (tr, .inr (9, [.ref trw, .ref tra, .ref trb, .ref trc, .int tr_least, .int tr_bestLinks, .int tr_changeNumber, .int tr_changeHeight])), (trw, .inr (10, [.int trw_number, .int trw_lane, .int trw_looks]))] 0 0 (fun (r : Int32) (u : Int32 × Int32 × Int32) => (r, u) = (fn_X11_cost_R nwf_size nwfk_a nwfh_a nwft_a trw_number trw_lane trw_looks) ∧ ((-1) ≤ u.1.toInt ∧ u.1.toInt ≤ 7)) (fun u => [(x, .inr (11, [.ref pg, .ref wr, .ref nw, .ref kp, .ref wk, .ref tr, .ref lw, .int x_rowsRead, .int x_rowOfImage, .int x_bestsDone])), (nw, .inr (2, [.ref nwf, .ref nws, .ref nwe, .int nw_asked, .int nw_looksOfAsked, .int nw_changes])), (nwf, .inr (8, [.ref nwfk, .ref nwfv, .ref nwfh, .ref nwft, .int nwf_size])), (nwfk, .inl (cy, 8, .inl nwfk_a)), (nwfh, .inl (cy, 8, .inl nwfh_a)), (nwft, .inl (cy, 8, .inl nwft_a)), (tr, .inr (9, [.ref trw, .ref tra, .ref trb, .ref trc, .int tr_least, .int tr_bestLinks, .int tr_changeNumber, .int tr_changeHeight])), (trw, .inr (10, [.int u.1, .int u.2.1, .int u.2.2]))]) := by
  refine wk_mk2Ci (by decide) (Nat.le_of_ble_eq_true rfl) ?_
  intro p e s m args below meth c A ls Q B hA hK hP hD hS hl hret
  obtain ⟨hx, hb, hr, hlocks, hml, hown, htb, hin⟩ := B
  have hl : lv_has ls 1 [(0, .ref x)] := hl
  have hF : (fn_X11_cost_R nwf_size nwfk_a nwfh_a nwft_a trw_number trw_lane trw_looks) = (fn_X11_cost_R nwf_size nwfk_a nwfh_a nwft_a trw_number trw_lane trw_looks) := rfl
  conv at hF => rhs; unfold fn_X11_cost_R
  refine lv_aload_n hx hb dX11_cost_0 rfl (lv_at hl 0 rfl) ?_
  refine va_get (D := D) (ci := 11) (v := .ref lw) (C := RX11) (T := TX11) (N := 10) hx hb htb inX11 hown hK hP 0 rfl rfl 6 (by decide) (htb _ tw_258) (fun _ h9 => h9) rfl dX11_cost_1 ?_
  refine lv_ifnonnull (tgt := 10) hx hb dX11_cost_4 (by decide) ?_
  refine lv_aload_n hx hb dX11_cost_10 rfl (lv_at hl 0 rfl) ?_
  refine va_get (D := D) (ci := 11) (v := .ref tr) (C := RX11) (T := TX11) (N := 10) hx hb htb inX11 hown hK hP 0 rfl rfl 5 (by decide) (htb _ tw_257) (fun _ h9 => h9) rfl dX11_cost_11 ?_
  refine lv_aload_n hx hb dX11_cost_14 rfl (lv_at hl 0 rfl) ?_
  refine va_get (D := D) (ci := 11) (v := .ref nw) (C := RX11) (T := TX11) (N := 10) hx hb htb inX11 hown hK hP 0 rfl rfl 2 (by decide) (htb _ tw_254) (fun _ h9 => h9) rfl dX11_cost_15 ?_
  refine va_get (D := D) (ci := 2) (v := .ref nwf) (C := RX2) (T := TX2) (N := 6) hx hb htb inX2 hown hK hP 1 rfl rfl 0 (by decide) (htb _ tw_171) (fun _ h9 => h9) rfl dX11_cost_18 ?_
  refine lv_aload_n hx hb dX11_cost_21 rfl (lv_at hl 0 rfl) ?_
  refine va_get (D := D) (ci := 11) (v := .ref nw) (C := RX11) (T := TX11) (N := 10) hx hb htb inX11 hown hK hP 0 rfl rfl 2 (by decide) (htb _ tw_254) (fun _ h9 => h9) rfl dX11_cost_22 ?_
  refine va_get (D := D) (ci := 2) (v := .ref nwf) (C := RX2) (T := TX2) (N := 6) hx hb htb inX2 hown hK hP 1 rfl rfl 0 (by decide) (htb _ tw_171) (fun _ h9 => h9) rfl dX11_cost_25 ?_
  refine va_get (D := D) (ci := 8) (v := .ref nwfh) (C := RX8) (T := TX8) (N := 5) hx hb htb inX8 hown hK hP 2 rfl rfl 2 (by decide) (htb _ tw_125) (fun _ h9 => h9) rfl dX11_cost_28 ?_
  refine wk_iV (As := [.ref nwf, .ref nwfh]) (rest := []) (wc := [(tr, .inr (9, [.ref trw, .ref tra, .ref trb, .ref trc, .int tr_least, .int tr_bestLinks, .int tr_changeNumber, .int tr_changeHeight])), (trw, .inr (10, [.int trw_number, .int trw_lane, .int trw_looks])), (nwf, .inr (8, [.ref nwfk, .ref nwfv, .ref nwfh, .ref nwft, .int nwf_size])), (nwfk, .inl (cy, 8, .inl nwfk_a)), (nwft, .inl (cy, 8, .inl nwft_a)), (nwfh, .inl (cy, 8, .inl nwfh_a))]) (wr := [(x, .inr (11, [.ref pg, .ref wr, .ref nw, .ref kp, .ref wk, .ref tr, .ref lw, .int x_rowsRead, .int x_rowOfImage, .int x_bestsDone])), (nw, .inr (2, [.ref nwf, .ref nws, .ref nwe, .int nw_asked, .int nw_looksOfAsked, .int nw_changes]))]) (n := 2) ⟨hx, hb, hml, hown, htb⟩ (c_X9_costOf l D cy tr trw tra trb trc nwf nwfk nwfv nwfh nwft nwfh tr_least tr_bestLinks tr_changeNumber tr_changeHeight trw_number trw_lane trw_looks nwf_size nwfk_a nwft_a nwfh_a  (show (-1) ≤ trw_number.toInt ∧ trw_number.toInt ≤ 7 from by omega) (show 0 ≤ nwf_size.toInt ∧ nwf_size.toInt ≤ 8 from by omega)) tw_637 tw_634 tw_635 tw_636 tw_70 rfl rfl (by decide +kernel) ⟨Nat.le_of_ble_eq_true rfl, Nat.le_of_ble_eq_true rfl⟩ hK hP hD hS hA [6, 7, 2, 3, 5, 4] [0, 1] rfl rfl rfl rfl (by decide) 0 (ci := 9) rfl rfl rfl hl.1 rfl (Nat.le_of_ble_eq_true rfl) dX11_cost_31 ⟨Nat.le_of_ble_eq_true rfl, Nat.le_of_ble_eq_true rfl⟩ (fun r_1 u_2 H locs hw_3 hP hD hS => ?_)
  refine W.widen (k := 0) (n := 0) (by decide) (by decide) ?_
  obtain ⟨o_4, o_5, o_6⟩ := u_2
  obtain ⟨hw_3, k_7⟩ := hw_3
  have hw_3 : (r_1, o_4, o_5, o_6) = (fn_X9_costOf trw_number trw_lane trw_looks nwf_size nwfk_a nwft_a nwfh_a) := hw_3
  have k_7 : ((-1) ≤ o_4.toInt ∧ o_4.toInt ≤ 7) := k_7
  rw [← hw_3] at hF
  rw [pm2_mk r_1 (o_4, o_5, o_6), pm2_mk o_4 (o_5, o_6), pm2_mk o_5 o_6] at hF
  have hP : va_P D classes [(x, .inr (11, [.ref pg, .ref wr, .ref nw, .ref kp, .ref wk, .ref tr, .ref lw, .int x_rowsRead, .int x_rowOfImage, .int x_bestsDone])), (nw, .inr (2, [.ref nwf, .ref nws, .ref nwe, .int nw_asked, .int nw_looksOfAsked, .int nw_changes])), (tr, .inr (9, [.ref trw, .ref tra, .ref trb, .ref trc, .int tr_least, .int tr_bestLinks, .int tr_changeNumber, .int tr_changeHeight])), (trw, .inr (10, [.int o_4, .int o_5, .int o_6])), (nwf, .inr (8, [.ref nwfk, .ref nwfv, .ref nwfh, .ref nwft, .int nwf_size])), (nwfk, .inl (cy, 8, .inl nwfk_a)), (nwft, .inl (cy, 8, .inl nwft_a)), (nwfh, .inl (cy, 8, .inl nwfh_a))] H := hP
  have hD : va_D A [(x, .inr (11, [.ref pg, .ref wr, .ref nw, .ref kp, .ref wk, .ref tr, .ref lw, .int x_rowsRead, .int x_rowOfImage, .int x_bestsDone])), (nw, .inr (2, [.ref nwf, .ref nws, .ref nwe, .int nw_asked, .int nw_looksOfAsked, .int nw_changes])), (tr, .inr (9, [.ref trw, .ref tra, .ref trb, .ref trc, .int tr_least, .int tr_bestLinks, .int tr_changeNumber, .int tr_changeHeight])), (trw, .inr (10, [.int o_4, .int o_5, .int o_6])), (nwf, .inr (8, [.ref nwfk, .ref nwfv, .ref nwfh, .ref nwft, .int nwf_size])), (nwfk, .inl (cy, 8, .inl nwfk_a)), (nwft, .inl (cy, 8, .inl nwft_a)), (nwfh, .inl (cy, 8, .inl nwfh_a))] := hD
  refine W.widen (k := 0) (n := 0) (by decide) (by decide) ?_
  exact hret r_1 (o_4, o_5, o_6) _ _ _ 34 (wk_sub9 (is := [0, 1, 4, 5, 7, 6, 2, 3]) hP rfl) (hD.sub [0, 1, 4, 5, 7, 6, 2, 3] rfl rfl) hS dX11_cost_34 ⟨hF.symm, (show ((-1) ≤ o_4.toInt ∧ o_4.toInt ≤ 7) from by omega)⟩
def fn_X11_change_N (a : Int32) : Int32 := (if a < 0 then (-102) else (if a ≤ 2 then (-103) else (-102)))
theorem dX11_change_0 : decode cX11_change 0 = .ok (.iload_n 1, 1) := by decide +kernel
theorem dX11_change_1 : decode cX11_change 1 = .ok (.ifCond .lt 8, 3) := by decide +kernel
theorem dX11_change_4 : decode cX11_change 4 = .ok (.iload_n 1, 1) := by decide +kernel
theorem dX11_change_5 : decode cX11_change 5 = .ok (.iconst 2, 1) := by decide +kernel
theorem dX11_change_6 : decode cX11_change 6 = .ok (.if_icmp .le 6, 3) := by decide +kernel
theorem dX11_change_9 : decode cX11_change 9 = .ok (.bipush (-102), 2) := by decide +kernel
theorem dX11_change_11 : decode cX11_change 11 = .ok (.ireturn, 1) := by decide +kernel
theorem dX11_change_12 : decode cX11_change 12 = .ok (.aload_n 0, 1) := by decide +kernel
theorem dX11_change_13 : decode cX11_change 13 = .ok (.getfield 71, 3) := by decide +kernel
theorem dX11_change_16 : decode cX11_change 16 = .ok (.ifnonnull 6, 3) := by decide +kernel
theorem dX11_change_19 : decode cX11_change 19 = .ok (.bipush (-103), 2) := by decide +kernel
theorem dX11_change_21 : decode cX11_change 21 = .ok (.ireturn, 1) := by decide +kernel
set_option maxHeartbeats 4000000 in
set_option maxRecDepth 100000 in
theorem c_X11_change_N (l : Launch) (D : va_G) (cy : ClassId) (x pg wr nw kp wk tr : Nat) (x_rowsRead : Int32) (x_rowOfImage : Int32) (x_bestsDone : Int32) (a : Int32)  : wk_Ci l yX11_change cX11_change 2 (some .int) { frames := 0, cells := 0, slots := 0, locals := 0 } D cy [.ref x, .int a] [(x, .inr (11, [.ref pg, .ref wr, .ref nw, .ref kp, .ref wk, .ref tr, .null, .int x_rowsRead, .int x_rowOfImage, .int x_bestsDone]))] 0 0 (fun (r : Int32) (u : Unit) => r = (fn_X11_change_N a)) (fun u => [(x, .inr (11, [.ref pg, .ref wr, .ref nw, .ref kp, .ref wk, .ref tr, .null, .int x_rowsRead, .int x_rowOfImage, .int x_bestsDone]))]) := by
  refine wk_mk2Ci (by decide) (Nat.le_of_ble_eq_true rfl) ?_
  intro p e s m args below meth c A ls Q B hA hK hP hD hS hl hret
  obtain ⟨hx, hb, hr, hlocks, hml, hown, htb, hin⟩ := B
  have hl : lv_has ls 2 [(0, .ref x), (1, .int a)] := hl
  have hF : (fn_X11_change_N a) = (fn_X11_change_N a) := rfl
  conv at hF => rhs; unfold fn_X11_change_N
  refine lv_iload_n hx hb dX11_change_0 rfl (lv_at hl 1 rfl) ?_
  refine lv_if_lt (tgt := 9) hx hb dX11_change_1 (by decide) (fun c_1 => ?_) (fun c_1 => ?_)
  · have k_1 : a.toInt < 0 := wk_lt c_1
    replace hF := hF.trans (if_pos c_1)
    refine lv_bipush (v := (-102)) hx hb dX11_change_9 (by decide) ?_
    refine W.widen (k := 0) (n := 0) (by decide) (by decide) ?_
    exact hret (-102) () _ _ _ 11 (wk_sub9 (is := [0]) hP rfl) (hD.sub [0] rfl rfl) hS dX11_change_11 hF.symm
  · have k_1 : ¬ a.toInt < 0 := wk_nlt c_1
    replace hF := hF.trans (if_neg c_1)
    refine lv_iload_n hx hb dX11_change_4 rfl (lv_at hl 1 rfl) ?_
    refine lv_iconst (v := 2) hx hb dX11_change_5 (by decide) ?_
    refine lv_icmp_le (tgt := 12) hx hb dX11_change_6 (by decide) (fun c_2 => ?_) (fun c_2 => ?_)
    · have k_2 : a.toInt ≤ 2 := wk_le c_2
      replace hF := hF.trans (if_pos c_2)
      refine lv_aload_n hx hb dX11_change_12 rfl (lv_at hl 0 rfl) ?_
      refine va_get (D := D) (ci := 11) (v := .null) (C := RX11) (T := TX11) (N := 10) hx hb htb inX11 hown hK hP 0 rfl rfl 6 (by decide) (htb _ tw_258) (fun _ h9 => h9) rfl dX11_change_13 ?_
      refine lv_ifnonnullN hx hb dX11_change_16 ?_
      refine lv_bipush (v := (-103)) hx hb dX11_change_19 (by decide) ?_
      refine W.widen (k := 0) (n := 0) (by decide) (by decide) ?_
      exact hret (-103) () _ _ _ 21 (wk_sub9 (is := [0]) hP rfl) (hD.sub [0] rfl rfl) hS dX11_change_21 hF.symm
    · have k_2 : ¬ a.toInt ≤ 2 := wk_nle c_2
      replace hF := hF.trans (if_neg c_2)
      refine lv_bipush (v := (-102)) hx hb dX11_change_9 (by decide) ?_
      refine W.widen (k := 0) (n := 0) (by decide) (by decide) ?_
      exact hret (-102) () _ _ _ 11 (wk_sub9 (is := [0]) hP rfl) (hD.sub [0] rfl rfl) hS dX11_change_11 hF.symm
def fn_X11_change_R (nwf_size : Int32) (nwfk_a : Nat → Int32) (nwfh_a : Nat → Int32) (nwft_a : Nat → Int32) (tr_least : Int32) (tr_changeNumber : Int32) (tr_changeHeight : Int32) (trw_number : Int32) (trw_lane : Int32) (trw_looks : Int32) (tra_a : Nat → Int32) (a : Int32) : Int32 × Int32 × Int32 × Int32 × Int32 × Int32 × Int32 × (Nat → Int32) := (if a < 0 then ((-102), tr_least, tr_changeNumber, tr_changeHeight, trw_number, trw_lane, trw_looks, tra_a) else (if a ≤ 2 then (pm2 (fn_X9_seekChange tr_least tr_changeNumber tr_changeHeight trw_number trw_lane trw_looks tra_a nwf_size nwfk_a nwfh_a nwft_a) (fun o_6 t_ => (pm2 (t_) (fun o_7 t_ => (pm2 (t_) (fun o_8 t_ => (pm2 (t_) (fun o_9 t_ => (pm2 (t_) (fun o_10 t_ => (pm2 (t_) (fun o_11 o_12 => (if a = 0 then (o_7, o_6, o_7, o_8, o_9, o_10, o_11, o_12) else (if a = 1 then (o_8, o_6, o_7, o_8, o_9, o_10, o_11, o_12) else (o_6, o_6, o_7, o_8, o_9, o_10, o_11, o_12))))))))))))))) else ((-102), tr_least, tr_changeNumber, tr_changeHeight, trw_number, trw_lane, trw_looks, tra_a)))
theorem dX11_change_22 : decode cX11_change 22 = .ok (.aload_n 0, 1) := by decide +kernel
theorem dX11_change_23 : decode cX11_change 23 = .ok (.getfield 39, 3) := by decide +kernel
theorem dX11_change_26 : decode cX11_change 26 = .ok (.aload_n 0, 1) := by decide +kernel
theorem dX11_change_27 : decode cX11_change 27 = .ok (.getfield 22, 3) := by decide +kernel
theorem dX11_change_30 : decode cX11_change 30 = .ok (.getfield 77, 3) := by decide +kernel
theorem dX11_change_33 : decode cX11_change 33 = .ok (.invokevirtual 222, 3) := by decide +kernel
theorem dX11_change_36 : decode cX11_change 36 = .ok (.iload_n 1, 1) := by decide +kernel
theorem dX11_change_37 : decode cX11_change 37 = .ok (.lookupswitch 43 #[(0, 27), (1, 35)], 27) := by decide +kernel
theorem dX11_change_64 : decode cX11_change 64 = .ok (.aload_n 0, 1) := by decide +kernel
theorem dX11_change_65 : decode cX11_change 65 = .ok (.getfield 39, 3) := by decide +kernel
theorem dX11_change_68 : decode cX11_change 68 = .ok (.getfield 225, 3) := by decide +kernel
theorem dX11_change_71 : decode cX11_change 71 = .ok (.ireturn, 1) := by decide +kernel
theorem dX11_change_72 : decode cX11_change 72 = .ok (.aload_n 0, 1) := by decide +kernel
theorem dX11_change_73 : decode cX11_change 73 = .ok (.getfield 39, 3) := by decide +kernel
theorem dX11_change_76 : decode cX11_change 76 = .ok (.getfield 228, 3) := by decide +kernel
theorem dX11_change_79 : decode cX11_change 79 = .ok (.ireturn, 1) := by decide +kernel
theorem dX11_change_80 : decode cX11_change 80 = .ok (.aload_n 0, 1) := by decide +kernel
theorem dX11_change_81 : decode cX11_change 81 = .ok (.getfield 39, 3) := by decide +kernel
theorem dX11_change_84 : decode cX11_change 84 = .ok (.getfield 212, 3) := by decide +kernel
theorem dX11_change_87 : decode cX11_change 87 = .ok (.ireturn, 1) := by decide +kernel
set_option maxHeartbeats 4000000 in
set_option maxRecDepth 100000 in
theorem c_X11_change_R (l : Launch) (D : va_G) (cy : ClassId) (x pg wr nw kp wk tr lw nwf nws nwe nwfk nwfv nwfh nwft trw tra trb trc : Nat) (x_rowsRead : Int32) (x_rowOfImage : Int32) (x_bestsDone : Int32) (nw_asked : Int32) (nw_looksOfAsked : Int32) (nw_changes : Int32) (nwf_size : Int32) (nwfk_a : Nat → Int32) (nwfh_a : Nat → Int32) (nwft_a : Nat → Int32) (tr_least : Int32) (tr_bestLinks : Int32) (tr_changeNumber : Int32) (tr_changeHeight : Int32) (trw_number : Int32) (trw_lane : Int32) (trw_looks : Int32) (tra_a : Nat → Int32) (a : Int32) (g_0 : 0 ≤ nwf_size.toInt ∧ nwf_size.toInt ≤ 8) (g_1 : (-1) ≤ trw_number.toInt ∧ trw_number.toInt ≤ 7) : wk_Ci l yX11_change cX11_change 2 (some .int) { frames := 6, cells := 0, slots := 0, locals := 135 } D cy [.ref x, .int a] [(x, .inr (11, [.ref pg, .ref wr, .ref nw, .ref kp, .ref wk, .ref tr, .ref lw, .int x_rowsRead, .int x_rowOfImage, .int x_bestsDone])), (nw, .inr (2, [.ref nwf, .ref nws, .ref nwe, .int nw_asked, .int nw_looksOfAsked, .int nw_changes])), (nwf, .inr (8, [.ref nwfk, .ref nwfv, .ref nwfh, .ref nwft, .int nwf_size])), (nwfk, .inl (cy, 8, .inl nwfk_a)), (nwfh, .inl (cy, 8, .inl nwfh_a)), (nwft, .inl (cy, 8, .inl nwft_a)), (tr, .inr (9, [.ref trw, .ref tra, .ref trb, .ref trc, .int tr_least, .int tr_bestLinks, .int tr_changeNumber, .int tr_changeHeight])), (trw, .inr (10, [.int trw_number, .int trw_lane, .int trw_looks])), (tra, .inl (cy, 8, .inl tra_a))] 0 0 (fun (r : Int32) (u : Int32 × Int32 × Int32 × Int32 × Int32 × Int32 × (Nat → Int32)) => (r, u) = (fn_X11_change_R nwf_size nwfk_a nwfh_a nwft_a tr_least tr_changeNumber tr_changeHeight trw_number trw_lane trw_looks tra_a a) ∧ ((-1) ≤ u.2.2.2.1.toInt ∧ u.2.2.2.1.toInt ≤ 7)) (fun u => [(x, .inr (11, [.ref pg, .ref wr, .ref nw, .ref kp, .ref wk, .ref tr, .ref lw, .int x_rowsRead, .int x_rowOfImage, .int x_bestsDone])), (nw, .inr (2, [.ref nwf, .ref nws, .ref nwe, .int nw_asked, .int nw_looksOfAsked, .int nw_changes])), (nwf, .inr (8, [.ref nwfk, .ref nwfv, .ref nwfh, .ref nwft, .int nwf_size])), (nwfk, .inl (cy, 8, .inl nwfk_a)), (nwfh, .inl (cy, 8, .inl nwfh_a)), (nwft, .inl (cy, 8, .inl nwft_a)), (tr, .inr (9, [.ref trw, .ref tra, .ref trb, .ref trc, .int u.1, .int tr_bestLinks, .int u.2.1, .int u.2.2.1])), (trw, .inr (10, [.int u.2.2.2.1, .int u.2.2.2.2.1, .int u.2.2.2.2.2.1])), (tra, .inl (cy, 8, .inl u.2.2.2.2.2.2))]) := by
  refine wk_mk2Ci (by decide) (Nat.le_of_ble_eq_true rfl) ?_
  intro p e s m args below meth c A ls Q B hA hK hP hD hS hl hret
  obtain ⟨hx, hb, hr, hlocks, hml, hown, htb, hin⟩ := B
  have hl : lv_has ls 2 [(0, .ref x), (1, .int a)] := hl
  have hF : (fn_X11_change_R nwf_size nwfk_a nwfh_a nwft_a tr_least tr_changeNumber tr_changeHeight trw_number trw_lane trw_looks tra_a a) = (fn_X11_change_R nwf_size nwfk_a nwfh_a nwft_a tr_least tr_changeNumber tr_changeHeight trw_number trw_lane trw_looks tra_a a) := rfl
  conv at hF => rhs; unfold fn_X11_change_R
  refine lv_iload_n hx hb dX11_change_0 rfl (lv_at hl 1 rfl) ?_
  refine lv_if_lt (tgt := 9) hx hb dX11_change_1 (by decide) (fun c_1 => ?_) (fun c_1 => ?_)
  · have k_1 : a.toInt < 0 := wk_lt c_1
    replace hF := hF.trans (if_pos c_1)
    refine lv_bipush (v := (-102)) hx hb dX11_change_9 (by decide) ?_
    refine W.widen (k := 0) (n := 0) (by decide) (by decide) ?_
    exact hret (-102) (tr_least, tr_changeNumber, tr_changeHeight, trw_number, trw_lane, trw_looks, tra_a) _ _ _ 11 (wk_sub9 (is := [0, 1, 2, 3, 4, 5, 6, 7, 8]) hP rfl) (hD.sub [0, 1, 2, 3, 4, 5, 6, 7, 8] rfl rfl) hS dX11_change_11 ⟨hF.symm, (show ((-1) ≤ trw_number.toInt ∧ trw_number.toInt ≤ 7) from by omega)⟩
  · have k_1 : ¬ a.toInt < 0 := wk_nlt c_1
    replace hF := hF.trans (if_neg c_1)
    refine lv_iload_n hx hb dX11_change_4 rfl (lv_at hl 1 rfl) ?_
    refine lv_iconst (v := 2) hx hb dX11_change_5 (by decide) ?_
    refine lv_icmp_le (tgt := 12) hx hb dX11_change_6 (by decide) (fun c_2 => ?_) (fun c_2 => ?_)
    · have k_2 : a.toInt ≤ 2 := wk_le c_2
      replace hF := hF.trans (if_pos c_2)
      refine lv_aload_n hx hb dX11_change_12 rfl (lv_at hl 0 rfl) ?_
      refine va_get (D := D) (ci := 11) (v := .ref lw) (C := RX11) (T := TX11) (N := 10) hx hb htb inX11 hown hK hP 0 rfl rfl 6 (by decide) (htb _ tw_258) (fun _ h9 => h9) rfl dX11_change_13 ?_
      refine lv_ifnonnull (tgt := 22) hx hb dX11_change_16 (by decide) ?_
      refine lv_aload_n hx hb dX11_change_22 rfl (lv_at hl 0 rfl) ?_
      refine va_get (D := D) (ci := 11) (v := .ref tr) (C := RX11) (T := TX11) (N := 10) hx hb htb inX11 hown hK hP 0 rfl rfl 5 (by decide) (htb _ tw_257) (fun _ h9 => h9) rfl dX11_change_23 ?_
      refine lv_aload_n hx hb dX11_change_26 rfl (lv_at hl 0 rfl) ?_
      refine va_get (D := D) (ci := 11) (v := .ref nw) (C := RX11) (T := TX11) (N := 10) hx hb htb inX11 hown hK hP 0 rfl rfl 2 (by decide) (htb _ tw_254) (fun _ h9 => h9) rfl dX11_change_27 ?_
      refine va_get (D := D) (ci := 2) (v := .ref nwf) (C := RX2) (T := TX2) (N := 6) hx hb htb inX2 hown hK hP 1 rfl rfl 0 (by decide) (htb _ tw_171) (fun _ h9 => h9) rfl dX11_change_30 ?_
      refine wk_vV (As := [.ref nwf]) (rest := []) (wc := [(tr, .inr (9, [.ref trw, .ref tra, .ref trb, .ref trc, .int tr_least, .int tr_bestLinks, .int tr_changeNumber, .int tr_changeHeight])), (trw, .inr (10, [.int trw_number, .int trw_lane, .int trw_looks])), (tra, .inl (cy, 8, .inl tra_a)), (nwf, .inr (8, [.ref nwfk, .ref nwfv, .ref nwfh, .ref nwft, .int nwf_size])), (nwfk, .inl (cy, 8, .inl nwfk_a)), (nwfh, .inl (cy, 8, .inl nwfh_a)), (nwft, .inl (cy, 8, .inl nwft_a))]) (wr := [(x, .inr (11, [.ref pg, .ref wr, .ref nw, .ref kp, .ref wk, .ref tr, .ref lw, .int x_rowsRead, .int x_rowOfImage, .int x_bestsDone])), (nw, .inr (2, [.ref nwf, .ref nws, .ref nwe, .int nw_asked, .int nw_looksOfAsked, .int nw_changes]))]) (n := 1) ⟨hx, hb, hml, hown, htb⟩ (c_X9_seekChange l D cy tr trw tra trb trc nwf nwfk nwfv nwfh nwft tr_least tr_bestLinks tr_changeNumber tr_changeHeight trw_number trw_lane trw_looks tra_a nwf_size nwfk_a nwfh_a nwft_a  (show (-1) ≤ trw_number.toInt ∧ trw_number.toInt ≤ 7 from by omega) (show 0 ≤ nwf_size.toInt ∧ nwf_size.toInt ≤ 8 from by omega)) tw_670 tw_667 tw_668 tw_669 tw_70 rfl rfl (by decide +kernel) ⟨Nat.le_of_ble_eq_true rfl, Nat.le_of_ble_eq_true rfl⟩ hK hP hD hS hA [6, 7, 8, 2, 3, 4, 5] [0, 1] rfl rfl rfl rfl (by decide) 0 (ci := 9) rfl rfl rfl hl.1 rfl (Nat.le_of_ble_eq_true rfl) dX11_change_33 ⟨Nat.le_of_ble_eq_true rfl, Nat.le_of_ble_eq_true rfl⟩ (fun u_4 H locs hw_5 hP hD hS => ?_)
      refine W.widen (k := 0) (n := 0) (by decide) (by decide) ?_
      obtain ⟨o_6, o_7, o_8, o_9, o_10, o_11, o_12⟩ := u_4
      obtain ⟨hw_5, k_13⟩ := hw_5
      have hw_5 : (o_6, o_7, o_8, o_9, o_10, o_11, o_12) = (fn_X9_seekChange tr_least tr_changeNumber tr_changeHeight trw_number trw_lane trw_looks tra_a nwf_size nwfk_a nwfh_a nwft_a) := hw_5
      have k_13 : ((-1) ≤ o_9.toInt ∧ o_9.toInt ≤ 7) := k_13
      rw [← hw_5] at hF
      rw [pm2_mk o_6 (o_7, o_8, o_9, o_10, o_11, o_12), pm2_mk o_7 (o_8, o_9, o_10, o_11, o_12), pm2_mk o_8 (o_9, o_10, o_11, o_12), pm2_mk o_9 (o_10, o_11, o_12), pm2_mk o_10 (o_11, o_12), pm2_mk o_11 o_12] at hF
      have hP : va_P D classes [(x, .inr (11, [.ref pg, .ref wr, .ref nw, .ref kp, .ref wk, .ref tr, .ref lw, .int x_rowsRead, .int x_rowOfImage, .int x_bestsDone])), (nw, .inr (2, [.ref nwf, .ref nws, .ref nwe, .int nw_asked, .int nw_looksOfAsked, .int nw_changes])), (tr, .inr (9, [.ref trw, .ref tra, .ref trb, .ref trc, .int o_6, .int tr_bestLinks, .int o_7, .int o_8])), (trw, .inr (10, [.int o_9, .int o_10, .int o_11])), (tra, .inl (cy, 8, .inl o_12)), (nwf, .inr (8, [.ref nwfk, .ref nwfv, .ref nwfh, .ref nwft, .int nwf_size])), (nwfk, .inl (cy, 8, .inl nwfk_a)), (nwfh, .inl (cy, 8, .inl nwfh_a)), (nwft, .inl (cy, 8, .inl nwft_a))] H := hP
      have hD : va_D A [(x, .inr (11, [.ref pg, .ref wr, .ref nw, .ref kp, .ref wk, .ref tr, .ref lw, .int x_rowsRead, .int x_rowOfImage, .int x_bestsDone])), (nw, .inr (2, [.ref nwf, .ref nws, .ref nwe, .int nw_asked, .int nw_looksOfAsked, .int nw_changes])), (tr, .inr (9, [.ref trw, .ref tra, .ref trb, .ref trc, .int o_6, .int tr_bestLinks, .int o_7, .int o_8])), (trw, .inr (10, [.int o_9, .int o_10, .int o_11])), (tra, .inl (cy, 8, .inl o_12)), (nwf, .inr (8, [.ref nwfk, .ref nwfv, .ref nwfh, .ref nwft, .int nwf_size])), (nwfk, .inl (cy, 8, .inl nwfk_a)), (nwfh, .inl (cy, 8, .inl nwfh_a)), (nwft, .inl (cy, 8, .inl nwft_a))] := hD
      refine lv_iload_n hx hb dX11_change_36 rfl (lv_at hl 1 rfl) ?_
      by_cases c_14 : a = 0
      · refine wk_toi c_14 ?_
        replace hF := hF.trans (if_pos c_14)
        have k_14 : a.toInt = 0 := wk_eq c_14
        refine lv_lookup (off := 27) (tgt := 64) hx hb dX11_change_37 (by decide) (by decide) (by decide) ?_
        refine lv_aload_n hx hb dX11_change_64 rfl (lv_at hl 0 rfl) ?_
        refine va_get (D := D) (ci := 11) (v := .ref tr) (C := RX11) (T := TX11) (N := 10) hx hb htb inX11 hown hK hP 0 rfl rfl 5 (by decide) (htb _ tw_257) (fun _ h9 => h9) rfl dX11_change_65 ?_
        refine va_get (D := D) (ci := 9) (v := .int o_7) (C := RX9) (T := TX9) (N := 8) hx hb htb inX9 hown hK hP 2 rfl rfl 6 (by decide) (htb _ tw_232) (fun _ h9 => h9) rfl dX11_change_68 ?_
        refine W.widen (k := 0) (n := 0) (by decide) (by decide) ?_
        exact hret o_7 (o_6, o_7, o_8, o_9, o_10, o_11, o_12) _ _ _ 71 (wk_sub9 (is := [0, 1, 5, 6, 7, 8, 2, 3, 4]) hP rfl) (hD.sub [0, 1, 5, 6, 7, 8, 2, 3, 4] rfl rfl) hS dX11_change_71 ⟨hF.symm, (show ((-1) ≤ o_9.toInt ∧ o_9.toInt ≤ 7) from by omega)⟩
      replace hF := hF.trans (if_neg c_14)
      have k_14 : ¬ a.toInt = 0 := wk_neq c_14
      by_cases c_15 : a = 1
      · refine wk_toi c_15 ?_
        replace hF := hF.trans (if_pos c_15)
        have k_15 : a.toInt = 1 := wk_eq c_15
        refine lv_lookup (off := 35) (tgt := 72) hx hb dX11_change_37 (by decide) (by decide) (by decide) ?_
        refine lv_aload_n hx hb dX11_change_72 rfl (lv_at hl 0 rfl) ?_
        refine va_get (D := D) (ci := 11) (v := .ref tr) (C := RX11) (T := TX11) (N := 10) hx hb htb inX11 hown hK hP 0 rfl rfl 5 (by decide) (htb _ tw_257) (fun _ h9 => h9) rfl dX11_change_73 ?_
        refine va_get (D := D) (ci := 9) (v := .int o_8) (C := RX9) (T := TX9) (N := 8) hx hb htb inX9 hown hK hP 2 rfl rfl 7 (by decide) (htb _ tw_234) (fun _ h9 => h9) rfl dX11_change_76 ?_
        refine W.widen (k := 0) (n := 0) (by decide) (by decide) ?_
        exact hret o_8 (o_6, o_7, o_8, o_9, o_10, o_11, o_12) _ _ _ 79 (wk_sub9 (is := [0, 1, 5, 6, 7, 8, 2, 3, 4]) hP rfl) (hD.sub [0, 1, 5, 6, 7, 8, 2, 3, 4] rfl rfl) hS dX11_change_79 ⟨hF.symm, (show ((-1) ≤ o_9.toInt ∧ o_9.toInt ≤ 7) from by omega)⟩
      replace hF := hF.trans (if_neg c_15)
      have k_15 : ¬ a.toInt = 1 := wk_neq c_15
      refine lv_lookup (off := 43) (tgt := 80) hx hb dX11_change_37 (by decide) ((lv_osw c_14 rfl).trans ((lv_osw c_15 rfl).trans rfl)) (by decide) ?_
      refine lv_aload_n hx hb dX11_change_80 rfl (lv_at hl 0 rfl) ?_
      refine va_get (D := D) (ci := 11) (v := .ref tr) (C := RX11) (T := TX11) (N := 10) hx hb htb inX11 hown hK hP 0 rfl rfl 5 (by decide) (htb _ tw_257) (fun _ h9 => h9) rfl dX11_change_81 ?_
      refine va_get (D := D) (ci := 9) (v := .int o_6) (C := RX9) (T := TX9) (N := 8) hx hb htb inX9 hown hK hP 2 rfl rfl 4 (by decide) (htb _ tw_228) (fun _ h9 => h9) rfl dX11_change_84 ?_
      refine W.widen (k := 0) (n := 0) (by decide) (by decide) ?_
      exact hret o_6 (o_6, o_7, o_8, o_9, o_10, o_11, o_12) _ _ _ 87 (wk_sub9 (is := [0, 1, 5, 6, 7, 8, 2, 3, 4]) hP rfl) (hD.sub [0, 1, 5, 6, 7, 8, 2, 3, 4] rfl rfl) hS dX11_change_87 ⟨hF.symm, (show ((-1) ≤ o_9.toInt ∧ o_9.toInt ≤ 7) from by omega)⟩
    · have k_2 : ¬ a.toInt ≤ 2 := wk_nle c_2
      replace hF := hF.trans (if_neg c_2)
      refine lv_bipush (v := (-102)) hx hb dX11_change_9 (by decide) ?_
      refine W.widen (k := 0) (n := 0) (by decide) (by decide) ?_
      exact hret (-102) (tr_least, tr_changeNumber, tr_changeHeight, trw_number, trw_lane, trw_looks, tra_a) _ _ _ 11 (wk_sub9 (is := [0, 1, 2, 3, 4, 5, 6, 7, 8]) hP rfl) (hD.sub [0, 1, 2, 3, 4, 5, 6, 7, 8] rfl rfl) hS dX11_change_11 ⟨hF.symm, (show ((-1) ≤ trw_number.toInt ∧ trw_number.toInt ≤ 7) from by omega)⟩
def fn_X11_image_N  : Int32 := (-103)
theorem dX11_image_0 : decode cX11_image 0 = .ok (.aload_n 0, 1) := by decide +kernel
theorem dX11_image_1 : decode cX11_image 1 = .ok (.getfield 71, 3) := by decide +kernel
theorem dX11_image_4 : decode cX11_image 4 = .ok (.ifnonnull 6, 3) := by decide +kernel
theorem dX11_image_7 : decode cX11_image 7 = .ok (.bipush (-103), 2) := by decide +kernel
theorem dX11_image_9 : decode cX11_image 9 = .ok (.ireturn, 1) := by decide +kernel
set_option maxHeartbeats 4000000 in
set_option maxRecDepth 100000 in
theorem c_X11_image_N (l : Launch) (D : va_G) (cy : ClassId) (x pg wr nw kp wk tr : Nat) (x_rowsRead : Int32) (x_rowOfImage : Int32) (x_bestsDone : Int32)   : wk_Ci l yX11_image cX11_image 1 (some .int) { frames := 0, cells := 0, slots := 0, locals := 0 } D cy [.ref x] [(x, .inr (11, [.ref pg, .ref wr, .ref nw, .ref kp, .ref wk, .ref tr, .null, .int x_rowsRead, .int x_rowOfImage, .int x_bestsDone]))] 0 0 (fun (r : Int32) (u : Unit) => r = fn_X11_image_N) (fun u => [(x, .inr (11, [.ref pg, .ref wr, .ref nw, .ref kp, .ref wk, .ref tr, .null, .int x_rowsRead, .int x_rowOfImage, .int x_bestsDone]))]) := by
  refine wk_mk2Ci (by decide) (Nat.le_of_ble_eq_true rfl) ?_
  intro p e s m args below meth c A ls Q B hA hK hP hD hS hl hret
  obtain ⟨hx, hb, hr, hlocks, hml, hown, htb, hin⟩ := B
  have hl : lv_has ls 1 [(0, .ref x)] := hl
  have hF : fn_X11_image_N = fn_X11_image_N := rfl
  conv at hF => rhs; unfold fn_X11_image_N
  refine lv_aload_n hx hb dX11_image_0 rfl (lv_at hl 0 rfl) ?_
  refine va_get (D := D) (ci := 11) (v := .null) (C := RX11) (T := TX11) (N := 10) hx hb htb inX11 hown hK hP 0 rfl rfl 6 (by decide) (htb _ tw_258) (fun _ h9 => h9) rfl dX11_image_1 ?_
  refine lv_ifnonnullN hx hb dX11_image_4 ?_
  refine lv_bipush (v := (-103)) hx hb dX11_image_7 (by decide) ?_
  refine W.widen (k := 0) (n := 0) (by decide) (by decide) ?_
  exact hret (-103) () _ _ _ 9 (wk_sub9 (is := [0]) hP rfl) (hD.sub [0] rfl rfl) hS dX11_image_9 hF.symm
def fn_X11_image_R (x_rowsRead : Int32) (x_rowOfImage : Int32) (nw_asked : Int32) (nw_looksOfAsked : Int32) (nw_changes : Int32) (nwf_size : Int32) (nwfk_a : Nat → Int32) (nwfv_a : Nat → Int32) (nwfh_a : Nat → Int32) (nwft_a : Nat → Int32) (nws_size : Int32) (nwsk_a : Nat → Int32) (nwsv_a : Nat → Int32) (nwsh_a : Nat → Int32) (nwst_a : Nat → Int32) (nwe_size : Int32) (nwea_a : Nat → Int32) (nweb_a : Nat → Int32) (nwec_a : Nat → Int32) (kp_asked : Int32) (kp_looksOfAsked : Int32) (kp_changes : Int32) (kpf_size : Int32) (kpfk_a : Nat → Int32) (kpfv_a : Nat → Int32) (kpfh_a : Nat → Int32) (kpft_a : Nat → Int32) (kps_size : Int32) (kpsk_a : Nat → Int32) (kpsv_a : Nat → Int32) (kpsh_a : Nat → Int32) (kpst_a : Nat → Int32) (kpe_size : Int32) (kpea_a : Nat → Int32) (kpeb_a : Nat → Int32) (kpec_a : Nat → Int32) : Int32 × Int32 × Int32 × Int32 × Int32 × Int32 × (Nat → Int32) × (Nat → Int32) × (Nat → Int32) × (Nat → Int32) × Int32 × (Nat → Int32) × (Nat → Int32) × (Nat → Int32) × (Nat → Int32) × Int32 × (Nat → Int32) × (Nat → Int32) × (Nat → Int32) := (pm2 (fn_X2_copyFrom kp_asked kp_looksOfAsked kp_changes kpf_size kpfk_a kpfv_a kpfh_a kpft_a kps_size kpsk_a kpsv_a kpsh_a kpst_a kpe_size kpea_a kpeb_a kpec_a nw_asked nw_looksOfAsked nw_changes nwf_size nwfk_a nwfv_a nwfh_a nwft_a nws_size nwsk_a nwsv_a nwsh_a nwst_a nwe_size nwea_a nweb_a nwec_a) (fun o_4 t_ => (pm2 (t_) (fun o_5 t_ => (pm2 (t_) (fun o_6 t_ => (pm2 (t_) (fun o_7 t_ => (pm2 (t_) (fun o_8 t_ => (pm2 (t_) (fun o_9 t_ => (pm2 (t_) (fun o_10 t_ => (pm2 (t_) (fun o_11 t_ => (pm2 (t_) (fun o_12 t_ => (pm2 (t_) (fun o_13 t_ => (pm2 (t_) (fun o_14 t_ => (pm2 (t_) (fun o_15 t_ => (pm2 (t_) (fun o_16 t_ => (pm2 (t_) (fun o_17 t_ => (pm2 (t_) (fun o_18 t_ => (pm2 (t_) (fun o_19 o_20 => (nw_changes, x_rowsRead, o_4, o_5, o_6, o_7, o_8, o_9, o_10, o_11, o_12, o_13, o_14, o_15, o_16, o_17, o_18, o_19, o_20)))))))))))))))))))))))))))))))))
theorem dX11_image_10 : decode cX11_image 10 = .ok (.aload_n 0, 1) := by decide +kernel
theorem dX11_image_11 : decode cX11_image 11 = .ok (.getfield 26, 3) := by decide +kernel
theorem dX11_image_14 : decode cX11_image 14 = .ok (.aload_n 0, 1) := by decide +kernel
theorem dX11_image_15 : decode cX11_image 15 = .ok (.getfield 22, 3) := by decide +kernel
theorem dX11_image_18 : decode cX11_image 18 = .ok (.invokevirtual 242, 3) := by decide +kernel
theorem dX11_image_21 : decode cX11_image 21 = .ok (.aload_n 0, 1) := by decide +kernel
theorem dX11_image_22 : decode cX11_image 22 = .ok (.aload_n 0, 1) := by decide +kernel
theorem dX11_image_23 : decode cX11_image 23 = .ok (.getfield 88, 3) := by decide +kernel
theorem dX11_image_26 : decode cX11_image 26 = .ok (.putfield 246, 3) := by decide +kernel
theorem dX11_image_29 : decode cX11_image 29 = .ok (.aload_n 0, 1) := by decide +kernel
theorem dX11_image_30 : decode cX11_image 30 = .ok (.getfield 22, 3) := by decide +kernel
theorem dX11_image_33 : decode cX11_image 33 = .ok (.getfield 249, 3) := by decide +kernel
theorem dX11_image_36 : decode cX11_image 36 = .ok (.ireturn, 1) := by decide +kernel
set_option maxHeartbeats 4000000 in
set_option maxRecDepth 100000 in
theorem c_X11_image_R (l : Launch) (D : va_G) (cy : ClassId) (x pg wr nw kp wk tr lw nwf nws nwe nwfk nwfv nwfh nwft nwsk nwsv nwsh nwst nwea nweb nwec kpf kps kpe kpfk kpfv kpfh kpft kpsk kpsv kpsh kpst kpea kpeb kpec : Nat) (x_rowsRead : Int32) (x_rowOfImage : Int32) (x_bestsDone : Int32) (nw_asked : Int32) (nw_looksOfAsked : Int32) (nw_changes : Int32) (nwf_size : Int32) (nwfk_a : Nat → Int32) (nwfv_a : Nat → Int32) (nwfh_a : Nat → Int32) (nwft_a : Nat → Int32) (nws_size : Int32) (nwsk_a : Nat → Int32) (nwsv_a : Nat → Int32) (nwsh_a : Nat → Int32) (nwst_a : Nat → Int32) (nwe_size : Int32) (nwea_a : Nat → Int32) (nweb_a : Nat → Int32) (nwec_a : Nat → Int32) (kp_asked : Int32) (kp_looksOfAsked : Int32) (kp_changes : Int32) (kpf_size : Int32) (kpfk_a : Nat → Int32) (kpfv_a : Nat → Int32) (kpfh_a : Nat → Int32) (kpft_a : Nat → Int32) (kps_size : Int32) (kpsk_a : Nat → Int32) (kpsv_a : Nat → Int32) (kpsh_a : Nat → Int32) (kpst_a : Nat → Int32) (kpe_size : Int32) (kpea_a : Nat → Int32) (kpeb_a : Nat → Int32) (kpec_a : Nat → Int32)  (g_0 : 0 ≤ nwf_size.toInt ∧ nwf_size.toInt ≤ 8) (g_1 : 0 ≤ nws_size.toInt ∧ nws_size.toInt ≤ 8) (g_2 : 0 ≤ nwe_size.toInt ∧ nwe_size.toInt ≤ 6) (g_3 : 0 ≤ kpf_size.toInt ∧ kpf_size.toInt ≤ 8) (g_4 : 0 ≤ kps_size.toInt ∧ kps_size.toInt ≤ 8) (g_5 : 0 ≤ kpe_size.toInt ∧ kpe_size.toInt ≤ 6) : wk_Ci l yX11_image cX11_image 1 (some .int) { frames := 4, cells := 0, slots := 0, locals := 88 } D cy [.ref x] [(x, .inr (11, [.ref pg, .ref wr, .ref nw, .ref kp, .ref wk, .ref tr, .ref lw, .int x_rowsRead, .int x_rowOfImage, .int x_bestsDone])), (nw, .inr (2, [.ref nwf, .ref nws, .ref nwe, .int nw_asked, .int nw_looksOfAsked, .int nw_changes])), (nwf, .inr (8, [.ref nwfk, .ref nwfv, .ref nwfh, .ref nwft, .int nwf_size])), (nwfk, .inl (cy, 8, .inl nwfk_a)), (nwfv, .inl (cy, 8, .inl nwfv_a)), (nwfh, .inl (cy, 8, .inl nwfh_a)), (nwft, .inl (cy, 8, .inl nwft_a)), (nws, .inr (8, [.ref nwsk, .ref nwsv, .ref nwsh, .ref nwst, .int nws_size])), (nwsk, .inl (cy, 8, .inl nwsk_a)), (nwsv, .inl (cy, 8, .inl nwsv_a)), (nwsh, .inl (cy, 8, .inl nwsh_a)), (nwst, .inl (cy, 8, .inl nwst_a)), (nwe, .inr (4, [.ref nwea, .ref nweb, .ref nwec, .int nwe_size])), (nwea, .inl (cy, 6, .inl nwea_a)), (nweb, .inl (cy, 6, .inl nweb_a)), (nwec, .inl (cy, 6, .inl nwec_a)), (kp, .inr (2, [.ref kpf, .ref kps, .ref kpe, .int kp_asked, .int kp_looksOfAsked, .int kp_changes])), (kpf, .inr (8, [.ref kpfk, .ref kpfv, .ref kpfh, .ref kpft, .int kpf_size])), (kpfk, .inl (cy, 8, .inl kpfk_a)), (kpfv, .inl (cy, 8, .inl kpfv_a)), (kpfh, .inl (cy, 8, .inl kpfh_a)), (kpft, .inl (cy, 8, .inl kpft_a)), (kps, .inr (8, [.ref kpsk, .ref kpsv, .ref kpsh, .ref kpst, .int kps_size])), (kpsk, .inl (cy, 8, .inl kpsk_a)), (kpsv, .inl (cy, 8, .inl kpsv_a)), (kpsh, .inl (cy, 8, .inl kpsh_a)), (kpst, .inl (cy, 8, .inl kpst_a)), (kpe, .inr (4, [.ref kpea, .ref kpeb, .ref kpec, .int kpe_size])), (kpea, .inl (cy, 6, .inl kpea_a)), (kpeb, .inl (cy, 6, .inl kpeb_a)), (kpec, .inl (cy, 6, .inl kpec_a))] 0 0 (fun (r : Int32) (u : Int32 × Int32 × Int32 × Int32 × Int32 × (Nat → Int32) × (Nat → Int32) × (Nat → Int32) × (Nat → Int32) × Int32 × (Nat → Int32) × (Nat → Int32) × (Nat → Int32) × (Nat → Int32) × Int32 × (Nat → Int32) × (Nat → Int32) × (Nat → Int32)) => (r, u) = (fn_X11_image_R x_rowsRead x_rowOfImage nw_asked nw_looksOfAsked nw_changes nwf_size nwfk_a nwfv_a nwfh_a nwft_a nws_size nwsk_a nwsv_a nwsh_a nwst_a nwe_size nwea_a nweb_a nwec_a kp_asked kp_looksOfAsked kp_changes kpf_size kpfk_a kpfv_a kpfh_a kpft_a kps_size kpsk_a kpsv_a kpsh_a kpst_a kpe_size kpea_a kpeb_a kpec_a) ∧ (0 ≤ u.2.2.2.2.1.toInt ∧ u.2.2.2.2.1.toInt ≤ 8) ∧ (0 ≤ u.2.2.2.2.2.2.2.2.2.1.toInt ∧ u.2.2.2.2.2.2.2.2.2.1.toInt ≤ 8) ∧ (0 ≤ u.2.2.2.2.2.2.2.2.2.2.2.2.2.2.1.toInt ∧ u.2.2.2.2.2.2.2.2.2.2.2.2.2.2.1.toInt ≤ 6)) (fun u => [(x, .inr (11, [.ref pg, .ref wr, .ref nw, .ref kp, .ref wk, .ref tr, .ref lw, .int x_rowsRead, .int u.1, .int x_bestsDone])), (nw, .inr (2, [.ref nwf, .ref nws, .ref nwe, .int nw_asked, .int nw_looksOfAsked, .int nw_changes])), (nwf, .inr (8, [.ref nwfk, .ref nwfv, .ref nwfh, .ref nwft, .int nwf_size])), (nwfk, .inl (cy, 8, .inl nwfk_a)), (nwfv, .inl (cy, 8, .inl nwfv_a)), (nwfh, .inl (cy, 8, .inl nwfh_a)), (nwft, .inl (cy, 8, .inl nwft_a)), (nws, .inr (8, [.ref nwsk, .ref nwsv, .ref nwsh, .ref nwst, .int nws_size])), (nwsk, .inl (cy, 8, .inl nwsk_a)), (nwsv, .inl (cy, 8, .inl nwsv_a)), (nwsh, .inl (cy, 8, .inl nwsh_a)), (nwst, .inl (cy, 8, .inl nwst_a)), (nwe, .inr (4, [.ref nwea, .ref nweb, .ref nwec, .int nwe_size])), (nwea, .inl (cy, 6, .inl nwea_a)), (nweb, .inl (cy, 6, .inl nweb_a)), (nwec, .inl (cy, 6, .inl nwec_a)), (kp, .inr (2, [.ref kpf, .ref kps, .ref kpe, .int u.2.1, .int u.2.2.1, .int u.2.2.2.1])), (kpf, .inr (8, [.ref kpfk, .ref kpfv, .ref kpfh, .ref kpft, .int u.2.2.2.2.1])), (kpfk, .inl (cy, 8, .inl u.2.2.2.2.2.1)), (kpfv, .inl (cy, 8, .inl u.2.2.2.2.2.2.1)), (kpfh, .inl (cy, 8, .inl u.2.2.2.2.2.2.2.1)), (kpft, .inl (cy, 8, .inl u.2.2.2.2.2.2.2.2.1)), (kps, .inr (8, [.ref kpsk, .ref kpsv, .ref kpsh, .ref kpst, .int u.2.2.2.2.2.2.2.2.2.1])), (kpsk, .inl (cy, 8, .inl u.2.2.2.2.2.2.2.2.2.2.1)), (kpsv, .inl (cy, 8, .inl u.2.2.2.2.2.2.2.2.2.2.2.1)), (kpsh, .inl (cy, 8, .inl u.2.2.2.2.2.2.2.2.2.2.2.2.1)), (kpst, .inl (cy, 8, .inl u.2.2.2.2.2.2.2.2.2.2.2.2.2.1)), (kpe, .inr (4, [.ref kpea, .ref kpeb, .ref kpec, .int u.2.2.2.2.2.2.2.2.2.2.2.2.2.2.1])), (kpea, .inl (cy, 6, .inl u.2.2.2.2.2.2.2.2.2.2.2.2.2.2.2.1)), (kpeb, .inl (cy, 6, .inl u.2.2.2.2.2.2.2.2.2.2.2.2.2.2.2.2.1)), (kpec, .inl (cy, 6, .inl u.2.2.2.2.2.2.2.2.2.2.2.2.2.2.2.2.2))]) := by
  refine wk_mk2Ci (by decide) (Nat.le_of_ble_eq_true rfl) ?_
  intro p e s m args below meth c A ls Q B hA hK hP hD hS hl hret
  obtain ⟨hx, hb, hr, hlocks, hml, hown, htb, hin⟩ := B
  have hl : lv_has ls 1 [(0, .ref x)] := hl
  have hF : (fn_X11_image_R x_rowsRead x_rowOfImage nw_asked nw_looksOfAsked nw_changes nwf_size nwfk_a nwfv_a nwfh_a nwft_a nws_size nwsk_a nwsv_a nwsh_a nwst_a nwe_size nwea_a nweb_a nwec_a kp_asked kp_looksOfAsked kp_changes kpf_size kpfk_a kpfv_a kpfh_a kpft_a kps_size kpsk_a kpsv_a kpsh_a kpst_a kpe_size kpea_a kpeb_a kpec_a) = (fn_X11_image_R x_rowsRead x_rowOfImage nw_asked nw_looksOfAsked nw_changes nwf_size nwfk_a nwfv_a nwfh_a nwft_a nws_size nwsk_a nwsv_a nwsh_a nwst_a nwe_size nwea_a nweb_a nwec_a kp_asked kp_looksOfAsked kp_changes kpf_size kpfk_a kpfv_a kpfh_a kpft_a kps_size kpsk_a kpsv_a kpsh_a kpst_a kpe_size kpea_a kpeb_a kpec_a) := rfl
  conv at hF => rhs; unfold fn_X11_image_R
  refine lv_aload_n hx hb dX11_image_0 rfl (lv_at hl 0 rfl) ?_
  refine va_get (D := D) (ci := 11) (v := .ref lw) (C := RX11) (T := TX11) (N := 10) hx hb htb inX11 hown hK hP 0 rfl rfl 6 (by decide) (htb _ tw_258) (fun _ h9 => h9) rfl dX11_image_1 ?_
  refine lv_ifnonnull (tgt := 10) hx hb dX11_image_4 (by decide) ?_
  refine lv_aload_n hx hb dX11_image_10 rfl (lv_at hl 0 rfl) ?_
  refine va_get (D := D) (ci := 11) (v := .ref kp) (C := RX11) (T := TX11) (N := 10) hx hb htb inX11 hown hK hP 0 rfl rfl 3 (by decide) (htb _ tw_255) (fun _ h9 => h9) rfl dX11_image_11 ?_
  refine lv_aload_n hx hb dX11_image_14 rfl (lv_at hl 0 rfl) ?_
  refine va_get (D := D) (ci := 11) (v := .ref nw) (C := RX11) (T := TX11) (N := 10) hx hb htb inX11 hown hK hP 0 rfl rfl 2 (by decide) (htb _ tw_254) (fun _ h9 => h9) rfl dX11_image_15 ?_
  refine wk_vV (As := [.ref nw]) (rest := []) (wc := [(kp, .inr (2, [.ref kpf, .ref kps, .ref kpe, .int kp_asked, .int kp_looksOfAsked, .int kp_changes])), (kpf, .inr (8, [.ref kpfk, .ref kpfv, .ref kpfh, .ref kpft, .int kpf_size])), (kpfk, .inl (cy, 8, .inl kpfk_a)), (kpfv, .inl (cy, 8, .inl kpfv_a)), (kpfh, .inl (cy, 8, .inl kpfh_a)), (kpft, .inl (cy, 8, .inl kpft_a)), (kps, .inr (8, [.ref kpsk, .ref kpsv, .ref kpsh, .ref kpst, .int kps_size])), (kpsk, .inl (cy, 8, .inl kpsk_a)), (kpsv, .inl (cy, 8, .inl kpsv_a)), (kpsh, .inl (cy, 8, .inl kpsh_a)), (kpst, .inl (cy, 8, .inl kpst_a)), (kpe, .inr (4, [.ref kpea, .ref kpeb, .ref kpec, .int kpe_size])), (kpea, .inl (cy, 6, .inl kpea_a)), (kpeb, .inl (cy, 6, .inl kpeb_a)), (kpec, .inl (cy, 6, .inl kpec_a)), (nw, .inr (2, [.ref nwf, .ref nws, .ref nwe, .int nw_asked, .int nw_looksOfAsked, .int nw_changes])), (nwf, .inr (8, [.ref nwfk, .ref nwfv, .ref nwfh, .ref nwft, .int nwf_size])), (nwfk, .inl (cy, 8, .inl nwfk_a)), (nwfv, .inl (cy, 8, .inl nwfv_a)), (nwfh, .inl (cy, 8, .inl nwfh_a)), (nwft, .inl (cy, 8, .inl nwft_a)), (nws, .inr (8, [.ref nwsk, .ref nwsv, .ref nwsh, .ref nwst, .int nws_size])), (nwsk, .inl (cy, 8, .inl nwsk_a)), (nwsv, .inl (cy, 8, .inl nwsv_a)), (nwsh, .inl (cy, 8, .inl nwsh_a)), (nwst, .inl (cy, 8, .inl nwst_a)), (nwe, .inr (4, [.ref nwea, .ref nweb, .ref nwec, .int nwe_size])), (nwea, .inl (cy, 6, .inl nwea_a)), (nweb, .inl (cy, 6, .inl nweb_a)), (nwec, .inl (cy, 6, .inl nwec_a))]) (wr := [(x, .inr (11, [.ref pg, .ref wr, .ref nw, .ref kp, .ref wk, .ref tr, .ref lw, .int x_rowsRead, .int x_rowOfImage, .int x_bestsDone]))]) (n := 1) ⟨hx, hb, hml, hown, htb⟩ (c_X2_copyFrom l D cy kp kpf kps kpe kpfk kpfv kpfh kpft kpsk kpsv kpsh kpst kpea kpeb kpec nw nwf nws nwe nwfk nwfv nwfh nwft nwsk nwsv nwsh nwst nwea nweb nwec kp_asked kp_looksOfAsked kp_changes kpf_size kpfk_a kpfv_a kpfh_a kpft_a kps_size kpsk_a kpsv_a kpsh_a kpst_a kpe_size kpea_a kpeb_a kpec_a nw_asked nw_looksOfAsked nw_changes nwf_size nwfk_a nwfv_a nwfh_a nwft_a nws_size nwsk_a nwsv_a nwsh_a nwst_a nwe_size nwea_a nweb_a nwec_a  (show 0 ≤ kpf_size.toInt ∧ kpf_size.toInt ≤ 8 from by omega) (show 0 ≤ kps_size.toInt ∧ kps_size.toInt ≤ 8 from by omega) (show 0 ≤ kpe_size.toInt ∧ kpe_size.toInt ≤ 6 from by omega) (show 0 ≤ nwf_size.toInt ∧ nwf_size.toInt ≤ 8 from by omega) (show 0 ≤ nws_size.toInt ∧ nws_size.toInt ≤ 8 from by omega) (show 0 ≤ nwe_size.toInt ∧ nwe_size.toInt ≤ 6 from by omega)) tw_706 tw_703 tw_704 tw_705 tw_66 rfl rfl (by decide +kernel) ⟨Nat.le_of_ble_eq_true rfl, Nat.le_of_ble_eq_true rfl⟩ hK hP hD hS hA [16, 17, 18, 19, 20, 21, 22, 23, 24, 25, 26, 27, 28, 29, 30, 1, 2, 3, 4, 5, 6, 7, 8, 9, 10, 11, 12, 13, 14, 15] [0] rfl rfl rfl rfl (by decide) 0 (ci := 2) rfl rfl rfl hl.1 rfl (Nat.le_of_ble_eq_true rfl) dX11_image_18 ⟨Nat.le_of_ble_eq_true rfl, Nat.le_of_ble_eq_true rfl⟩ (fun u_2 H locs hw_3 hP hD hS => ?_)
  refine W.widen (k := 0) (n := 0) (by decide) (by decide) ?_
  obtain ⟨o_4, o_5, o_6, o_7, o_8, o_9, o_10, o_11, o_12, o_13, o_14, o_15, o_16, o_17, o_18, o_19, o_20⟩ := u_2
  obtain ⟨hw_3, k_21, k_22, k_23⟩ := hw_3
  have hw_3 : (o_4, o_5, o_6, o_7, o_8, o_9, o_10, o_11, o_12, o_13, o_14, o_15, o_16, o_17, o_18, o_19, o_20) = (fn_X2_copyFrom kp_asked kp_looksOfAsked kp_changes kpf_size kpfk_a kpfv_a kpfh_a kpft_a kps_size kpsk_a kpsv_a kpsh_a kpst_a kpe_size kpea_a kpeb_a kpec_a nw_asked nw_looksOfAsked nw_changes nwf_size nwfk_a nwfv_a nwfh_a nwft_a nws_size nwsk_a nwsv_a nwsh_a nwst_a nwe_size nwea_a nweb_a nwec_a) := hw_3
  have k_21 : (0 ≤ o_7.toInt ∧ o_7.toInt ≤ 8) := k_21
  have k_22 : (0 ≤ o_12.toInt ∧ o_12.toInt ≤ 8) := k_22
  have k_23 : (0 ≤ o_17.toInt ∧ o_17.toInt ≤ 6) := k_23
  rw [← hw_3] at hF
  rw [pm2_mk o_4 (o_5, o_6, o_7, o_8, o_9, o_10, o_11, o_12, o_13, o_14, o_15, o_16, o_17, o_18, o_19, o_20), pm2_mk o_5 (o_6, o_7, o_8, o_9, o_10, o_11, o_12, o_13, o_14, o_15, o_16, o_17, o_18, o_19, o_20), pm2_mk o_6 (o_7, o_8, o_9, o_10, o_11, o_12, o_13, o_14, o_15, o_16, o_17, o_18, o_19, o_20), pm2_mk o_7 (o_8, o_9, o_10, o_11, o_12, o_13, o_14, o_15, o_16, o_17, o_18, o_19, o_20), pm2_mk o_8 (o_9, o_10, o_11, o_12, o_13, o_14, o_15, o_16, o_17, o_18, o_19, o_20), pm2_mk o_9 (o_10, o_11, o_12, o_13, o_14, o_15, o_16, o_17, o_18, o_19, o_20), pm2_mk o_10 (o_11, o_12, o_13, o_14, o_15, o_16, o_17, o_18, o_19, o_20), pm2_mk o_11 (o_12, o_13, o_14, o_15, o_16, o_17, o_18, o_19, o_20), pm2_mk o_12 (o_13, o_14, o_15, o_16, o_17, o_18, o_19, o_20), pm2_mk o_13 (o_14, o_15, o_16, o_17, o_18, o_19, o_20), pm2_mk o_14 (o_15, o_16, o_17, o_18, o_19, o_20), pm2_mk o_15 (o_16, o_17, o_18, o_19, o_20), pm2_mk o_16 (o_17, o_18, o_19, o_20), pm2_mk o_17 (o_18, o_19, o_20), pm2_mk o_18 (o_19, o_20), pm2_mk o_19 o_20] at hF
  have hP : va_P D classes [(x, .inr (11, [.ref pg, .ref wr, .ref nw, .ref kp, .ref wk, .ref tr, .ref lw, .int x_rowsRead, .int x_rowOfImage, .int x_bestsDone])), (kp, .inr (2, [.ref kpf, .ref kps, .ref kpe, .int o_4, .int o_5, .int o_6])), (kpf, .inr (8, [.ref kpfk, .ref kpfv, .ref kpfh, .ref kpft, .int o_7])), (kpfk, .inl (cy, 8, .inl o_8)), (kpfv, .inl (cy, 8, .inl o_9)), (kpfh, .inl (cy, 8, .inl o_10)), (kpft, .inl (cy, 8, .inl o_11)), (kps, .inr (8, [.ref kpsk, .ref kpsv, .ref kpsh, .ref kpst, .int o_12])), (kpsk, .inl (cy, 8, .inl o_13)), (kpsv, .inl (cy, 8, .inl o_14)), (kpsh, .inl (cy, 8, .inl o_15)), (kpst, .inl (cy, 8, .inl o_16)), (kpe, .inr (4, [.ref kpea, .ref kpeb, .ref kpec, .int o_17])), (kpea, .inl (cy, 6, .inl o_18)), (kpeb, .inl (cy, 6, .inl o_19)), (kpec, .inl (cy, 6, .inl o_20)), (nw, .inr (2, [.ref nwf, .ref nws, .ref nwe, .int nw_asked, .int nw_looksOfAsked, .int nw_changes])), (nwf, .inr (8, [.ref nwfk, .ref nwfv, .ref nwfh, .ref nwft, .int nwf_size])), (nwfk, .inl (cy, 8, .inl nwfk_a)), (nwfv, .inl (cy, 8, .inl nwfv_a)), (nwfh, .inl (cy, 8, .inl nwfh_a)), (nwft, .inl (cy, 8, .inl nwft_a)), (nws, .inr (8, [.ref nwsk, .ref nwsv, .ref nwsh, .ref nwst, .int nws_size])), (nwsk, .inl (cy, 8, .inl nwsk_a)), (nwsv, .inl (cy, 8, .inl nwsv_a)), (nwsh, .inl (cy, 8, .inl nwsh_a)), (nwst, .inl (cy, 8, .inl nwst_a)), (nwe, .inr (4, [.ref nwea, .ref nweb, .ref nwec, .int nwe_size])), (nwea, .inl (cy, 6, .inl nwea_a)), (nweb, .inl (cy, 6, .inl nweb_a)), (nwec, .inl (cy, 6, .inl nwec_a))] H := hP
  have hD : va_D A [(x, .inr (11, [.ref pg, .ref wr, .ref nw, .ref kp, .ref wk, .ref tr, .ref lw, .int x_rowsRead, .int x_rowOfImage, .int x_bestsDone])), (kp, .inr (2, [.ref kpf, .ref kps, .ref kpe, .int o_4, .int o_5, .int o_6])), (kpf, .inr (8, [.ref kpfk, .ref kpfv, .ref kpfh, .ref kpft, .int o_7])), (kpfk, .inl (cy, 8, .inl o_8)), (kpfv, .inl (cy, 8, .inl o_9)), (kpfh, .inl (cy, 8, .inl o_10)), (kpft, .inl (cy, 8, .inl o_11)), (kps, .inr (8, [.ref kpsk, .ref kpsv, .ref kpsh, .ref kpst, .int o_12])), (kpsk, .inl (cy, 8, .inl o_13)), (kpsv, .inl (cy, 8, .inl o_14)), (kpsh, .inl (cy, 8, .inl o_15)), (kpst, .inl (cy, 8, .inl o_16)), (kpe, .inr (4, [.ref kpea, .ref kpeb, .ref kpec, .int o_17])), (kpea, .inl (cy, 6, .inl o_18)), (kpeb, .inl (cy, 6, .inl o_19)), (kpec, .inl (cy, 6, .inl o_20)), (nw, .inr (2, [.ref nwf, .ref nws, .ref nwe, .int nw_asked, .int nw_looksOfAsked, .int nw_changes])), (nwf, .inr (8, [.ref nwfk, .ref nwfv, .ref nwfh, .ref nwft, .int nwf_size])), (nwfk, .inl (cy, 8, .inl nwfk_a)), (nwfv, .inl (cy, 8, .inl nwfv_a)), (nwfh, .inl (cy, 8, .inl nwfh_a)), (nwft, .inl (cy, 8, .inl nwft_a)), (nws, .inr (8, [.ref nwsk, .ref nwsv, .ref nwsh, .ref nwst, .int nws_size])), (nwsk, .inl (cy, 8, .inl nwsk_a)), (nwsv, .inl (cy, 8, .inl nwsv_a)), (nwsh, .inl (cy, 8, .inl nwsh_a)), (nwst, .inl (cy, 8, .inl nwst_a)), (nwe, .inr (4, [.ref nwea, .ref nweb, .ref nwec, .int nwe_size])), (nwea, .inl (cy, 6, .inl nwea_a)), (nweb, .inl (cy, 6, .inl nweb_a)), (nwec, .inl (cy, 6, .inl nwec_a))] := hD
  refine lv_aload_n hx hb dX11_image_21 rfl (lv_at hl 0 rfl) ?_
  refine lv_aload_n hx hb dX11_image_22 rfl (lv_at hl 0 rfl) ?_
  refine va_get (D := D) (ci := 11) (v := .int x_rowsRead) (C := RX11) (T := TX11) (N := 10) hx hb htb inX11 hown hK hP 0 rfl rfl 7 (by decide) (htb _ tw_259) (fun _ h9 => h9) rfl dX11_image_23 ?_
  refine va_put (D := D) (ci := 11) (v := .int x_rowsRead) (ty := .int) (C := RX11) (T := TX11) (N := 10) hx hb htb inX11 tyX11 tyX11_ok nmX11 hown hK hP hD hS 0 rfl rfl 8 (by decide) (htb _ tw_260) (fun _ h9 => h9) rfl (by decide +kernel) rfl rfl (Nat.le_of_ble_eq_true rfl) dX11_image_26 (fun H locs hP hD hS => ?_)
  have hP : va_P D classes [(x, .inr (11, [.ref pg, .ref wr, .ref nw, .ref kp, .ref wk, .ref tr, .ref lw, .int x_rowsRead, .int x_rowsRead, .int x_bestsDone])), (kp, .inr (2, [.ref kpf, .ref kps, .ref kpe, .int o_4, .int o_5, .int o_6])), (kpf, .inr (8, [.ref kpfk, .ref kpfv, .ref kpfh, .ref kpft, .int o_7])), (kpfk, .inl (cy, 8, .inl o_8)), (kpfv, .inl (cy, 8, .inl o_9)), (kpfh, .inl (cy, 8, .inl o_10)), (kpft, .inl (cy, 8, .inl o_11)), (kps, .inr (8, [.ref kpsk, .ref kpsv, .ref kpsh, .ref kpst, .int o_12])), (kpsk, .inl (cy, 8, .inl o_13)), (kpsv, .inl (cy, 8, .inl o_14)), (kpsh, .inl (cy, 8, .inl o_15)), (kpst, .inl (cy, 8, .inl o_16)), (kpe, .inr (4, [.ref kpea, .ref kpeb, .ref kpec, .int o_17])), (kpea, .inl (cy, 6, .inl o_18)), (kpeb, .inl (cy, 6, .inl o_19)), (kpec, .inl (cy, 6, .inl o_20)), (nw, .inr (2, [.ref nwf, .ref nws, .ref nwe, .int nw_asked, .int nw_looksOfAsked, .int nw_changes])), (nwf, .inr (8, [.ref nwfk, .ref nwfv, .ref nwfh, .ref nwft, .int nwf_size])), (nwfk, .inl (cy, 8, .inl nwfk_a)), (nwfv, .inl (cy, 8, .inl nwfv_a)), (nwfh, .inl (cy, 8, .inl nwfh_a)), (nwft, .inl (cy, 8, .inl nwft_a)), (nws, .inr (8, [.ref nwsk, .ref nwsv, .ref nwsh, .ref nwst, .int nws_size])), (nwsk, .inl (cy, 8, .inl nwsk_a)), (nwsv, .inl (cy, 8, .inl nwsv_a)), (nwsh, .inl (cy, 8, .inl nwsh_a)), (nwst, .inl (cy, 8, .inl nwst_a)), (nwe, .inr (4, [.ref nwea, .ref nweb, .ref nwec, .int nwe_size])), (nwea, .inl (cy, 6, .inl nwea_a)), (nweb, .inl (cy, 6, .inl nweb_a)), (nwec, .inl (cy, 6, .inl nwec_a))] H := hP
  have hD : va_D A [(x, .inr (11, [.ref pg, .ref wr, .ref nw, .ref kp, .ref wk, .ref tr, .ref lw, .int x_rowsRead, .int x_rowsRead, .int x_bestsDone])), (kp, .inr (2, [.ref kpf, .ref kps, .ref kpe, .int o_4, .int o_5, .int o_6])), (kpf, .inr (8, [.ref kpfk, .ref kpfv, .ref kpfh, .ref kpft, .int o_7])), (kpfk, .inl (cy, 8, .inl o_8)), (kpfv, .inl (cy, 8, .inl o_9)), (kpfh, .inl (cy, 8, .inl o_10)), (kpft, .inl (cy, 8, .inl o_11)), (kps, .inr (8, [.ref kpsk, .ref kpsv, .ref kpsh, .ref kpst, .int o_12])), (kpsk, .inl (cy, 8, .inl o_13)), (kpsv, .inl (cy, 8, .inl o_14)), (kpsh, .inl (cy, 8, .inl o_15)), (kpst, .inl (cy, 8, .inl o_16)), (kpe, .inr (4, [.ref kpea, .ref kpeb, .ref kpec, .int o_17])), (kpea, .inl (cy, 6, .inl o_18)), (kpeb, .inl (cy, 6, .inl o_19)), (kpec, .inl (cy, 6, .inl o_20)), (nw, .inr (2, [.ref nwf, .ref nws, .ref nwe, .int nw_asked, .int nw_looksOfAsked, .int nw_changes])), (nwf, .inr (8, [.ref nwfk, .ref nwfv, .ref nwfh, .ref nwft, .int nwf_size])), (nwfk, .inl (cy, 8, .inl nwfk_a)), (nwfv, .inl (cy, 8, .inl nwfv_a)), (nwfh, .inl (cy, 8, .inl nwfh_a)), (nwft, .inl (cy, 8, .inl nwft_a)), (nws, .inr (8, [.ref nwsk, .ref nwsv, .ref nwsh, .ref nwst, .int nws_size])), (nwsk, .inl (cy, 8, .inl nwsk_a)), (nwsv, .inl (cy, 8, .inl nwsv_a)), (nwsh, .inl (cy, 8, .inl nwsh_a)), (nwst, .inl (cy, 8, .inl nwst_a)), (nwe, .inr (4, [.ref nwea, .ref nweb, .ref nwec, .int nwe_size])), (nwea, .inl (cy, 6, .inl nwea_a)), (nweb, .inl (cy, 6, .inl nweb_a)), (nwec, .inl (cy, 6, .inl nwec_a))] := hD
  refine lv_aload_n hx hb dX11_image_29 rfl (lv_at hl 0 rfl) ?_
  refine va_get (D := D) (ci := 11) (v := .ref nw) (C := RX11) (T := TX11) (N := 10) hx hb htb inX11 hown hK hP 0 rfl rfl 2 (by decide) (htb _ tw_254) (fun _ h9 => h9) rfl dX11_image_30 ?_
  refine va_get (D := D) (ci := 2) (v := .int nw_changes) (C := RX2) (T := TX2) (N := 6) hx hb htb inX2 hown hK hP 16 rfl rfl 5 (by decide) (htb _ tw_181) (fun _ h9 => h9) rfl dX11_image_33 ?_
  refine W.widen (k := 0) (n := 0) (by decide) (by decide) ?_
  exact hret nw_changes (x_rowsRead, o_4, o_5, o_6, o_7, o_8, o_9, o_10, o_11, o_12, o_13, o_14, o_15, o_16, o_17, o_18, o_19, o_20) _ _ _ 36 (wk_sub9 (is := [0, 16, 17, 18, 19, 20, 21, 22, 23, 24, 25, 26, 27, 28, 29, 30, 1, 2, 3, 4, 5, 6, 7, 8, 9, 10, 11, 12, 13, 14, 15]) hP rfl) (hD.sub [0, 16, 17, 18, 19, 20, 21, 22, 23, 24, 25, 26, 27, 28, 29, 30, 1, 2, 3, 4, 5, 6, 7, 8, 9, 10, 11, 12, 13, 14, 15] rfl rfl) hS dX11_image_36 ⟨hF.symm, (show (0 ≤ o_7.toInt ∧ o_7.toInt ≤ 8) from by omega), (show (0 ≤ o_12.toInt ∧ o_12.toInt ≤ 8) from by omega), (show (0 ≤ o_17.toInt ∧ o_17.toInt ≤ 6) from by omega)⟩
