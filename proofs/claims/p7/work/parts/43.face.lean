def fn_X11_isNoKey (a : Int32) : Int32 := (if a < 0 then 1 else (if a ≤ 99 then 0 else 1))
theorem dX11_isNoKey_0 : decode cX11_isNoKey 0 = .ok (.iload_n 0, 1) := by decide +kernel
theorem dX11_isNoKey_1 : decode cX11_isNoKey 1 = .ok (.ifCond .lt 9, 3) := by decide +kernel
theorem dX11_isNoKey_4 : decode cX11_isNoKey 4 = .ok (.iload_n 0, 1) := by decide +kernel
theorem dX11_isNoKey_5 : decode cX11_isNoKey 5 = .ok (.bipush 99, 2) := by decide +kernel
theorem dX11_isNoKey_7 : decode cX11_isNoKey 7 = .ok (.if_icmp .le 7, 3) := by decide +kernel
theorem dX11_isNoKey_10 : decode cX11_isNoKey 10 = .ok (.iconst 1, 1) := by decide +kernel
theorem dX11_isNoKey_11 : decode cX11_isNoKey 11 = .ok (.goto 4, 3) := by decide +kernel
theorem dX11_isNoKey_14 : decode cX11_isNoKey 14 = .ok (.iconst 0, 1) := by decide +kernel
theorem dX11_isNoKey_15 : decode cX11_isNoKey 15 = .ok (.ireturn, 1) := by decide +kernel
set_option maxHeartbeats 4000000 in
set_option maxRecDepth 100000 in
theorem c_X11_isNoKey (l : Launch) (D : va_G) (cy : ClassId)  (a : Int32)  : wk_Ci l yX11_isNoKey cX11_isNoKey 1 (some .boolean) { frames := 0, cells := 0, slots := 0, locals := 0 } D cy [.int a] [] 0 0 (fun (r : Int32) (u : Unit) => r = (fn_X11_isNoKey a) ∧ (r = 0 ∨ r = 1) ∧ (wk_or (r.toInt = 1) (0 ≤ a.toInt ∧ a.toInt ≤ 99))) (fun u => []) := by
  refine wk_mk2Cz (by decide) (Nat.le_of_ble_eq_true rfl) ?_
  intro p e s m args below meth c A ls Q B hA hK hP hD hS hl hret
  obtain ⟨hx, hb, hr, hlocks, hml, hown, htb, hin⟩ := B
  have hl : lv_has ls 1 [(0, .int a)] := hl
  have hF : (fn_X11_isNoKey a) = (fn_X11_isNoKey a) := rfl
  conv at hF => rhs; unfold fn_X11_isNoKey
  refine lv_iload_n hx hb dX11_isNoKey_0 rfl (lv_at hl 0 rfl) ?_
  refine lv_if_lt (tgt := 10) hx hb dX11_isNoKey_1 (by decide) (fun c_1 => ?_) (fun c_1 => ?_)
  · have k_1 : a.toInt < 0 := wk_lt c_1
    replace hF := hF.trans (if_pos c_1)
    refine lv_iconst (v := 1) hx hb dX11_isNoKey_10 (by decide) ?_
    refine lv_goto (tgt := 15) hx hb dX11_isNoKey_11 (by decide) ?_
    refine W.widen (k := 0) (n := 0) (by decide) (by decide) ?_
    exact hret 1 () _ _ _ 15 (wk_nb (by first | exact Or.inl rfl | exact Or.inr rfl | assumption)) (wk_sub9 (is := []) hP rfl) (hD.sub [] rfl rfl) hS dX11_isNoKey_15 ⟨hF.symm, (by first | exact Or.inl rfl | exact Or.inr rfl | assumption), (wk_orI (show (1 : Int) = 1 ∨ (0 ≤ a.toInt ∧ a.toInt ≤ 99) from by omega))⟩
  · have k_1 : ¬ a.toInt < 0 := wk_nlt c_1
    replace hF := hF.trans (if_neg c_1)
    refine lv_iload_n hx hb dX11_isNoKey_4 rfl (lv_at hl 0 rfl) ?_
    refine lv_bipush (v := 99) hx hb dX11_isNoKey_5 (by decide) ?_
    refine lv_icmp_le (tgt := 14) hx hb dX11_isNoKey_7 (by decide) (fun c_2 => ?_) (fun c_2 => ?_)
    · have k_2 : a.toInt ≤ 99 := wk_le c_2
      replace hF := hF.trans (if_pos c_2)
      refine lv_iconst (v := 0) hx hb dX11_isNoKey_14 (by decide) ?_
      refine W.widen (k := 0) (n := 0) (by decide) (by decide) ?_
      exact hret 0 () _ _ _ 15 (wk_nb (by first | exact Or.inl rfl | exact Or.inr rfl | assumption)) (wk_sub9 (is := []) hP rfl) (hD.sub [] rfl rfl) hS dX11_isNoKey_15 ⟨hF.symm, (by first | exact Or.inl rfl | exact Or.inr rfl | assumption), (wk_orI (show (0 : Int) = 1 ∨ (0 ≤ a.toInt ∧ a.toInt ≤ 99) from by omega))⟩
    · have k_2 : ¬ a.toInt ≤ 99 := wk_nle c_2
      replace hF := hF.trans (if_neg c_2)
      refine lv_iconst (v := 1) hx hb dX11_isNoKey_10 (by decide) ?_
      refine lv_goto (tgt := 15) hx hb dX11_isNoKey_11 (by decide) ?_
      refine W.widen (k := 0) (n := 0) (by decide) (by decide) ?_
      exact hret 1 () _ _ _ 15 (wk_nb (by first | exact Or.inl rfl | exact Or.inr rfl | assumption)) (wk_sub9 (is := []) hP rfl) (hD.sub [] rfl rfl) hS dX11_isNoKey_15 ⟨hF.symm, (by first | exact Or.inl rfl | exact Or.inr rfl | assumption), (wk_orI (show (1 : Int) = 1 ∨ (0 ≤ a.toInt ∧ a.toInt ≤ 99) from by omega))⟩
def fn_X11_seedBehind (a : Int32) : Int32 := (((1103515245 * a.toInt64) + 12345) &&& 2147483647).toInt32
theorem dX11_seedBehind_0 : decode cX11_seedBehind 0 = .ok (.ldc2_w 303, 3) := by decide +kernel
theorem dX11_seedBehind_3 : decode cX11_seedBehind 3 = .ok (.iload_n 0, 1) := by decide +kernel
theorem dX11_seedBehind_4 : decode cX11_seedBehind 4 = .ok (.i2l, 1) := by decide +kernel
theorem dX11_seedBehind_5 : decode cX11_seedBehind 5 = .ok (.lmul, 1) := by decide +kernel
theorem dX11_seedBehind_6 : decode cX11_seedBehind 6 = .ok (.ldc2_w 305, 3) := by decide +kernel
theorem dX11_seedBehind_9 : decode cX11_seedBehind 9 = .ok (.ladd, 1) := by decide +kernel
theorem dX11_seedBehind_10 : decode cX11_seedBehind 10 = .ok (.ldc2_w 307, 3) := by decide +kernel
theorem dX11_seedBehind_13 : decode cX11_seedBehind 13 = .ok (.land, 1) := by decide +kernel
theorem dX11_seedBehind_14 : decode cX11_seedBehind 14 = .ok (.l2i, 1) := by decide +kernel
theorem dX11_seedBehind_15 : decode cX11_seedBehind 15 = .ok (.ireturn, 1) := by decide +kernel
set_option maxHeartbeats 4000000 in
set_option maxRecDepth 100000 in
theorem c_X11_seedBehind (l : Launch) (D : va_G) (cy : ClassId)  (a : Int32)  : wk_Ci l yX11_seedBehind cX11_seedBehind 1 (some .int) { frames := 0, cells := 0, slots := 0, locals := 0 } D cy [.int a] [] 0 0 (fun (r : Int32) (u : Unit) => r = (fn_X11_seedBehind a)) (fun u => []) := by
  refine wk_mk2Ci (by decide) (Nat.le_of_ble_eq_true rfl) ?_
  intro p e s m args below meth c A ls Q B hA hK hP hD hS hl hret
  obtain ⟨hx, hb, hr, hlocks, hml, hown, htb, hin⟩ := B
  have hl : lv_has ls 1 [(0, .int a)] := hl
  have hF : (fn_X11_seedBehind a) = (fn_X11_seedBehind a) := rfl
  conv at hF => rhs; unfold fn_X11_seedBehind
  refine lv_ldc2 (v := 1103515245) hx hb hown (htb _ tw_695) dX11_seedBehind_0 ?_
  refine lv_iload_n hx hb dX11_seedBehind_3 rfl (lv_at hl 0 rfl) ?_
  refine lv_i2l (v := a.toInt64) hx hb dX11_seedBehind_4 rfl ?_
  refine lv_lmul hx hb dX11_seedBehind_5 ?_
  refine lv_ldc2 (v := 12345) hx hb hown (htb _ tw_696) dX11_seedBehind_6 ?_
  refine lv_ladd hx hb dX11_seedBehind_9 ?_
  refine lv_ldc2 (v := 2147483647) hx hb hown (htb _ tw_697) dX11_seedBehind_10 ?_
  refine lv_land hx hb dX11_seedBehind_13 ?_
  refine lv_l2i (v := (((1103515245 * a.toInt64) + 12345) &&& 2147483647).toInt32) hx hb dX11_seedBehind_14 rfl ?_
  refine W.widen (k := 0) (n := 0) (by decide) (by decide) ?_
  exact hret (((1103515245 * a.toInt64) + 12345) &&& 2147483647).toInt32 () _ _ _ 15 (wk_sub9 (is := []) hP rfl) (hD.sub [] rfl rfl) hS dX11_seedBehind_15 hF.symm
def fn_X11_namesNoKey (nwf_size : Int32) (a : Int32) : Int32 := (if a < 0 then 1 else (if a < nwf_size then 0 else 1))
theorem dX11_namesNoKey_0 : decode cX11_namesNoKey 0 = .ok (.iload_n 1, 1) := by decide +kernel
theorem dX11_namesNoKey_1 : decode cX11_namesNoKey 1 = .ok (.ifCond .lt 17, 3) := by decide +kernel
theorem dX11_namesNoKey_4 : decode cX11_namesNoKey 4 = .ok (.iload_n 1, 1) := by decide +kernel
theorem dX11_namesNoKey_5 : decode cX11_namesNoKey 5 = .ok (.aload_n 0, 1) := by decide +kernel
theorem dX11_namesNoKey_6 : decode cX11_namesNoKey 6 = .ok (.getfield 22, 3) := by decide +kernel
theorem dX11_namesNoKey_9 : decode cX11_namesNoKey 9 = .ok (.getfield 77, 3) := by decide +kernel
theorem dX11_namesNoKey_12 : decode cX11_namesNoKey 12 = .ok (.getfield 91, 3) := by decide +kernel
theorem dX11_namesNoKey_15 : decode cX11_namesNoKey 15 = .ok (.if_icmp .lt 7, 3) := by decide +kernel
theorem dX11_namesNoKey_18 : decode cX11_namesNoKey 18 = .ok (.iconst 1, 1) := by decide +kernel
theorem dX11_namesNoKey_19 : decode cX11_namesNoKey 19 = .ok (.goto 4, 3) := by decide +kernel
theorem dX11_namesNoKey_22 : decode cX11_namesNoKey 22 = .ok (.iconst 0, 1) := by decide +kernel
theorem dX11_namesNoKey_23 : decode cX11_namesNoKey 23 = .ok (.ireturn, 1) := by decide +kernel
set_option maxHeartbeats 4000000 in
set_option maxRecDepth 100000 in
theorem c_X11_namesNoKey (l : Launch) (D : va_G) (cy : ClassId) (x pg wr nw kp wk tr nwf nws nwe nwfk nwfv nwfh nwft : Nat) (lv : Value) (x_rowsRead : Int32) (x_rowOfImage : Int32) (x_bestsDone : Int32) (nw_asked : Int32) (nw_looksOfAsked : Int32) (nw_changes : Int32) (nwf_size : Int32) (a : Int32) (g_0 : 0 ≤ nwf_size.toInt ∧ nwf_size.toInt ≤ 8) : wk_Ci l yX11_namesNoKey cX11_namesNoKey 2 (some .boolean) { frames := 0, cells := 0, slots := 0, locals := 0 } D cy [.ref x, .int a] [(x, .inr (11, [.ref pg, .ref wr, .ref nw, .ref kp, .ref wk, .ref tr, lv, .int x_rowsRead, .int x_rowOfImage, .int x_bestsDone])), (nw, .inr (2, [.ref nwf, .ref nws, .ref nwe, .int nw_asked, .int nw_looksOfAsked, .int nw_changes])), (nwf, .inr (8, [.ref nwfk, .ref nwfv, .ref nwfh, .ref nwft, .int nwf_size]))] 0 0 (fun (r : Int32) (u : Unit) => r = (fn_X11_namesNoKey nwf_size a) ∧ (r = 0 ∨ r = 1) ∧ (wk_or (r.toInt = 1) (0 ≤ a.toInt ∧ a.toInt < nwf_size.toInt))) (fun u => [(x, .inr (11, [.ref pg, .ref wr, .ref nw, .ref kp, .ref wk, .ref tr, lv, .int x_rowsRead, .int x_rowOfImage, .int x_bestsDone])), (nw, .inr (2, [.ref nwf, .ref nws, .ref nwe, .int nw_asked, .int nw_looksOfAsked, .int nw_changes])), (nwf, .inr (8, [.ref nwfk, .ref nwfv, .ref nwfh, .ref nwft, .int nwf_size]))]) := by
  refine wk_mk2Cz (by decide) (Nat.le_of_ble_eq_true rfl) ?_
  intro p e s m args below meth c A ls Q B hA hK hP hD hS hl hret
  obtain ⟨hx, hb, hr, hlocks, hml, hown, htb, hin⟩ := B
  have hl : lv_has ls 2 [(0, .ref x), (1, .int a)] := hl
  have hF : (fn_X11_namesNoKey nwf_size a) = (fn_X11_namesNoKey nwf_size a) := rfl
  conv at hF => rhs; unfold fn_X11_namesNoKey
  refine lv_iload_n hx hb dX11_namesNoKey_0 rfl (lv_at hl 1 rfl) ?_
  refine lv_if_lt (tgt := 18) hx hb dX11_namesNoKey_1 (by decide) (fun c_1 => ?_) (fun c_1 => ?_)
  · have k_1 : a.toInt < 0 := wk_lt c_1
    replace hF := hF.trans (if_pos c_1)
    refine lv_iconst (v := 1) hx hb dX11_namesNoKey_18 (by decide) ?_
    refine lv_goto (tgt := 23) hx hb dX11_namesNoKey_19 (by decide) ?_
    refine W.widen (k := 0) (n := 0) (by decide) (by decide) ?_
    exact hret 1 () _ _ _ 23 (wk_nb (by first | exact Or.inl rfl | exact Or.inr rfl | assumption)) (wk_sub9 (is := [0, 1, 2]) hP rfl) (hD.sub [0, 1, 2] rfl rfl) hS dX11_namesNoKey_23 ⟨hF.symm, (by first | exact Or.inl rfl | exact Or.inr rfl | assumption), (wk_orI (show (1 : Int) = 1 ∨ (0 ≤ a.toInt ∧ a.toInt < nwf_size.toInt) from by omega))⟩
  · have k_1 : ¬ a.toInt < 0 := wk_nlt c_1
    replace hF := hF.trans (if_neg c_1)
    refine lv_iload_n hx hb dX11_namesNoKey_4 rfl (lv_at hl 1 rfl) ?_
    refine lv_aload_n hx hb dX11_namesNoKey_5 rfl (lv_at hl 0 rfl) ?_
    refine va_get (D := D) (ci := 11) (v := .ref nw) (C := RX11) (T := TX11) (N := 10) hx hb htb inX11 hown hK hP 0 rfl rfl 2 (by decide) (htb _ tw_254) (fun _ h9 => h9) rfl dX11_namesNoKey_6 ?_
    refine va_get (D := D) (ci := 2) (v := .ref nwf) (C := RX2) (T := TX2) (N := 6) hx hb htb inX2 hown hK hP 1 rfl rfl 0 (by decide) (htb _ tw_171) (fun _ h9 => h9) rfl dX11_namesNoKey_9 ?_
    refine va_get (D := D) (ci := 8) (v := .int nwf_size) (C := RX8) (T := TX8) (N := 5) hx hb htb inX8 hown hK hP 2 rfl rfl 4 (by decide) (htb _ tw_134) (fun _ h9 => h9) rfl dX11_namesNoKey_12 ?_
    refine lv_icmp_lt (tgt := 22) hx hb dX11_namesNoKey_15 (by decide) (fun c_2 => ?_) (fun c_2 => ?_)
    · have k_2 : a.toInt < nwf_size.toInt := wk_lt c_2
      replace hF := hF.trans (if_pos c_2)
      refine lv_iconst (v := 0) hx hb dX11_namesNoKey_22 (by decide) ?_
      refine W.widen (k := 0) (n := 0) (by decide) (by decide) ?_
      exact hret 0 () _ _ _ 23 (wk_nb (by first | exact Or.inl rfl | exact Or.inr rfl | assumption)) (wk_sub9 (is := [0, 1, 2]) hP rfl) (hD.sub [0, 1, 2] rfl rfl) hS dX11_namesNoKey_23 ⟨hF.symm, (by first | exact Or.inl rfl | exact Or.inr rfl | assumption), (wk_orI (show (0 : Int) = 1 ∨ (0 ≤ a.toInt ∧ a.toInt < nwf_size.toInt) from by omega))⟩
    · have k_2 : ¬ a.toInt < nwf_size.toInt := wk_nlt c_2
      replace hF := hF.trans (if_neg c_2)
      refine lv_iconst (v := 1) hx hb dX11_namesNoKey_18 (by decide) ?_
      refine lv_goto (tgt := 23) hx hb dX11_namesNoKey_19 (by decide) ?_
      refine W.widen (k := 0) (n := 0) (by decide) (by decide) ?_
      exact hret 1 () _ _ _ 23 (wk_nb (by first | exact Or.inl rfl | exact Or.inr rfl | assumption)) (wk_sub9 (is := [0, 1, 2]) hP rfl) (hD.sub [0, 1, 2] rfl rfl) hS dX11_namesNoKey_23 ⟨hF.symm, (by first | exact Or.inl rfl | exact Or.inr rfl | assumption), (wk_orI (show (1 : Int) = 1 ∨ (0 ≤ a.toInt ∧ a.toInt < nwf_size.toInt) from by omega))⟩
def fn_X11_looksFor (nwf_size : Int32) (nwfk_a : Nat → Int32) (nwfh_a : Nat → Int32) (wk_number : Int32) (wk_lane : Int32) (wk_looks : Int32) (a : Int32) : Int32 × Int32 × Int32 × Int32 := (pm2 (fn_X10_go wk_number wk_lane wk_looks nwf_size nwfk_a nwfh_a (-1) a) (fun o_4 t_ => (pm2 (t_) (fun o_5 o_6 => (o_6, o_4, o_5, o_6)))))
theorem dX11_looksFor_0 : decode cX11_looksFor 0 = .ok (.aload_n 0, 1) := by decide +kernel
theorem dX11_looksFor_1 : decode cX11_looksFor 1 = .ok (.getfield 32, 3) := by decide +kernel
theorem dX11_looksFor_4 : decode cX11_looksFor 4 = .ok (.aload_n 0, 1) := by decide +kernel
theorem dX11_looksFor_5 : decode cX11_looksFor 5 = .ok (.getfield 22, 3) := by decide +kernel
theorem dX11_looksFor_8 : decode cX11_looksFor 8 = .ok (.getfield 77, 3) := by decide +kernel
theorem dX11_looksFor_11 : decode cX11_looksFor 11 = .ok (.aload_n 0, 1) := by decide +kernel
theorem dX11_looksFor_12 : decode cX11_looksFor 12 = .ok (.getfield 22, 3) := by decide +kernel
theorem dX11_looksFor_15 : decode cX11_looksFor 15 = .ok (.getfield 77, 3) := by decide +kernel
theorem dX11_looksFor_18 : decode cX11_looksFor 18 = .ok (.getfield 111, 3) := by decide +kernel
theorem dX11_looksFor_21 : decode cX11_looksFor 21 = .ok (.iconst (-1), 1) := by decide +kernel
theorem dX11_looksFor_22 : decode cX11_looksFor 22 = .ok (.iload_n 1, 1) := by decide +kernel
theorem dX11_looksFor_23 : decode cX11_looksFor 23 = .ok (.invokevirtual 150, 3) := by decide +kernel
theorem dX11_looksFor_26 : decode cX11_looksFor 26 = .ok (.aload_n 0, 1) := by decide +kernel
theorem dX11_looksFor_27 : decode cX11_looksFor 27 = .ok (.getfield 32, 3) := by decide +kernel
theorem dX11_looksFor_30 : decode cX11_looksFor 30 = .ok (.getfield 157, 3) := by decide +kernel
theorem dX11_looksFor_33 : decode cX11_looksFor 33 = .ok (.ireturn, 1) := by decide +kernel
set_option maxHeartbeats 4000000 in
set_option maxRecDepth 100000 in
theorem c_X11_looksFor (l : Launch) (D : va_G) (cy : ClassId) (x pg wr nw kp wk tr nwf nws nwe nwfk nwfv nwfh nwft : Nat) (lv : Value) (x_rowsRead : Int32) (x_rowOfImage : Int32) (x_bestsDone : Int32) (nw_asked : Int32) (nw_looksOfAsked : Int32) (nw_changes : Int32) (nwf_size : Int32) (nwfk_a : Nat → Int32) (nwfh_a : Nat → Int32) (wk_number : Int32) (wk_lane : Int32) (wk_looks : Int32) (a : Int32) (g_0 : 0 ≤ nwf_size.toInt ∧ nwf_size.toInt ≤ 8) (g_1 : (-1) ≤ wk_number.toInt ∧ wk_number.toInt ≤ 7) : wk_Ci l yX11_looksFor cX11_looksFor 2 (some .int) { frames := 3, cells := 0, slots := 0, locals := 65 } D cy [.ref x, .int a] [(x, .inr (11, [.ref pg, .ref wr, .ref nw, .ref kp, .ref wk, .ref tr, lv, .int x_rowsRead, .int x_rowOfImage, .int x_bestsDone])), (nw, .inr (2, [.ref nwf, .ref nws, .ref nwe, .int nw_asked, .int nw_looksOfAsked, .int nw_changes])), (nwf, .inr (8, [.ref nwfk, .ref nwfv, .ref nwfh, .ref nwft, .int nwf_size])), (nwfk, .inl (cy, 8, .inl nwfk_a)), (nwfh, .inl (cy, 8, .inl nwfh_a)), (wk, .inr (10, [.int wk_number, .int wk_lane, .int wk_looks]))] 0 0 (fun (r : Int32) (u : Int32 × Int32 × Int32) => (r, u) = (fn_X11_looksFor nwf_size nwfk_a nwfh_a wk_number wk_lane wk_looks a) ∧ ((-1) ≤ u.1.toInt ∧ u.1.toInt ≤ 7)) (fun u => [(x, .inr (11, [.ref pg, .ref wr, .ref nw, .ref kp, .ref wk, .ref tr, lv, .int x_rowsRead, .int x_rowOfImage, .int x_bestsDone])), (nw, .inr (2, [.ref nwf, .ref nws, .ref nwe, .int nw_asked, .int nw_looksOfAsked, .int nw_changes])), (nwf, .inr (8, [.ref nwfk, .ref nwfv, .ref nwfh, .ref nwft, .int nwf_size])), (nwfk, .inl (cy, 8, .inl nwfk_a)), (nwfh, .inl (cy, 8, .inl nwfh_a)), (wk, .inr (10, [.int u.1, .int u.2.1, .int u.2.2]))]) := by
  refine wk_mk2Ci (by decide) (Nat.le_of_ble_eq_true rfl) ?_
  intro p e s m args below meth c A ls Q B hA hK hP hD hS hl hret
  obtain ⟨hx, hb, hr, hlocks, hml, hown, htb, hin⟩ := B
  have hl : lv_has ls 2 [(0, .ref x), (1, .int a)] := hl
  have hF : (fn_X11_looksFor nwf_size nwfk_a nwfh_a wk_number wk_lane wk_looks a) = (fn_X11_looksFor nwf_size nwfk_a nwfh_a wk_number wk_lane wk_looks a) := rfl
  conv at hF => rhs; unfold fn_X11_looksFor
  refine lv_aload_n hx hb dX11_looksFor_0 rfl (lv_at hl 0 rfl) ?_
  refine va_get (D := D) (ci := 11) (v := .ref wk) (C := RX11) (T := TX11) (N := 10) hx hb htb inX11 hown hK hP 0 rfl rfl 4 (by decide) (htb _ tw_256) (fun _ h9 => h9) rfl dX11_looksFor_1 ?_
  refine lv_aload_n hx hb dX11_looksFor_4 rfl (lv_at hl 0 rfl) ?_
  refine va_get (D := D) (ci := 11) (v := .ref nw) (C := RX11) (T := TX11) (N := 10) hx hb htb inX11 hown hK hP 0 rfl rfl 2 (by decide) (htb _ tw_254) (fun _ h9 => h9) rfl dX11_looksFor_5 ?_
  refine va_get (D := D) (ci := 2) (v := .ref nwf) (C := RX2) (T := TX2) (N := 6) hx hb htb inX2 hown hK hP 1 rfl rfl 0 (by decide) (htb _ tw_171) (fun _ h9 => h9) rfl dX11_looksFor_8 ?_
  refine lv_aload_n hx hb dX11_looksFor_11 rfl (lv_at hl 0 rfl) ?_
  refine va_get (D := D) (ci := 11) (v := .ref nw) (C := RX11) (T := TX11) (N := 10) hx hb htb inX11 hown hK hP 0 rfl rfl 2 (by decide) (htb _ tw_254) (fun _ h9 => h9) rfl dX11_looksFor_12 ?_
  refine va_get (D := D) (ci := 2) (v := .ref nwf) (C := RX2) (T := TX2) (N := 6) hx hb htb inX2 hown hK hP 1 rfl rfl 0 (by decide) (htb _ tw_171) (fun _ h9 => h9) rfl dX11_looksFor_15 ?_
  refine va_get (D := D) (ci := 8) (v := .ref nwfh) (C := RX8) (T := TX8) (N := 5) hx hb htb inX8 hown hK hP 2 rfl rfl 2 (by decide) (htb _ tw_125) (fun _ h9 => h9) rfl dX11_looksFor_18 ?_
  refine lv_iconst (v := (-1)) hx hb dX11_looksFor_21 (by decide) ?_
  refine lv_iload_n hx hb dX11_looksFor_22 rfl (lv_at hl 1 rfl) ?_
  refine wk_vV (As := [.ref nwf, .ref nwfh, .int (-1), .int a]) (rest := []) (wc := [(wk, .inr (10, [.int wk_number, .int wk_lane, .int wk_looks])), (nwf, .inr (8, [.ref nwfk, .ref nwfv, .ref nwfh, .ref nwft, .int nwf_size])), (nwfk, .inl (cy, 8, .inl nwfk_a)), (nwfh, .inl (cy, 8, .inl nwfh_a))]) (wr := [(x, .inr (11, [.ref pg, .ref wr, .ref nw, .ref kp, .ref wk, .ref tr, lv, .int x_rowsRead, .int x_rowOfImage, .int x_bestsDone])), (nw, .inr (2, [.ref nwf, .ref nws, .ref nwe, .int nw_asked, .int nw_looksOfAsked, .int nw_changes]))]) (n := 4) ⟨hx, hb, hml, hown, htb⟩ (c_X10_go l D cy wk nwf nwfk nwfv nwfh nwft nwfh wk_number wk_lane wk_looks nwf_size nwfk_a nwfh_a (-1) a (show (-1) ≤ wk_number.toInt ∧ wk_number.toInt ≤ 7 from by omega) (show 0 ≤ nwf_size.toInt ∧ nwf_size.toInt ≤ 8 from by omega)) tw_489 tw_486 tw_487 tw_488 tw_69 rfl rfl (by decide +kernel) ⟨Nat.le_of_ble_eq_true rfl, Nat.le_of_ble_eq_true rfl⟩ hK hP hD hS hA [5, 2, 3, 4] [0, 1] rfl rfl rfl rfl (by decide) 0 (ci := 10) rfl rfl rfl hl.1 rfl (Nat.le_of_ble_eq_true rfl) dX11_looksFor_23 ⟨Nat.le_of_ble_eq_true rfl, Nat.le_of_ble_eq_true rfl⟩ (fun u_2 H locs hw_3 hP hD hS => ?_)
  refine W.widen (k := 0) (n := 0) (by decide) (by decide) ?_
  obtain ⟨o_4, o_5, o_6⟩ := u_2
  obtain ⟨hw_3, k_7⟩ := hw_3
  have hw_3 : (o_4, o_5, o_6) = (fn_X10_go wk_number wk_lane wk_looks nwf_size nwfk_a nwfh_a (-1) a) := hw_3
  have k_7 : ((-1) ≤ o_4.toInt ∧ o_4.toInt ≤ 7) := k_7
  rw [← hw_3] at hF
  rw [pm2_mk o_4 (o_5, o_6), pm2_mk o_5 o_6] at hF
  have hP : va_P D classes [(x, .inr (11, [.ref pg, .ref wr, .ref nw, .ref kp, .ref wk, .ref tr, lv, .int x_rowsRead, .int x_rowOfImage, .int x_bestsDone])), (nw, .inr (2, [.ref nwf, .ref nws, .ref nwe, .int nw_asked, .int nw_looksOfAsked, .int nw_changes])), (wk, .inr (10, [.int o_4, .int o_5, .int o_6])), (nwf, .inr (8, [.ref nwfk, .ref nwfv, .ref nwfh, .ref nwft, .int nwf_size])), (nwfk, .inl (cy, 8, .inl nwfk_a)), (nwfh, .inl (cy, 8, .inl nwfh_a))] H := hP
  have hD : va_D A [(x, .inr (11, [.ref pg, .ref wr, .ref nw, .ref kp, .ref wk, .ref tr, lv, .int x_rowsRead, .int x_rowOfImage, .int x_bestsDone])), (nw, .inr (2, [.ref nwf, .ref nws, .ref nwe, .int nw_asked, .int nw_looksOfAsked, .int nw_changes])), (wk, .inr (10, [.int o_4, .int o_5, .int o_6])), (nwf, .inr (8, [.ref nwfk, .ref nwfv, .ref nwfh, .ref nwft, .int nwf_size])), (nwfk, .inl (cy, 8, .inl nwfk_a)), (nwfh, .inl (cy, 8, .inl nwfh_a))] := hD
  refine lv_aload_n hx hb dX11_looksFor_26 rfl (lv_at hl 0 rfl) ?_
  refine va_get (D := D) (ci := 11) (v := .ref wk) (C := RX11) (T := TX11) (N := 10) hx hb htb inX11 hown hK hP 0 rfl rfl 4 (by decide) (htb _ tw_256) (fun _ h9 => h9) rfl dX11_looksFor_27 ?_
  refine va_get (D := D) (ci := 10) (v := .int o_6) (C := RX10) (T := TX10) (N := 3) hx hb htb inX10 hown hK hP 2 rfl rfl 2 (by decide) (htb _ tw_207) (fun _ h9 => h9) rfl dX11_looksFor_30 ?_
  refine W.widen (k := 0) (n := 0) (by decide) (by decide) ?_
  exact hret o_6 (o_4, o_5, o_6) _ _ _ 33 (wk_sub9 (is := [0, 1, 3, 4, 5, 2]) hP rfl) (hD.sub [0, 1, 3, 4, 5, 2] rfl rfl) hS dX11_looksFor_33 ⟨hF.symm, (show ((-1) ≤ o_4.toInt ∧ o_4.toInt ≤ 7) from by omega)⟩
def fn_X11_laneOf (nwf_size : Int32) (nwfk_a : Nat → Int32) (nwfh_a : Nat → Int32) (wk_number : Int32) (wk_lane : Int32) (wk_looks : Int32) (a : Int32) : Int32 × Int32 × Int32 × Int32 := (pm2 (fn_X10_go wk_number wk_lane wk_looks nwf_size nwfk_a nwfh_a (-1) a) (fun o_4 t_ => (pm2 (t_) (fun o_5 o_6 => (o_5, o_4, o_5, o_6)))))
theorem dX11_laneOf_0 : decode cX11_laneOf 0 = .ok (.aload_n 0, 1) := by decide +kernel
theorem dX11_laneOf_1 : decode cX11_laneOf 1 = .ok (.getfield 32, 3) := by decide +kernel
theorem dX11_laneOf_4 : decode cX11_laneOf 4 = .ok (.aload_n 0, 1) := by decide +kernel
theorem dX11_laneOf_5 : decode cX11_laneOf 5 = .ok (.getfield 22, 3) := by decide +kernel
theorem dX11_laneOf_8 : decode cX11_laneOf 8 = .ok (.getfield 77, 3) := by decide +kernel
theorem dX11_laneOf_11 : decode cX11_laneOf 11 = .ok (.aload_n 0, 1) := by decide +kernel
theorem dX11_laneOf_12 : decode cX11_laneOf 12 = .ok (.getfield 22, 3) := by decide +kernel
theorem dX11_laneOf_15 : decode cX11_laneOf 15 = .ok (.getfield 77, 3) := by decide +kernel
theorem dX11_laneOf_18 : decode cX11_laneOf 18 = .ok (.getfield 111, 3) := by decide +kernel
theorem dX11_laneOf_21 : decode cX11_laneOf 21 = .ok (.iconst (-1), 1) := by decide +kernel
theorem dX11_laneOf_22 : decode cX11_laneOf 22 = .ok (.iload_n 1, 1) := by decide +kernel
theorem dX11_laneOf_23 : decode cX11_laneOf 23 = .ok (.invokevirtual 150, 3) := by decide +kernel
theorem dX11_laneOf_26 : decode cX11_laneOf 26 = .ok (.aload_n 0, 1) := by decide +kernel
theorem dX11_laneOf_27 : decode cX11_laneOf 27 = .ok (.getfield 32, 3) := by decide +kernel
theorem dX11_laneOf_30 : decode cX11_laneOf 30 = .ok (.getfield 160, 3) := by decide +kernel
theorem dX11_laneOf_33 : decode cX11_laneOf 33 = .ok (.ireturn, 1) := by decide +kernel
set_option maxHeartbeats 4000000 in
set_option maxRecDepth 100000 in
theorem c_X11_laneOf (l : Launch) (D : va_G) (cy : ClassId) (x pg wr nw kp wk tr nwf nws nwe nwfk nwfv nwfh nwft : Nat) (lv : Value) (x_rowsRead : Int32) (x_rowOfImage : Int32) (x_bestsDone : Int32) (nw_asked : Int32) (nw_looksOfAsked : Int32) (nw_changes : Int32) (nwf_size : Int32) (nwfk_a : Nat → Int32) (nwfh_a : Nat → Int32) (wk_number : Int32) (wk_lane : Int32) (wk_looks : Int32) (a : Int32) (g_0 : 0 ≤ nwf_size.toInt ∧ nwf_size.toInt ≤ 8) (g_1 : (-1) ≤ wk_number.toInt ∧ wk_number.toInt ≤ 7) : wk_Ci l yX11_laneOf cX11_laneOf 2 (some .int) { frames := 3, cells := 0, slots := 0, locals := 65 } D cy [.ref x, .int a] [(x, .inr (11, [.ref pg, .ref wr, .ref nw, .ref kp, .ref wk, .ref tr, lv, .int x_rowsRead, .int x_rowOfImage, .int x_bestsDone])), (nw, .inr (2, [.ref nwf, .ref nws, .ref nwe, .int nw_asked, .int nw_looksOfAsked, .int nw_changes])), (nwf, .inr (8, [.ref nwfk, .ref nwfv, .ref nwfh, .ref nwft, .int nwf_size])), (nwfk, .inl (cy, 8, .inl nwfk_a)), (nwfh, .inl (cy, 8, .inl nwfh_a)), (wk, .inr (10, [.int wk_number, .int wk_lane, .int wk_looks]))] 0 0 (fun (r : Int32) (u : Int32 × Int32 × Int32) => (r, u) = (fn_X11_laneOf nwf_size nwfk_a nwfh_a wk_number wk_lane wk_looks a) ∧ ((-1) ≤ u.1.toInt ∧ u.1.toInt ≤ 7)) (fun u => [(x, .inr (11, [.ref pg, .ref wr, .ref nw, .ref kp, .ref wk, .ref tr, lv, .int x_rowsRead, .int x_rowOfImage, .int x_bestsDone])), (nw, .inr (2, [.ref nwf, .ref nws, .ref nwe, .int nw_asked, .int nw_looksOfAsked, .int nw_changes])), (nwf, .inr (8, [.ref nwfk, .ref nwfv, .ref nwfh, .ref nwft, .int nwf_size])), (nwfk, .inl (cy, 8, .inl nwfk_a)), (nwfh, .inl (cy, 8, .inl nwfh_a)), (wk, .inr (10, [.int u.1, .int u.2.1, .int u.2.2]))]) := by
  refine wk_mk2Ci (by decide) (Nat.le_of_ble_eq_true rfl) ?_
  intro p e s m args below meth c A ls Q B hA hK hP hD hS hl hret
  obtain ⟨hx, hb, hr, hlocks, hml, hown, htb, hin⟩ := B
  have hl : lv_has ls 2 [(0, .ref x), (1, .int a)] := hl
  have hF : (fn_X11_laneOf nwf_size nwfk_a nwfh_a wk_number wk_lane wk_looks a) = (fn_X11_laneOf nwf_size nwfk_a nwfh_a wk_number wk_lane wk_looks a) := rfl
  conv at hF => rhs; unfold fn_X11_laneOf
  refine lv_aload_n hx hb dX11_laneOf_0 rfl (lv_at hl 0 rfl) ?_
  refine va_get (D := D) (ci := 11) (v := .ref wk) (C := RX11) (T := TX11) (N := 10) hx hb htb inX11 hown hK hP 0 rfl rfl 4 (by decide) (htb _ tw_256) (fun _ h9 => h9) rfl dX11_laneOf_1 ?_
  refine lv_aload_n hx hb dX11_laneOf_4 rfl (lv_at hl 0 rfl) ?_
  refine va_get (D := D) (ci := 11) (v := .ref nw) (C := RX11) (T := TX11) (N := 10) hx hb htb inX11 hown hK hP 0 rfl rfl 2 (by decide) (htb _ tw_254) (fun _ h9 => h9) rfl dX11_laneOf_5 ?_
  refine va_get (D := D) (ci := 2) (v := .ref nwf) (C := RX2) (T := TX2) (N := 6) hx hb htb inX2 hown hK hP 1 rfl rfl 0 (by decide) (htb _ tw_171) (fun _ h9 => h9) rfl dX11_laneOf_8 ?_
  refine lv_aload_n hx hb dX11_laneOf_11 rfl (lv_at hl 0 rfl) ?_
  refine va_get (D := D) (ci := 11) (v := .ref nw) (C := RX11) (T := TX11) (N := 10) hx hb htb inX11 hown hK hP 0 rfl rfl 2 (by decide) (htb _ tw_254) (fun _ h9 => h9) rfl dX11_laneOf_12 ?_
  refine va_get (D := D) (ci := 2) (v := .ref nwf) (C := RX2) (T := TX2) (N := 6) hx hb htb inX2 hown hK hP 1 rfl rfl 0 (by decide) (htb _ tw_171) (fun _ h9 => h9) rfl dX11_laneOf_15 ?_
  refine va_get (D := D) (ci := 8) (v := .ref nwfh) (C := RX8) (T := TX8) (N := 5) hx hb htb inX8 hown hK hP 2 rfl rfl 2 (by decide) (htb _ tw_125) (fun _ h9 => h9) rfl dX11_laneOf_18 ?_
  refine lv_iconst (v := (-1)) hx hb dX11_laneOf_21 (by decide) ?_
  refine lv_iload_n hx hb dX11_laneOf_22 rfl (lv_at hl 1 rfl) ?_
  refine wk_vV (As := [.ref nwf, .ref nwfh, .int (-1), .int a]) (rest := []) (wc := [(wk, .inr (10, [.int wk_number, .int wk_lane, .int wk_looks])), (nwf, .inr (8, [.ref nwfk, .ref nwfv, .ref nwfh, .ref nwft, .int nwf_size])), (nwfk, .inl (cy, 8, .inl nwfk_a)), (nwfh, .inl (cy, 8, .inl nwfh_a))]) (wr := [(x, .inr (11, [.ref pg, .ref wr, .ref nw, .ref kp, .ref wk, .ref tr, lv, .int x_rowsRead, .int x_rowOfImage, .int x_bestsDone])), (nw, .inr (2, [.ref nwf, .ref nws, .ref nwe, .int nw_asked, .int nw_looksOfAsked, .int nw_changes]))]) (n := 4) ⟨hx, hb, hml, hown, htb⟩ (c_X10_go l D cy wk nwf nwfk nwfv nwfh nwft nwfh wk_number wk_lane wk_looks nwf_size nwfk_a nwfh_a (-1) a (show (-1) ≤ wk_number.toInt ∧ wk_number.toInt ≤ 7 from by omega) (show 0 ≤ nwf_size.toInt ∧ nwf_size.toInt ≤ 8 from by omega)) tw_489 tw_486 tw_487 tw_488 tw_69 rfl rfl (by decide +kernel) ⟨Nat.le_of_ble_eq_true rfl, Nat.le_of_ble_eq_true rfl⟩ hK hP hD hS hA [5, 2, 3, 4] [0, 1] rfl rfl rfl rfl (by decide) 0 (ci := 10) rfl rfl rfl hl.1 rfl (Nat.le_of_ble_eq_true rfl) dX11_laneOf_23 ⟨Nat.le_of_ble_eq_true rfl, Nat.le_of_ble_eq_true rfl⟩ (fun u_2 H locs hw_3 hP hD hS => ?_)
  refine W.widen (k := 0) (n := 0) (by decide) (by decide) ?_
  obtain ⟨o_4, o_5, o_6⟩ := u_2
  obtain ⟨hw_3, k_7⟩ := hw_3
  have hw_3 : (o_4, o_5, o_6) = (fn_X10_go wk_number wk_lane wk_looks nwf_size nwfk_a nwfh_a (-1) a) := hw_3
  have k_7 : ((-1) ≤ o_4.toInt ∧ o_4.toInt ≤ 7) := k_7
  rw [← hw_3] at hF
  rw [pm2_mk o_4 (o_5, o_6), pm2_mk o_5 o_6] at hF
  have hP : va_P D classes [(x, .inr (11, [.ref pg, .ref wr, .ref nw, .ref kp, .ref wk, .ref tr, lv, .int x_rowsRead, .int x_rowOfImage, .int x_bestsDone])), (nw, .inr (2, [.ref nwf, .ref nws, .ref nwe, .int nw_asked, .int nw_looksOfAsked, .int nw_changes])), (wk, .inr (10, [.int o_4, .int o_5, .int o_6])), (nwf, .inr (8, [.ref nwfk, .ref nwfv, .ref nwfh, .ref nwft, .int nwf_size])), (nwfk, .inl (cy, 8, .inl nwfk_a)), (nwfh, .inl (cy, 8, .inl nwfh_a))] H := hP
  have hD : va_D A [(x, .inr (11, [.ref pg, .ref wr, .ref nw, .ref kp, .ref wk, .ref tr, lv, .int x_rowsRead, .int x_rowOfImage, .int x_bestsDone])), (nw, .inr (2, [.ref nwf, .ref nws, .ref nwe, .int nw_asked, .int nw_looksOfAsked, .int nw_changes])), (wk, .inr (10, [.int o_4, .int o_5, .int o_6])), (nwf, .inr (8, [.ref nwfk, .ref nwfv, .ref nwfh, .ref nwft, .int nwf_size])), (nwfk, .inl (cy, 8, .inl nwfk_a)), (nwfh, .inl (cy, 8, .inl nwfh_a))] := hD
  refine lv_aload_n hx hb dX11_laneOf_26 rfl (lv_at hl 0 rfl) ?_
  refine va_get (D := D) (ci := 11) (v := .ref wk) (C := RX11) (T := TX11) (N := 10) hx hb htb inX11 hown hK hP 0 rfl rfl 4 (by decide) (htb _ tw_256) (fun _ h9 => h9) rfl dX11_laneOf_27 ?_
  refine va_get (D := D) (ci := 10) (v := .int o_5) (C := RX10) (T := TX10) (N := 3) hx hb htb inX10 hown hK hP 2 rfl rfl 1 (by decide) (htb _ tw_204) (fun _ h9 => h9) rfl dX11_laneOf_30 ?_
  refine W.widen (k := 0) (n := 0) (by decide) (by decide) ?_
  exact hret o_5 (o_4, o_5, o_6) _ _ _ 33 (wk_sub9 (is := [0, 1, 3, 4, 5, 2]) hP rfl) (hD.sub [0, 1, 3, 4, 5, 2] rfl rfl) hS dX11_laneOf_33 ⟨hF.symm, (show ((-1) ≤ o_4.toInt ∧ o_4.toInt ≤ 7) from by omega)⟩
def fn_X11_valueOf (nwf_size : Int32) (nwfv_a : Nat → Int32) (a : Int32) : Int32 := (if (fn_X11_namesNoKey nwf_size a) = 0 then (nwfv_a a.toNatClampNeg) else (-1))
theorem dX11_valueOf_0 : decode cX11_valueOf 0 = .ok (.aload_n 0, 1) := by decide +kernel
theorem dX11_valueOf_1 : decode cX11_valueOf 1 = .ok (.iload_n 1, 1) := by decide +kernel
theorem dX11_valueOf_2 : decode cX11_valueOf 2 = .ok (.invokevirtual 102, 3) := by decide +kernel
theorem dX11_valueOf_5 : decode cX11_valueOf 5 = .ok (.ifCond .eq 7, 3) := by decide +kernel
theorem dX11_valueOf_8 : decode cX11_valueOf 8 = .ok (.iconst (-1), 1) := by decide +kernel
theorem dX11_valueOf_9 : decode cX11_valueOf 9 = .ok (.goto 15, 3) := by decide +kernel
theorem dX11_valueOf_12 : decode cX11_valueOf 12 = .ok (.aload_n 0, 1) := by decide +kernel
theorem dX11_valueOf_13 : decode cX11_valueOf 13 = .ok (.getfield 22, 3) := by decide +kernel
theorem dX11_valueOf_16 : decode cX11_valueOf 16 = .ok (.getfield 77, 3) := by decide +kernel
theorem dX11_valueOf_19 : decode cX11_valueOf 19 = .ok (.getfield 108, 3) := by decide +kernel
theorem dX11_valueOf_22 : decode cX11_valueOf 22 = .ok (.iload_n 1, 1) := by decide +kernel
theorem dX11_valueOf_23 : decode cX11_valueOf 23 = .ok (.iaload, 1) := by decide +kernel
theorem dX11_valueOf_24 : decode cX11_valueOf 24 = .ok (.ireturn, 1) := by decide +kernel
set_option maxHeartbeats 4000000 in
set_option maxRecDepth 100000 in
theorem c_X11_valueOf (l : Launch) (D : va_G) (cy : ClassId) (x pg wr nw kp wk tr nwf nws nwe nwfk nwfv nwfh nwft : Nat) (lv : Value) (x_rowsRead : Int32) (x_rowOfImage : Int32) (x_bestsDone : Int32) (nw_asked : Int32) (nw_looksOfAsked : Int32) (nw_changes : Int32) (nwf_size : Int32) (nwfv_a : Nat → Int32) (a : Int32) (g_0 : 0 ≤ nwf_size.toInt ∧ nwf_size.toInt ≤ 8) : wk_Ci l yX11_valueOf cX11_valueOf 2 (some .int) { frames := 1, cells := 0, slots := 0, locals := 21 } D cy [.ref x, .int a] [(x, .inr (11, [.ref pg, .ref wr, .ref nw, .ref kp, .ref wk, .ref tr, lv, .int x_rowsRead, .int x_rowOfImage, .int x_bestsDone])), (nw, .inr (2, [.ref nwf, .ref nws, .ref nwe, .int nw_asked, .int nw_looksOfAsked, .int nw_changes])), (nwf, .inr (8, [.ref nwfk, .ref nwfv, .ref nwfh, .ref nwft, .int nwf_size])), (nwfv, .inl (cy, 8, .inl nwfv_a))] 0 0 (fun (r : Int32) (u : Unit) => r = (fn_X11_valueOf nwf_size nwfv_a a)) (fun u => [(x, .inr (11, [.ref pg, .ref wr, .ref nw, .ref kp, .ref wk, .ref tr, lv, .int x_rowsRead, .int x_rowOfImage, .int x_bestsDone])), (nw, .inr (2, [.ref nwf, .ref nws, .ref nwe, .int nw_asked, .int nw_looksOfAsked, .int nw_changes])), (nwf, .inr (8, [.ref nwfk, .ref nwfv, .ref nwfh, .ref nwft, .int nwf_size])), (nwfv, .inl (cy, 8, .inl nwfv_a))]) := by
  refine wk_mk2Ci (by decide) (Nat.le_of_ble_eq_true rfl) ?_
  intro p e s m args below meth c A ls Q B hA hK hP hD hS hl hret
  obtain ⟨hx, hb, hr, hlocks, hml, hown, htb, hin⟩ := B
  have hl : lv_has ls 2 [(0, .ref x), (1, .int a)] := hl
  have hF : (fn_X11_valueOf nwf_size nwfv_a a) = (fn_X11_valueOf nwf_size nwfv_a a) := rfl
  conv at hF => rhs; unfold fn_X11_valueOf
  refine lv_aload_n hx hb dX11_valueOf_0 rfl (lv_at hl 0 rfl) ?_
  refine lv_iload_n hx hb dX11_valueOf_1 rfl (lv_at hl 1 rfl) ?_
  refine wk_iV (As := [.int a]) (rest := []) (wc := [(x, .inr (11, [.ref pg, .ref wr, .ref nw, .ref kp, .ref wk, .ref tr, lv, .int x_rowsRead, .int x_rowOfImage, .int x_bestsDone])), (nw, .inr (2, [.ref nwf, .ref nws, .ref nwe, .int nw_asked, .int nw_looksOfAsked, .int nw_changes])), (nwf, .inr (8, [.ref nwfk, .ref nwfv, .ref nwfh, .ref nwft, .int nwf_size]))]) (wr := [(nwfv, .inl (cy, 8, .inl nwfv_a))]) (n := 1) ⟨hx, hb, hml, hown, htb⟩ (c_X11_namesNoKey l D cy x pg wr nw kp wk tr nwf nws nwe nwfk nwfv nwfh nwft (lv) x_rowsRead x_rowOfImage x_bestsDone nw_asked nw_looksOfAsked nw_changes nwf_size a (show 0 ≤ nwf_size.toInt ∧ nwf_size.toInt ≤ 8 from by omega)) tw_481 tw_478 tw_480 tw_7 tw_64 rfl rfl (by decide +kernel) ⟨Nat.le_of_ble_eq_true rfl, Nat.le_of_ble_eq_true rfl⟩ hK hP hD hS hA [0, 1, 2] [3] rfl rfl rfl rfl (by decide) 0 (ci := 11) rfl rfl rfl hl.1 rfl (Nat.le_of_ble_eq_true rfl) dX11_valueOf_2 ⟨Nat.le_of_ble_eq_true rfl, Nat.le_of_ble_eq_true rfl⟩ (fun r_1 u_2 H locs hw_3 hP hD hS => ?_)
  refine W.widen (k := 0) (n := 0) (by decide) (by decide) ?_
  obtain ⟨hw_3, k_4, k_5⟩ := hw_3
  have hw_3 : r_1 = (fn_X11_namesNoKey nwf_size a) := hw_3
  subst hw_3
  have k_4 : ((fn_X11_namesNoKey nwf_size a) = 0 ∨ (fn_X11_namesNoKey nwf_size a) = 1) := k_4
  have k_5 : (wk_or ((fn_X11_namesNoKey nwf_size a).toInt = 1) (0 ≤ a.toInt ∧ a.toInt < nwf_size.toInt)) := k_5
  have k_6 : 0 ≤ (fn_X11_namesNoKey nwf_size a).toInt ∧ (fn_X11_namesNoKey nwf_size a).toInt ≤ 1 := wk_b01 (by assumption)
  have hP : va_P D classes [(nwfv, .inl (cy, 8, .inl nwfv_a)), (x, .inr (11, [.ref pg, .ref wr, .ref nw, .ref kp, .ref wk, .ref tr, lv, .int x_rowsRead, .int x_rowOfImage, .int x_bestsDone])), (nw, .inr (2, [.ref nwf, .ref nws, .ref nwe, .int nw_asked, .int nw_looksOfAsked, .int nw_changes])), (nwf, .inr (8, [.ref nwfk, .ref nwfv, .ref nwfh, .ref nwft, .int nwf_size]))] H := hP
  have hD : va_D A [(nwfv, .inl (cy, 8, .inl nwfv_a)), (x, .inr (11, [.ref pg, .ref wr, .ref nw, .ref kp, .ref wk, .ref tr, lv, .int x_rowsRead, .int x_rowOfImage, .int x_bestsDone])), (nw, .inr (2, [.ref nwf, .ref nws, .ref nwe, .int nw_asked, .int nw_looksOfAsked, .int nw_changes])), (nwf, .inr (8, [.ref nwfk, .ref nwfv, .ref nwfh, .ref nwft, .int nwf_size]))] := hD
  refine lv_if_eq (tgt := 12) hx hb dX11_valueOf_5 (by decide) (fun c_7 => ?_) (fun c_7 => ?_)
  · have k_7 : (fn_X11_namesNoKey nwf_size a).toInt = 0 := wk_eq c_7
    have k_8 : 0 ≤ a.toInt ∧ a.toInt < nwf_size.toInt := wk_orR k_5 (by rw [k_7]; decide)
    replace hF := hF.trans (if_pos c_7)
    refine lv_aload_n hx hb dX11_valueOf_12 rfl (lv_at hl 0 rfl) ?_
    refine va_get (D := D) (ci := 11) (v := .ref nw) (C := RX11) (T := TX11) (N := 10) hx hb htb inX11 hown hK hP 1 rfl rfl 2 (by decide) (htb _ tw_254) (fun _ h9 => h9) rfl dX11_valueOf_13 ?_
    refine va_get (D := D) (ci := 2) (v := .ref nwf) (C := RX2) (T := TX2) (N := 6) hx hb htb inX2 hown hK hP 2 rfl rfl 0 (by decide) (htb _ tw_171) (fun _ h9 => h9) rfl dX11_valueOf_16 ?_
    refine va_get (D := D) (ci := 8) (v := .ref nwfv) (C := RX8) (T := TX8) (N := 5) hx hb htb inX8 hown hK hP 3 rfl rfl 1 (by decide) (htb _ tw_121) (fun _ h9 => h9) rfl dX11_valueOf_19 ?_
    refine lv_iload_n hx hb dX11_valueOf_22 rfl (lv_at hl 1 rfl) ?_
    refine va_iald hx hb hK hP 0 0 rfl rfl (show vp_in a 8 from vp_in_iff.mpr (show 0 ≤ a.toInt ∧ a.toInt < ((8 : Nat) : Int) from by omega)) dX11_valueOf_23 ?_
    refine W.widen (k := 0) (n := 0) (by decide) (by decide) ?_
    exact hret (nwfv_a a.toNatClampNeg) () _ _ _ 24 (wk_sub9 (is := [1, 2, 3, 0]) hP rfl) (hD.sub [1, 2, 3, 0] rfl rfl) hS dX11_valueOf_24 hF.symm
  · have k_7 : ¬ (fn_X11_namesNoKey nwf_size a).toInt = 0 := wk_neq c_7
    replace hF := hF.trans (if_neg c_7)
    refine lv_iconst (v := (-1)) hx hb dX11_valueOf_8 (by decide) ?_
    refine lv_goto (tgt := 24) hx hb dX11_valueOf_9 (by decide) ?_
    refine W.widen (k := 0) (n := 0) (by decide) (by decide) ?_
    exact hret (-1) () _ _ _ 24 (wk_sub9 (is := [1, 2, 3, 0]) hP rfl) (hD.sub [1, 2, 3, 0] rfl rfl) hS dX11_valueOf_24 hF.symm
def fn_X11_letter (pg_size : Int32) (pgc_a : Nat → Int32) (a : Int32) : Int32 × Int32 × (Nat → Int32) := (if a < 1 then ((-102), pg_size, pgc_a) else (if a ≤ 126 then (if pg_size < 44 then (pm2 (fn_X6_add pg_size pgc_a a) (fun r_4 t_ => (pm2 (t_) (fun o_7 o_8 => (r_4, o_7, o_8))))) else ((-104), pg_size, pgc_a)) else ((-102), pg_size, pgc_a)))
theorem dX11_letter_0 : decode cX11_letter 0 = .ok (.iload_n 1, 1) := by decide +kernel
theorem dX11_letter_1 : decode cX11_letter 1 = .ok (.iconst 1, 1) := by decide +kernel
theorem dX11_letter_2 : decode cX11_letter 2 = .ok (.if_icmp .lt 9, 3) := by decide +kernel
theorem dX11_letter_5 : decode cX11_letter 5 = .ok (.iload_n 1, 1) := by decide +kernel
theorem dX11_letter_6 : decode cX11_letter 6 = .ok (.bipush 126, 2) := by decide +kernel
theorem dX11_letter_8 : decode cX11_letter 8 = .ok (.if_icmp .le 6, 3) := by decide +kernel
theorem dX11_letter_11 : decode cX11_letter 11 = .ok (.bipush (-102), 2) := by decide +kernel
theorem dX11_letter_13 : decode cX11_letter 13 = .ok (.ireturn, 1) := by decide +kernel
theorem dX11_letter_14 : decode cX11_letter 14 = .ok (.aload_n 0, 1) := by decide +kernel
theorem dX11_letter_15 : decode cX11_letter 15 = .ok (.getfield 10, 3) := by decide +kernel
theorem dX11_letter_18 : decode cX11_letter 18 = .ok (.getfield 43, 3) := by decide +kernel
theorem dX11_letter_21 : decode cX11_letter 21 = .ok (.bipush 44, 2) := by decide +kernel
theorem dX11_letter_23 : decode cX11_letter 23 = .ok (.if_icmp .lt 6, 3) := by decide +kernel
theorem dX11_letter_26 : decode cX11_letter 26 = .ok (.bipush (-104), 2) := by decide +kernel
theorem dX11_letter_28 : decode cX11_letter 28 = .ok (.ireturn, 1) := by decide +kernel
theorem dX11_letter_29 : decode cX11_letter 29 = .ok (.aload_n 0, 1) := by decide +kernel
theorem dX11_letter_30 : decode cX11_letter 30 = .ok (.getfield 10, 3) := by decide +kernel
theorem dX11_letter_33 : decode cX11_letter 33 = .ok (.iload_n 1, 1) := by decide +kernel
theorem dX11_letter_34 : decode cX11_letter 34 = .ok (.invokevirtual 47, 3) := by decide +kernel
theorem dX11_letter_37 : decode cX11_letter 37 = .ok (.ireturn, 1) := by decide +kernel
set_option maxHeartbeats 4000000 in
set_option maxRecDepth 100000 in
theorem c_X11_letter (l : Launch) (D : va_G) (cy : ClassId) (x pg wr nw kp wk tr pgc : Nat) (lv : Value) (x_rowsRead : Int32) (x_rowOfImage : Int32) (x_bestsDone : Int32) (pg_size : Int32) (pgc_a : Nat → Int32) (a : Int32) (g_0 : 0 ≤ pg_size.toInt ∧ pg_size.toInt ≤ 44) : wk_Ci l yX11_letter cX11_letter 2 (some .int) { frames := 1, cells := 0, slots := 0, locals := 21 } D cy [.ref x, .int a] [(x, .inr (11, [.ref pg, .ref wr, .ref nw, .ref kp, .ref wk, .ref tr, lv, .int x_rowsRead, .int x_rowOfImage, .int x_bestsDone])), (pg, .inr (6, [.ref pgc, .int pg_size])), (pgc, .inl (cy, 44, .inl pgc_a))] 0 0 (fun (r : Int32) (u : Int32 × (Nat → Int32)) => (r, u) = (fn_X11_letter pg_size pgc_a a) ∧ (0 ≤ u.1.toInt ∧ u.1.toInt ≤ 44)) (fun u => [(x, .inr (11, [.ref pg, .ref wr, .ref nw, .ref kp, .ref wk, .ref tr, lv, .int x_rowsRead, .int x_rowOfImage, .int x_bestsDone])), (pg, .inr (6, [.ref pgc, .int u.1])), (pgc, .inl (cy, 44, .inl u.2))]) := by
  refine wk_mk2Ci (by decide) (Nat.le_of_ble_eq_true rfl) ?_
  intro p e s m args below meth c A ls Q B hA hK hP hD hS hl hret
  obtain ⟨hx, hb, hr, hlocks, hml, hown, htb, hin⟩ := B
  have hl : lv_has ls 2 [(0, .ref x), (1, .int a)] := hl
  have hF : (fn_X11_letter pg_size pgc_a a) = (fn_X11_letter pg_size pgc_a a) := rfl
  conv at hF => rhs; unfold fn_X11_letter
  refine lv_iload_n hx hb dX11_letter_0 rfl (lv_at hl 1 rfl) ?_
  refine lv_iconst (v := 1) hx hb dX11_letter_1 (by decide) ?_
  refine lv_icmp_lt (tgt := 11) hx hb dX11_letter_2 (by decide) (fun c_1 => ?_) (fun c_1 => ?_)
  · have k_1 : a.toInt < 1 := wk_lt c_1
    replace hF := hF.trans (if_pos c_1)
    refine lv_bipush (v := (-102)) hx hb dX11_letter_11 (by decide) ?_
    refine W.widen (k := 0) (n := 0) (by decide) (by decide) ?_
    exact hret (-102) (pg_size, pgc_a) _ _ _ 13 (wk_sub9 (is := [0, 1, 2]) hP rfl) (hD.sub [0, 1, 2] rfl rfl) hS dX11_letter_13 ⟨hF.symm, (show (0 ≤ pg_size.toInt ∧ pg_size.toInt ≤ 44) from by omega)⟩
  · have k_1 : ¬ a.toInt < 1 := wk_nlt c_1
    replace hF := hF.trans (if_neg c_1)
    refine lv_iload_n hx hb dX11_letter_5 rfl (lv_at hl 1 rfl) ?_
    refine lv_bipush (v := 126) hx hb dX11_letter_6 (by decide) ?_
    refine lv_icmp_le (tgt := 14) hx hb dX11_letter_8 (by decide) (fun c_2 => ?_) (fun c_2 => ?_)
    · have k_2 : a.toInt ≤ 126 := wk_le c_2
      replace hF := hF.trans (if_pos c_2)
      refine lv_aload_n hx hb dX11_letter_14 rfl (lv_at hl 0 rfl) ?_
      refine va_get (D := D) (ci := 11) (v := .ref pg) (C := RX11) (T := TX11) (N := 10) hx hb htb inX11 hown hK hP 0 rfl rfl 0 (by decide) (htb _ tw_252) (fun _ h9 => h9) rfl dX11_letter_15 ?_
      refine va_get (D := D) (ci := 6) (v := .int pg_size) (C := RX6) (T := TX6) (N := 2) hx hb htb inX6 hown hK hP 1 rfl rfl 1 (by decide) (htb _ tw_95) (fun _ h9 => h9) rfl dX11_letter_18 ?_
      refine lv_bipush (v := 44) hx hb dX11_letter_21 (by decide) ?_
      refine lv_icmp_lt (tgt := 29) hx hb dX11_letter_23 (by decide) (fun c_3 => ?_) (fun c_3 => ?_)
      · have k_3 : pg_size.toInt < 44 := wk_lt c_3
        replace hF := hF.trans (if_pos c_3)
        refine lv_aload_n hx hb dX11_letter_29 rfl (lv_at hl 0 rfl) ?_
        refine va_get (D := D) (ci := 11) (v := .ref pg) (C := RX11) (T := TX11) (N := 10) hx hb htb inX11 hown hK hP 0 rfl rfl 0 (by decide) (htb _ tw_252) (fun _ h9 => h9) rfl dX11_letter_30 ?_
        refine lv_iload_n hx hb dX11_letter_33 rfl (lv_at hl 1 rfl) ?_
        refine wk_iV (As := [.int a]) (rest := []) (wc := [(pg, .inr (6, [.ref pgc, .int pg_size])), (pgc, .inl (cy, 44, .inl pgc_a))]) (wr := [(x, .inr (11, [.ref pg, .ref wr, .ref nw, .ref kp, .ref wk, .ref tr, lv, .int x_rowsRead, .int x_rowOfImage, .int x_bestsDone]))]) (n := 1) ⟨hx, hb, hml, hown, htb⟩ (c_X6_add l D cy pg pgc pg_size pgc_a a (show 0 ≤ pg_size.toInt ∧ pg_size.toInt ≤ 44 from by omega)) tw_290 tw_287 tw_288 tw_289 tw_65 rfl rfl (by decide +kernel) ⟨Nat.le_of_ble_eq_true rfl, Nat.le_of_ble_eq_true rfl⟩ hK hP hD hS hA [1, 2] [0] rfl rfl rfl rfl (by decide) 0 (ci := 6) rfl rfl rfl hl.1 rfl (Nat.le_of_ble_eq_true rfl) dX11_letter_34 ⟨Nat.le_of_ble_eq_true rfl, Nat.le_of_ble_eq_true rfl⟩ (fun r_4 u_5 H locs hw_6 hP hD hS => ?_)
        refine W.widen (k := 0) (n := 0) (by decide) (by decide) ?_
        obtain ⟨o_7, o_8⟩ := u_5
        obtain ⟨hw_6, k_9⟩ := hw_6
        have hw_6 : (r_4, o_7, o_8) = (fn_X6_add pg_size pgc_a a) := hw_6
        have k_9 : (0 ≤ o_7.toInt ∧ o_7.toInt ≤ 44) := k_9
        rw [← hw_6] at hF
        rw [pm2_mk r_4 (o_7, o_8), pm2_mk o_7 o_8] at hF
        have hP : va_P D classes [(x, .inr (11, [.ref pg, .ref wr, .ref nw, .ref kp, .ref wk, .ref tr, lv, .int x_rowsRead, .int x_rowOfImage, .int x_bestsDone])), (pg, .inr (6, [.ref pgc, .int o_7])), (pgc, .inl (cy, 44, .inl o_8))] H := hP
        have hD : va_D A [(x, .inr (11, [.ref pg, .ref wr, .ref nw, .ref kp, .ref wk, .ref tr, lv, .int x_rowsRead, .int x_rowOfImage, .int x_bestsDone])), (pg, .inr (6, [.ref pgc, .int o_7])), (pgc, .inl (cy, 44, .inl o_8))] := hD
        refine W.widen (k := 0) (n := 0) (by decide) (by decide) ?_
        exact hret r_4 (o_7, o_8) _ _ _ 37 (wk_sub9 (is := [0, 1, 2]) hP rfl) (hD.sub [0, 1, 2] rfl rfl) hS dX11_letter_37 ⟨hF.symm, (show (0 ≤ o_7.toInt ∧ o_7.toInt ≤ 44) from by omega)⟩
      · have k_3 : ¬ pg_size.toInt < 44 := wk_nlt c_3
        replace hF := hF.trans (if_neg c_3)
        refine lv_bipush (v := (-104)) hx hb dX11_letter_26 (by decide) ?_
        refine W.widen (k := 0) (n := 0) (by decide) (by decide) ?_
        exact hret (-104) (pg_size, pgc_a) _ _ _ 28 (wk_sub9 (is := [0, 1, 2]) hP rfl) (hD.sub [0, 1, 2] rfl rfl) hS dX11_letter_28 ⟨hF.symm, (show (0 ≤ pg_size.toInt ∧ pg_size.toInt ≤ 44) from by omega)⟩
    · have k_2 : ¬ a.toInt ≤ 126 := wk_nle c_2
      replace hF := hF.trans (if_neg c_2)
      refine lv_bipush (v := (-102)) hx hb dX11_letter_11 (by decide) ?_
      refine W.widen (k := 0) (n := 0) (by decide) (by decide) ?_
      exact hret (-102) (pg_size, pgc_a) _ _ _ 13 (wk_sub9 (is := [0, 1, 2]) hP rfl) (hD.sub [0, 1, 2] rfl rfl) hS dX11_letter_13 ⟨hF.symm, (show (0 ≤ pg_size.toInt ∧ pg_size.toInt ≤ 44) from by omega)⟩
def fn_X11_blank (pg_size : Int32) : Int32 × Int32 := (pm2 (fn_X6_clear pg_size) (fun r_1 o_4 => (r_1, o_4)))
theorem dX11_blank_0 : decode cX11_blank 0 = .ok (.aload_n 0, 1) := by decide +kernel
theorem dX11_blank_1 : decode cX11_blank 1 = .ok (.getfield 10, 3) := by decide +kernel
theorem dX11_blank_4 : decode cX11_blank 4 = .ok (.invokevirtual 51, 3) := by decide +kernel
theorem dX11_blank_7 : decode cX11_blank 7 = .ok (.ireturn, 1) := by decide +kernel
set_option maxHeartbeats 4000000 in
set_option maxRecDepth 100000 in
theorem c_X11_blank (l : Launch) (D : va_G) (cy : ClassId) (x pg wr nw kp wk tr pgc : Nat) (lv : Value) (x_rowsRead : Int32) (x_rowOfImage : Int32) (x_bestsDone : Int32) (pg_size : Int32)  (g_0 : 0 ≤ pg_size.toInt ∧ pg_size.toInt ≤ 44) : wk_Ci l yX11_blank cX11_blank 1 (some .int) { frames := 1, cells := 0, slots := 0, locals := 21 } D cy [.ref x] [(x, .inr (11, [.ref pg, .ref wr, .ref nw, .ref kp, .ref wk, .ref tr, lv, .int x_rowsRead, .int x_rowOfImage, .int x_bestsDone])), (pg, .inr (6, [.ref pgc, .int pg_size]))] 0 0 (fun (r : Int32) (u : Int32) => (r, u) = (fn_X11_blank pg_size) ∧ (0 ≤ u.toInt ∧ u.toInt ≤ 44)) (fun u => [(x, .inr (11, [.ref pg, .ref wr, .ref nw, .ref kp, .ref wk, .ref tr, lv, .int x_rowsRead, .int x_rowOfImage, .int x_bestsDone])), (pg, .inr (6, [.ref pgc, .int u]))]) := by
  refine wk_mk2Ci (by decide) (Nat.le_of_ble_eq_true rfl) ?_
  intro p e s m args below meth c A ls Q B hA hK hP hD hS hl hret
  obtain ⟨hx, hb, hr, hlocks, hml, hown, htb, hin⟩ := B
  have hl : lv_has ls 1 [(0, .ref x)] := hl
  have hF : (fn_X11_blank pg_size) = (fn_X11_blank pg_size) := rfl
  conv at hF => rhs; unfold fn_X11_blank
  refine lv_aload_n hx hb dX11_blank_0 rfl (lv_at hl 0 rfl) ?_
  refine va_get (D := D) (ci := 11) (v := .ref pg) (C := RX11) (T := TX11) (N := 10) hx hb htb inX11 hown hK hP 0 rfl rfl 0 (by decide) (htb _ tw_252) (fun _ h9 => h9) rfl dX11_blank_1 ?_
  refine wk_iV (As := []) (rest := []) (wc := [(pg, .inr (6, [.ref pgc, .int pg_size]))]) (wr := [(x, .inr (11, [.ref pg, .ref wr, .ref nw, .ref kp, .ref wk, .ref tr, lv, .int x_rowsRead, .int x_rowOfImage, .int x_bestsDone]))]) (n := 0) ⟨hx, hb, hml, hown, htb⟩ (c_X6_clear l D cy pg pgc pg_size  (show 0 ≤ pg_size.toInt ∧ pg_size.toInt ≤ 44 from by omega)) tw_298 tw_295 tw_296 tw_297 tw_65 rfl rfl (by decide +kernel) ⟨Nat.le_of_ble_eq_true rfl, Nat.le_of_ble_eq_true rfl⟩ hK hP hD hS hA [1] [0] rfl rfl rfl rfl (by decide) 0 (ci := 6) rfl rfl rfl hl.1 rfl (Nat.le_of_ble_eq_true rfl) dX11_blank_4 ⟨Nat.le_of_ble_eq_true rfl, Nat.le_of_ble_eq_true rfl⟩ (fun r_1 u_2 H locs hw_3 hP hD hS => ?_)
  refine W.widen (k := 0) (n := 0) (by decide) (by decide) ?_
  obtain ⟨o_4, rfl⟩ : ∃ z, z = u_2 := ⟨_, rfl⟩
  obtain ⟨hw_3, k_5⟩ := hw_3
  have hw_3 : (r_1, o_4) = (fn_X6_clear pg_size) := hw_3
  have k_5 : (0 ≤ o_4.toInt ∧ o_4.toInt ≤ 44) := k_5
  rw [← hw_3] at hF
  rw [pm2_mk r_1 o_4] at hF
  have hP : va_P D classes [(x, .inr (11, [.ref pg, .ref wr, .ref nw, .ref kp, .ref wk, .ref tr, lv, .int x_rowsRead, .int x_rowOfImage, .int x_bestsDone])), (pg, .inr (6, [.ref pgc, .int o_4]))] H := hP
  have hD : va_D A [(x, .inr (11, [.ref pg, .ref wr, .ref nw, .ref kp, .ref wk, .ref tr, lv, .int x_rowsRead, .int x_rowOfImage, .int x_bestsDone])), (pg, .inr (6, [.ref pgc, .int o_4]))] := hD
  refine W.widen (k := 0) (n := 0) (by decide) (by decide) ?_
  exact hret r_1 o_4 _ _ _ 7 (wk_sub9 (is := [0, 1]) hP rfl) (hD.sub [0, 1] rfl rfl) hS dX11_blank_7 ⟨hF.symm, (show (0 ≤ o_4.toInt ∧ o_4.toInt ≤ 44) from by omega)⟩
def fn_X11_fault (pg_size : Int32) (pgc_a : Nat → Int32) : Int32 := (fn_X6_firstFault pg_size pgc_a)
theorem dX11_fault_0 : decode cX11_fault 0 = .ok (.aload_n 0, 1) := by decide +kernel
theorem dX11_fault_1 : decode cX11_fault 1 = .ok (.getfield 10, 3) := by decide +kernel
theorem dX11_fault_4 : decode cX11_fault 4 = .ok (.invokevirtual 55, 3) := by decide +kernel
theorem dX11_fault_7 : decode cX11_fault 7 = .ok (.ireturn, 1) := by decide +kernel
set_option maxHeartbeats 4000000 in
set_option maxRecDepth 100000 in
theorem c_X11_fault (l : Launch) (D : va_G) (cy : ClassId) (x pg wr nw kp wk tr pgc : Nat) (lv : Value) (x_rowsRead : Int32) (x_rowOfImage : Int32) (x_bestsDone : Int32) (pg_size : Int32) (pgc_a : Nat → Int32)  (g_0 : 0 ≤ pg_size.toInt ∧ pg_size.toInt ≤ 44) : wk_Ci l yX11_fault cX11_fault 1 (some .int) { frames := 4, cells := 0, slots := 0, locals := 91 } D cy [.ref x] [(x, .inr (11, [.ref pg, .ref wr, .ref nw, .ref kp, .ref wk, .ref tr, lv, .int x_rowsRead, .int x_rowOfImage, .int x_bestsDone])), (pg, .inr (6, [.ref pgc, .int pg_size])), (pgc, .inl (cy, 44, .inl pgc_a))] 0 0 (fun (r : Int32) (u : Unit) => r = (fn_X11_fault pg_size pgc_a)) (fun u => [(x, .inr (11, [.ref pg, .ref wr, .ref nw, .ref kp, .ref wk, .ref tr, lv, .int x_rowsRead, .int x_rowOfImage, .int x_bestsDone])), (pg, .inr (6, [.ref pgc, .int pg_size])), (pgc, .inl (cy, 44, .inl pgc_a))]) := by
  refine wk_mk2Ci (by decide) (Nat.le_of_ble_eq_true rfl) ?_
  intro p e s m args below meth c A ls Q B hA hK hP hD hS hl hret
  obtain ⟨hx, hb, hr, hlocks, hml, hown, htb, hin⟩ := B
  have hl : lv_has ls 1 [(0, .ref x)] := hl
  have hF : (fn_X11_fault pg_size pgc_a) = (fn_X11_fault pg_size pgc_a) := rfl
  conv at hF => rhs; unfold fn_X11_fault
  refine lv_aload_n hx hb dX11_fault_0 rfl (lv_at hl 0 rfl) ?_
  refine va_get (D := D) (ci := 11) (v := .ref pg) (C := RX11) (T := TX11) (N := 10) hx hb htb inX11 hown hK hP 0 rfl rfl 0 (by decide) (htb _ tw_252) (fun _ h9 => h9) rfl dX11_fault_1 ?_
  refine wk_iV (As := []) (rest := []) (wc := [(pg, .inr (6, [.ref pgc, .int pg_size])), (pgc, .inl (cy, 44, .inl pgc_a))]) (wr := [(x, .inr (11, [.ref pg, .ref wr, .ref nw, .ref kp, .ref wk, .ref tr, lv, .int x_rowsRead, .int x_rowOfImage, .int x_bestsDone]))]) (n := 0) ⟨hx, hb, hml, hown, htb⟩ (c_X6_firstFault l D cy pg pgc pg_size pgc_a  (show 0 ≤ pg_size.toInt ∧ pg_size.toInt ≤ 44 from by omega)) tw_306 tw_303 tw_304 tw_305 tw_65 rfl rfl (by decide +kernel) ⟨Nat.le_of_ble_eq_true rfl, Nat.le_of_ble_eq_true rfl⟩ hK hP hD hS hA [1, 2] [0] rfl rfl rfl rfl (by decide) 0 (ci := 6) rfl rfl rfl hl.1 rfl (Nat.le_of_ble_eq_true rfl) dX11_fault_4 ⟨Nat.le_of_ble_eq_true rfl, Nat.le_of_ble_eq_true rfl⟩ (fun r_1 u_2 H locs hw_3 hP hD hS => ?_)
  refine W.widen (k := 0) (n := 0) (by decide) (by decide) ?_
  obtain ⟨hw_3, k_4, k_5⟩ := hw_3
  have hw_3 : r_1 = (fn_X6_firstFault pg_size pgc_a) := hw_3
  subst hw_3
  have k_4 : (0 ≤ (fn_X6_firstFault pg_size pgc_a).toInt ∧ (fn_X6_firstFault pg_size pgc_a).toInt ≤ 44) := k_4
  have k_5 : ((fn_X6_firstFault pg_size pgc_a).toInt ≤ pg_size.toInt) := k_5
  have hP : va_P D classes [(x, .inr (11, [.ref pg, .ref wr, .ref nw, .ref kp, .ref wk, .ref tr, lv, .int x_rowsRead, .int x_rowOfImage, .int x_bestsDone])), (pg, .inr (6, [.ref pgc, .int pg_size])), (pgc, .inl (cy, 44, .inl pgc_a))] H := hP
  have hD : va_D A [(x, .inr (11, [.ref pg, .ref wr, .ref nw, .ref kp, .ref wk, .ref tr, lv, .int x_rowsRead, .int x_rowOfImage, .int x_bestsDone])), (pg, .inr (6, [.ref pgc, .int pg_size])), (pgc, .inl (cy, 44, .inl pgc_a))] := hD
  refine W.widen (k := 0) (n := 0) (by decide) (by decide) ?_
  exact hret (fn_X6_firstFault pg_size pgc_a) () _ _ _ 7 (wk_sub9 (is := [0, 1, 2]) hP rfl) (hD.sub [0, 1, 2] rfl rfl) hS dX11_fault_7 hF.symm
