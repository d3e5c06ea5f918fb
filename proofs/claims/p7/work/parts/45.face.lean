theorem dX11_raiseTowers_0 : decode cX11_raiseTowers 0 = .ok (.aload_n 0, 1) := by decide +kernel
theorem dX11_raiseTowers_1 : decode cX11_raiseTowers 1 = .ok (.getfield 22, 3) := by decide +kernel
theorem dX11_raiseTowers_4 : decode cX11_raiseTowers 4 = .ok (.getfield 77, 3) := by decide +kernel
theorem dX11_raiseTowers_7 : decode cX11_raiseTowers 7 = .ok (.astore_n 1, 1) := by decide +kernel
theorem dX11_raiseTowers_8 : decode cX11_raiseTowers 8 = .ok (.aload_n 0, 1) := by decide +kernel
theorem dX11_raiseTowers_9 : decode cX11_raiseTowers 9 = .ok (.getfield 71, 3) := by decide +kernel
theorem dX11_raiseTowers_12 : decode cX11_raiseTowers 12 = .ok (.ifnonnull 4, 3) := by decide +kernel
theorem dX11_raiseTowers_15 : decode cX11_raiseTowers 15 = .ok (.return_, 1) := by decide +kernel
set_option maxHeartbeats 4000000 in
set_option maxRecDepth 100000 in
theorem c_X11_raiseTowers_N (l : Launch) (D : va_G) (cy : ClassId) (x pg wr nw kp wk tr nwf nws nwe : Nat) (x_rowsRead : Int32) (x_rowOfImage : Int32) (x_bestsDone : Int32) (nw_asked : Int32) (nw_looksOfAsked : Int32) (nw_changes : Int32)   : wk_Cv l yX11_raiseTowers cX11_raiseTowers 3 none { frames := 0, cells := 0, slots := 0, locals := 0 } D cy [.ref x] [(x, .inr (11, [.ref pg, .ref wr, .ref nw, .ref kp, .ref wk, .ref tr, .null, .int x_rowsRead, .int x_rowOfImage, .int x_bestsDone])), (nw, .inr (2, [.ref nwf, .ref nws, .ref nwe, .int nw_asked, .int nw_looksOfAsked, .int nw_changes]))] 0 0 (fun (u : Unit) => True) (fun u => [(x, .inr (11, [.ref pg, .ref wr, .ref nw, .ref kp, .ref wk, .ref tr, .null, .int x_rowsRead, .int x_rowOfImage, .int x_bestsDone])), (nw, .inr (2, [.ref nwf, .ref nws, .ref nwe, .int nw_asked, .int nw_looksOfAsked, .int nw_changes]))]) := by
  refine wk_mk2Cv (by decide) (Nat.le_of_ble_eq_true rfl) ?_
  intro p e s m args below meth c A ls Q B hA hK hP hD hS hl hret
  obtain ⟨hx, hb, hr, hlocks, hml, hown, htb, hin⟩ := B
  have hl : lv_has ls 3 [(0, .ref x)] := hl
  refine lv_aload_n hx hb dX11_raiseTowers_0 rfl (lv_at hl 0 rfl) ?_
  refine va_get (D := D) (ci := 11) (v := .ref nw) (C := RX11) (T := TX11) (N := 10) hx hb htb inX11 hown hK hP 0 rfl rfl 2 (by decide) (htb _ tw_254) (fun _ h9 => h9) rfl dX11_raiseTowers_1 ?_
  refine va_get (D := D) (ci := 2) (v := .ref nwf) (C := RX2) (T := TX2) (N := 6) hx hb htb inX2 hown hK hP 1 rfl rfl 0 (by decide) (htb _ tw_171) (fun _ h9 => h9) rfl dX11_raiseTowers_4 ?_
  refine lv_astore_n (lv' := [(1, .ref nwf), (0, .ref x)]) hx hb dX11_raiseTowers_7 rfl hl (by decide) rfl (fun ls hl => ?_)
  refine lv_aload_n hx hb dX11_raiseTowers_8 rfl (lv_at hl 1 rfl) ?_
  refine va_get (D := D) (ci := 11) (v := .null) (C := RX11) (T := TX11) (N := 10) hx hb htb inX11 hown hK hP 0 rfl rfl 6 (by decide) (htb _ tw_258) (fun _ h9 => h9) rfl dX11_raiseTowers_9 ?_
  refine lv_ifnonnullN hx hb dX11_raiseTowers_12 ?_
  refine W.widen (k := 0) (n := 0) (by decide) (by decide) ?_
  exact hret () _ _ _ 15 (wk_sub9 (is := [0, 1]) hP rfl) (hD.sub [0, 1] rfl rfl) hS dX11_raiseTowers_15 trivial
def lp_X11_raiseTowers_R_18 (lc : Nat) (nwf_size : Int32) (nwfk_a : Nat → Int32) (nwfh_a : Nat → Int32) : Nat → Int32 → (Nat → Int32) → Int32 × (Nat → Int32)
  | 0, _, _ => default
  | fu_18 + 1, x2_18, nwfh_a_18 => (if nwf_size ≤ x2_18 then (x2_18, nwfh_a_18) else (lp_X11_raiseTowers_R_18 lc nwf_size nwfk_a nwfh_a fu_18 (x2_18 + 1) (upd nwfh_a_18 x2_18.toNatClampNeg (fn_law_heightOf lc (nwfk_a x2_18.toNatClampNeg) x2_18 (nwfh_a_18 x2_18.toNatClampNeg)))))
termination_by n => n
def fn_X11_raiseTowers_R (lc : Nat) (nwf_size : Int32) (nwfk_a : Nat → Int32) (nwfh_a : Nat → Int32) : (Nat → Int32) := (pm2 (lp_X11_raiseTowers_R_18 lc nwf_size nwfk_a nwfh_a 10 0 nwfh_a) (fun x2_18 nwfh_a_18 => nwfh_a_18))
theorem dX11_raiseTowers_16 : decode cX11_raiseTowers 16 = .ok (.iconst 0, 1) := by decide +kernel
theorem dX11_raiseTowers_17 : decode cX11_raiseTowers 17 = .ok (.istore_n 2, 1) := by decide +kernel
theorem dX11_raiseTowers_18 : decode cX11_raiseTowers 18 = .ok (.iload_n 2, 1) := by decide +kernel
theorem dX11_raiseTowers_19 : decode cX11_raiseTowers 19 = .ok (.aload_n 1, 1) := by decide +kernel
theorem dX11_raiseTowers_20 : decode cX11_raiseTowers 20 = .ok (.getfield 91, 3) := by decide +kernel
theorem dX11_raiseTowers_23 : decode cX11_raiseTowers 23 = .ok (.if_icmp .ge 35, 3) := by decide +kernel
theorem dX11_raiseTowers_26 : decode cX11_raiseTowers 26 = .ok (.aload_n 1, 1) := by decide +kernel
theorem dX11_raiseTowers_27 : decode cX11_raiseTowers 27 = .ok (.getfield 111, 3) := by decide +kernel
theorem dX11_raiseTowers_30 : decode cX11_raiseTowers 30 = .ok (.iload_n 2, 1) := by decide +kernel
theorem dX11_raiseTowers_31 : decode cX11_raiseTowers 31 = .ok (.aload_n 0, 1) := by decide +kernel
theorem dX11_raiseTowers_32 : decode cX11_raiseTowers 32 = .ok (.getfield 71, 3) := by decide +kernel
theorem dX11_raiseTowers_35 : decode cX11_raiseTowers 35 = .ok (.aload_n 1, 1) := by decide +kernel
theorem dX11_raiseTowers_36 : decode cX11_raiseTowers 36 = .ok (.getfield 105, 3) := by decide +kernel
theorem dX11_raiseTowers_39 : decode cX11_raiseTowers 39 = .ok (.iload_n 2, 1) := by decide +kernel
theorem dX11_raiseTowers_40 : decode cX11_raiseTowers 40 = .ok (.iaload, 1) := by decide +kernel
theorem dX11_raiseTowers_41 : decode cX11_raiseTowers 41 = .ok (.iload_n 2, 1) := by decide +kernel
theorem dX11_raiseTowers_42 : decode cX11_raiseTowers 42 = .ok (.aload_n 1, 1) := by decide +kernel
theorem dX11_raiseTowers_43 : decode cX11_raiseTowers 43 = .ok (.getfield 111, 3) := by decide +kernel
theorem dX11_raiseTowers_46 : decode cX11_raiseTowers 46 = .ok (.iload_n 2, 1) := by decide +kernel
theorem dX11_raiseTowers_47 : decode cX11_raiseTowers 47 = .ok (.iaload, 1) := by decide +kernel
theorem dX11_raiseTowers_48 : decode cX11_raiseTowers 48 = .ok (.invokevirtual 309, 3) := by decide +kernel
theorem dX11_raiseTowers_51 : decode cX11_raiseTowers 51 = .ok (.iastore, 1) := by decide +kernel
theorem dX11_raiseTowers_52 : decode cX11_raiseTowers 52 = .ok (.iinc 2 1, 3) := by decide +kernel
theorem dX11_raiseTowers_55 : decode cX11_raiseTowers 55 = .ok (.goto (-37), 3) := by decide +kernel
theorem dX11_raiseTowers_58 : decode cX11_raiseTowers 58 = .ok (.return_, 1) := by decide +kernel
set_option maxHeartbeats 4000000 in
set_option maxRecDepth 100000 in
theorem c_X11_raiseTowers_R (l : Launch) (D : va_G) (cy : ClassId) (x pg wr nw kp wk tr lw nwf nws nwe nwfk nwfv nwfh nwft : Nat) (lc : Nat) (hlc : wk_law lc) (x_rowsRead : Int32) (x_rowOfImage : Int32) (x_bestsDone : Int32) (nw_asked : Int32) (nw_looksOfAsked : Int32) (nw_changes : Int32) (nwf_size : Int32) (nwfk_a : Nat → Int32) (nwfh_a : Nat → Int32)  (g_0 : 0 ≤ nwf_size.toInt ∧ nwf_size.toInt ≤ 8) : wk_Cv l yX11_raiseTowers cX11_raiseTowers 3 none { frames := 2, cells := 0, slots := 0, locals := 46 } D cy [.ref x] [(x, .inr (11, [.ref pg, .ref wr, .ref nw, .ref kp, .ref wk, .ref tr, .ref lw, .int x_rowsRead, .int x_rowOfImage, .int x_bestsDone])), (nw, .inr (2, [.ref nwf, .ref nws, .ref nwe, .int nw_asked, .int nw_looksOfAsked, .int nw_changes])), (nwf, .inr (8, [.ref nwfk, .ref nwfv, .ref nwfh, .ref nwft, .int nwf_size])), (nwfk, .inl (cy, 8, .inl nwfk_a)), (nwfh, .inl (cy, 8, .inl nwfh_a)), (lw, .inr (lc, []))] 0 0 (fun (u : (Nat → Int32)) => u = (fn_X11_raiseTowers_R lc nwf_size nwfk_a nwfh_a)) (fun u => [(x, .inr (11, [.ref pg, .ref wr, .ref nw, .ref kp, .ref wk, .ref tr, .ref lw, .int x_rowsRead, .int x_rowOfImage, .int x_bestsDone])), (nw, .inr (2, [.ref nwf, .ref nws, .ref nwe, .int nw_asked, .int nw_looksOfAsked, .int nw_changes])), (nwf, .inr (8, [.ref nwfk, .ref nwfv, .ref nwfh, .ref nwft, .int nwf_size])), (nwfk, .inl (cy, 8, .inl nwfk_a)), (nwfh, .inl (cy, 8, .inl u)), (lw, .inr (lc, []))]) := by
  refine wk_mk2Cv (by decide) (Nat.le_of_ble_eq_true rfl) ?_
  intro p e s m args below meth c A ls Q B hA hK hP hD hS hl hret
  obtain ⟨hx, hb, hr, hlocks, hml, hown, htb, hin⟩ := B
  have hl : lv_has ls 3 [(0, .ref x)] := hl
  have hF : (fn_X11_raiseTowers_R lc nwf_size nwfk_a nwfh_a) = (fn_X11_raiseTowers_R lc nwf_size nwfk_a nwfh_a) := rfl
  conv at hF => rhs; unfold fn_X11_raiseTowers_R
  refine lv_aload_n hx hb dX11_raiseTowers_0 rfl (lv_at hl 0 rfl) ?_
  refine va_get (D := D) (ci := 11) (v := .ref nw) (C := RX11) (T := TX11) (N := 10) hx hb htb inX11 hown hK hP 0 rfl rfl 2 (by decide) (htb _ tw_254) (fun _ h9 => h9) rfl dX11_raiseTowers_1 ?_
  refine va_get (D := D) (ci := 2) (v := .ref nwf) (C := RX2) (T := TX2) (N := 6) hx hb htb inX2 hown hK hP 1 rfl rfl 0 (by decide) (htb _ tw_171) (fun _ h9 => h9) rfl dX11_raiseTowers_4 ?_
  refine lv_astore_n (lv' := [(1, .ref nwf), (0, .ref x)]) hx hb dX11_raiseTowers_7 rfl hl (by decide) rfl (fun ls hl => ?_)
  refine lv_aload_n hx hb dX11_raiseTowers_8 rfl (lv_at hl 1 rfl) ?_
  refine va_get (D := D) (ci := 11) (v := .ref lw) (C := RX11) (T := TX11) (N := 10) hx hb htb inX11 hown hK hP 0 rfl rfl 6 (by decide) (htb _ tw_258) (fun _ h9 => h9) rfl dX11_raiseTowers_9 ?_
  refine lv_ifnonnull (tgt := 16) hx hb dX11_raiseTowers_12 (by decide) ?_
  refine lv_iconst (v := 0) hx hb dX11_raiseTowers_16 (by decide) ?_
  refine lv_istore_n (lv' := [(2, .int 0), (1, .ref nwf), (0, .ref x)]) hx hb dX11_raiseTowers_17 rfl hl (by decide) rfl (fun ls hl => ?_)
  have hlp_18 : ∀ (fu_18 : Nat) (x2_18 : Int32) (nwfh_a_18 : Nat → Int32) (H : Heap) (locs : List Loc) (ls : Array Slot), (0 ≤ x2_18.toInt ∧ x2_18.toInt ≤ 8) → 8 - x2_18.toInt < (fu_18 : Int) → ((fn_X11_raiseTowers_R lc nwf_size nwfk_a nwfh_a) = (pm2 (lp_X11_raiseTowers_R_18 lc nwf_size nwfk_a nwfh_a fu_18 x2_18 nwfh_a_18) (fun x2_18 nwfh_a_18 => nwfh_a_18))) → va_P D classes [(x, .inr (11, [.ref pg, .ref wr, .ref nw, .ref kp, .ref wk, .ref tr, .ref lw, .int x_rowsRead, .int x_rowOfImage, .int x_bestsDone])), (nw, .inr (2, [.ref nwf, .ref nws, .ref nwe, .int nw_asked, .int nw_looksOfAsked, .int nw_changes])), (nwf, .inr (8, [.ref nwfk, .ref nwfv, .ref nwfh, .ref nwft, .int nwf_size])), (nwfk, .inl (cy, 8, .inl nwfk_a)), (nwfh, .inl (cy, 8, .inl nwfh_a_18)), (lw, .inr (lc, []))] H → va_D A [(x, .inr (11, [.ref pg, .ref wr, .ref nw, .ref kp, .ref wk, .ref tr, .ref lw, .int x_rowsRead, .int x_rowOfImage, .int x_bestsDone])), (nw, .inr (2, [.ref nwf, .ref nws, .ref nwe, .int nw_asked, .int nw_looksOfAsked, .int nw_changes])), (nwf, .inr (8, [.ref nwfk, .ref nwfv, .ref nwfh, .ref nwft, .int nwf_size])), (nwfk, .inl (cy, 8, .inl nwfk_a)), (nwfh, .inl (cy, 8, .inl nwfh_a_18)), (lw, .inr (lc, []))] → va_S A s.heap H locs → lv_has ls 3 [(2, .int x2_18), (1, .ref nwf), (0, .ref x)] → W p l e { frames := 2, cells := 0, slots := 0, locals := 46 } s m args below meth c H locs 0 0 Q (F0 m 18 ls []) := by
    intro fu_18
    induction fu_18 with
    | zero =>
      intro x2_18 nwfh_a_18 H locs ls hi_18_0 hm hF hP hD hS hl
      exfalso; omega
    | succ fu_18 ih_18 =>
      intro x2_18 nwfh_a_18 H locs ls hi_18_0 hm hF hP hD hS hl
      rw [lp_X11_raiseTowers_R_18] at hF
      refine lv_iload_n hx hb dX11_raiseTowers_18 rfl (lv_at hl 0 rfl) ?_
      refine lv_aload_n hx hb dX11_raiseTowers_19 rfl (lv_at hl 1 rfl) ?_
      refine va_get (D := D) (ci := 8) (v := .int nwf_size) (C := RX8) (T := TX8) (N := 5) hx hb htb inX8 hown hK hP 2 rfl rfl 4 (by decide) (htb _ tw_134) (fun _ h9 => h9) rfl dX11_raiseTowers_20 ?_
      refine lv_icmp_ge (tgt := 58) hx hb dX11_raiseTowers_23 (by decide) (fun c_1 => ?_) (fun c_1 => ?_)
      · have k_1 : nwf_size.toInt ≤ x2_18.toInt := wk_le c_1
        replace hF := hF.trans (pm2_p1 c_1)
        rw [pm2_mk x2_18 nwfh_a_18] at hF
        refine W.widen (k := 0) (n := 0) (by decide) (by decide) ?_
        exact hret nwfh_a_18 _ _ _ 58 (wk_sub9 (is := [0, 1, 2, 3, 4, 5]) hP rfl) (hD.sub [0, 1, 2, 3, 4, 5] rfl rfl) hS dX11_raiseTowers_58 hF.symm
      · have k_1 : ¬ nwf_size.toInt ≤ x2_18.toInt := wk_nle c_1
        replace hF := hF.trans (pm2_n1 c_1)
        refine lv_aload_n hx hb dX11_raiseTowers_26 rfl (lv_at hl 1 rfl) ?_
        refine va_get (D := D) (ci := 8) (v := .ref nwfh) (C := RX8) (T := TX8) (N := 5) hx hb htb inX8 hown hK hP 2 rfl rfl 2 (by decide) (htb _ tw_125) (fun _ h9 => h9) rfl dX11_raiseTowers_27 ?_
        refine lv_iload_n hx hb dX11_raiseTowers_30 rfl (lv_at hl 0 rfl) ?_
        refine lv_aload_n hx hb dX11_raiseTowers_31 rfl (lv_at hl 2 rfl) ?_
        refine va_get (D := D) (ci := 11) (v := .ref lw) (C := RX11) (T := TX11) (N := 10) hx hb htb inX11 hown hK hP 0 rfl rfl 6 (by decide) (htb _ tw_258) (fun _ h9 => h9) rfl dX11_raiseTowers_32 ?_
        refine lv_aload_n hx hb dX11_raiseTowers_35 rfl (lv_at hl 1 rfl) ?_
        refine va_get (D := D) (ci := 8) (v := .ref nwfk) (C := RX8) (T := TX8) (N := 5) hx hb htb inX8 hown hK hP 2 rfl rfl 0 (by decide) (htb _ tw_118) (fun _ h9 => h9) rfl dX11_raiseTowers_36 ?_
        refine lv_iload_n hx hb dX11_raiseTowers_39 rfl (lv_at hl 0 rfl) ?_
        refine va_iald hx hb hK hP 3 0 rfl rfl (show vp_in x2_18 8 from vp_in_iff.mpr (show 0 ≤ x2_18.toInt ∧ x2_18.toInt < ((8 : Nat) : Int) from by omega)) dX11_raiseTowers_40 ?_
        refine lv_iload_n hx hb dX11_raiseTowers_41 rfl (lv_at hl 0 rfl) ?_
        refine lv_aload_n hx hb dX11_raiseTowers_42 rfl (lv_at hl 1 rfl) ?_
        refine va_get (D := D) (ci := 8) (v := .ref nwfh) (C := RX8) (T := TX8) (N := 5) hx hb htb inX8 hown hK hP 2 rfl rfl 2 (by decide) (htb _ tw_125) (fun _ h9 => h9) rfl dX11_raiseTowers_43 ?_
        refine lv_iload_n hx hb dX11_raiseTowers_46 rfl (lv_at hl 0 rfl) ?_
        refine va_iald hx hb hK hP 4 0 rfl rfl (show vp_in x2_18 8 from vp_in_iff.mpr (show 0 ≤ x2_18.toInt ∧ x2_18.toInt < ((8 : Nat) : Int) from by omega)) dX11_raiseTowers_47 ?_
        refine cv_heightOf (rest := [.int x2_18, .ref nwfh]) (wr := [(x, .inr (11, [.ref pg, .ref wr, .ref nw, .ref kp, .ref wk, .ref tr, .ref lw, .int x_rowsRead, .int x_rowOfImage, .int x_bestsDone])), (nw, .inr (2, [.ref nwf, .ref nws, .ref nwe, .int nw_asked, .int nw_looksOfAsked, .int nw_changes])), (nwf, .inr (8, [.ref nwfk, .ref nwfv, .ref nwfh, .ref nwft, .int nwf_size])), (nwfk, .inl (cy, 8, .inl nwfk_a)), (nwfh, .inl (cy, 8, .inl nwfh_a_18))]) hlc ⟨hx, hb, hml, hown, htb⟩ (Nat.le_of_ble_eq_true rfl) (Nat.le_of_ble_eq_true rfl) hK hP hD hS hA [5] [0, 1, 2, 3, 4] rfl rfl rfl rfl (by decide) hl.1 rfl (Nat.le_of_ble_eq_true rfl) dX11_raiseTowers_48 ⟨Nat.le_of_ble_eq_true rfl, Nat.le_of_ble_eq_true rfl⟩ (fun r_2 H locs hw_3 hP hD hS => ?_)
        subst hw_3
        have hP : va_P D classes [(x, .inr (11, [.ref pg, .ref wr, .ref nw, .ref kp, .ref wk, .ref tr, .ref lw, .int x_rowsRead, .int x_rowOfImage, .int x_bestsDone])), (nw, .inr (2, [.ref nwf, .ref nws, .ref nwe, .int nw_asked, .int nw_looksOfAsked, .int nw_changes])), (nwf, .inr (8, [.ref nwfk, .ref nwfv, .ref nwfh, .ref nwft, .int nwf_size])), (nwfk, .inl (cy, 8, .inl nwfk_a)), (nwfh, .inl (cy, 8, .inl nwfh_a_18)), (lw, .inr (lc, []))] H := hP
        have hD : va_D A [(x, .inr (11, [.ref pg, .ref wr, .ref nw, .ref kp, .ref wk, .ref tr, .ref lw, .int x_rowsRead, .int x_rowOfImage, .int x_bestsDone])), (nw, .inr (2, [.ref nwf, .ref nws, .ref nwe, .int nw_asked, .int nw_looksOfAsked, .int nw_changes])), (nwf, .inr (8, [.ref nwfk, .ref nwfv, .ref nwfh, .ref nwft, .int nwf_size])), (nwfk, .inl (cy, 8, .inl nwfk_a)), (nwfh, .inl (cy, 8, .inl nwfh_a_18)), (lw, .inr (lc, []))] := hD
        refine va_iast hx hb hK hP hD hS 4 0 rfl rfl (show vp_in x2_18 8 from vp_in_iff.mpr (show 0 ≤ x2_18.toInt ∧ x2_18.toInt < ((8 : Nat) : Int) from by omega)) dX11_raiseTowers_51 (fun H locs hP hD hS => ?_)
        have hP : va_P D classes [(x, .inr (11, [.ref pg, .ref wr, .ref nw, .ref kp, .ref wk, .ref tr, .ref lw, .int x_rowsRead, .int x_rowOfImage, .int x_bestsDone])), (nw, .inr (2, [.ref nwf, .ref nws, .ref nwe, .int nw_asked, .int nw_looksOfAsked, .int nw_changes])), (nwf, .inr (8, [.ref nwfk, .ref nwfv, .ref nwfh, .ref nwft, .int nwf_size])), (nwfk, .inl (cy, 8, .inl nwfk_a)), (nwfh, .inl (cy, 8, .inl (upd nwfh_a_18 x2_18.toNatClampNeg (fn_law_heightOf lc (nwfk_a x2_18.toNatClampNeg) x2_18 (nwfh_a_18 x2_18.toNatClampNeg))))), (lw, .inr (lc, []))] H := hP
        have hD : va_D A [(x, .inr (11, [.ref pg, .ref wr, .ref nw, .ref kp, .ref wk, .ref tr, .ref lw, .int x_rowsRead, .int x_rowOfImage, .int x_bestsDone])), (nw, .inr (2, [.ref nwf, .ref nws, .ref nwe, .int nw_asked, .int nw_looksOfAsked, .int nw_changes])), (nwf, .inr (8, [.ref nwfk, .ref nwfv, .ref nwfh, .ref nwft, .int nwf_size])), (nwfk, .inl (cy, 8, .inl nwfk_a)), (nwfh, .inl (cy, 8, .inl (upd nwfh_a_18 x2_18.toNatClampNeg (fn_law_heightOf lc (nwfk_a x2_18.toNatClampNeg) x2_18 (nwfh_a_18 x2_18.toNatClampNeg))))), (lw, .inr (lc, []))] := hD
        refine lv_iinc (v := (x2_18 + 1)) (lv' := [(2, .int (x2_18 + 1)), (1, .ref nwf), (0, .ref x)]) hx hb dX11_raiseTowers_52 hl (k := 0) rfl rfl (by decide) rfl (fun ls hl => ?_)
        have k_4 : (x2_18 + 1).toInt = x2_18.toInt + 1 := wk_add x2_18.toInt 1 rfl rfl (by omega) (by omega)
        refine lv_goto (tgt := 18) hx hb dX11_raiseTowers_55 (by decide) ?_
        exact ih_18 (x2_18 + 1) (upd nwfh_a_18 x2_18.toNatClampNeg (fn_law_heightOf lc (nwfk_a x2_18.toNatClampNeg) x2_18 (nwfh_a_18 x2_18.toNatClampNeg))) _ _ _ (show 0 ≤ (x2_18 + 1).toInt ∧ (x2_18 + 1).toInt ≤ 8 from by omega) (show 8 - (x2_18 + 1).toInt < ((fu_18 : Nat) : Int) from by omega) hF hP hD hS (lv_sub hl [0, 1, 2] rfl)
  exact hlp_18 10 0 nwfh_a _ _ _ (show 0 ≤ 0 ∧ 0 ≤ 8 from by omega) (show 8 - 0 < ((10 : Nat) : Int) from by omega) hF hP hD hS (lv_sub hl [0, 1, 2] rfl)
def fn_X11_changeIsMade_R (lc : Nat) (nw_changes : Int32) (nwf_size : Int32) (nwfk_a : Nat → Int32) (nwfh_a : Nat → Int32) : Int32 × (Nat → Int32) := (pm1 (fn_X11_raiseTowers_R lc nwf_size nwfk_a nwfh_a) (fun o_4 => ((nw_changes + 1), o_4)))
theorem dX11_changeIsMade_0 : decode cX11_changeIsMade 0 = .ok (.aload_n 0, 1) := by decide +kernel
theorem dX11_changeIsMade_1 : decode cX11_changeIsMade 1 = .ok (.invokevirtual 85, 3) := by decide +kernel
theorem dX11_changeIsMade_4 : decode cX11_changeIsMade 4 = .ok (.aload_n 0, 1) := by decide +kernel
theorem dX11_changeIsMade_5 : decode cX11_changeIsMade 5 = .ok (.getfield 22, 3) := by decide +kernel
theorem dX11_changeIsMade_8 : decode cX11_changeIsMade 8 = .ok (.dup, 1) := by decide +kernel
theorem dX11_changeIsMade_9 : decode cX11_changeIsMade 9 = .ok (.getfield 249, 3) := by decide +kernel
theorem dX11_changeIsMade_12 : decode cX11_changeIsMade 12 = .ok (.iconst 1, 1) := by decide +kernel
theorem dX11_changeIsMade_13 : decode cX11_changeIsMade 13 = .ok (.iadd, 1) := by decide +kernel
theorem dX11_changeIsMade_14 : decode cX11_changeIsMade 14 = .ok (.putfield 249, 3) := by decide +kernel
theorem dX11_changeIsMade_17 : decode cX11_changeIsMade 17 = .ok (.return_, 1) := by decide +kernel
set_option maxHeartbeats 4000000 in
set_option maxRecDepth 100000 in
theorem c_X11_changeIsMade_R (l : Launch) (D : va_G) (cy : ClassId) (x pg wr nw kp wk tr lw nwf nws nwe nwfk nwfv nwfh nwft : Nat) (lc : Nat) (hlc : wk_law lc) (x_rowsRead : Int32) (x_rowOfImage : Int32) (x_bestsDone : Int32) (nw_asked : Int32) (nw_looksOfAsked : Int32) (nw_changes : Int32) (nwf_size : Int32) (nwfk_a : Nat → Int32) (nwfh_a : Nat → Int32)  (g_0 : 0 ≤ nwf_size.toInt ∧ nwf_size.toInt ≤ 8) : wk_Cv l yX11_changeIsMade cX11_changeIsMade 1 none { frames := 3, cells := 0, slots := 0, locals := 68 } D cy [.ref x] [(x, .inr (11, [.ref pg, .ref wr, .ref nw, .ref kp, .ref wk, .ref tr, .ref lw, .int x_rowsRead, .int x_rowOfImage, .int x_bestsDone])), (nw, .inr (2, [.ref nwf, .ref nws, .ref nwe, .int nw_asked, .int nw_looksOfAsked, .int nw_changes])), (nwf, .inr (8, [.ref nwfk, .ref nwfv, .ref nwfh, .ref nwft, .int nwf_size])), (nwfk, .inl (cy, 8, .inl nwfk_a)), (nwfh, .inl (cy, 8, .inl nwfh_a)), (lw, .inr (lc, []))] 0 0 (fun (u : Int32 × (Nat → Int32)) => u = (fn_X11_changeIsMade_R lc nw_changes nwf_size nwfk_a nwfh_a)) (fun u => [(x, .inr (11, [.ref pg, .ref wr, .ref nw, .ref kp, .ref wk, .ref tr, .ref lw, .int x_rowsRead, .int x_rowOfImage, .int x_bestsDone])), (nw, .inr (2, [.ref nwf, .ref nws, .ref nwe, .int nw_asked, .int nw_looksOfAsked, .int u.1])), (nwf, .inr (8, [.ref nwfk, .ref nwfv, .ref nwfh, .ref nwft, .int nwf_size])), (nwfk, .inl (cy, 8, .inl nwfk_a)), (nwfh, .inl (cy, 8, .inl u.2)), (lw, .inr (lc, []))]) := by
  refine wk_mk2Cv (by decide) (Nat.le_of_ble_eq_true rfl) ?_
  intro p e s m args below meth c A ls Q B hA hK hP hD hS hl hret
  obtain ⟨hx, hb, hr, hlocks, hml, hown, htb, hin⟩ := B
  have hl : lv_has ls 1 [(0, .ref x)] := hl
  have hF : (fn_X11_changeIsMade_R lc nw_changes nwf_size nwfk_a nwfh_a) = (fn_X11_changeIsMade_R lc nw_changes nwf_size nwfk_a nwfh_a) := rfl
  conv at hF => rhs; unfold fn_X11_changeIsMade_R
  refine lv_aload_n hx hb dX11_changeIsMade_0 rfl (lv_at hl 0 rfl) ?_
  refine wk_vV (As := []) (rest := []) (wc := [(x, .inr (11, [.ref pg, .ref wr, .ref nw, .ref kp, .ref wk, .ref tr, .ref lw, .int x_rowsRead, .int x_rowOfImage, .int x_bestsDone])), (nw, .inr (2, [.ref nwf, .ref nws, .ref nwe, .int nw_asked, .int nw_looksOfAsked, .int nw_changes])), (nwf, .inr (8, [.ref nwfk, .ref nwfv, .ref nwfh, .ref nwft, .int nwf_size])), (nwfk, .inl (cy, 8, .inl nwfk_a)), (nwfh, .inl (cy, 8, .inl nwfh_a)), (lw, .inr (lc, []))]) (wr := []) (n := 0) ⟨hx, hb, hml, hown, htb⟩ (c_X11_raiseTowers_R l D cy x pg wr nw kp wk tr lw nwf nws nwe nwfk nwfv nwfh nwft lc hlc x_rowsRead x_rowOfImage x_bestsDone nw_asked nw_looksOfAsked nw_changes nwf_size nwfk_a nwfh_a  (show 0 ≤ nwf_size.toInt ∧ nwf_size.toInt ≤ 8 from by omega)) tw_394 tw_391 tw_393 tw_5 tw_64 rfl rfl (by decide +kernel) ⟨Nat.le_of_ble_eq_true rfl, Nat.le_of_ble_eq_true rfl⟩ hK hP hD hS hA [0, 1, 2, 3, 4, 5] [] rfl rfl rfl rfl (by decide) 0 (ci := 11) rfl rfl rfl hl.1 rfl (Nat.le_of_ble_eq_true rfl) dX11_changeIsMade_1 ⟨Nat.le_of_ble_eq_true rfl, Nat.le_of_ble_eq_true rfl⟩ (fun u_2 H locs hw_3 hP hD hS => ?_)
  refine W.widen (k := 0) (n := 0) (by decide) (by decide) ?_
  obtain ⟨o_4, rfl⟩ : ∃ z, z = u_2 := ⟨_, rfl⟩
  have hw_3 : o_4 = (fn_X11_raiseTowers_R lc nwf_size nwfk_a nwfh_a) := hw_3
  rw [← hw_3] at hF
  rw [pm1_mk o_4] at hF
  have hP : va_P D classes [(x, .inr (11, [.ref pg, .ref wr, .ref nw, .ref kp, .ref wk, .ref tr, .ref lw, .int x_rowsRead, .int x_rowOfImage, .int x_bestsDone])), (nw, .inr (2, [.ref nwf, .ref nws, .ref nwe, .int nw_asked, .int nw_looksOfAsked, .int nw_changes])), (nwf, .inr (8, [.ref nwfk, .ref nwfv, .ref nwfh, .ref nwft, .int nwf_size])), (nwfk, .inl (cy, 8, .inl nwfk_a)), (nwfh, .inl (cy, 8, .inl o_4)), (lw, .inr (lc, []))] H := hP
  have hD : va_D A [(x, .inr (11, [.ref pg, .ref wr, .ref nw, .ref kp, .ref wk, .ref tr, .ref lw, .int x_rowsRead, .int x_rowOfImage, .int x_bestsDone])), (nw, .inr (2, [.ref nwf, .ref nws, .ref nwe, .int nw_asked, .int nw_looksOfAsked, .int nw_changes])), (nwf, .inr (8, [.ref nwfk, .ref nwfv, .ref nwfh, .ref nwft, .int nwf_size])), (nwfk, .inl (cy, 8, .inl nwfk_a)), (nwfh, .inl (cy, 8, .inl o_4)), (lw, .inr (lc, []))] := hD
  refine lv_aload_n hx hb dX11_changeIsMade_4 rfl (lv_at hl 0 rfl) ?_
  refine va_get (D := D) (ci := 11) (v := .ref nw) (C := RX11) (T := TX11) (N := 10) hx hb htb inX11 hown hK hP 0 rfl rfl 2 (by decide) (htb _ tw_254) (fun _ h9 => h9) rfl dX11_changeIsMade_5 ?_
  refine lv_dup hx hb dX11_changeIsMade_8 rfl ?_
  refine va_get (D := D) (ci := 2) (v := .int nw_changes) (C := RX2) (T := TX2) (N := 6) hx hb htb inX2 hown hK hP 1 rfl rfl 5 (by decide) (htb _ tw_181) (fun _ h9 => h9) rfl dX11_changeIsMade_9 ?_
  refine lv_iconst (v := 1) hx hb dX11_changeIsMade_12 (by decide) ?_
  refine lv_iadd hx hb dX11_changeIsMade_13 ?_
  refine va_put (D := D) (ci := 2) (v := .int (nw_changes + 1)) (ty := .int) (C := RX2) (T := TX2) (N := 6) hx hb htb inX2 tyX2 tyX2_ok nmX2 hown hK hP hD hS 1 rfl rfl 5 (by decide) (htb _ tw_181) (fun _ h9 => h9) rfl (by decide +kernel) rfl rfl (Nat.le_of_ble_eq_true rfl) dX11_changeIsMade_14 (fun H locs hP hD hS => ?_)
  have hP : va_P D classes [(x, .inr (11, [.ref pg, .ref wr, .ref nw, .ref kp, .ref wk, .ref tr, .ref lw, .int x_rowsRead, .int x_rowOfImage, .int x_bestsDone])), (nw, .inr (2, [.ref nwf, .ref nws, .ref nwe, .int nw_asked, .int nw_looksOfAsked, .int (nw_changes + 1)])), (nwf, .inr (8, [.ref nwfk, .ref nwfv, .ref nwfh, .ref nwft, .int nwf_size])), (nwfk, .inl (cy, 8, .inl nwfk_a)), (nwfh, .inl (cy, 8, .inl o_4)), (lw, .inr (lc, []))] H := hP
  have hD : va_D A [(x, .inr (11, [.ref pg, .ref wr, .ref nw, .ref kp, .ref wk, .ref tr, .ref lw, .int x_rowsRead, .int x_rowOfImage, .int x_bestsDone])), (nw, .inr (2, [.ref nwf, .ref nws, .ref nwe, .int nw_asked, .int nw_looksOfAsked, .int (nw_changes + 1)])), (nwf, .inr (8, [.ref nwfk, .ref nwfv, .ref nwfh, .ref nwft, .int nwf_size])), (nwfk, .inl (cy, 8, .inl nwfk_a)), (nwfh, .inl (cy, 8, .inl o_4)), (lw, .inr (lc, []))] := hD
  refine W.widen (k := 0) (n := 0) (by decide) (by decide) ?_
  exact hret ((nw_changes + 1), o_4) _ _ _ 17 (wk_sub9 (is := [0, 1, 2, 3, 4, 5]) hP rfl) (hD.sub [0, 1, 2, 3, 4, 5] rfl rfl) hS dX11_changeIsMade_17 hF.symm
def fn_X11_put_N (a : Int32) (b : Int32) (d : Int32) : Int32 := (if (fn_X11_isNoKey a) = 0 then (if b < 0 then (-102) else (if (9 : Int32) < b then (-102) else (if d < 1 then (-102) else (if d ≤ 4 then (-103) else (-102))))) else (-102))
theorem dX11_put_0 : decode cX11_put 0 = .ok (.iload_n 1, 1) := by decide +kernel
theorem dX11_put_1 : decode cX11_put 1 = .ok (.invokestatic 147, 3) := by decide +kernel
theorem dX11_put_4 : decode cX11_put 4 = .ok (.ifCond .ne 23, 3) := by decide +kernel
theorem dX11_put_7 : decode cX11_put 7 = .ok (.iload_n 2, 1) := by decide +kernel
theorem dX11_put_8 : decode cX11_put 8 = .ok (.ifCond .lt 19, 3) := by decide +kernel
theorem dX11_put_11 : decode cX11_put 11 = .ok (.iload_n 2, 1) := by decide +kernel
theorem dX11_put_12 : decode cX11_put 12 = .ok (.bipush 9, 2) := by decide +kernel
theorem dX11_put_14 : decode cX11_put 14 = .ok (.if_icmp .gt 13, 3) := by decide +kernel
theorem dX11_put_17 : decode cX11_put 17 = .ok (.iload_n 3, 1) := by decide +kernel
theorem dX11_put_18 : decode cX11_put 18 = .ok (.iconst 1, 1) := by decide +kernel
theorem dX11_put_19 : decode cX11_put 19 = .ok (.if_icmp .lt 8, 3) := by decide +kernel
theorem dX11_put_22 : decode cX11_put 22 = .ok (.iload_n 3, 1) := by decide +kernel
theorem dX11_put_23 : decode cX11_put 23 = .ok (.iconst 4, 1) := by decide +kernel
theorem dX11_put_24 : decode cX11_put 24 = .ok (.if_icmp .le 6, 3) := by decide +kernel
theorem dX11_put_27 : decode cX11_put 27 = .ok (.bipush (-102), 2) := by decide +kernel
theorem dX11_put_29 : decode cX11_put 29 = .ok (.ireturn, 1) := by decide +kernel
theorem dX11_put_30 : decode cX11_put 30 = .ok (.aload_n 0, 1) := by decide +kernel
theorem dX11_put_31 : decode cX11_put 31 = .ok (.getfield 71, 3) := by decide +kernel
theorem dX11_put_34 : decode cX11_put 34 = .ok (.ifnonnull 6, 3) := by decide +kernel
theorem dX11_put_37 : decode cX11_put 37 = .ok (.bipush (-103), 2) := by decide +kernel
theorem dX11_put_39 : decode cX11_put 39 = .ok (.ireturn, 1) := by decide +kernel
set_option maxHeartbeats 4000000 in
set_option maxRecDepth 100000 in
theorem c_X11_put_N (l : Launch) (D : va_G) (cy : ClassId) (x pg wr nw kp wk tr : Nat) (x_rowsRead : Int32) (x_rowOfImage : Int32) (x_bestsDone : Int32) (a : Int32) (b : Int32) (d : Int32)  : wk_Ci l yX11_put cX11_put 7 (some .int) { frames := 1, cells := 0, slots := 0, locals := 20 } D cy [.ref x, .int a, .int b, .int d] [(x, .inr (11, [.ref pg, .ref wr, .ref nw, .ref kp, .ref wk, .ref tr, .null, .int x_rowsRead, .int x_rowOfImage, .int x_bestsDone]))] 0 0 (fun (r : Int32) (u : Unit) => r = (fn_X11_put_N a b d)) (fun u => [(x, .inr (11, [.ref pg, .ref wr, .ref nw, .ref kp, .ref wk, .ref tr, .null, .int x_rowsRead, .int x_rowOfImage, .int x_bestsDone]))]) := by
  refine wk_mk2Ci (by decide) (Nat.le_of_ble_eq_true rfl) ?_
  intro p e s m args below meth c A ls Q B hA hK hP hD hS hl hret
  obtain ⟨hx, hb, hr, hlocks, hml, hown, htb, hin⟩ := B
  have hl : lv_has ls 7 [(0, .ref x), (1, .int a), (2, .int b), (3, .int d)] := hl
  have hF : (fn_X11_put_N a b d) = (fn_X11_put_N a b d) := rfl
  conv at hF => rhs; unfold fn_X11_put_N
  refine lv_iload_n hx hb dX11_put_0 rfl (lv_at hl 1 rfl) ?_
  refine wk_iS (As := [.int a]) (rest := []) (wc := []) (wr := [(x, .inr (11, [.ref pg, .ref wr, .ref nw, .ref kp, .ref wk, .ref tr, .null, .int x_rowsRead, .int x_rowOfImage, .int x_bestsDone]))]) (n := 1) ⟨hx, hb, hml, hown, htb⟩ (c_X11_isNoKey l D cy   a ) tw_563 tw_561 tw_562 tw_64 rfl rfl (by decide +kernel) ⟨Nat.le_of_ble_eq_true rfl, Nat.le_of_ble_eq_true rfl⟩ hK hP hD hS hA [] [0] rfl rfl rfl rfl (by decide) rfl hl.1 rfl (Nat.le_of_ble_eq_true rfl) dX11_put_1 ⟨Nat.le_of_ble_eq_true rfl, Nat.le_of_ble_eq_true rfl⟩ (fun r_1 u_2 H locs hw_3 hP hD hS => ?_)
  refine W.widen (k := 0) (n := 0) (by decide) (by decide) ?_
  obtain ⟨hw_3, k_4, k_5⟩ := hw_3
  have hw_3 : r_1 = (fn_X11_isNoKey a) := hw_3
  subst hw_3
  have k_4 : ((fn_X11_isNoKey a) = 0 ∨ (fn_X11_isNoKey a) = 1) := k_4
  have k_5 : (wk_or ((fn_X11_isNoKey a).toInt = 1) (0 ≤ a.toInt ∧ a.toInt ≤ 99)) := k_5
  have k_6 : 0 ≤ (fn_X11_isNoKey a).toInt ∧ (fn_X11_isNoKey a).toInt ≤ 1 := wk_b01 (by assumption)
  have hP : va_P D classes [(x, .inr (11, [.ref pg, .ref wr, .ref nw, .ref kp, .ref wk, .ref tr, .null, .int x_rowsRead, .int x_rowOfImage, .int x_bestsDone]))] H := hP
  have hD : va_D A [(x, .inr (11, [.ref pg, .ref wr, .ref nw, .ref kp, .ref wk, .ref tr, .null, .int x_rowsRead, .int x_rowOfImage, .int x_bestsDone]))] := hD
  refine lv_if_ne (tgt := 27) hx hb dX11_put_4 (by decide) (fun c_7 => ?_) (fun c_7 => ?_)
  · have k_7 : ¬ (fn_X11_isNoKey a).toInt = 0 := wk_neq c_7
    replace hF := hF.trans (if_neg c_7)
    refine lv_bipush (v := (-102)) hx hb dX11_put_27 (by decide) ?_
    refine W.widen (k := 0) (n := 0) (by decide) (by decide) ?_
    exact hret (-102) () _ _ _ 29 (wk_sub9 (is := [0]) hP rfl) (hD.sub [0] rfl rfl) hS dX11_put_29 hF.symm
  · have k_7 : (fn_X11_isNoKey a).toInt = 0 := wk_eq c_7
    have k_8 : 0 ≤ a.toInt ∧ a.toInt ≤ 99 := wk_orR k_5 (by rw [k_7]; decide)
    replace hF := hF.trans (if_pos c_7)
    refine lv_iload_n hx hb dX11_put_7 rfl (lv_at hl 2 rfl) ?_
    refine lv_if_lt (tgt := 27) hx hb dX11_put_8 (by decide) (fun c_9 => ?_) (fun c_9 => ?_)
    · have k_9 : b.toInt < 0 := wk_lt c_9
      replace hF := hF.trans (if_pos c_9)
      refine lv_bipush (v := (-102)) hx hb dX11_put_27 (by decide) ?_
      refine W.widen (k := 0) (n := 0) (by decide) (by decide) ?_
      exact hret (-102) () _ _ _ 29 (wk_sub9 (is := [0]) hP rfl) (hD.sub [0] rfl rfl) hS dX11_put_29 hF.symm
    · have k_9 : ¬ b.toInt < 0 := wk_nlt c_9
      replace hF := hF.trans (if_neg c_9)
      refine lv_iload_n hx hb dX11_put_11 rfl (lv_at hl 2 rfl) ?_
      refine lv_bipush (v := 9) hx hb dX11_put_12 (by decide) ?_
      refine lv_icmp_gt (tgt := 27) hx hb dX11_put_14 (by decide) (fun c_10 => ?_) (fun c_10 => ?_)
      · have k_10 : 9 < b.toInt := wk_lt c_10
        replace hF := hF.trans (if_pos c_10)
        refine lv_bipush (v := (-102)) hx hb dX11_put_27 (by decide) ?_
        refine W.widen (k := 0) (n := 0) (by decide) (by decide) ?_
        exact hret (-102) () _ _ _ 29 (wk_sub9 (is := [0]) hP rfl) (hD.sub [0] rfl rfl) hS dX11_put_29 hF.symm
      · have k_10 : ¬ 9 < b.toInt := wk_nlt c_10
        replace hF := hF.trans (if_neg c_10)
        refine lv_iload_n hx hb dX11_put_17 rfl (lv_at hl 3 rfl) ?_
        refine lv_iconst (v := 1) hx hb dX11_put_18 (by decide) ?_
        refine lv_icmp_lt (tgt := 27) hx hb dX11_put_19 (by decide) (fun c_11 => ?_) (fun c_11 => ?_)
        · have k_11 : d.toInt < 1 := wk_lt c_11
          replace hF := hF.trans (if_pos c_11)
          refine lv_bipush (v := (-102)) hx hb dX11_put_27 (by decide) ?_
          refine W.widen (k := 0) (n := 0) (by decide) (by decide) ?_
          exact hret (-102) () _ _ _ 29 (wk_sub9 (is := [0]) hP rfl) (hD.sub [0] rfl rfl) hS dX11_put_29 hF.symm
        · have k_11 : ¬ d.toInt < 1 := wk_nlt c_11
          replace hF := hF.trans (if_neg c_11)
          refine lv_iload_n hx hb dX11_put_22 rfl (lv_at hl 3 rfl) ?_
          refine lv_iconst (v := 4) hx hb dX11_put_23 (by decide) ?_
          refine lv_icmp_le (tgt := 30) hx hb dX11_put_24 (by decide) (fun c_12 => ?_) (fun c_12 => ?_)
          · have k_12 : d.toInt ≤ 4 := wk_le c_12
            replace hF := hF.trans (if_pos c_12)
            refine lv_aload_n hx hb dX11_put_30 rfl (lv_at hl 0 rfl) ?_
            refine va_get (D := D) (ci := 11) (v := .null) (C := RX11) (T := TX11) (N := 10) hx hb htb inX11 hown hK hP 0 rfl rfl 6 (by decide) (htb _ tw_258) (fun _ h9 => h9) rfl dX11_put_31 ?_
            refine lv_ifnonnullN hx hb dX11_put_34 ?_
            refine lv_bipush (v := (-103)) hx hb dX11_put_37 (by decide) ?_
            refine W.widen (k := 0) (n := 0) (by decide) (by decide) ?_
            exact hret (-103) () _ _ _ 39 (wk_sub9 (is := [0]) hP rfl) (hD.sub [0] rfl rfl) hS dX11_put_39 hF.symm
          · have k_12 : ¬ d.toInt ≤ 4 := wk_nle c_12
            replace hF := hF.trans (if_neg c_12)
            refine lv_bipush (v := (-102)) hx hb dX11_put_27 (by decide) ?_
            refine W.widen (k := 0) (n := 0) (by decide) (by decide) ?_
            exact hret (-102) () _ _ _ 29 (wk_sub9 (is := [0]) hP rfl) (hD.sub [0] rfl rfl) hS dX11_put_29 hF.symm
def fn_X11_put_R (lc : Nat) (nw_changes : Int32) (nwf_size : Int32) (nwfk_a : Nat → Int32) (nwfv_a : Nat → Int32) (nwfh_a : Nat → Int32) (nwft_a : Nat → Int32) (a : Int32) (b : Int32) (d : Int32) : Int32 × Int32 × Int32 × (Nat → Int32) × (Nat → Int32) × (Nat → Int32) × (Nat → Int32) := (if (fn_X11_isNoKey a) = 0 then (if b < 0 then ((-102), nw_changes, nwf_size, nwfk_a, nwfv_a, nwfh_a, nwft_a) else (if (9 : Int32) < b then ((-102), nw_changes, nwf_size, nwfk_a, nwfv_a, nwfh_a, nwft_a) else (if d < 1 then ((-102), nw_changes, nwf_size, nwfk_a, nwfv_a, nwfh_a, nwft_a) else (if d ≤ 4 then (if nwf_size ≤ (fn_X8_firstNotLess nwf_size nwfk_a a) then (if nwf_size < 8 then (pm2 (fn_X8_insert nwf_size nwfk_a nwfv_a nwfh_a nwft_a (fn_X8_firstNotLess nwf_size nwfk_a a) a b d) (fun o_24 t_ => (pm2 (t_) (fun o_25 t_ => (pm2 (t_) (fun o_26 t_ => (pm2 (t_) (fun o_27 o_28 => (pm2 (fn_X11_changeIsMade_R lc nw_changes o_24 o_25 o_27) (fun o_34 o_35 => ((fn_X8_firstNotLess nwf_size nwfk_a a), o_34, o_24, o_25, o_26, o_35, o_28))))))))))) else ((-104), nw_changes, nwf_size, nwfk_a, nwfv_a, nwfh_a, nwft_a)) else (if (nwfk_a (fn_X8_firstNotLess nwf_size nwfk_a a).toNatClampNeg) = a then (pm2 (fn_X11_changeIsMade_R lc nw_changes nwf_size nwfk_a (upd nwfh_a (fn_X8_firstNotLess nwf_size nwfk_a a).toNatClampNeg d)) (fun o_60 o_61 => ((fn_X8_firstNotLess nwf_size nwfk_a a), o_60, nwf_size, nwfk_a, (upd nwfv_a (fn_X8_firstNotLess nwf_size nwfk_a a).toNatClampNeg b), o_61, nwft_a))) else (if nwf_size < 8 then (pm2 (fn_X8_insert nwf_size nwfk_a nwfv_a nwfh_a nwft_a (fn_X8_firstNotLess nwf_size nwfk_a a) a b d) (fun o_43 t_ => (pm2 (t_) (fun o_44 t_ => (pm2 (t_) (fun o_45 t_ => (pm2 (t_) (fun o_46 o_47 => (pm2 (fn_X11_changeIsMade_R lc nw_changes o_43 o_44 o_46) (fun o_53 o_54 => ((fn_X8_firstNotLess nwf_size nwfk_a a), o_53, o_43, o_44, o_45, o_54, o_47))))))))))) else ((-104), nw_changes, nwf_size, nwfk_a, nwfv_a, nwfh_a, nwft_a)))) else ((-102), nw_changes, nwf_size, nwfk_a, nwfv_a, nwfh_a, nwft_a))))) else ((-102), nw_changes, nwf_size, nwfk_a, nwfv_a, nwfh_a, nwft_a))
theorem dX11_put_40 : decode cX11_put 40 = .ok (.aload_n 0, 1) := by decide +kernel
theorem dX11_put_41 : decode cX11_put 41 = .ok (.getfield 22, 3) := by decide +kernel
theorem dX11_put_44 : decode cX11_put 44 = .ok (.getfield 77, 3) := by decide +kernel
theorem dX11_put_47 : decode cX11_put 47 = .ok (.astore 4, 2) := by decide +kernel
theorem dX11_put_49 : decode cX11_put 49 = .ok (.aload 4, 2) := by decide +kernel
theorem dX11_put_51 : decode cX11_put 51 = .ok (.iload_n 1, 1) := by decide +kernel
theorem dX11_put_52 : decode cX11_put 52 = .ok (.invokevirtual 175, 3) := by decide +kernel
theorem dX11_put_55 : decode cX11_put 55 = .ok (.istore 5, 2) := by decide +kernel
theorem dX11_put_57 : decode cX11_put 57 = .ok (.iload 5, 2) := by decide +kernel
theorem dX11_put_59 : decode cX11_put 59 = .ok (.aload 4, 2) := by decide +kernel
theorem dX11_put_61 : decode cX11_put 61 = .ok (.getfield 91, 3) := by decide +kernel
theorem dX11_put_64 : decode cX11_put 64 = .ok (.if_icmp .ge 19, 3) := by decide +kernel
theorem dX11_put_67 : decode cX11_put 67 = .ok (.aload 4, 2) := by decide +kernel
theorem dX11_put_69 : decode cX11_put 69 = .ok (.getfield 105, 3) := by decide +kernel
theorem dX11_put_72 : decode cX11_put 72 = .ok (.iload 5, 2) := by decide +kernel
theorem dX11_put_74 : decode cX11_put 74 = .ok (.iaload, 1) := by decide +kernel
theorem dX11_put_75 : decode cX11_put 75 = .ok (.iload_n 1, 1) := by decide +kernel
theorem dX11_put_76 : decode cX11_put 76 = .ok (.if_icmp .ne 7, 3) := by decide +kernel
theorem dX11_put_79 : decode cX11_put 79 = .ok (.iconst 1, 1) := by decide +kernel
theorem dX11_put_80 : decode cX11_put 80 = .ok (.goto 4, 3) := by decide +kernel
theorem dX11_put_83 : decode cX11_put 83 = .ok (.iconst 0, 1) := by decide +kernel
theorem dX11_put_84 : decode cX11_put 84 = .ok (.istore 6, 2) := by decide +kernel
theorem dX11_put_86 : decode cX11_put 86 = .ok (.iload 6, 2) := by decide +kernel
theorem dX11_put_88 : decode cX11_put 88 = .ok (.ifCond .ne 16, 3) := by decide +kernel
theorem dX11_put_91 : decode cX11_put 91 = .ok (.aload 4, 2) := by decide +kernel
theorem dX11_put_93 : decode cX11_put 93 = .ok (.getfield 91, 3) := by decide +kernel
theorem dX11_put_96 : decode cX11_put 96 = .ok (.bipush 8, 2) := by decide +kernel
theorem dX11_put_98 : decode cX11_put 98 = .ok (.if_icmp .lt 6, 3) := by decide +kernel
theorem dX11_put_101 : decode cX11_put 101 = .ok (.bipush (-104), 2) := by decide +kernel
theorem dX11_put_103 : decode cX11_put 103 = .ok (.ireturn, 1) := by decide +kernel
theorem dX11_put_104 : decode cX11_put 104 = .ok (.iload 6, 2) := by decide +kernel
theorem dX11_put_106 : decode cX11_put 106 = .ok (.ifCond .eq 24, 3) := by decide +kernel
theorem dX11_put_109 : decode cX11_put 109 = .ok (.aload 4, 2) := by decide +kernel
theorem dX11_put_111 : decode cX11_put 111 = .ok (.getfield 108, 3) := by decide +kernel
theorem dX11_put_114 : decode cX11_put 114 = .ok (.iload 5, 2) := by decide +kernel
theorem dX11_put_116 : decode cX11_put 116 = .ok (.iload_n 2, 1) := by decide +kernel
theorem dX11_put_117 : decode cX11_put 117 = .ok (.iastore, 1) := by decide +kernel
theorem dX11_put_118 : decode cX11_put 118 = .ok (.aload 4, 2) := by decide +kernel
theorem dX11_put_120 : decode cX11_put 120 = .ok (.getfield 111, 3) := by decide +kernel
theorem dX11_put_123 : decode cX11_put 123 = .ok (.iload 5, 2) := by decide +kernel
theorem dX11_put_125 : decode cX11_put 125 = .ok (.iload_n 3, 1) := by decide +kernel
theorem dX11_put_126 : decode cX11_put 126 = .ok (.iastore, 1) := by decide +kernel
theorem dX11_put_127 : decode cX11_put 127 = .ok (.goto 13, 3) := by decide +kernel
theorem dX11_put_130 : decode cX11_put 130 = .ok (.aload 4, 2) := by decide +kernel
theorem dX11_put_132 : decode cX11_put 132 = .ok (.iload 5, 2) := by decide +kernel
theorem dX11_put_134 : decode cX11_put 134 = .ok (.iload_n 1, 1) := by decide +kernel
theorem dX11_put_135 : decode cX11_put 135 = .ok (.iload_n 2, 1) := by decide +kernel
theorem dX11_put_136 : decode cX11_put 136 = .ok (.iload_n 3, 1) := by decide +kernel
theorem dX11_put_137 : decode cX11_put 137 = .ok (.invokevirtual 178, 3) := by decide +kernel
theorem dX11_put_140 : decode cX11_put 140 = .ok (.aload_n 0, 1) := by decide +kernel
theorem dX11_put_141 : decode cX11_put 141 = .ok (.invokevirtual 182, 3) := by decide +kernel
theorem dX11_put_144 : decode cX11_put 144 = .ok (.iload 5, 2) := by decide +kernel
theorem dX11_put_146 : decode cX11_put 146 = .ok (.ireturn, 1) := by decide +kernel
set_option maxHeartbeats 4000000 in
set_option maxRecDepth 100000 in
theorem c_X11_put_R (l : Launch) (D : va_G) (cy : ClassId) (x pg wr nw kp wk tr lw nwf nws nwe nwfk nwfv nwfh nwft : Nat) (lc : Nat) (hlc : wk_law lc) (x_rowsRead : Int32) (x_rowOfImage : Int32) (x_bestsDone : Int32) (nw_asked : Int32) (nw_looksOfAsked : Int32) (nw_changes : Int32) (nwf_size : Int32) (nwfk_a : Nat → Int32) (nwfv_a : Nat → Int32) (nwfh_a : Nat → Int32) (nwft_a : Nat → Int32) (a : Int32) (b : Int32) (d : Int32) (g_0 : 0 ≤ nwf_size.toInt ∧ nwf_size.toInt ≤ 8) : wk_Ci l yX11_put cX11_put 7 (some .int) { frames := 4, cells := 0, slots := 0, locals := 88 } D cy [.ref x, .int a, .int b, .int d] [(x, .inr (11, [.ref pg, .ref wr, .ref nw, .ref kp, .ref wk, .ref tr, .ref lw, .int x_rowsRead, .int x_rowOfImage, .int x_bestsDone])), (nw, .inr (2, [.ref nwf, .ref nws, .ref nwe, .int nw_asked, .int nw_looksOfAsked, .int nw_changes])), (nwf, .inr (8, [.ref nwfk, .ref nwfv, .ref nwfh, .ref nwft, .int nwf_size])), (nwfk, .inl (cy, 8, .inl nwfk_a)), (nwfv, .inl (cy, 8, .inl nwfv_a)), (nwfh, .inl (cy, 8, .inl nwfh_a)), (nwft, .inl (cy, 8, .inl nwft_a)), (lw, .inr (lc, []))] 0 0 (fun (r : Int32) (u : Int32 × Int32 × (Nat → Int32) × (Nat → Int32) × (Nat → Int32) × (Nat → Int32)) => (r, u) = (fn_X11_put_R lc nw_changes nwf_size nwfk_a nwfv_a nwfh_a nwft_a a b d) ∧ (0 ≤ u.2.1.toInt ∧ u.2.1.toInt ≤ 8)) (fun u => [(x, .inr (11, [.ref pg, .ref wr, .ref nw, .ref kp, .ref wk, .ref tr, .ref lw, .int x_rowsRead, .int x_rowOfImage, .int x_bestsDone])), (nw, .inr (2, [.ref nwf, .ref nws, .ref nwe, .int nw_asked, .int nw_looksOfAsked, .int u.1])), (nwf, .inr (8, [.ref nwfk, .ref nwfv, .ref nwfh, .ref nwft, .int u.2.1])), (nwfk, .inl (cy, 8, .inl u.2.2.1)), (nwfv, .inl (cy, 8, .inl u.2.2.2.1)), (nwfh, .inl (cy, 8, .inl u.2.2.2.2.1)), (nwft, .inl (cy, 8, .inl u.2.2.2.2.2)), (lw, .inr (lc, []))]) := by
  refine wk_mk2Ci (by decide) (Nat.le_of_ble_eq_true rfl) ?_
  intro p e s m args below meth c A ls Q B hA hK hP hD hS hl hret
  obtain ⟨hx, hb, hr, hlocks, hml, hown, htb, hin⟩ := B
  have hl : lv_has ls 7 [(0, .ref x), (1, .int a), (2, .int b), (3, .int d)] := hl
  have hF : (fn_X11_put_R lc nw_changes nwf_size nwfk_a nwfv_a nwfh_a nwft_a a b d) = (fn_X11_put_R lc nw_changes nwf_size nwfk_a nwfv_a nwfh_a nwft_a a b d) := rfl
  conv at hF => rhs; unfold fn_X11_put_R
  refine lv_iload_n hx hb dX11_put_0 rfl (lv_at hl 1 rfl) ?_
  refine wk_iS (As := [.int a]) (rest := []) (wc := []) (wr := [(x, .inr (11, [.ref pg, .ref wr, .ref nw, .ref kp, .ref wk, .ref tr, .ref lw, .int x_rowsRead, .int x_rowOfImage, .int x_bestsDone])), (nw, .inr (2, [.ref nwf, .ref nws, .ref nwe, .int nw_asked, .int nw_looksOfAsked, .int nw_changes])), (nwf, .inr (8, [.ref nwfk, .ref nwfv, .ref nwfh, .ref nwft, .int nwf_size])), (nwfk, .inl (cy, 8, .inl nwfk_a)), (nwfv, .inl (cy, 8, .inl nwfv_a)), (nwfh, .inl (cy, 8, .inl nwfh_a)), (nwft, .inl (cy, 8, .inl nwft_a)), (lw, .inr (lc, []))]) (n := 1) ⟨hx, hb, hml, hown, htb⟩ (c_X11_isNoKey l D cy   a ) tw_563 tw_561 tw_562 tw_64 rfl rfl (by decide +kernel) ⟨Nat.le_of_ble_eq_true rfl, Nat.le_of_ble_eq_true rfl⟩ hK hP hD hS hA [] [0, 1, 2, 3, 4, 5, 6, 7] rfl rfl rfl rfl (by decide) rfl hl.1 rfl (Nat.le_of_ble_eq_true rfl) dX11_put_1 ⟨Nat.le_of_ble_eq_true rfl, Nat.le_of_ble_eq_true rfl⟩ (fun r_1 u_2 H locs hw_3 hP hD hS => ?_)
  refine W.widen (k := 0) (n := 0) (by decide) (by decide) ?_
  obtain ⟨hw_3, k_4, k_5⟩ := hw_3
  have hw_3 : r_1 = (fn_X11_isNoKey a) := hw_3
  subst hw_3
  have k_4 : ((fn_X11_isNoKey a) = 0 ∨ (fn_X11_isNoKey a) = 1) := k_4
  have k_5 : (wk_or ((fn_X11_isNoKey a).toInt = 1) (0 ≤ a.toInt ∧ a.toInt ≤ 99)) := k_5
  have k_6 : 0 ≤ (fn_X11_isNoKey a).toInt ∧ (fn_X11_isNoKey a).toInt ≤ 1 := wk_b01 (by assumption)
  have hP : va_P D classes [(x, .inr (11, [.ref pg, .ref wr, .ref nw, .ref kp, .ref wk, .ref tr, .ref lw, .int x_rowsRead, .int x_rowOfImage, .int x_bestsDone])), (nw, .inr (2, [.ref nwf, .ref nws, .ref nwe, .int nw_asked, .int nw_looksOfAsked, .int nw_changes])), (nwf, .inr (8, [.ref nwfk, .ref nwfv, .ref nwfh, .ref nwft, .int nwf_size])), (nwfk, .inl (cy, 8, .inl nwfk_a)), (nwfv, .inl (cy, 8, .inl nwfv_a)), (nwfh, .inl (cy, 8, .inl nwfh_a)), (nwft, .inl (cy, 8, .inl nwft_a)), (lw, .inr (lc, []))] H := hP
  have hD : va_D A [(x, .inr (11, [.ref pg, .ref wr, .ref nw, .ref kp, .ref wk, .ref tr, .ref lw, .int x_rowsRead, .int x_rowOfImage, .int x_bestsDone])), (nw, .inr (2, [.ref nwf, .ref nws, .ref nwe, .int nw_asked, .int nw_looksOfAsked, .int nw_changes])), (nwf, .inr (8, [.ref nwfk, .ref nwfv, .ref nwfh, .ref nwft, .int nwf_size])), (nwfk, .inl (cy, 8, .inl nwfk_a)), (nwfv, .inl (cy, 8, .inl nwfv_a)), (nwfh, .inl (cy, 8, .inl nwfh_a)), (nwft, .inl (cy, 8, .inl nwft_a)), (lw, .inr (lc, []))] := hD
  refine lv_if_ne (tgt := 27) hx hb dX11_put_4 (by decide) (fun c_7 => ?_) (fun c_7 => ?_)
  · have k_7 : ¬ (fn_X11_isNoKey a).toInt = 0 := wk_neq c_7
    replace hF := hF.trans (if_neg c_7)
    refine lv_bipush (v := (-102)) hx hb dX11_put_27 (by decide) ?_
    refine W.widen (k := 0) (n := 0) (by decide) (by decide) ?_
    exact hret (-102) (nw_changes, nwf_size, nwfk_a, nwfv_a, nwfh_a, nwft_a) _ _ _ 29 (wk_sub9 (is := [0, 1, 2, 3, 4, 5, 6, 7]) hP rfl) (hD.sub [0, 1, 2, 3, 4, 5, 6, 7] rfl rfl) hS dX11_put_29 ⟨hF.symm, (show (0 ≤ nwf_size.toInt ∧ nwf_size.toInt ≤ 8) from by omega)⟩
  · have k_7 : (fn_X11_isNoKey a).toInt = 0 := wk_eq c_7
    have k_8 : 0 ≤ a.toInt ∧ a.toInt ≤ 99 := wk_orR k_5 (by rw [k_7]; decide)
    replace hF := hF.trans (if_pos c_7)
    refine lv_iload_n hx hb dX11_put_7 rfl (lv_at hl 2 rfl) ?_
    refine lv_if_lt (tgt := 27) hx hb dX11_put_8 (by decide) (fun c_9 => ?_) (fun c_9 => ?_)
    · have k_9 : b.toInt < 0 := wk_lt c_9
      replace hF := hF.trans (if_pos c_9)
      refine lv_bipush (v := (-102)) hx hb dX11_put_27 (by decide) ?_
      refine W.widen (k := 0) (n := 0) (by decide) (by decide) ?_
      exact hret (-102) (nw_changes, nwf_size, nwfk_a, nwfv_a, nwfh_a, nwft_a) _ _ _ 29 (wk_sub9 (is := [0, 1, 2, 3, 4, 5, 6, 7]) hP rfl) (hD.sub [0, 1, 2, 3, 4, 5, 6, 7] rfl rfl) hS dX11_put_29 ⟨hF.symm, (show (0 ≤ nwf_size.toInt ∧ nwf_size.toInt ≤ 8) from by omega)⟩
    · have k_9 : ¬ b.toInt < 0 := wk_nlt c_9
      replace hF := hF.trans (if_neg c_9)
      refine lv_iload_n hx hb dX11_put_11 rfl (lv_at hl 2 rfl) ?_
      refine lv_bipush (v := 9) hx hb dX11_put_12 (by decide) ?_
      refine lv_icmp_gt (tgt := 27) hx hb dX11_put_14 (by decide) (fun c_10 => ?_) (fun c_10 => ?_)
      · have k_10 : 9 < b.toInt := wk_lt c_10
        replace hF := hF.trans (if_pos c_10)
        refine lv_bipush (v := (-102)) hx hb dX11_put_27 (by decide) ?_
        refine W.widen (k := 0) (n := 0) (by decide) (by decide) ?_
        exact hret (-102) (nw_changes, nwf_size, nwfk_a, nwfv_a, nwfh_a, nwft_a) _ _ _ 29 (wk_sub9 (is := [0, 1, 2, 3, 4, 5, 6, 7]) hP rfl) (hD.sub [0, 1, 2, 3, 4, 5, 6, 7] rfl rfl) hS dX11_put_29 ⟨hF.symm, (show (0 ≤ nwf_size.toInt ∧ nwf_size.toInt ≤ 8) from by omega)⟩
      · have k_10 : ¬ 9 < b.toInt := wk_nlt c_10
        replace hF := hF.trans (if_neg c_10)
        refine lv_iload_n hx hb dX11_put_17 rfl (lv_at hl 3 rfl) ?_
        refine lv_iconst (v := 1) hx hb dX11_put_18 (by decide) ?_
        refine lv_icmp_lt (tgt := 27) hx hb dX11_put_19 (by decide) (fun c_11 => ?_) (fun c_11 => ?_)
        · have k_11 : d.toInt < 1 := wk_lt c_11
          replace hF := hF.trans (if_pos c_11)
          refine lv_bipush (v := (-102)) hx hb dX11_put_27 (by decide) ?_
          refine W.widen (k := 0) (n := 0) (by decide) (by decide) ?_
          exact hret (-102) (nw_changes, nwf_size, nwfk_a, nwfv_a, nwfh_a, nwft_a) _ _ _ 29 (wk_sub9 (is := [0, 1, 2, 3, 4, 5, 6, 7]) hP rfl) (hD.sub [0, 1, 2, 3, 4, 5, 6, 7] rfl rfl) hS dX11_put_29 ⟨hF.symm, (show (0 ≤ nwf_size.toInt ∧ nwf_size.toInt ≤ 8) from by omega)⟩
        · have k_11 : ¬ d.toInt < 1 := wk_nlt c_11
          replace hF := hF.trans (if_neg c_11)
          refine lv_iload_n hx hb dX11_put_22 rfl (lv_at hl 3 rfl) ?_
          refine lv_iconst (v := 4) hx hb dX11_put_23 (by decide) ?_
          refine lv_icmp_le (tgt := 30) hx hb dX11_put_24 (by decide) (fun c_12 => ?_) (fun c_12 => ?_)
          · have k_12 : d.toInt ≤ 4 := wk_le c_12
            replace hF := hF.trans (if_pos c_12)
            refine lv_aload_n hx hb dX11_put_30 rfl (lv_at hl 0 rfl) ?_
            refine va_get (D := D) (ci := 11) (v := .ref lw) (C := RX11) (T := TX11) (N := 10) hx hb htb inX11 hown hK hP 0 rfl rfl 6 (by decide) (htb _ tw_258) (fun _ h9 => h9) rfl dX11_put_31 ?_
            refine lv_ifnonnull (tgt := 40) hx hb dX11_put_34 (by decide) ?_
            refine lv_aload_n hx hb dX11_put_40 rfl (lv_at hl 0 rfl) ?_
            refine va_get (D := D) (ci := 11) (v := .ref nw) (C := RX11) (T := TX11) (N := 10) hx hb htb inX11 hown hK hP 0 rfl rfl 2 (by decide) (htb _ tw_254) (fun _ h9 => h9) rfl dX11_put_41 ?_
            refine va_get (D := D) (ci := 2) (v := .ref nwf) (C := RX2) (T := TX2) (N := 6) hx hb htb inX2 hown hK hP 1 rfl rfl 0 (by decide) (htb _ tw_171) (fun _ h9 => h9) rfl dX11_put_44 ?_
            refine lv_astore (lv' := [(4, .ref nwf), (0, .ref x), (1, .int a), (2, .int b), (3, .int d)]) hx hb dX11_put_47 hl (by decide) rfl (fun ls hl => ?_)
            refine lv_aload hx hb dX11_put_49 (lv_at hl 0 rfl) ?_
            refine lv_iload_n hx hb dX11_put_51 rfl (lv_at hl 2 rfl) ?_
            refine wk_iV (As := [.int a]) (rest := []) (wc := [(nwf, .inr (8, [.ref nwfk, .ref nwfv, .ref nwfh, .ref nwft, .int nwf_size])), (nwfk, .inl (cy, 8, .inl nwfk_a))]) (wr := [(x, .inr (11, [.ref pg, .ref wr, .ref nw, .ref kp, .ref wk, .ref tr, .ref lw, .int x_rowsRead, .int x_rowOfImage, .int x_bestsDone])), (nw, .inr (2, [.ref nwf, .ref nws, .ref nwe, .int nw_asked, .int nw_looksOfAsked, .int nw_changes])), (nwfv, .inl (cy, 8, .inl nwfv_a)), (nwfh, .inl (cy, 8, .inl nwfh_a)), (nwft, .inl (cy, 8, .inl nwft_a)), (lw, .inr (lc, []))]) (n := 1) ⟨hx, hb, hml, hown, htb⟩ (c_X8_firstNotLess l D cy nwf nwfk nwfv nwfh nwft nwf_size nwfk_a a (show 0 ≤ nwf_size.toInt ∧ nwf_size.toInt ≤ 8 from by omega)) tw_595 tw_592 tw_593 tw_594 tw_67 rfl rfl (by decide +kernel) ⟨Nat.le_of_ble_eq_true rfl, Nat.le_of_ble_eq_true rfl⟩ hK hP hD hS hA [2, 3] [0, 1, 4, 5, 6, 7] rfl rfl rfl rfl (by decide) 0 (ci := 8) rfl rfl rfl hl.1 rfl (Nat.le_of_ble_eq_true rfl) dX11_put_52 ⟨Nat.le_of_ble_eq_true rfl, Nat.le_of_ble_eq_true rfl⟩ (fun r_13 u_14 H locs hw_15 hP hD hS => ?_)
            refine W.widen (k := 0) (n := 0) (by decide) (by decide) ?_
            obtain ⟨hw_15, k_16, k_17⟩ := hw_15
            have hw_15 : r_13 = (fn_X8_firstNotLess nwf_size nwfk_a a) := hw_15
            subst hw_15
            have k_16 : (0 ≤ (fn_X8_firstNotLess nwf_size nwfk_a a).toInt ∧ (fn_X8_firstNotLess nwf_size nwfk_a a).toInt ≤ 8) := k_16
            have k_17 : ((fn_X8_firstNotLess nwf_size nwfk_a a).toInt ≤ nwf_size.toInt) := k_17
            have hP : va_P D classes [(x, .inr (11, [.ref pg, .ref wr, .ref nw, .ref kp, .ref wk, .ref tr, .ref lw, .int x_rowsRead, .int x_rowOfImage, .int x_bestsDone])), (nw, .inr (2, [.ref nwf, .ref nws, .ref nwe, .int nw_asked, .int nw_looksOfAsked, .int nw_changes])), (nwfv, .inl (cy, 8, .inl nwfv_a)), (nwfh, .inl (cy, 8, .inl nwfh_a)), (nwft, .inl (cy, 8, .inl nwft_a)), (lw, .inr (lc, [])), (nwf, .inr (8, [.ref nwfk, .ref nwfv, .ref nwfh, .ref nwft, .int nwf_size])), (nwfk, .inl (cy, 8, .inl nwfk_a))] H := hP
            have hD : va_D A [(x, .inr (11, [.ref pg, .ref wr, .ref nw, .ref kp, .ref wk, .ref tr, .ref lw, .int x_rowsRead, .int x_rowOfImage, .int x_bestsDone])), (nw, .inr (2, [.ref nwf, .ref nws, .ref nwe, .int nw_asked, .int nw_looksOfAsked, .int nw_changes])), (nwfv, .inl (cy, 8, .inl nwfv_a)), (nwfh, .inl (cy, 8, .inl nwfh_a)), (nwft, .inl (cy, 8, .inl nwft_a)), (lw, .inr (lc, [])), (nwf, .inr (8, [.ref nwfk, .ref nwfv, .ref nwfh, .ref nwft, .int nwf_size])), (nwfk, .inl (cy, 8, .inl nwfk_a))] := hD
            refine lv_istore (lv' := [(5, .int (fn_X8_firstNotLess nwf_size nwfk_a a)), (4, .ref nwf), (0, .ref x), (1, .int a), (2, .int b), (3, .int d)]) hx hb dX11_put_55 hl (by decide) rfl (fun ls hl => ?_)
            refine lv_iload hx hb dX11_put_57 (lv_at hl 0 rfl) ?_
            refine lv_aload hx hb dX11_put_59 (lv_at hl 1 rfl) ?_
            refine va_get (D := D) (ci := 8) (v := .int nwf_size) (C := RX8) (T := TX8) (N := 5) hx hb htb inX8 hown hK hP 6 rfl rfl 4 (by decide) (htb _ tw_134) (fun _ h9 => h9) rfl dX11_put_61 ?_
            refine lv_icmp_ge (tgt := 83) hx hb dX11_put_64 (by decide) (fun c_18 => ?_) (fun c_18 => ?_)
            · have k_18 : nwf_size.toInt ≤ (fn_X8_firstNotLess nwf_size nwfk_a a).toInt := wk_le c_18
              replace hF := hF.trans (if_pos c_18)
              refine lv_iconst (v := 0) hx hb dX11_put_83 (by decide) ?_
              refine lv_istore (lv' := [(6, .int 0), (5, .int (fn_X8_firstNotLess nwf_size nwfk_a a)), (4, .ref nwf), (0, .ref x), (1, .int a), (2, .int b), (3, .int d)]) hx hb dX11_put_84 hl (by decide) rfl (fun ls hl => ?_)
              refine lv_iload hx hb dX11_put_86 (lv_at hl 0 rfl) ?_
              refine lv_if_ne (tgt := 104) hx hb dX11_put_88 (by decide) (fun c_19 => absurd (by decide) c_19) (fun _ => ?_)
              refine lv_aload hx hb dX11_put_91 (lv_at hl 2 rfl) ?_
              refine va_get (D := D) (ci := 8) (v := .int nwf_size) (C := RX8) (T := TX8) (N := 5) hx hb htb inX8 hown hK hP 6 rfl rfl 4 (by decide) (htb _ tw_134) (fun _ h9 => h9) rfl dX11_put_93 ?_
              refine lv_bipush (v := 8) hx hb dX11_put_96 (by decide) ?_
              refine lv_icmp_lt (tgt := 104) hx hb dX11_put_98 (by decide) (fun c_20 => ?_) (fun c_20 => ?_)
              · have k_20 : nwf_size.toInt < 8 := wk_lt c_20
                replace hF := hF.trans (if_pos c_20)
                refine lv_iload hx hb dX11_put_104 (lv_at hl 0 rfl) ?_
                refine lv_if_eq (tgt := 130) hx hb dX11_put_106 (by decide) (fun _ => ?_) (fun c_21 => absurd (by decide) c_21)
                refine lv_aload hx hb dX11_put_130 (lv_at hl 2 rfl) ?_
                refine lv_iload hx hb dX11_put_132 (lv_at hl 1 rfl) ?_
                refine lv_iload_n hx hb dX11_put_134 rfl (lv_at hl 4 rfl) ?_
                refine lv_iload_n hx hb dX11_put_135 rfl (lv_at hl 5 rfl) ?_
                refine lv_iload_n hx hb dX11_put_136 rfl (lv_at hl 6 rfl) ?_
                refine wk_vV (As := [.int (fn_X8_firstNotLess nwf_size nwfk_a a), .int a, .int b, .int d]) (rest := []) (wc := [(nwf, .inr (8, [.ref nwfk, .ref nwfv, .ref nwfh, .ref nwft, .int nwf_size])), (nwfk, .inl (cy, 8, .inl nwfk_a)), (nwfv, .inl (cy, 8, .inl nwfv_a)), (nwfh, .inl (cy, 8, .inl nwfh_a)), (nwft, .inl (cy, 8, .inl nwft_a))]) (wr := [(x, .inr (11, [.ref pg, .ref wr, .ref nw, .ref kp, .ref wk, .ref tr, .ref lw, .int x_rowsRead, .int x_rowOfImage, .int x_bestsDone])), (nw, .inr (2, [.ref nwf, .ref nws, .ref nwe, .int nw_asked, .int nw_looksOfAsked, .int nw_changes])), (lw, .inr (lc, []))]) (n := 4) ⟨hx, hb, hml, hown, htb⟩ (c_X8_insert l D cy nwf nwfk nwfv nwfh nwft nwf_size nwfk_a nwfv_a nwfh_a nwft_a (fn_X8_firstNotLess nwf_size nwfk_a a) a b d (show 0 ≤ nwf_size.toInt ∧ nwf_size.toInt ≤ 8 from by omega)) tw_386 tw_596 tw_384 tw_385 tw_67 rfl rfl (by decide +kernel) ⟨Nat.le_of_ble_eq_true rfl, Nat.le_of_ble_eq_true rfl⟩ hK hP hD hS hA [6, 7, 2, 3, 4] [0, 1, 5] rfl rfl rfl rfl (by decide) 0 (ci := 8) rfl rfl rfl hl.1 rfl (Nat.le_of_ble_eq_true rfl) dX11_put_137 ⟨Nat.le_of_ble_eq_true rfl, Nat.le_of_ble_eq_true rfl⟩ (fun u_23 H locs hw_24 hP hD hS => ?_)
                refine W.widen (k := 0) (n := 0) (by decide) (by decide) ?_
                obtain ⟨o_25, o_26, o_27, o_28, o_29⟩ := u_23
                obtain ⟨hw_24, k_30, k_31⟩ := hw_24
                have hw_24 : (o_25, o_26, o_27, o_28, o_29) = (fn_X8_insert nwf_size nwfk_a nwfv_a nwfh_a nwft_a (fn_X8_firstNotLess nwf_size nwfk_a a) a b d) := hw_24
                have k_30 : (0 ≤ o_25.toInt ∧ o_25.toInt ≤ 8) := k_30
                have k_31 : (¬ ((fn_X8_firstNotLess nwf_size nwfk_a a).toInt = nwf_size.toInt ∧ nwf_size.toInt ≤ 7) ∨ o_25.toInt = nwf_size.toInt + 1) := k_31
                rw [← hw_24] at hF
                rw [pm2_mk o_25 (o_26, o_27, o_28, o_29), pm2_mk o_26 (o_27, o_28, o_29), pm2_mk o_27 (o_28, o_29), pm2_mk o_28 o_29] at hF
                have hP : va_P D classes [(x, .inr (11, [.ref pg, .ref wr, .ref nw, .ref kp, .ref wk, .ref tr, .ref lw, .int x_rowsRead, .int x_rowOfImage, .int x_bestsDone])), (nw, .inr (2, [.ref nwf, .ref nws, .ref nwe, .int nw_asked, .int nw_looksOfAsked, .int nw_changes])), (lw, .inr (lc, [])), (nwf, .inr (8, [.ref nwfk, .ref nwfv, .ref nwfh, .ref nwft, .int o_25])), (nwfk, .inl (cy, 8, .inl o_26)), (nwfv, .inl (cy, 8, .inl o_27)), (nwfh, .inl (cy, 8, .inl o_28)), (nwft, .inl (cy, 8, .inl o_29))] H := hP
                have hD : va_D A [(x, .inr (11, [.ref pg, .ref wr, .ref nw, .ref kp, .ref wk, .ref tr, .ref lw, .int x_rowsRead, .int x_rowOfImage, .int x_bestsDone])), (nw, .inr (2, [.ref nwf, .ref nws, .ref nwe, .int nw_asked, .int nw_looksOfAsked, .int nw_changes])), (lw, .inr (lc, [])), (nwf, .inr (8, [.ref nwfk, .ref nwfv, .ref nwfh, .ref nwft, .int o_25])), (nwfk, .inl (cy, 8, .inl o_26)), (nwfv, .inl (cy, 8, .inl o_27)), (nwfh, .inl (cy, 8, .inl o_28)), (nwft, .inl (cy, 8, .inl o_29))] := hD
                refine lv_aload_n hx hb dX11_put_140 rfl (lv_at hl 3 rfl) ?_
                refine wk_vV (As := []) (rest := []) (wc := [(x, .inr (11, [.ref pg, .ref wr, .ref nw, .ref kp, .ref wk, .ref tr, .ref lw, .int x_rowsRead, .int x_rowOfImage, .int x_bestsDone])), (nw, .inr (2, [.ref nwf, .ref nws, .ref nwe, .int nw_asked, .int nw_looksOfAsked, .int nw_changes])), (nwf, .inr (8, [.ref nwfk, .ref nwfv, .ref nwfh, .ref nwft, .int o_25])), (nwfk, .inl (cy, 8, .inl o_26)), (nwfh, .inl (cy, 8, .inl o_28)), (lw, .inr (lc, []))]) (wr := [(nwfv, .inl (cy, 8, .inl o_27)), (nwft, .inl (cy, 8, .inl o_29))]) (n := 0) ⟨hx, hb, hml, hown, htb⟩ (c_X11_changeIsMade_R l D cy x pg wr nw kp wk tr lw nwf nws nwe nwfk nwfv nwfh nwft lc hlc x_rowsRead x_rowOfImage x_bestsDone nw_asked nw_looksOfAsked nw_changes o_25 o_26 o_28  (show 0 ≤ o_25.toInt ∧ o_25.toInt ≤ 8 from by omega)) tw_600 tw_597 tw_599 tw_15 tw_64 rfl rfl (by decide +kernel) ⟨Nat.le_of_ble_eq_true rfl, Nat.le_of_ble_eq_true rfl⟩ hK hP hD hS hA [0, 1, 3, 4, 6, 2] [5, 7] rfl rfl rfl rfl (by decide) 0 (ci := 11) rfl rfl rfl hl.1 rfl (Nat.le_of_ble_eq_true rfl) dX11_put_141 ⟨Nat.le_of_ble_eq_true rfl, Nat.le_of_ble_eq_true rfl⟩ (fun u_33 H locs hw_34 hP hD hS => ?_)
                refine W.widen (k := 0) (n := 0) (by decide) (by decide) ?_
                obtain ⟨o_35, o_36⟩ := u_33
                have hw_34 : (o_35, o_36) = (fn_X11_changeIsMade_R lc nw_changes o_25 o_26 o_28) := hw_34
                rw [← hw_34] at hF
                rw [pm2_mk o_35 o_36] at hF
                have hP : va_P D classes [(nwfv, .inl (cy, 8, .inl o_27)), (nwft, .inl (cy, 8, .inl o_29)), (x, .inr (11, [.ref pg, .ref wr, .ref nw, .ref kp, .ref wk, .ref tr, .ref lw, .int x_rowsRead, .int x_rowOfImage, .int x_bestsDone])), (nw, .inr (2, [.ref nwf, .ref nws, .ref nwe, .int nw_asked, .int nw_looksOfAsked, .int o_35])), (nwf, .inr (8, [.ref nwfk, .ref nwfv, .ref nwfh, .ref nwft, .int o_25])), (nwfk, .inl (cy, 8, .inl o_26)), (nwfh, .inl (cy, 8, .inl o_36)), (lw, .inr (lc, []))] H := hP
                have hD : va_D A [(nwfv, .inl (cy, 8, .inl o_27)), (nwft, .inl (cy, 8, .inl o_29)), (x, .inr (11, [.ref pg, .ref wr, .ref nw, .ref kp, .ref wk, .ref tr, .ref lw, .int x_rowsRead, .int x_rowOfImage, .int x_bestsDone])), (nw, .inr (2, [.ref nwf, .ref nws, .ref nwe, .int nw_asked, .int nw_looksOfAsked, .int o_35])), (nwf, .inr (8, [.ref nwfk, .ref nwfv, .ref nwfh, .ref nwft, .int o_25])), (nwfk, .inl (cy, 8, .inl o_26)), (nwfh, .inl (cy, 8, .inl o_36)), (lw, .inr (lc, []))] := hD
                refine lv_iload hx hb dX11_put_144 (lv_at hl 1 rfl) ?_
                refine W.widen (k := 0) (n := 0) (by decide) (by decide) ?_
                exact hret (fn_X8_firstNotLess nwf_size nwfk_a a) (o_35, o_25, o_26, o_27, o_36, o_29) _ _ _ 146 (wk_sub9 (is := [2, 3, 4, 5, 0, 6, 1, 7]) hP rfl) (hD.sub [2, 3, 4, 5, 0, 6, 1, 7] rfl rfl) hS dX11_put_146 ⟨hF.symm, (show (0 ≤ o_25.toInt ∧ o_25.toInt ≤ 8) from by omega)⟩
              · have k_20 : ¬ nwf_size.toInt < 8 := wk_nlt c_20
                replace hF := hF.trans (if_neg c_20)
                refine lv_bipush (v := (-104)) hx hb dX11_put_101 (by decide) ?_
                refine W.widen (k := 0) (n := 0) (by decide) (by decide) ?_
                exact hret (-104) (nw_changes, nwf_size, nwfk_a, nwfv_a, nwfh_a, nwft_a) _ _ _ 103 (wk_sub9 (is := [0, 1, 6, 7, 2, 3, 4, 5]) hP rfl) (hD.sub [0, 1, 6, 7, 2, 3, 4, 5] rfl rfl) hS dX11_put_103 ⟨hF.symm, (show (0 ≤ nwf_size.toInt ∧ nwf_size.toInt ≤ 8) from by omega)⟩
            · have k_18 : ¬ nwf_size.toInt ≤ (fn_X8_firstNotLess nwf_size nwfk_a a).toInt := wk_nle c_18
              replace hF := hF.trans (if_neg c_18)
              refine lv_aload hx hb dX11_put_67 (lv_at hl 1 rfl) ?_
              refine va_get (D := D) (ci := 8) (v := .ref nwfk) (C := RX8) (T := TX8) (N := 5) hx hb htb inX8 hown hK hP 6 rfl rfl 0 (by decide) (htb _ tw_118) (fun _ h9 => h9) rfl dX11_put_69 ?_
              refine lv_iload hx hb dX11_put_72 (lv_at hl 0 rfl) ?_
              refine va_iald hx hb hK hP 7 0 rfl rfl (show vp_in (fn_X8_firstNotLess nwf_size nwfk_a a) 8 from vp_in_iff.mpr (show 0 ≤ (fn_X8_firstNotLess nwf_size nwfk_a a).toInt ∧ (fn_X8_firstNotLess nwf_size nwfk_a a).toInt < ((8 : Nat) : Int) from by omega)) dX11_put_74 ?_
              refine lv_iload_n hx hb dX11_put_75 rfl (lv_at hl 3 rfl) ?_
              refine lv_icmp_ne (tgt := 83) hx hb dX11_put_76 (by decide) (fun c_37 => ?_) (fun c_37 => ?_)
              · have k_37 : ¬ (nwfk_a (fn_X8_firstNotLess nwf_size nwfk_a a).toNatClampNeg).toInt = a.toInt := wk_neq c_37
                replace hF := hF.trans (if_neg c_37)
                refine lv_iconst (v := 0) hx hb dX11_put_83 (by decide) ?_
                refine lv_istore (lv' := [(6, .int 0), (5, .int (fn_X8_firstNotLess nwf_size nwfk_a a)), (4, .ref nwf), (0, .ref x), (1, .int a), (2, .int b), (3, .int d)]) hx hb dX11_put_84 hl (by decide) rfl (fun ls hl => ?_)
                refine lv_iload hx hb dX11_put_86 (lv_at hl 0 rfl) ?_
                refine lv_if_ne (tgt := 104) hx hb dX11_put_88 (by decide) (fun c_38 => absurd (by decide) c_38) (fun _ => ?_)
                refine lv_aload hx hb dX11_put_91 (lv_at hl 2 rfl) ?_
                refine va_get (D := D) (ci := 8) (v := .int nwf_size) (C := RX8) (T := TX8) (N := 5) hx hb htb inX8 hown hK hP 6 rfl rfl 4 (by decide) (htb _ tw_134) (fun _ h9 => h9) rfl dX11_put_93 ?_
                refine lv_bipush (v := 8) hx hb dX11_put_96 (by decide) ?_
                refine lv_icmp_lt (tgt := 104) hx hb dX11_put_98 (by decide) (fun c_39 => ?_) (fun c_39 => ?_)
                · have k_39 : nwf_size.toInt < 8 := wk_lt c_39
                  replace hF := hF.trans (if_pos c_39)
                  refine lv_iload hx hb dX11_put_104 (lv_at hl 0 rfl) ?_
                  refine lv_if_eq (tgt := 130) hx hb dX11_put_106 (by decide) (fun _ => ?_) (fun c_40 => absurd (by decide) c_40)
                  refine lv_aload hx hb dX11_put_130 (lv_at hl 2 rfl) ?_
                  refine lv_iload hx hb dX11_put_132 (lv_at hl 1 rfl) ?_
                  refine lv_iload_n hx hb dX11_put_134 rfl (lv_at hl 4 rfl) ?_
                  refine lv_iload_n hx hb dX11_put_135 rfl (lv_at hl 5 rfl) ?_
                  refine lv_iload_n hx hb dX11_put_136 rfl (lv_at hl 6 rfl) ?_
                  refine wk_vV (As := [.int (fn_X8_firstNotLess nwf_size nwfk_a a), .int a, .int b, .int d]) (rest := []) (wc := [(nwf, .inr (8, [.ref nwfk, .ref nwfv, .ref nwfh, .ref nwft, .int nwf_size])), (nwfk, .inl (cy, 8, .inl nwfk_a)), (nwfv, .inl (cy, 8, .inl nwfv_a)), (nwfh, .inl (cy, 8, .inl nwfh_a)), (nwft, .inl (cy, 8, .inl nwft_a))]) (wr := [(x, .inr (11, [.ref pg, .ref wr, .ref nw, .ref kp, .ref wk, .ref tr, .ref lw, .int x_rowsRead, .int x_rowOfImage, .int x_bestsDone])), (nw, .inr (2, [.ref nwf, .ref nws, .ref nwe, .int nw_asked, .int nw_looksOfAsked, .int nw_changes])), (lw, .inr (lc, []))]) (n := 4) ⟨hx, hb, hml, hown, htb⟩ (c_X8_insert l D cy nwf nwfk nwfv nwfh nwft nwf_size nwfk_a nwfv_a nwfh_a nwft_a (fn_X8_firstNotLess nwf_size nwfk_a a) a b d (show 0 ≤ nwf_size.toInt ∧ nwf_size.toInt ≤ 8 from by omega)) tw_386 tw_596 tw_384 tw_385 tw_67 rfl rfl (by decide +kernel) ⟨Nat.le_of_ble_eq_true rfl, Nat.le_of_ble_eq_true rfl⟩ hK hP hD hS hA [6, 7, 2, 3, 4] [0, 1, 5] rfl rfl rfl rfl (by decide) 0 (ci := 8) rfl rfl rfl hl.1 rfl (Nat.le_of_ble_eq_true rfl) dX11_put_137 ⟨Nat.le_of_ble_eq_true rfl, Nat.le_of_ble_eq_true rfl⟩ (fun u_42 H locs hw_43 hP hD hS => ?_)
                  refine W.widen (k := 0) (n := 0) (by decide) (by decide) ?_
                  obtain ⟨o_44, o_45, o_46, o_47, o_48⟩ := u_42
                  obtain ⟨hw_43, k_49, k_50⟩ := hw_43
                  have hw_43 : (o_44, o_45, o_46, o_47, o_48) = (fn_X8_insert nwf_size nwfk_a nwfv_a nwfh_a nwft_a (fn_X8_firstNotLess nwf_size nwfk_a a) a b d) := hw_43
                  have k_49 : (0 ≤ o_44.toInt ∧ o_44.toInt ≤ 8) := k_49
                  have k_50 : (¬ ((fn_X8_firstNotLess nwf_size nwfk_a a).toInt = nwf_size.toInt ∧ nwf_size.toInt ≤ 7) ∨ o_44.toInt = nwf_size.toInt + 1) := k_50
                  rw [← hw_43] at hF
                  rw [pm2_mk o_44 (o_45, o_46, o_47, o_48), pm2_mk o_45 (o_46, o_47, o_48), pm2_mk o_46 (o_47, o_48), pm2_mk o_47 o_48] at hF
                  have hP : va_P D classes [(x, .inr (11, [.ref pg, .ref wr, .ref nw, .ref kp, .ref wk, .ref tr, .ref lw, .int x_rowsRead, .int x_rowOfImage, .int x_bestsDone])), (nw, .inr (2, [.ref nwf, .ref nws, .ref nwe, .int nw_asked, .int nw_looksOfAsked, .int nw_changes])), (lw, .inr (lc, [])), (nwf, .inr (8, [.ref nwfk, .ref nwfv, .ref nwfh, .ref nwft, .int o_44])), (nwfk, .inl (cy, 8, .inl o_45)), (nwfv, .inl (cy, 8, .inl o_46)), (nwfh, .inl (cy, 8, .inl o_47)), (nwft, .inl (cy, 8, .inl o_48))] H := hP
                  have hD : va_D A [(x, .inr (11, [.ref pg, .ref wr, .ref nw, .ref kp, .ref wk, .ref tr, .ref lw, .int x_rowsRead, .int x_rowOfImage, .int x_bestsDone])), (nw, .inr (2, [.ref nwf, .ref nws, .ref nwe, .int nw_asked, .int nw_looksOfAsked, .int nw_changes])), (lw, .inr (lc, [])), (nwf, .inr (8, [.ref nwfk, .ref nwfv, .ref nwfh, .ref nwft, .int o_44])), (nwfk, .inl (cy, 8, .inl o_45)), (nwfv, .inl (cy, 8, .inl o_46)), (nwfh, .inl (cy, 8, .inl o_47)), (nwft, .inl (cy, 8, .inl o_48))] := hD
                  refine lv_aload_n hx hb dX11_put_140 rfl (lv_at hl 3 rfl) ?_
                  refine wk_vV (As := []) (rest := []) (wc := [(x, .inr (11, [.ref pg, .ref wr, .ref nw, .ref kp, .ref wk, .ref tr, .ref lw, .int x_rowsRead, .int x_rowOfImage, .int x_bestsDone])), (nw, .inr (2, [.ref nwf, .ref nws, .ref nwe, .int nw_asked, .int nw_looksOfAsked, .int nw_changes])), (nwf, .inr (8, [.ref nwfk, .ref nwfv, .ref nwfh, .ref nwft, .int o_44])), (nwfk, .inl (cy, 8, .inl o_45)), (nwfh, .inl (cy, 8, .inl o_47)), (lw, .inr (lc, []))]) (wr := [(nwfv, .inl (cy, 8, .inl o_46)), (nwft, .inl (cy, 8, .inl o_48))]) (n := 0) ⟨hx, hb, hml, hown, htb⟩ (c_X11_changeIsMade_R l D cy x pg wr nw kp wk tr lw nwf nws nwe nwfk nwfv nwfh nwft lc hlc x_rowsRead x_rowOfImage x_bestsDone nw_asked nw_looksOfAsked nw_changes o_44 o_45 o_47  (show 0 ≤ o_44.toInt ∧ o_44.toInt ≤ 8 from by omega)) tw_600 tw_597 tw_599 tw_15 tw_64 rfl rfl (by decide +kernel) ⟨Nat.le_of_ble_eq_true rfl, Nat.le_of_ble_eq_true rfl⟩ hK hP hD hS hA [0, 1, 3, 4, 6, 2] [5, 7] rfl rfl rfl rfl (by decide) 0 (ci := 11) rfl rfl rfl hl.1 rfl (Nat.le_of_ble_eq_true rfl) dX11_put_141 ⟨Nat.le_of_ble_eq_true rfl, Nat.le_of_ble_eq_true rfl⟩ (fun u_52 H locs hw_53 hP hD hS => ?_)
                  refine W.widen (k := 0) (n := 0) (by decide) (by decide) ?_
                  obtain ⟨o_54, o_55⟩ := u_52
                  have hw_53 : (o_54, o_55) = (fn_X11_changeIsMade_R lc nw_changes o_44 o_45 o_47) := hw_53
                  rw [← hw_53] at hF
                  rw [pm2_mk o_54 o_55] at hF
                  have hP : va_P D classes [(nwfv, .inl (cy, 8, .inl o_46)), (nwft, .inl (cy, 8, .inl o_48)), (x, .inr (11, [.ref pg, .ref wr, .ref nw, .ref kp, .ref wk, .ref tr, .ref lw, .int x_rowsRead, .int x_rowOfImage, .int x_bestsDone])), (nw, .inr (2, [.ref nwf, .ref nws, .ref nwe, .int nw_asked, .int nw_looksOfAsked, .int o_54])), (nwf, .inr (8, [.ref nwfk, .ref nwfv, .ref nwfh, .ref nwft, .int o_44])), (nwfk, .inl (cy, 8, .inl o_45)), (nwfh, .inl (cy, 8, .inl o_55)), (lw, .inr (lc, []))] H := hP
                  have hD : va_D A [(nwfv, .inl (cy, 8, .inl o_46)), (nwft, .inl (cy, 8, .inl o_48)), (x, .inr (11, [.ref pg, .ref wr, .ref nw, .ref kp, .ref wk, .ref tr, .ref lw, .int x_rowsRead, .int x_rowOfImage, .int x_bestsDone])), (nw, .inr (2, [.ref nwf, .ref nws, .ref nwe, .int nw_asked, .int nw_looksOfAsked, .int o_54])), (nwf, .inr (8, [.ref nwfk, .ref nwfv, .ref nwfh, .ref nwft, .int o_44])), (nwfk, .inl (cy, 8, .inl o_45)), (nwfh, .inl (cy, 8, .inl o_55)), (lw, .inr (lc, []))] := hD
                  refine lv_iload hx hb dX11_put_144 (lv_at hl 1 rfl) ?_
                  refine W.widen (k := 0) (n := 0) (by decide) (by decide) ?_
                  exact hret (fn_X8_firstNotLess nwf_size nwfk_a a) (o_54, o_44, o_45, o_46, o_55, o_48) _ _ _ 146 (wk_sub9 (is := [2, 3, 4, 5, 0, 6, 1, 7]) hP rfl) (hD.sub [2, 3, 4, 5, 0, 6, 1, 7] rfl rfl) hS dX11_put_146 ⟨hF.symm, (show (0 ≤ o_44.toInt ∧ o_44.toInt ≤ 8) from by omega)⟩
                · have k_39 : ¬ nwf_size.toInt < 8 := wk_nlt c_39
                  replace hF := hF.trans (if_neg c_39)
                  refine lv_bipush (v := (-104)) hx hb dX11_put_101 (by decide) ?_
                  refine W.widen (k := 0) (n := 0) (by decide) (by decide) ?_
                  exact hret (-104) (nw_changes, nwf_size, nwfk_a, nwfv_a, nwfh_a, nwft_a) _ _ _ 103 (wk_sub9 (is := [0, 1, 6, 7, 2, 3, 4, 5]) hP rfl) (hD.sub [0, 1, 6, 7, 2, 3, 4, 5] rfl rfl) hS dX11_put_103 ⟨hF.symm, (show (0 ≤ nwf_size.toInt ∧ nwf_size.toInt ≤ 8) from by omega)⟩
              · have k_37 : (nwfk_a (fn_X8_firstNotLess nwf_size nwfk_a a).toNatClampNeg).toInt = a.toInt := wk_eq c_37
                replace hF := hF.trans (if_pos c_37)
                refine lv_iconst (v := 1) hx hb dX11_put_79 (by decide) ?_
                refine lv_goto (tgt := 84) hx hb dX11_put_80 (by decide) ?_
                refine lv_istore (lv' := [(6, .int 1), (5, .int (fn_X8_firstNotLess nwf_size nwfk_a a)), (4, .ref nwf), (0, .ref x), (1, .int a), (2, .int b), (3, .int d)]) hx hb dX11_put_84 hl (by decide) rfl (fun ls hl => ?_)
                refine lv_iload hx hb dX11_put_86 (lv_at hl 0 rfl) ?_
                refine lv_if_ne (tgt := 104) hx hb dX11_put_88 (by decide) (fun _ => ?_) (fun c_56 => absurd c_56 (by decide))
                refine lv_iload hx hb dX11_put_104 (lv_at hl 0 rfl) ?_
                refine lv_if_eq (tgt := 130) hx hb dX11_put_106 (by decide) (fun c_57 => absurd c_57 (by decide)) (fun _ => ?_)
                refine lv_aload hx hb dX11_put_109 (lv_at hl 2 rfl) ?_
                refine va_get (D := D) (ci := 8) (v := .ref nwfv) (C := RX8) (T := TX8) (N := 5) hx hb htb inX8 hown hK hP 6 rfl rfl 1 (by decide) (htb _ tw_121) (fun _ h9 => h9) rfl dX11_put_111 ?_
                refine lv_iload hx hb dX11_put_114 (lv_at hl 1 rfl) ?_
                refine lv_iload_n hx hb dX11_put_116 rfl (lv_at hl 5 rfl) ?_
                refine va_iast hx hb hK hP hD hS 2 0 rfl rfl (show vp_in (fn_X8_firstNotLess nwf_size nwfk_a a) 8 from vp_in_iff.mpr (show 0 ≤ (fn_X8_firstNotLess nwf_size nwfk_a a).toInt ∧ (fn_X8_firstNotLess nwf_size nwfk_a a).toInt < ((8 : Nat) : Int) from by omega)) dX11_put_117 (fun H locs hP hD hS => ?_)
                have hP : va_P D classes [(x, .inr (11, [.ref pg, .ref wr, .ref nw, .ref kp, .ref wk, .ref tr, .ref lw, .int x_rowsRead, .int x_rowOfImage, .int x_bestsDone])), (nw, .inr (2, [.ref nwf, .ref nws, .ref nwe, .int nw_asked, .int nw_looksOfAsked, .int nw_changes])), (nwfv, .inl (cy, 8, .inl (upd nwfv_a (fn_X8_firstNotLess nwf_size nwfk_a a).toNatClampNeg b))), (nwfh, .inl (cy, 8, .inl nwfh_a)), (nwft, .inl (cy, 8, .inl nwft_a)), (lw, .inr (lc, [])), (nwf, .inr (8, [.ref nwfk, .ref nwfv, .ref nwfh, .ref nwft, .int nwf_size])), (nwfk, .inl (cy, 8, .inl nwfk_a))] H := hP
                have hD : va_D A [(x, .inr (11, [.ref pg, .ref wr, .ref nw, .ref kp, .ref wk, .ref tr, .ref lw, .int x_rowsRead, .int x_rowOfImage, .int x_bestsDone])), (nw, .inr (2, [.ref nwf, .ref nws, .ref nwe, .int nw_asked, .int nw_looksOfAsked, .int nw_changes])), (nwfv, .inl (cy, 8, .inl (upd nwfv_a (fn_X8_firstNotLess nwf_size nwfk_a a).toNatClampNeg b))), (nwfh, .inl (cy, 8, .inl nwfh_a)), (nwft, .inl (cy, 8, .inl nwft_a)), (lw, .inr (lc, [])), (nwf, .inr (8, [.ref nwfk, .ref nwfv, .ref nwfh, .ref nwft, .int nwf_size])), (nwfk, .inl (cy, 8, .inl nwfk_a))] := hD
                refine lv_aload hx hb dX11_put_118 (lv_at hl 2 rfl) ?_
                refine va_get (D := D) (ci := 8) (v := .ref nwfh) (C := RX8) (T := TX8) (N := 5) hx hb htb inX8 hown hK hP 6 rfl rfl 2 (by decide) (htb _ tw_125) (fun _ h9 => h9) rfl dX11_put_120 ?_
                refine lv_iload hx hb dX11_put_123 (lv_at hl 1 rfl) ?_
                refine lv_iload_n hx hb dX11_put_125 rfl (lv_at hl 6 rfl) ?_
                refine va_iast hx hb hK hP hD hS 3 0 rfl rfl (show vp_in (fn_X8_firstNotLess nwf_size nwfk_a a) 8 from vp_in_iff.mpr (show 0 ≤ (fn_X8_firstNotLess nwf_size nwfk_a a).toInt ∧ (fn_X8_firstNotLess nwf_size nwfk_a a).toInt < ((8 : Nat) : Int) from by omega)) dX11_put_126 (fun H locs hP hD hS => ?_)
                have hP : va_P D classes [(x, .inr (11, [.ref pg, .ref wr, .ref nw, .ref kp, .ref wk, .ref tr, .ref lw, .int x_rowsRead, .int x_rowOfImage, .int x_bestsDone])), (nw, .inr (2, [.ref nwf, .ref nws, .ref nwe, .int nw_asked, .int nw_looksOfAsked, .int nw_changes])), (nwfv, .inl (cy, 8, .inl (upd nwfv_a (fn_X8_firstNotLess nwf_size nwfk_a a).toNatClampNeg b))), (nwfh, .inl (cy, 8, .inl (upd nwfh_a (fn_X8_firstNotLess nwf_size nwfk_a a).toNatClampNeg d))), (nwft, .inl (cy, 8, .inl nwft_a)), (lw, .inr (lc, [])), (nwf, .inr (8, [.ref nwfk, .ref nwfv, .ref nwfh, .ref nwft, .int nwf_size])), (nwfk, .inl (cy, 8, .inl nwfk_a))] H := hP
                have hD : va_D A [(x, .inr (11, [.ref pg, .ref wr, .ref nw, .ref kp, .ref wk, .ref tr, .ref lw, .int x_rowsRead, .int x_rowOfImage, .int x_bestsDone])), (nw, .inr (2, [.ref nwf, .ref nws, .ref nwe, .int nw_asked, .int nw_looksOfAsked, .int nw_changes])), (nwfv, .inl (cy, 8, .inl (upd nwfv_a (fn_X8_firstNotLess nwf_size nwfk_a a).toNatClampNeg b))), (nwfh, .inl (cy, 8, .inl (upd nwfh_a (fn_X8_firstNotLess nwf_size nwfk_a a).toNatClampNeg d))), (nwft, .inl (cy, 8, .inl nwft_a)), (lw, .inr (lc, [])), (nwf, .inr (8, [.ref nwfk, .ref nwfv, .ref nwfh, .ref nwft, .int nwf_size])), (nwfk, .inl (cy, 8, .inl nwfk_a))] := hD
                refine lv_goto (tgt := 140) hx hb dX11_put_127 (by decide) ?_
                refine lv_aload_n hx hb dX11_put_140 rfl (lv_at hl 3 rfl) ?_
                refine wk_vV (As := []) (rest := []) (wc := [(x, .inr (11, [.ref pg, .ref wr, .ref nw, .ref kp, .ref wk, .ref tr, .ref lw, .int x_rowsRead, .int x_rowOfImage, .int x_bestsDone])), (nw, .inr (2, [.ref nwf, .ref nws, .ref nwe, .int nw_asked, .int nw_looksOfAsked, .int nw_changes])), (nwf, .inr (8, [.ref nwfk, .ref nwfv, .ref nwfh, .ref nwft, .int nwf_size])), (nwfk, .inl (cy, 8, .inl nwfk_a)), (nwfh, .inl (cy, 8, .inl (upd nwfh_a (fn_X8_firstNotLess nwf_size nwfk_a a).toNatClampNeg d))), (lw, .inr (lc, []))]) (wr := [(nwfv, .inl (cy, 8, .inl (upd nwfv_a (fn_X8_firstNotLess nwf_size nwfk_a a).toNatClampNeg b))), (nwft, .inl (cy, 8, .inl nwft_a))]) (n := 0) ⟨hx, hb, hml, hown, htb⟩ (c_X11_changeIsMade_R l D cy x pg wr nw kp wk tr lw nwf nws nwe nwfk nwfv nwfh nwft lc hlc x_rowsRead x_rowOfImage x_bestsDone nw_asked nw_looksOfAsked nw_changes nwf_size nwfk_a (upd nwfh_a (fn_X8_firstNotLess nwf_size nwfk_a a).toNatClampNeg d)  (show 0 ≤ nwf_size.toInt ∧ nwf_size.toInt ≤ 8 from by omega)) tw_600 tw_597 tw_599 tw_15 tw_64 rfl rfl (by decide +kernel) ⟨Nat.le_of_ble_eq_true rfl, Nat.le_of_ble_eq_true rfl⟩ hK hP hD hS hA [0, 1, 6, 7, 3, 5] [2, 4] rfl rfl rfl rfl (by decide) 0 (ci := 11) rfl rfl rfl hl.1 rfl (Nat.le_of_ble_eq_true rfl) dX11_put_141 ⟨Nat.le_of_ble_eq_true rfl, Nat.le_of_ble_eq_true rfl⟩ (fun u_59 H locs hw_60 hP hD hS => ?_)
                refine W.widen (k := 0) (n := 0) (by decide) (by decide) ?_
                obtain ⟨o_61, o_62⟩ := u_59
                have hw_60 : (o_61, o_62) = (fn_X11_changeIsMade_R lc nw_changes nwf_size nwfk_a (upd nwfh_a (fn_X8_firstNotLess nwf_size nwfk_a a).toNatClampNeg d)) := hw_60
                rw [← hw_60] at hF
                rw [pm2_mk o_61 o_62] at hF
                have hP : va_P D classes [(nwfv, .inl (cy, 8, .inl (upd nwfv_a (fn_X8_firstNotLess nwf_size nwfk_a a).toNatClampNeg b))), (nwft, .inl (cy, 8, .inl nwft_a)), (x, .inr (11, [.ref pg, .ref wr, .ref nw, .ref kp, .ref wk, .ref tr, .ref lw, .int x_rowsRead, .int x_rowOfImage, .int x_bestsDone])), (nw, .inr (2, [.ref nwf, .ref nws, .ref nwe, .int nw_asked, .int nw_looksOfAsked, .int o_61])), (nwf, .inr (8, [.ref nwfk, .ref nwfv, .ref nwfh, .ref nwft, .int nwf_size])), (nwfk, .inl (cy, 8, .inl nwfk_a)), (nwfh, .inl (cy, 8, .inl o_62)), (lw, .inr (lc, []))] H := hP
                have hD : va_D A [(nwfv, .inl (cy, 8, .inl (upd nwfv_a (fn_X8_firstNotLess nwf_size nwfk_a a).toNatClampNeg b))), (nwft, .inl (cy, 8, .inl nwft_a)), (x, .inr (11, [.ref pg, .ref wr, .ref nw, .ref kp, .ref wk, .ref tr, .ref lw, .int x_rowsRead, .int x_rowOfImage, .int x_bestsDone])), (nw, .inr (2, [.ref nwf, .ref nws, .ref nwe, .int nw_asked, .int nw_looksOfAsked, .int o_61])), (nwf, .inr (8, [.ref nwfk, .ref nwfv, .ref nwfh, .ref nwft, .int nwf_size])), (nwfk, .inl (cy, 8, .inl nwfk_a)), (nwfh, .inl (cy, 8, .inl o_62)), (lw, .inr (lc, []))] := hD
                refine lv_iload hx hb dX11_put_144 (lv_at hl 1 rfl) ?_
                refine W.widen (k := 0) (n := 0) (by decide) (by decide) ?_
                exact hret (fn_X8_firstNotLess nwf_size nwfk_a a) (o_61, nwf_size, nwfk_a, (upd nwfv_a (fn_X8_firstNotLess nwf_size nwfk_a a).toNatClampNeg b), o_62, nwft_a) _ _ _ 146 (wk_sub9 (is := [2, 3, 4, 5, 0, 6, 1, 7]) hP rfl) (hD.sub [2, 3, 4, 5, 0, 6, 1, 7] rfl rfl) hS dX11_put_146 ⟨hF.symm, (show (0 ≤ nwf_size.toInt ∧ nwf_size.toInt ≤ 8) from by omega)⟩
          · have k_12 : ¬ d.toInt ≤ 4 := wk_nle c_12
            replace hF := hF.trans (if_neg c_12)
            refine lv_bipush (v := (-102)) hx hb dX11_put_27 (by decide) ?_
            refine W.widen (k := 0) (n := 0) (by decide) (by decide) ?_
            exact hret (-102) (nw_changes, nwf_size, nwfk_a, nwfv_a, nwfh_a, nwft_a) _ _ _ 29 (wk_sub9 (is := [0, 1, 2, 3, 4, 5, 6, 7]) hP rfl) (hD.sub [0, 1, 2, 3, 4, 5, 6, 7] rfl rfl) hS dX11_put_29 ⟨hF.symm, (show (0 ≤ nwf_size.toInt ∧ nwf_size.toInt ≤ 8) from by omega)⟩
def fn_X11_remove_N (nwf_size : Int32) (nwfk_a : Nat → Int32) (a : Int32) : Int32 := (if (fn_X11_isNoKey a) = 0 then (-103) else (-102))
theorem dX11_remove_0 : decode cX11_remove 0 = .ok (.iload_n 1, 1) := by decide +kernel
theorem dX11_remove_1 : decode cX11_remove 1 = .ok (.invokestatic 147, 3) := by decide +kernel
theorem dX11_remove_4 : decode cX11_remove 4 = .ok (.ifCond .eq 6, 3) := by decide +kernel
theorem dX11_remove_7 : decode cX11_remove 7 = .ok (.bipush (-102), 2) := by decide +kernel
theorem dX11_remove_9 : decode cX11_remove 9 = .ok (.ireturn, 1) := by decide +kernel
theorem dX11_remove_10 : decode cX11_remove 10 = .ok (.aload_n 0, 1) := by decide +kernel
theorem dX11_remove_11 : decode cX11_remove 11 = .ok (.getfield 22, 3) := by decide +kernel
theorem dX11_remove_14 : decode cX11_remove 14 = .ok (.getfield 77, 3) := by decide +kernel
theorem dX11_remove_17 : decode cX11_remove 17 = .ok (.astore_n 2, 1) := by decide +kernel
theorem dX11_remove_18 : decode cX11_remove 18 = .ok (.aload_n 2, 1) := by decide +kernel
theorem dX11_remove_19 : decode cX11_remove 19 = .ok (.iload_n 1, 1) := by decide +kernel
theorem dX11_remove_20 : decode cX11_remove 20 = .ok (.invokevirtual 185, 3) := by decide +kernel
theorem dX11_remove_23 : decode cX11_remove 23 = .ok (.istore_n 3, 1) := by decide +kernel
theorem dX11_remove_24 : decode cX11_remove 24 = .ok (.aload_n 0, 1) := by decide +kernel
theorem dX11_remove_25 : decode cX11_remove 25 = .ok (.getfield 71, 3) := by decide +kernel
theorem dX11_remove_28 : decode cX11_remove 28 = .ok (.ifnull 16, 3) := by decide +kernel
theorem dX11_remove_44 : decode cX11_remove 44 = .ok (.bipush (-103), 2) := by decide +kernel
theorem dX11_remove_46 : decode cX11_remove 46 = .ok (.ireturn, 1) := by decide +kernel
set_option maxHeartbeats 4000000 in
set_option maxRecDepth 100000 in
theorem c_X11_remove_N (l : Launch) (D : va_G) (cy : ClassId) (x pg wr nw kp wk tr nwf nws nwe nwfk nwfv nwfh nwft : Nat) (x_rowsRead : Int32) (x_rowOfImage : Int32) (x_bestsDone : Int32) (nw_asked : Int32) (nw_looksOfAsked : Int32) (nw_changes : Int32) (nwf_size : Int32) (nwfk_a : Nat → Int32) (a : Int32) (g_0 : 0 ≤ nwf_size.toInt ∧ nwf_size.toInt ≤ 8) : wk_Ci l yX11_remove cX11_remove 5 (some .int) { frames := 2, cells := 0, slots := 0, locals := 44 } D cy [.ref x, .int a] [(x, .inr (11, [.ref pg, .ref wr, .ref nw, .ref kp, .ref wk, .ref tr, .null, .int x_rowsRead, .int x_rowOfImage, .int x_bestsDone])), (nw, .inr (2, [.ref nwf, .ref nws, .ref nwe, .int nw_asked, .int nw_looksOfAsked, .int nw_changes])), (nwf, .inr (8, [.ref nwfk, .ref nwfv, .ref nwfh, .ref nwft, .int nwf_size])), (nwfk, .inl (cy, 8, .inl nwfk_a))] 0 0 (fun (r : Int32) (u : Unit) => r = (fn_X11_remove_N nwf_size nwfk_a a)) (fun u => [(x, .inr (11, [.ref pg, .ref wr, .ref nw, .ref kp, .ref wk, .ref tr, .null, .int x_rowsRead, .int x_rowOfImage, .int x_bestsDone])), (nw, .inr (2, [.ref nwf, .ref nws, .ref nwe, .int nw_asked, .int nw_looksOfAsked, .int nw_changes])), (nwf, .inr (8, [.ref nwfk, .ref nwfv, .ref nwfh, .ref nwft, .int nwf_size])), (nwfk, .inl (cy, 8, .inl nwfk_a))]) := by
  refine wk_mk2Ci (by decide) (Nat.le_of_ble_eq_true rfl) ?_
  intro p e s m args below meth c A ls Q B hA hK hP hD hS hl hret
  obtain ⟨hx, hb, hr, hlocks, hml, hown, htb, hin⟩ := B
  have hl : lv_has ls 5 [(0, .ref x), (1, .int a)] := hl
  have hF : (fn_X11_remove_N nwf_size nwfk_a a) = (fn_X11_remove_N nwf_size nwfk_a a) := rfl
  conv at hF => rhs; unfold fn_X11_remove_N
  refine lv_iload_n hx hb dX11_remove_0 rfl (lv_at hl 1 rfl) ?_
  refine wk_iS (As := [.int a]) (rest := []) (wc := []) (wr := [(x, .inr (11, [.ref pg, .ref wr, .ref nw, .ref kp, .ref wk, .ref tr, .null, .int x_rowsRead, .int x_rowOfImage, .int x_bestsDone])), (nw, .inr (2, [.ref nwf, .ref nws, .ref nwe, .int nw_asked, .int nw_looksOfAsked, .int nw_changes])), (nwf, .inr (8, [.ref nwfk, .ref nwfv, .ref nwfh, .ref nwft, .int nwf_size])), (nwfk, .inl (cy, 8, .inl nwfk_a))]) (n := 1) ⟨hx, hb, hml, hown, htb⟩ (c_X11_isNoKey l D cy   a ) tw_563 tw_561 tw_562 tw_64 rfl rfl (by decide +kernel) ⟨Nat.le_of_ble_eq_true rfl, Nat.le_of_ble_eq_true rfl⟩ hK hP hD hS hA [] [0, 1, 2, 3] rfl rfl rfl rfl (by decide) rfl hl.1 rfl (Nat.le_of_ble_eq_true rfl) dX11_remove_1 ⟨Nat.le_of_ble_eq_true rfl, Nat.le_of_ble_eq_true rfl⟩ (fun r_1 u_2 H locs hw_3 hP hD hS => ?_)
  refine W.widen (k := 0) (n := 0) (by decide) (by decide) ?_
  obtain ⟨hw_3, k_4, k_5⟩ := hw_3
  have hw_3 : r_1 = (fn_X11_isNoKey a) := hw_3
  subst hw_3
  have k_4 : ((fn_X11_isNoKey a) = 0 ∨ (fn_X11_isNoKey a) = 1) := k_4
  have k_5 : (wk_or ((fn_X11_isNoKey a).toInt = 1) (0 ≤ a.toInt ∧ a.toInt ≤ 99)) := k_5
  have k_6 : 0 ≤ (fn_X11_isNoKey a).toInt ∧ (fn_X11_isNoKey a).toInt ≤ 1 := wk_b01 (by assumption)
  have hP : va_P D classes [(x, .inr (11, [.ref pg, .ref wr, .ref nw, .ref kp, .ref wk, .ref tr, .null, .int x_rowsRead, .int x_rowOfImage, .int x_bestsDone])), (nw, .inr (2, [.ref nwf, .ref nws, .ref nwe, .int nw_asked, .int nw_looksOfAsked, .int nw_changes])), (nwf, .inr (8, [.ref nwfk, .ref nwfv, .ref nwfh, .ref nwft, .int nwf_size])), (nwfk, .inl (cy, 8, .inl nwfk_a))] H := hP
  have hD : va_D A [(x, .inr (11, [.ref pg, .ref wr, .ref nw, .ref kp, .ref wk, .ref tr, .null, .int x_rowsRead, .int x_rowOfImage, .int x_bestsDone])), (nw, .inr (2, [.ref nwf, .ref nws, .ref nwe, .int nw_asked, .int nw_looksOfAsked, .int nw_changes])), (nwf, .inr (8, [.ref nwfk, .ref nwfv, .ref nwfh, .ref nwft, .int nwf_size])), (nwfk, .inl (cy, 8, .inl nwfk_a))] := hD
  refine lv_if_eq (tgt := 10) hx hb dX11_remove_4 (by decide) (fun c_7 => ?_) (fun c_7 => ?_)
  · have k_7 : (fn_X11_isNoKey a).toInt = 0 := wk_eq c_7
    have k_8 : 0 ≤ a.toInt ∧ a.toInt ≤ 99 := wk_orR k_5 (by rw [k_7]; decide)
    replace hF := hF.trans (if_pos c_7)
    refine lv_aload_n hx hb dX11_remove_10 rfl (lv_at hl 0 rfl) ?_
    refine va_get (D := D) (ci := 11) (v := .ref nw) (C := RX11) (T := TX11) (N := 10) hx hb htb inX11 hown hK hP 0 rfl rfl 2 (by decide) (htb _ tw_254) (fun _ h9 => h9) rfl dX11_remove_11 ?_
    refine va_get (D := D) (ci := 2) (v := .ref nwf) (C := RX2) (T := TX2) (N := 6) hx hb htb inX2 hown hK hP 1 rfl rfl 0 (by decide) (htb _ tw_171) (fun _ h9 => h9) rfl dX11_remove_14 ?_
    refine lv_astore_n (lv' := [(2, .ref nwf), (0, .ref x), (1, .int a)]) hx hb dX11_remove_17 rfl hl (by decide) rfl (fun ls hl => ?_)
    refine lv_aload_n hx hb dX11_remove_18 rfl (lv_at hl 0 rfl) ?_
    refine lv_iload_n hx hb dX11_remove_19 rfl (lv_at hl 2 rfl) ?_
    refine wk_iV (As := [.int a]) (rest := []) (wc := [(nwf, .inr (8, [.ref nwfk, .ref nwfv, .ref nwfh, .ref nwft, .int nwf_size])), (nwfk, .inl (cy, 8, .inl nwfk_a))]) (wr := [(x, .inr (11, [.ref pg, .ref wr, .ref nw, .ref kp, .ref wk, .ref tr, .null, .int x_rowsRead, .int x_rowOfImage, .int x_bestsDone])), (nw, .inr (2, [.ref nwf, .ref nws, .ref nwe, .int nw_asked, .int nw_looksOfAsked, .int nw_changes]))]) (n := 1) ⟨hx, hb, hml, hown, htb⟩ (c_X8_numberOf l D cy nwf nwfk nwfv nwfh nwft nwf_size nwfk_a a (show 0 ≤ nwf_size.toInt ∧ nwf_size.toInt ≤ 8 from by omega)) tw_608 tw_605 tw_606 tw_607 tw_67 rfl rfl (by decide +kernel) ⟨Nat.le_of_ble_eq_true rfl, Nat.le_of_ble_eq_true rfl⟩ hK hP hD hS hA [2, 3] [0, 1] rfl rfl rfl rfl (by decide) 0 (ci := 8) rfl rfl rfl hl.1 rfl (Nat.le_of_ble_eq_true rfl) dX11_remove_20 ⟨Nat.le_of_ble_eq_true rfl, Nat.le_of_ble_eq_true rfl⟩ (fun r_9 u_10 H locs hw_11 hP hD hS => ?_)
    refine W.widen (k := 0) (n := 0) (by decide) (by decide) ?_
    obtain ⟨hw_11, k_12, k_13⟩ := hw_11
    have hw_11 : r_9 = (fn_X8_numberOf nwf_size nwfk_a a) := hw_11
    subst hw_11
    have k_12 : ((-1) ≤ (fn_X8_numberOf nwf_size nwfk_a a).toInt ∧ (fn_X8_numberOf nwf_size nwfk_a a).toInt ≤ 7) := k_12
    have k_13 : ((fn_X8_numberOf nwf_size nwfk_a a).toInt < nwf_size.toInt) := k_13
    have hP : va_P D classes [(x, .inr (11, [.ref pg, .ref wr, .ref nw, .ref kp, .ref wk, .ref tr, .null, .int x_rowsRead, .int x_rowOfImage, .int x_bestsDone])), (nw, .inr (2, [.ref nwf, .ref nws, .ref nwe, .int nw_asked, .int nw_looksOfAsked, .int nw_changes])), (nwf, .inr (8, [.ref nwfk, .ref nwfv, .ref nwfh, .ref nwft, .int nwf_size])), (nwfk, .inl (cy, 8, .inl nwfk_a))] H := hP
    have hD : va_D A [(x, .inr (11, [.ref pg, .ref wr, .ref nw, .ref kp, .ref wk, .ref tr, .null, .int x_rowsRead, .int x_rowOfImage, .int x_bestsDone])), (nw, .inr (2, [.ref nwf, .ref nws, .ref nwe, .int nw_asked, .int nw_looksOfAsked, .int nw_changes])), (nwf, .inr (8, [.ref nwfk, .ref nwfv, .ref nwfh, .ref nwft, .int nwf_size])), (nwfk, .inl (cy, 8, .inl nwfk_a))] := hD
    refine lv_istore_n (lv' := [(3, .int (fn_X8_numberOf nwf_size nwfk_a a)), (2, .ref nwf), (0, .ref x), (1, .int a)]) hx hb dX11_remove_23 rfl hl (by decide) rfl (fun ls hl => ?_)
    refine lv_aload_n hx hb dX11_remove_24 rfl (lv_at hl 2 rfl) ?_
    refine va_get (D := D) (ci := 11) (v := .null) (C := RX11) (T := TX11) (N := 10) hx hb htb inX11 hown hK hP 0 rfl rfl 6 (by decide) (htb _ tw_258) (fun _ h9 => h9) rfl dX11_remove_25 ?_
    refine lv_ifnullN (tgt := 44) hx hb dX11_remove_28 (by decide) ?_
    refine lv_bipush (v := (-103)) hx hb dX11_remove_44 (by decide) ?_
    refine W.widen (k := 0) (n := 0) (by decide) (by decide) ?_
    exact hret (-103) () _ _ _ 46 (wk_sub9 (is := [0, 1, 2, 3]) hP rfl) (hD.sub [0, 1, 2, 3] rfl rfl) hS dX11_remove_46 hF.symm
  · have k_7 : ¬ (fn_X11_isNoKey a).toInt = 0 := wk_neq c_7
    replace hF := hF.trans (if_neg c_7)
    refine lv_bipush (v := (-102)) hx hb dX11_remove_7 (by decide) ?_
    refine W.widen (k := 0) (n := 0) (by decide) (by decide) ?_
    exact hret (-102) () _ _ _ 9 (wk_sub9 (is := [0, 1, 2, 3]) hP rfl) (hD.sub [0, 1, 2, 3] rfl rfl) hS dX11_remove_9 hF.symm
def fn_X11_remove_R (lc : Nat) (nw_changes : Int32) (nwf_size : Int32) (nwfk_a : Nat → Int32) (nwfv_a : Nat → Int32) (nwfh_a : Nat → Int32) (nwft_a : Nat → Int32) (a : Int32) : Int32 × Int32 × Int32 × (Nat → Int32) × (Nat → Int32) × (Nat → Int32) × (Nat → Int32) := (if (fn_X11_isNoKey a) = 0 then (if (fn_X8_numberOf nwf_size nwfk_a a) = (-1) then ((-103), nw_changes, nwf_size, nwfk_a, nwfv_a, nwfh_a, nwft_a) else (if (2 : Int32) < nwf_size then (pm2 (fn_X8_takeOut nwf_size nwfk_a nwfv_a nwfh_a nwft_a (fn_X8_numberOf nwf_size nwfk_a a)) (fun o_18 t_ => (pm2 (t_) (fun o_19 t_ => (pm2 (t_) (fun o_20 t_ => (pm2 (t_) (fun o_21 o_22 => (pm2 (fn_X11_changeIsMade_R lc nw_changes o_18 o_19 o_21) (fun o_27 o_28 => ((nwfv_a (fn_X8_numberOf nwf_size nwfk_a a).toNatClampNeg), o_27, o_18, o_19, o_20, o_28, o_22))))))))))) else ((-103), nw_changes, nwf_size, nwfk_a, nwfv_a, nwfh_a, nwft_a))) else ((-102), nw_changes, nwf_size, nwfk_a, nwfv_a, nwfh_a, nwft_a))
theorem dX11_remove_31 : decode cX11_remove 31 = .ok (.iload_n 3, 1) := by decide +kernel
theorem dX11_remove_32 : decode cX11_remove 32 = .ok (.iconst (-1), 1) := by decide +kernel
theorem dX11_remove_33 : decode cX11_remove 33 = .ok (.if_icmp .eq 11, 3) := by decide +kernel
theorem dX11_remove_36 : decode cX11_remove 36 = .ok (.aload_n 2, 1) := by decide +kernel
theorem dX11_remove_37 : decode cX11_remove 37 = .ok (.getfield 91, 3) := by decide +kernel
theorem dX11_remove_40 : decode cX11_remove 40 = .ok (.iconst 2, 1) := by decide +kernel
theorem dX11_remove_41 : decode cX11_remove 41 = .ok (.if_icmp .gt 6, 3) := by decide +kernel
theorem dX11_remove_47 : decode cX11_remove 47 = .ok (.aload_n 2, 1) := by decide +kernel
theorem dX11_remove_48 : decode cX11_remove 48 = .ok (.getfield 108, 3) := by decide +kernel
theorem dX11_remove_51 : decode cX11_remove 51 = .ok (.iload_n 3, 1) := by decide +kernel
theorem dX11_remove_52 : decode cX11_remove 52 = .ok (.iaload, 1) := by decide +kernel
theorem dX11_remove_53 : decode cX11_remove 53 = .ok (.istore 4, 2) := by decide +kernel
theorem dX11_remove_55 : decode cX11_remove 55 = .ok (.aload_n 2, 1) := by decide +kernel
theorem dX11_remove_56 : decode cX11_remove 56 = .ok (.iload_n 3, 1) := by decide +kernel
theorem dX11_remove_57 : decode cX11_remove 57 = .ok (.invokevirtual 188, 3) := by decide +kernel
theorem dX11_remove_60 : decode cX11_remove 60 = .ok (.aload_n 0, 1) := by decide +kernel
theorem dX11_remove_61 : decode cX11_remove 61 = .ok (.invokevirtual 182, 3) := by decide +kernel
theorem dX11_remove_64 : decode cX11_remove 64 = .ok (.iload 4, 2) := by decide +kernel
theorem dX11_remove_66 : decode cX11_remove 66 = .ok (.ireturn, 1) := by decide +kernel
set_option maxHeartbeats 4000000 in
set_option maxRecDepth 100000 in
theorem c_X11_remove_R (l : Launch) (D : va_G) (cy : ClassId) (x pg wr nw kp wk tr lw nwf nws nwe nwfk nwfv nwfh nwft : Nat) (lc : Nat) (hlc : wk_law lc) (x_rowsRead : Int32) (x_rowOfImage : Int32) (x_bestsDone : Int32) (nw_asked : Int32) (nw_looksOfAsked : Int32) (nw_changes : Int32) (nwf_size : Int32) (nwfk_a : Nat → Int32) (nwfv_a : Nat → Int32) (nwfh_a : Nat → Int32) (nwft_a : Nat → Int32) (a : Int32) (g_0 : 0 ≤ nwf_size.toInt ∧ nwf_size.toInt ≤ 8) : wk_Ci l yX11_remove cX11_remove 5 (some .int) { frames := 4, cells := 0, slots := 0, locals := 88 } D cy [.ref x, .int a] [(x, .inr (11, [.ref pg, .ref wr, .ref nw, .ref kp, .ref wk, .ref tr, .ref lw, .int x_rowsRead, .int x_rowOfImage, .int x_bestsDone])), (nw, .inr (2, [.ref nwf, .ref nws, .ref nwe, .int nw_asked, .int nw_looksOfAsked, .int nw_changes])), (nwf, .inr (8, [.ref nwfk, .ref nwfv, .ref nwfh, .ref nwft, .int nwf_size])), (nwfk, .inl (cy, 8, .inl nwfk_a)), (nwfv, .inl (cy, 8, .inl nwfv_a)), (nwfh, .inl (cy, 8, .inl nwfh_a)), (nwft, .inl (cy, 8, .inl nwft_a)), (lw, .inr (lc, []))] 0 0 (fun (r : Int32) (u : Int32 × Int32 × (Nat → Int32) × (Nat → Int32) × (Nat → Int32) × (Nat → Int32)) => (r, u) = (fn_X11_remove_R lc nw_changes nwf_size nwfk_a nwfv_a nwfh_a nwft_a a) ∧ (0 ≤ u.2.1.toInt ∧ u.2.1.toInt ≤ 8)) (fun u => [(x, .inr (11, [.ref pg, .ref wr, .ref nw, .ref kp, .ref wk, .ref tr, .ref lw, .int x_rowsRead, .int x_rowOfImage, .int x_bestsDone])), (nw, .inr (2, [.ref nwf, .ref nws, .ref nwe, .int nw_asked, .int nw_looksOfAsked, .int u.1])), (nwf, .inr (8, [.ref nwfk, .ref nwfv, .ref nwfh, .ref nwft, .int u.2.1])), (nwfk, .inl (cy, 8, .inl u.2.2.1)), (nwfv, .inl (cy, 8, .inl u.2.2.2.1)), (nwfh, .inl (cy, 8, .inl u.2.2.2.2.1)), (nwft, .inl (cy, 8, .inl u.2.2.2.2.2)), (lw, .inr (lc, []))]) := by
  refine wk_mk2Ci (by decide) (Nat.le_of_ble_eq_true rfl) ?_
  intro p e s m args below meth c A ls Q B hA hK hP hD hS hl hret
  obtain ⟨hx, hb, hr, hlocks, hml, hown, htb, hin⟩ := B
  have hl : lv_has ls 5 [(0, .ref x), (1, .int a)] := hl
  have hF : (fn_X11_remove_R lc nw_changes nwf_size nwfk_a nwfv_a nwfh_a nwft_a a) = (fn_X11_remove_R lc nw_changes nwf_size nwfk_a nwfv_a nwfh_a nwft_a a) := rfl
  conv at hF => rhs; unfold fn_X11_remove_R
  refine lv_iload_n hx hb dX11_remove_0 rfl (lv_at hl 1 rfl) ?_
  refine wk_iS (As := [.int a]) (rest := []) (wc := []) (wr := [(x, .inr (11, [.ref pg, .ref wr, .ref nw, .ref kp, .ref wk, .ref tr, .ref lw, .int x_rowsRead, .int x_rowOfImage, .int x_bestsDone])), (nw, .inr (2, [.ref nwf, .ref nws, .ref nwe, .int nw_asked, .int nw_looksOfAsked, .int nw_changes])), (nwf, .inr (8, [.ref nwfk, .ref nwfv, .ref nwfh, .ref nwft, .int nwf_size])), (nwfk, .inl (cy, 8, .inl nwfk_a)), (nwfv, .inl (cy, 8, .inl nwfv_a)), (nwfh, .inl (cy, 8, .inl nwfh_a)), (nwft, .inl (cy, 8, .inl nwft_a)), (lw, .inr (lc, []))]) (n := 1) ⟨hx, hb, hml, hown, htb⟩ (c_X11_isNoKey l D cy   a ) tw_563 tw_561 tw_562 tw_64 rfl rfl (by decide +kernel) ⟨Nat.le_of_ble_eq_true rfl, Nat.le_of_ble_eq_true rfl⟩ hK hP hD hS hA [] [0, 1, 2, 3, 4, 5, 6, 7] rfl rfl rfl rfl (by decide) rfl hl.1 rfl (Nat.le_of_ble_eq_true rfl) dX11_remove_1 ⟨Nat.le_of_ble_eq_true rfl, Nat.le_of_ble_eq_true rfl⟩ (fun r_1 u_2 H locs hw_3 hP hD hS => ?_)
  refine W.widen (k := 0) (n := 0) (by decide) (by decide) ?_
  obtain ⟨hw_3, k_4, k_5⟩ := hw_3
  have hw_3 : r_1 = (fn_X11_isNoKey a) := hw_3
  subst hw_3
  have k_4 : ((fn_X11_isNoKey a) = 0 ∨ (fn_X11_isNoKey a) = 1) := k_4
  have k_5 : (wk_or ((fn_X11_isNoKey a).toInt = 1) (0 ≤ a.toInt ∧ a.toInt ≤ 99)) := k_5
  have k_6 : 0 ≤ (fn_X11_isNoKey a).toInt ∧ (fn_X11_isNoKey a).toInt ≤ 1 := wk_b01 (by assumption)
  have hP : va_P D classes [(x, .inr (11, [.ref pg, .ref wr, .ref nw, .ref kp, .ref wk, .ref tr, .ref lw, .int x_rowsRead, .int x_rowOfImage, .int x_bestsDone])), (nw, .inr (2, [.ref nwf, .ref nws, .ref nwe, .int nw_asked, .int nw_looksOfAsked, .int nw_changes])), (nwf, .inr (8, [.ref nwfk, .ref nwfv, .ref nwfh, .ref nwft, .int nwf_size])), (nwfk, .inl (cy, 8, .inl nwfk_a)), (nwfv, .inl (cy, 8, .inl nwfv_a)), (nwfh, .inl (cy, 8, .inl nwfh_a)), (nwft, .inl (cy, 8, .inl nwft_a)), (lw, .inr (lc, []))] H := hP
  have hD : va_D A [(x, .inr (11, [.ref pg, .ref wr, .ref nw, .ref kp, .ref wk, .ref tr, .ref lw, .int x_rowsRead, .int x_rowOfImage, .int x_bestsDone])), (nw, .inr (2, [.ref nwf, .ref nws, .ref nwe, .int nw_asked, .int nw_looksOfAsked, .int nw_changes])), (nwf, .inr (8, [.ref nwfk, .ref nwfv, .ref nwfh, .ref nwft, .int nwf_size])), (nwfk, .inl (cy, 8, .inl nwfk_a)), (nwfv, .inl (cy, 8, .inl nwfv_a)), (nwfh, .inl (cy, 8, .inl nwfh_a)), (nwft, .inl (cy, 8, .inl nwft_a)), (lw, .inr (lc, []))] := hD
  refine lv_if_eq (tgt := 10) hx hb dX11_remove_4 (by decide) (fun c_7 => ?_) (fun c_7 => ?_)
  · have k_7 : (fn_X11_isNoKey a).toInt = 0 := wk_eq c_7
    have k_8 : 0 ≤ a.toInt ∧ a.toInt ≤ 99 := wk_orR k_5 (by rw [k_7]; decide)
    replace hF := hF.trans (if_pos c_7)
    refine lv_aload_n hx hb dX11_remove_10 rfl (lv_at hl 0 rfl) ?_
    refine va_get (D := D) (ci := 11) (v := .ref nw) (C := RX11) (T := TX11) (N := 10) hx hb htb inX11 hown hK hP 0 rfl rfl 2 (by decide) (htb _ tw_254) (fun _ h9 => h9) rfl dX11_remove_11 ?_
    refine va_get (D := D) (ci := 2) (v := .ref nwf) (C := RX2) (T := TX2) (N := 6) hx hb htb inX2 hown hK hP 1 rfl rfl 0 (by decide) (htb _ tw_171) (fun _ h9 => h9) rfl dX11_remove_14 ?_
    refine lv_astore_n (lv' := [(2, .ref nwf), (0, .ref x), (1, .int a)]) hx hb dX11_remove_17 rfl hl (by decide) rfl (fun ls hl => ?_)
    refine lv_aload_n hx hb dX11_remove_18 rfl (lv_at hl 0 rfl) ?_
    refine lv_iload_n hx hb dX11_remove_19 rfl (lv_at hl 2 rfl) ?_
    refine wk_iV (As := [.int a]) (rest := []) (wc := [(nwf, .inr (8, [.ref nwfk, .ref nwfv, .ref nwfh, .ref nwft, .int nwf_size])), (nwfk, .inl (cy, 8, .inl nwfk_a))]) (wr := [(x, .inr (11, [.ref pg, .ref wr, .ref nw, .ref kp, .ref wk, .ref tr, .ref lw, .int x_rowsRead, .int x_rowOfImage, .int x_bestsDone])), (nw, .inr (2, [.ref nwf, .ref nws, .ref nwe, .int nw_asked, .int nw_looksOfAsked, .int nw_changes])), (nwfv, .inl (cy, 8, .inl nwfv_a)), (nwfh, .inl (cy, 8, .inl nwfh_a)), (nwft, .inl (cy, 8, .inl nwft_a)), (lw, .inr (lc, []))]) (n := 1) ⟨hx, hb, hml, hown, htb⟩ (c_X8_numberOf l D cy nwf nwfk nwfv nwfh nwft nwf_size nwfk_a a (show 0 ≤ nwf_size.toInt ∧ nwf_size.toInt ≤ 8 from by omega)) tw_608 tw_605 tw_606 tw_607 tw_67 rfl rfl (by decide +kernel) ⟨Nat.le_of_ble_eq_true rfl, Nat.le_of_ble_eq_true rfl⟩ hK hP hD hS hA [2, 3] [0, 1, 4, 5, 6, 7] rfl rfl rfl rfl (by decide) 0 (ci := 8) rfl rfl rfl hl.1 rfl (Nat.le_of_ble_eq_true rfl) dX11_remove_20 ⟨Nat.le_of_ble_eq_true rfl, Nat.le_of_ble_eq_true rfl⟩ (fun r_9 u_10 H locs hw_11 hP hD hS => ?_)
    refine W.widen (k := 0) (n := 0) (by decide) (by decide) ?_
    obtain ⟨hw_11, k_12, k_13⟩ := hw_11
    have hw_11 : r_9 = (fn_X8_numberOf nwf_size nwfk_a a) := hw_11
    subst hw_11
    have k_12 : ((-1) ≤ (fn_X8_numberOf nwf_size nwfk_a a).toInt ∧ (fn_X8_numberOf nwf_size nwfk_a a).toInt ≤ 7) := k_12
    have k_13 : ((fn_X8_numberOf nwf_size nwfk_a a).toInt < nwf_size.toInt) := k_13
    have hP : va_P D classes [(x, .inr (11, [.ref pg, .ref wr, .ref nw, .ref kp, .ref wk, .ref tr, .ref lw, .int x_rowsRead, .int x_rowOfImage, .int x_bestsDone])), (nw, .inr (2, [.ref nwf, .ref nws, .ref nwe, .int nw_asked, .int nw_looksOfAsked, .int nw_changes])), (nwfv, .inl (cy, 8, .inl nwfv_a)), (nwfh, .inl (cy, 8, .inl nwfh_a)), (nwft, .inl (cy, 8, .inl nwft_a)), (lw, .inr (lc, [])), (nwf, .inr (8, [.ref nwfk, .ref nwfv, .ref nwfh, .ref nwft, .int nwf_size])), (nwfk, .inl (cy, 8, .inl nwfk_a))] H := hP
    have hD : va_D A [(x, .inr (11, [.ref pg, .ref wr, .ref nw, .ref kp, .ref wk, .ref tr, .ref lw, .int x_rowsRead, .int x_rowOfImage, .int x_bestsDone])), (nw, .inr (2, [.ref nwf, .ref nws, .ref nwe, .int nw_asked, .int nw_looksOfAsked, .int nw_changes])), (nwfv, .inl (cy, 8, .inl nwfv_a)), (nwfh, .inl (cy, 8, .inl nwfh_a)), (nwft, .inl (cy, 8, .inl nwft_a)), (lw, .inr (lc, [])), (nwf, .inr (8, [.ref nwfk, .ref nwfv, .ref nwfh, .ref nwft, .int nwf_size])), (nwfk, .inl (cy, 8, .inl nwfk_a))] := hD
    refine lv_istore_n (lv' := [(3, .int (fn_X8_numberOf nwf_size nwfk_a a)), (2, .ref nwf), (0, .ref x), (1, .int a)]) hx hb dX11_remove_23 rfl hl (by decide) rfl (fun ls hl => ?_)
    refine lv_aload_n hx hb dX11_remove_24 rfl (lv_at hl 2 rfl) ?_
    refine va_get (D := D) (ci := 11) (v := .ref lw) (C := RX11) (T := TX11) (N := 10) hx hb htb inX11 hown hK hP 0 rfl rfl 6 (by decide) (htb _ tw_258) (fun _ h9 => h9) rfl dX11_remove_25 ?_
    refine lv_ifnull hx hb dX11_remove_28 ?_
    refine lv_iload_n hx hb dX11_remove_31 rfl (lv_at hl 0 rfl) ?_
    refine lv_iconst (v := (-1)) hx hb dX11_remove_32 (by decide) ?_
    refine lv_icmp_eq (tgt := 44) hx hb dX11_remove_33 (by decide) (fun c_14 => ?_) (fun c_14 => ?_)
    · have k_14 : (fn_X8_numberOf nwf_size nwfk_a a).toInt = (-1) := wk_eq c_14
      replace hF := hF.trans (if_pos c_14)
      refine lv_bipush (v := (-103)) hx hb dX11_remove_44 (by decide) ?_
      refine W.widen (k := 0) (n := 0) (by decide) (by decide) ?_
      exact hret (-103) (nw_changes, nwf_size, nwfk_a, nwfv_a, nwfh_a, nwft_a) _ _ _ 46 (wk_sub9 (is := [0, 1, 6, 7, 2, 3, 4, 5]) hP rfl) (hD.sub [0, 1, 6, 7, 2, 3, 4, 5] rfl rfl) hS dX11_remove_46 ⟨hF.symm, (show (0 ≤ nwf_size.toInt ∧ nwf_size.toInt ≤ 8) from by omega)⟩
    · have k_14 : ¬ (fn_X8_numberOf nwf_size nwfk_a a).toInt = (-1) := wk_neq c_14
      replace hF := hF.trans (if_neg c_14)
      refine lv_aload_n hx hb dX11_remove_36 rfl (lv_at hl 1 rfl) ?_
      refine va_get (D := D) (ci := 8) (v := .int nwf_size) (C := RX8) (T := TX8) (N := 5) hx hb htb inX8 hown hK hP 6 rfl rfl 4 (by decide) (htb _ tw_134) (fun _ h9 => h9) rfl dX11_remove_37 ?_
      refine lv_iconst (v := 2) hx hb dX11_remove_40 (by decide) ?_
      refine lv_icmp_gt (tgt := 47) hx hb dX11_remove_41 (by decide) (fun c_15 => ?_) (fun c_15 => ?_)
      · have k_15 : 2 < nwf_size.toInt := wk_lt c_15
        replace hF := hF.trans (if_pos c_15)
        refine lv_aload_n hx hb dX11_remove_47 rfl (lv_at hl 1 rfl) ?_
        refine va_get (D := D) (ci := 8) (v := .ref nwfv) (C := RX8) (T := TX8) (N := 5) hx hb htb inX8 hown hK hP 6 rfl rfl 1 (by decide) (htb _ tw_121) (fun _ h9 => h9) rfl dX11_remove_48 ?_
        refine lv_iload_n hx hb dX11_remove_51 rfl (lv_at hl 0 rfl) ?_
        refine va_iald hx hb hK hP 2 0 rfl rfl (show vp_in (fn_X8_numberOf nwf_size nwfk_a a) 8 from vp_in_iff.mpr (show 0 ≤ (fn_X8_numberOf nwf_size nwfk_a a).toInt ∧ (fn_X8_numberOf nwf_size nwfk_a a).toInt < ((8 : Nat) : Int) from by omega)) dX11_remove_52 ?_
        refine lv_istore (lv' := [(4, .int (nwfv_a (fn_X8_numberOf nwf_size nwfk_a a).toNatClampNeg)), (3, .int (fn_X8_numberOf nwf_size nwfk_a a)), (2, .ref nwf), (0, .ref x), (1, .int a)]) hx hb dX11_remove_53 hl (by decide) rfl (fun ls hl => ?_)
        refine lv_aload_n hx hb dX11_remove_55 rfl (lv_at hl 2 rfl) ?_
        refine lv_iload_n hx hb dX11_remove_56 rfl (lv_at hl 1 rfl) ?_
        refine wk_vV (As := [.int (fn_X8_numberOf nwf_size nwfk_a a)]) (rest := []) (wc := [(nwf, .inr (8, [.ref nwfk, .ref nwfv, .ref nwfh, .ref nwft, .int nwf_size])), (nwfk, .inl (cy, 8, .inl nwfk_a)), (nwfv, .inl (cy, 8, .inl nwfv_a)), (nwfh, .inl (cy, 8, .inl nwfh_a)), (nwft, .inl (cy, 8, .inl nwft_a))]) (wr := [(x, .inr (11, [.ref pg, .ref wr, .ref nw, .ref kp, .ref wk, .ref tr, .ref lw, .int x_rowsRead, .int x_rowOfImage, .int x_bestsDone])), (nw, .inr (2, [.ref nwf, .ref nws, .ref nwe, .int nw_asked, .int nw_looksOfAsked, .int nw_changes])), (lw, .inr (lc, []))]) (n := 1) ⟨hx, hb, hml, hown, htb⟩ (c_X8_takeOut l D cy nwf nwfk nwfv nwfh nwft nwf_size nwfk_a nwfv_a nwfh_a nwft_a (fn_X8_numberOf nwf_size nwfk_a a) (show 0 ≤ nwf_size.toInt ∧ nwf_size.toInt ≤ 8 from by omega) (show 0 ≤ (fn_X8_numberOf nwf_size nwfk_a a).toInt ∧ (fn_X8_numberOf nwf_size nwfk_a a).toInt ≤ 7 from by omega) (show 1 ≤ nwf_size.toInt from by omega)) tw_613 tw_610 tw_611 tw_612 tw_67 rfl rfl (by decide +kernel) ⟨Nat.le_of_ble_eq_true rfl, Nat.le_of_ble_eq_true rfl⟩ hK hP hD hS hA [6, 7, 2, 3, 4] [0, 1, 5] rfl rfl rfl rfl (by decide) 0 (ci := 8) rfl rfl rfl hl.1 rfl (Nat.le_of_ble_eq_true rfl) dX11_remove_57 ⟨Nat.le_of_ble_eq_true rfl, Nat.le_of_ble_eq_true rfl⟩ (fun u_17 H locs hw_18 hP hD hS => ?_)
        refine W.widen (k := 0) (n := 0) (by decide) (by decide) ?_
        obtain ⟨o_19, o_20, o_21, o_22, o_23⟩ := u_17
        obtain ⟨hw_18, k_24⟩ := hw_18
        have hw_18 : (o_19, o_20, o_21, o_22, o_23) = (fn_X8_takeOut nwf_size nwfk_a nwfv_a nwfh_a nwft_a (fn_X8_numberOf nwf_size nwfk_a a)) := hw_18
        have k_24 : (0 ≤ o_19.toInt ∧ o_19.toInt ≤ 8) := k_24
        rw [← hw_18] at hF
        rw [pm2_mk o_19 (o_20, o_21, o_22, o_23), pm2_mk o_20 (o_21, o_22, o_23), pm2_mk o_21 (o_22, o_23), pm2_mk o_22 o_23] at hF
        have hP : va_P D classes [(x, .inr (11, [.ref pg, .ref wr, .ref nw, .ref kp, .ref wk, .ref tr, .ref lw, .int x_rowsRead, .int x_rowOfImage, .int x_bestsDone])), (nw, .inr (2, [.ref nwf, .ref nws, .ref nwe, .int nw_asked, .int nw_looksOfAsked, .int nw_changes])), (lw, .inr (lc, [])), (nwf, .inr (8, [.ref nwfk, .ref nwfv, .ref nwfh, .ref nwft, .int o_19])), (nwfk, .inl (cy, 8, .inl o_20)), (nwfv, .inl (cy, 8, .inl o_21)), (nwfh, .inl (cy, 8, .inl o_22)), (nwft, .inl (cy, 8, .inl o_23))] H := hP
        have hD : va_D A [(x, .inr (11, [.ref pg, .ref wr, .ref nw, .ref kp, .ref wk, .ref tr, .ref lw, .int x_rowsRead, .int x_rowOfImage, .int x_bestsDone])), (nw, .inr (2, [.ref nwf, .ref nws, .ref nwe, .int nw_asked, .int nw_looksOfAsked, .int nw_changes])), (lw, .inr (lc, [])), (nwf, .inr (8, [.ref nwfk, .ref nwfv, .ref nwfh, .ref nwft, .int o_19])), (nwfk, .inl (cy, 8, .inl o_20)), (nwfv, .inl (cy, 8, .inl o_21)), (nwfh, .inl (cy, 8, .inl o_22)), (nwft, .inl (cy, 8, .inl o_23))] := hD
        refine lv_aload_n hx hb dX11_remove_60 rfl (lv_at hl 3 rfl) ?_
        refine wk_vV (As := []) (rest := []) (wc := [(x, .inr (11, [.ref pg, .ref wr, .ref nw, .ref kp, .ref wk, .ref tr, .ref lw, .int x_rowsRead, .int x_rowOfImage, .int x_bestsDone])), (nw, .inr (2, [.ref nwf, .ref nws, .ref nwe, .int nw_asked, .int nw_looksOfAsked, .int nw_changes])), (nwf, .inr (8, [.ref nwfk, .ref nwfv, .ref nwfh, .ref nwft, .int o_19])), (nwfk, .inl (cy, 8, .inl o_20)), (nwfh, .inl (cy, 8, .inl o_22)), (lw, .inr (lc, []))]) (wr := [(nwfv, .inl (cy, 8, .inl o_21)), (nwft, .inl (cy, 8, .inl o_23))]) (n := 0) ⟨hx, hb, hml, hown, htb⟩ (c_X11_changeIsMade_R l D cy x pg wr nw kp wk tr lw nwf nws nwe nwfk nwfv nwfh nwft lc hlc x_rowsRead x_rowOfImage x_bestsDone nw_asked nw_looksOfAsked nw_changes o_19 o_20 o_22  (show 0 ≤ o_19.toInt ∧ o_19.toInt ≤ 8 from by omega)) tw_600 tw_597 tw_599 tw_15 tw_64 rfl rfl (by decide +kernel) ⟨Nat.le_of_ble_eq_true rfl, Nat.le_of_ble_eq_true rfl⟩ hK hP hD hS hA [0, 1, 3, 4, 6, 2] [5, 7] rfl rfl rfl rfl (by decide) 0 (ci := 11) rfl rfl rfl hl.1 rfl (Nat.le_of_ble_eq_true rfl) dX11_remove_61 ⟨Nat.le_of_ble_eq_true rfl, Nat.le_of_ble_eq_true rfl⟩ (fun u_26 H locs hw_27 hP hD hS => ?_)
        refine W.widen (k := 0) (n := 0) (by decide) (by decide) ?_
        obtain ⟨o_28, o_29⟩ := u_26
        have hw_27 : (o_28, o_29) = (fn_X11_changeIsMade_R lc nw_changes o_19 o_20 o_22) := hw_27
        rw [← hw_27] at hF
        rw [pm2_mk o_28 o_29] at hF
        have hP : va_P D classes [(nwfv, .inl (cy, 8, .inl o_21)), (nwft, .inl (cy, 8, .inl o_23)), (x, .inr (11, [.ref pg, .ref wr, .ref nw, .ref kp, .ref wk, .ref tr, .ref lw, .int x_rowsRead, .int x_rowOfImage, .int x_bestsDone])), (nw, .inr (2, [.ref nwf, .ref nws, .ref nwe, .int nw_asked, .int nw_looksOfAsked, .int o_28])), (nwf, .inr (8, [.ref nwfk, .ref nwfv, .ref nwfh, .ref nwft, .int o_19])), (nwfk, .inl (cy, 8, .inl o_20)), (nwfh, .inl (cy, 8, .inl o_29)), (lw, .inr (lc, []))] H := hP
        have hD : va_D A [(nwfv, .inl (cy, 8, .inl o_21)), (nwft, .inl (cy, 8, .inl o_23)), (x, .inr (11, [.ref pg, .ref wr, .ref nw, .ref kp, .ref wk, .ref tr, .ref lw, .int x_rowsRead, .int x_rowOfImage, .int x_bestsDone])), (nw, .inr (2, [.ref nwf, .ref nws, .ref nwe, .int nw_asked, .int nw_looksOfAsked, .int o_28])), (nwf, .inr (8, [.ref nwfk, .ref nwfv, .ref nwfh, .ref nwft, .int o_19])), (nwfk, .inl (cy, 8, .inl o_20)), (nwfh, .inl (cy, 8, .inl o_29)), (lw, .inr (lc, []))] := hD
        refine lv_iload hx hb dX11_remove_64 (lv_at hl 0 rfl) ?_
        refine W.widen (k := 0) (n := 0) (by decide) (by decide) ?_
        exact hret (nwfv_a (fn_X8_numberOf nwf_size nwfk_a a).toNatClampNeg) (o_28, o_19, o_20, o_21, o_29, o_23) _ _ _ 66 (wk_sub9 (is := [2, 3, 4, 5, 0, 6, 1, 7]) hP rfl) (hD.sub [2, 3, 4, 5, 0, 6, 1, 7] rfl rfl) hS dX11_remove_66 ⟨hF.symm, (show (0 ≤ o_19.toInt ∧ o_19.toInt ≤ 8) from by omega)⟩
      · have k_15 : ¬ 2 < nwf_size.toInt := wk_nlt c_15
        replace hF := hF.trans (if_neg c_15)
        refine lv_bipush (v := (-103)) hx hb dX11_remove_44 (by decide) ?_
        refine W.widen (k := 0) (n := 0) (by decide) (by decide) ?_
        exact hret (-103) (nw_changes, nwf_size, nwfk_a, nwfv_a, nwfh_a, nwft_a) _ _ _ 46 (wk_sub9 (is := [0, 1, 6, 7, 2, 3, 4, 5]) hP rfl) (hD.sub [0, 1, 6, 7, 2, 3, 4, 5] rfl rfl) hS dX11_remove_46 ⟨hF.symm, (show (0 ≤ nwf_size.toInt ∧ nwf_size.toInt ≤ 8) from by omega)⟩
  · have k_7 : ¬ (fn_X11_isNoKey a).toInt = 0 := wk_neq c_7
    replace hF := hF.trans (if_neg c_7)
    refine lv_bipush (v := (-102)) hx hb dX11_remove_7 (by decide) ?_
    refine W.widen (k := 0) (n := 0) (by decide) (by decide) ?_
    exact hret (-102) (nw_changes, nwf_size, nwfk_a, nwfv_a, nwfh_a, nwft_a) _ _ _ 9 (wk_sub9 (is := [0, 1, 2, 3, 4, 5, 6, 7]) hP rfl) (hD.sub [0, 1, 2, 3, 4, 5, 6, 7] rfl rfl) hS dX11_remove_9 ⟨hF.symm, (show (0 ≤ nwf_size.toInt ∧ nwf_size.toInt ≤ 8) from by omega)⟩
def fn_X11_split_N (nwf_size : Int32) (nwfk_a : Nat → Int32) (a : Int32) : Int32 := (if (fn_X11_isNoKey a) = 0 then (-103) else (-102))
theorem dX11_split_0 : decode cX11_split 0 = .ok (.iload_n 1, 1) := by decide +kernel
theorem dX11_split_1 : decode cX11_split 1 = .ok (.invokestatic 147, 3) := by decide +kernel
theorem dX11_split_4 : decode cX11_split 4 = .ok (.ifCond .eq 6, 3) := by decide +kernel
theorem dX11_split_7 : decode cX11_split 7 = .ok (.bipush (-102), 2) := by decide +kernel
theorem dX11_split_9 : decode cX11_split 9 = .ok (.ireturn, 1) := by decide +kernel
theorem dX11_split_10 : decode cX11_split 10 = .ok (.aload_n 0, 1) := by decide +kernel
theorem dX11_split_11 : decode cX11_split 11 = .ok (.getfield 22, 3) := by decide +kernel
theorem dX11_split_14 : decode cX11_split 14 = .ok (.getfield 77, 3) := by decide +kernel
theorem dX11_split_17 : decode cX11_split 17 = .ok (.astore_n 2, 1) := by decide +kernel
theorem dX11_split_18 : decode cX11_split 18 = .ok (.aload_n 2, 1) := by decide +kernel
theorem dX11_split_19 : decode cX11_split 19 = .ok (.iload_n 1, 1) := by decide +kernel
theorem dX11_split_20 : decode cX11_split 20 = .ok (.invokevirtual 175, 3) := by decide +kernel
theorem dX11_split_23 : decode cX11_split 23 = .ok (.istore_n 3, 1) := by decide +kernel
theorem dX11_split_24 : decode cX11_split 24 = .ok (.aload_n 0, 1) := by decide +kernel
theorem dX11_split_25 : decode cX11_split 25 = .ok (.getfield 71, 3) := by decide +kernel
theorem dX11_split_28 : decode cX11_split 28 = .ok (.ifnull 29, 3) := by decide +kernel
theorem dX11_split_57 : decode cX11_split 57 = .ok (.bipush (-103), 2) := by decide +kernel
theorem dX11_split_59 : decode cX11_split 59 = .ok (.ireturn, 1) := by decide +kernel
set_option maxHeartbeats 4000000 in
set_option maxRecDepth 100000 in
theorem c_X11_split_N (l : Launch) (D : va_G) (cy : ClassId) (x pg wr nw kp wk tr nwf nws nwe nwfk nwfv nwfh nwft : Nat) (x_rowsRead : Int32) (x_rowOfImage : Int32) (x_bestsDone : Int32) (nw_asked : Int32) (nw_looksOfAsked : Int32) (nw_changes : Int32) (nwf_size : Int32) (nwfk_a : Nat → Int32) (a : Int32) (g_0 : 0 ≤ nwf_size.toInt ∧ nwf_size.toInt ≤ 8) : wk_Ci l yX11_split cX11_split 4 (some .int) { frames := 1, cells := 0, slots := 0, locals := 22 } D cy [.ref x, .int a] [(x, .inr (11, [.ref pg, .ref wr, .ref nw, .ref kp, .ref wk, .ref tr, .null, .int x_rowsRead, .int x_rowOfImage, .int x_bestsDone])), (nw, .inr (2, [.ref nwf, .ref nws, .ref nwe, .int nw_asked, .int nw_looksOfAsked, .int nw_changes])), (nwf, .inr (8, [.ref nwfk, .ref nwfv, .ref nwfh, .ref nwft, .int nwf_size])), (nwfk, .inl (cy, 8, .inl nwfk_a))] 0 0 (fun (r : Int32) (u : Unit) => r = (fn_X11_split_N nwf_size nwfk_a a)) (fun u => [(x, .inr (11, [.ref pg, .ref wr, .ref nw, .ref kp, .ref wk, .ref tr, .null, .int x_rowsRead, .int x_rowOfImage, .int x_bestsDone])), (nw, .inr (2, [.ref nwf, .ref nws, .ref nwe, .int nw_asked, .int nw_looksOfAsked, .int nw_changes])), (nwf, .inr (8, [.ref nwfk, .ref nwfv, .ref nwfh, .ref nwft, .int nwf_size])), (nwfk, .inl (cy, 8, .inl nwfk_a))]) := by
  refine wk_mk2Ci (by decide) (Nat.le_of_ble_eq_true rfl) ?_
  intro p e s m args below meth c A ls Q B hA hK hP hD hS hl hret
  obtain ⟨hx, hb, hr, hlocks, hml, hown, htb, hin⟩ := B
  have hl : lv_has ls 4 [(0, .ref x), (1, .int a)] := hl
  have hF : (fn_X11_split_N nwf_size nwfk_a a) = (fn_X11_split_N nwf_size nwfk_a a) := rfl
  conv at hF => rhs; unfold fn_X11_split_N
  refine lv_iload_n hx hb dX11_split_0 rfl (lv_at hl 1 rfl) ?_
  refine wk_iS (As := [.int a]) (rest := []) (wc := []) (wr := [(x, .inr (11, [.ref pg, .ref wr, .ref nw, .ref kp, .ref wk, .ref tr, .null, .int x_rowsRead, .int x_rowOfImage, .int x_bestsDone])), (nw, .inr (2, [.ref nwf, .ref nws, .ref nwe, .int nw_asked, .int nw_looksOfAsked, .int nw_changes])), (nwf, .inr (8, [.ref nwfk, .ref nwfv, .ref nwfh, .ref nwft, .int nwf_size])), (nwfk, .inl (cy, 8, .inl nwfk_a))]) (n := 1) ⟨hx, hb, hml, hown, htb⟩ (c_X11_isNoKey l D cy   a ) tw_563 tw_561 tw_562 tw_64 rfl rfl (by decide +kernel) ⟨Nat.le_of_ble_eq_true rfl, Nat.le_of_ble_eq_true rfl⟩ hK hP hD hS hA [] [0, 1, 2, 3] rfl rfl rfl rfl (by decide) rfl hl.1 rfl (Nat.le_of_ble_eq_true rfl) dX11_split_1 ⟨Nat.le_of_ble_eq_true rfl, Nat.le_of_ble_eq_true rfl⟩ (fun r_1 u_2 H locs hw_3 hP hD hS => ?_)
  refine W.widen (k := 0) (n := 0) (by decide) (by decide) ?_
  obtain ⟨hw_3, k_4, k_5⟩ := hw_3
  have hw_3 : r_1 = (fn_X11_isNoKey a) := hw_3
  subst hw_3
  have k_4 : ((fn_X11_isNoKey a) = 0 ∨ (fn_X11_isNoKey a) = 1) := k_4
  have k_5 : (wk_or ((fn_X11_isNoKey a).toInt = 1) (0 ≤ a.toInt ∧ a.toInt ≤ 99)) := k_5
  have k_6 : 0 ≤ (fn_X11_isNoKey a).toInt ∧ (fn_X11_isNoKey a).toInt ≤ 1 := wk_b01 (by assumption)
  have hP : va_P D classes [(x, .inr (11, [.ref pg, .ref wr, .ref nw, .ref kp, .ref wk, .ref tr, .null, .int x_rowsRead, .int x_rowOfImage, .int x_bestsDone])), (nw, .inr (2, [.ref nwf, .ref nws, .ref nwe, .int nw_asked, .int nw_looksOfAsked, .int nw_changes])), (nwf, .inr (8, [.ref nwfk, .ref nwfv, .ref nwfh, .ref nwft, .int nwf_size])), (nwfk, .inl (cy, 8, .inl nwfk_a))] H := hP
  have hD : va_D A [(x, .inr (11, [.ref pg, .ref wr, .ref nw, .ref kp, .ref wk, .ref tr, .null, .int x_rowsRead, .int x_rowOfImage, .int x_bestsDone])), (nw, .inr (2, [.ref nwf, .ref nws, .ref nwe, .int nw_asked, .int nw_looksOfAsked, .int nw_changes])), (nwf, .inr (8, [.ref nwfk, .ref nwfv, .ref nwfh, .ref nwft, .int nwf_size])), (nwfk, .inl (cy, 8, .inl nwfk_a))] := hD
  refine lv_if_eq (tgt := 10) hx hb dX11_split_4 (by decide) (fun c_7 => ?_) (fun c_7 => ?_)
  · have k_7 : (fn_X11_isNoKey a).toInt = 0 := wk_eq c_7
    have k_8 : 0 ≤ a.toInt ∧ a.toInt ≤ 99 := wk_orR k_5 (by rw [k_7]; decide)
    replace hF := hF.trans (if_pos c_7)
    refine lv_aload_n hx hb dX11_split_10 rfl (lv_at hl 0 rfl) ?_
    refine va_get (D := D) (ci := 11) (v := .ref nw) (C := RX11) (T := TX11) (N := 10) hx hb htb inX11 hown hK hP 0 rfl rfl 2 (by decide) (htb _ tw_254) (fun _ h9 => h9) rfl dX11_split_11 ?_
    refine va_get (D := D) (ci := 2) (v := .ref nwf) (C := RX2) (T := TX2) (N := 6) hx hb htb inX2 hown hK hP 1 rfl rfl 0 (by decide) (htb _ tw_171) (fun _ h9 => h9) rfl dX11_split_14 ?_
    refine lv_astore_n (lv' := [(2, .ref nwf), (0, .ref x), (1, .int a)]) hx hb dX11_split_17 rfl hl (by decide) rfl (fun ls hl => ?_)
    refine lv_aload_n hx hb dX11_split_18 rfl (lv_at hl 0 rfl) ?_
    refine lv_iload_n hx hb dX11_split_19 rfl (lv_at hl 2 rfl) ?_
    refine wk_iV (As := [.int a]) (rest := []) (wc := [(nwf, .inr (8, [.ref nwfk, .ref nwfv, .ref nwfh, .ref nwft, .int nwf_size])), (nwfk, .inl (cy, 8, .inl nwfk_a))]) (wr := [(x, .inr (11, [.ref pg, .ref wr, .ref nw, .ref kp, .ref wk, .ref tr, .null, .int x_rowsRead, .int x_rowOfImage, .int x_bestsDone])), (nw, .inr (2, [.ref nwf, .ref nws, .ref nwe, .int nw_asked, .int nw_looksOfAsked, .int nw_changes]))]) (n := 1) ⟨hx, hb, hml, hown, htb⟩ (c_X8_firstNotLess l D cy nwf nwfk nwfv nwfh nwft nwf_size nwfk_a a (show 0 ≤ nwf_size.toInt ∧ nwf_size.toInt ≤ 8 from by omega)) tw_595 tw_592 tw_593 tw_594 tw_67 rfl rfl (by decide +kernel) ⟨Nat.le_of_ble_eq_true rfl, Nat.le_of_ble_eq_true rfl⟩ hK hP hD hS hA [2, 3] [0, 1] rfl rfl rfl rfl (by decide) 0 (ci := 8) rfl rfl rfl hl.1 rfl (Nat.le_of_ble_eq_true rfl) dX11_split_20 ⟨Nat.le_of_ble_eq_true rfl, Nat.le_of_ble_eq_true rfl⟩ (fun r_9 u_10 H locs hw_11 hP hD hS => ?_)
    refine W.widen (k := 0) (n := 0) (by decide) (by decide) ?_
    obtain ⟨hw_11, k_12, k_13⟩ := hw_11
    have hw_11 : r_9 = (fn_X8_firstNotLess nwf_size nwfk_a a) := hw_11
    subst hw_11
    have k_12 : (0 ≤ (fn_X8_firstNotLess nwf_size nwfk_a a).toInt ∧ (fn_X8_firstNotLess nwf_size nwfk_a a).toInt ≤ 8) := k_12
    have k_13 : ((fn_X8_firstNotLess nwf_size nwfk_a a).toInt ≤ nwf_size.toInt) := k_13
    have hP : va_P D classes [(x, .inr (11, [.ref pg, .ref wr, .ref nw, .ref kp, .ref wk, .ref tr, .null, .int x_rowsRead, .int x_rowOfImage, .int x_bestsDone])), (nw, .inr (2, [.ref nwf, .ref nws, .ref nwe, .int nw_asked, .int nw_looksOfAsked, .int nw_changes])), (nwf, .inr (8, [.ref nwfk, .ref nwfv, .ref nwfh, .ref nwft, .int nwf_size])), (nwfk, .inl (cy, 8, .inl nwfk_a))] H := hP
    have hD : va_D A [(x, .inr (11, [.ref pg, .ref wr, .ref nw, .ref kp, .ref wk, .ref tr, .null, .int x_rowsRead, .int x_rowOfImage, .int x_bestsDone])), (nw, .inr (2, [.ref nwf, .ref nws, .ref nwe, .int nw_asked, .int nw_looksOfAsked, .int nw_changes])), (nwf, .inr (8, [.ref nwfk, .ref nwfv, .ref nwfh, .ref nwft, .int nwf_size])), (nwfk, .inl (cy, 8, .inl nwfk_a))] := hD
    refine lv_istore_n (lv' := [(3, .int (fn_X8_firstNotLess nwf_size nwfk_a a)), (2, .ref nwf), (0, .ref x), (1, .int a)]) hx hb dX11_split_23 rfl hl (by decide) rfl (fun ls hl => ?_)
    refine lv_aload_n hx hb dX11_split_24 rfl (lv_at hl 2 rfl) ?_
    refine va_get (D := D) (ci := 11) (v := .null) (C := RX11) (T := TX11) (N := 10) hx hb htb inX11 hown hK hP 0 rfl rfl 6 (by decide) (htb _ tw_258) (fun _ h9 => h9) rfl dX11_split_25 ?_
    refine lv_ifnullN (tgt := 57) hx hb dX11_split_28 (by decide) ?_
    refine lv_bipush (v := (-103)) hx hb dX11_split_57 (by decide) ?_
    refine W.widen (k := 0) (n := 0) (by decide) (by decide) ?_
    exact hret (-103) () _ _ _ 59 (wk_sub9 (is := [0, 1, 2, 3]) hP rfl) (hD.sub [0, 1, 2, 3] rfl rfl) hS dX11_split_59 hF.symm
  · have k_7 : ¬ (fn_X11_isNoKey a).toInt = 0 := wk_neq c_7
    replace hF := hF.trans (if_neg c_7)
    refine lv_bipush (v := (-102)) hx hb dX11_split_7 (by decide) ?_
    refine W.widen (k := 0) (n := 0) (by decide) (by decide) ?_
    exact hret (-102) () _ _ _ 9 (wk_sub9 (is := [0, 1, 2, 3]) hP rfl) (hD.sub [0, 1, 2, 3] rfl rfl) hS dX11_split_9 hF.symm
def fn_X11_split_R (lc : Nat) (nw_changes : Int32) (nwf_size : Int32) (nwfk_a : Nat → Int32) (nwfv_a : Nat → Int32) (nwfh_a : Nat → Int32) (nwft_a : Nat → Int32) (nws_size : Int32) (nwsk_a : Nat → Int32) (nwsv_a : Nat → Int32) (nwsh_a : Nat → Int32) (nwst_a : Nat → Int32) (a : Int32) : Int32 × Int32 × Int32 × (Nat → Int32) × Int32 × (Nat → Int32) × (Nat → Int32) × (Nat → Int32) × (Nat → Int32) := (if (fn_X11_isNoKey a) = 0 then (if (0 : Int32) < nws_size then ((-103), nw_changes, nwf_size, nwfh_a, nws_size, nwsk_a, nwsv_a, nwsh_a, nwst_a) else (if (fn_X8_firstNotLess nwf_size nwfk_a a) < 2 then ((-103), nw_changes, nwf_size, nwfh_a, nws_size, nwsk_a, nwsv_a, nwsh_a, nwst_a) else (if (fn_X8_firstNotLess nwf_size nwfk_a a) < nwf_size then (pm2 (fn_X8_append nws_size nwsk_a nwsv_a nwsh_a nwst_a nwf_size nwfk_a nwfv_a nwfh_a nwft_a (fn_X8_firstNotLess nwf_size nwfk_a a)) (fun o_19 t_ => (pm2 (t_) (fun o_20 t_ => (pm2 (t_) (fun o_21 t_ => (pm2 (t_) (fun o_22 o_23 => (pm2 (fn_X11_changeIsMade_R lc nw_changes (fn_X8_firstNotLess nwf_size nwfk_a a) nwfk_a nwfh_a) (fun o_28 o_29 => (o_19, o_28, (fn_X8_firstNotLess nwf_size nwfk_a a), o_29, o_19, o_20, o_21, o_22, o_23))))))))))) else ((-103), nw_changes, nwf_size, nwfh_a, nws_size, nwsk_a, nwsv_a, nwsh_a, nwst_a)))) else ((-102), nw_changes, nwf_size, nwfh_a, nws_size, nwsk_a, nwsv_a, nwsh_a, nwst_a))
theorem dX11_split_31 : decode cX11_split 31 = .ok (.aload_n 0, 1) := by decide +kernel
theorem dX11_split_32 : decode cX11_split 32 = .ok (.getfield 22, 3) := by decide +kernel
theorem dX11_split_35 : decode cX11_split 35 = .ok (.getfield 192, 3) := by decide +kernel
theorem dX11_split_38 : decode cX11_split 38 = .ok (.getfield 91, 3) := by decide +kernel
theorem dX11_split_41 : decode cX11_split 41 = .ok (.ifCond .gt 16, 3) := by decide +kernel
theorem dX11_split_44 : decode cX11_split 44 = .ok (.iload_n 3, 1) := by decide +kernel
theorem dX11_split_45 : decode cX11_split 45 = .ok (.iconst 2, 1) := by decide +kernel
theorem dX11_split_46 : decode cX11_split 46 = .ok (.if_icmp .lt 11, 3) := by decide +kernel
theorem dX11_split_49 : decode cX11_split 49 = .ok (.iload_n 3, 1) := by decide +kernel
theorem dX11_split_50 : decode cX11_split 50 = .ok (.aload_n 2, 1) := by decide +kernel
theorem dX11_split_51 : decode cX11_split 51 = .ok (.getfield 91, 3) := by decide +kernel
theorem dX11_split_54 : decode cX11_split 54 = .ok (.if_icmp .lt 6, 3) := by decide +kernel
theorem dX11_split_60 : decode cX11_split 60 = .ok (.aload_n 0, 1) := by decide +kernel
theorem dX11_split_61 : decode cX11_split 61 = .ok (.getfield 22, 3) := by decide +kernel
theorem dX11_split_64 : decode cX11_split 64 = .ok (.getfield 192, 3) := by decide +kernel
theorem dX11_split_67 : decode cX11_split 67 = .ok (.aload_n 2, 1) := by decide +kernel
theorem dX11_split_68 : decode cX11_split 68 = .ok (.iload_n 3, 1) := by decide +kernel
theorem dX11_split_69 : decode cX11_split 69 = .ok (.invokevirtual 195, 3) := by decide +kernel
theorem dX11_split_72 : decode cX11_split 72 = .ok (.aload_n 2, 1) := by decide +kernel
theorem dX11_split_73 : decode cX11_split 73 = .ok (.iload_n 3, 1) := by decide +kernel
theorem dX11_split_74 : decode cX11_split 74 = .ok (.putfield 91, 3) := by decide +kernel
theorem dX11_split_77 : decode cX11_split 77 = .ok (.aload_n 0, 1) := by decide +kernel
theorem dX11_split_78 : decode cX11_split 78 = .ok (.invokevirtual 182, 3) := by decide +kernel
theorem dX11_split_81 : decode cX11_split 81 = .ok (.aload_n 0, 1) := by decide +kernel
theorem dX11_split_82 : decode cX11_split 82 = .ok (.getfield 22, 3) := by decide +kernel
theorem dX11_split_85 : decode cX11_split 85 = .ok (.getfield 192, 3) := by decide +kernel
theorem dX11_split_88 : decode cX11_split 88 = .ok (.getfield 91, 3) := by decide +kernel
theorem dX11_split_91 : decode cX11_split 91 = .ok (.ireturn, 1) := by decide +kernel
set_option maxHeartbeats 4000000 in
set_option maxRecDepth 100000 in
theorem c_X11_split_R (l : Launch) (D : va_G) (cy : ClassId) (x pg wr nw kp wk tr lw nwf nws nwe nwfk nwfv nwfh nwft nwsk nwsv nwsh nwst : Nat) (lc : Nat) (hlc : wk_law lc) (x_rowsRead : Int32) (x_rowOfImage : Int32) (x_bestsDone : Int32) (nw_asked : Int32) (nw_looksOfAsked : Int32) (nw_changes : Int32) (nwf_size : Int32) (nwfk_a : Nat → Int32) (nwfv_a : Nat → Int32) (nwfh_a : Nat → Int32) (nwft_a : Nat → Int32) (nws_size : Int32) (nwsk_a : Nat → Int32) (nwsv_a : Nat → Int32) (nwsh_a : Nat → Int32) (nwst_a : Nat → Int32) (a : Int32) (g_0 : 0 ≤ nwf_size.toInt ∧ nwf_size.toInt ≤ 8) (g_1 : 0 ≤ nws_size.toInt ∧ nws_size.toInt ≤ 8) : wk_Ci l yX11_split cX11_split 4 (some .int) { frames := 4, cells := 0, slots := 0, locals := 88 } D cy [.ref x, .int a] [(x, .inr (11, [.ref pg, .ref wr, .ref nw, .ref kp, .ref wk, .ref tr, .ref lw, .int x_rowsRead, .int x_rowOfImage, .int x_bestsDone])), (nw, .inr (2, [.ref nwf, .ref nws, .ref nwe, .int nw_asked, .int nw_looksOfAsked, .int nw_changes])), (nwf, .inr (8, [.ref nwfk, .ref nwfv, .ref nwfh, .ref nwft, .int nwf_size])), (nwfk, .inl (cy, 8, .inl nwfk_a)), (nwfv, .inl (cy, 8, .inl nwfv_a)), (nwfh, .inl (cy, 8, .inl nwfh_a)), (nwft, .inl (cy, 8, .inl nwft_a)), (nws, .inr (8, [.ref nwsk, .ref nwsv, .ref nwsh, .ref nwst, .int nws_size])), (nwsk, .inl (cy, 8, .inl nwsk_a)), (nwsv, .inl (cy, 8, .inl nwsv_a)), (nwsh, .inl (cy, 8, .inl nwsh_a)), (nwst, .inl (cy, 8, .inl nwst_a)), (lw, .inr (lc, []))] 0 0 (fun (r : Int32) (u : Int32 × Int32 × (Nat → Int32) × Int32 × (Nat → Int32) × (Nat → Int32) × (Nat → Int32) × (Nat → Int32)) => (r, u) = (fn_X11_split_R lc nw_changes nwf_size nwfk_a nwfv_a nwfh_a nwft_a nws_size nwsk_a nwsv_a nwsh_a nwst_a a) ∧ (0 ≤ u.2.1.toInt ∧ u.2.1.toInt ≤ 8) ∧ (0 ≤ u.2.2.2.1.toInt ∧ u.2.2.2.1.toInt ≤ 8)) (fun u => [(x, .inr (11, [.ref pg, .ref wr, .ref nw, .ref kp, .ref wk, .ref tr, .ref lw, .int x_rowsRead, .int x_rowOfImage, .int x_bestsDone])), (nw, .inr (2, [.ref nwf, .ref nws, .ref nwe, .int nw_asked, .int nw_looksOfAsked, .int u.1])), (nwf, .inr (8, [.ref nwfk, .ref nwfv, .ref nwfh, .ref nwft, .int u.2.1])), (nwfk, .inl (cy, 8, .inl nwfk_a)), (nwfv, .inl (cy, 8, .inl nwfv_a)), (nwfh, .inl (cy, 8, .inl u.2.2.1)), (nwft, .inl (cy, 8, .inl nwft_a)), (nws, .inr (8, [.ref nwsk, .ref nwsv, .ref nwsh, .ref nwst, .int u.2.2.2.1])), (nwsk, .inl (cy, 8, .inl u.2.2.2.2.1)), (nwsv, .inl (cy, 8, .inl u.2.2.2.2.2.1)), (nwsh, .inl (cy, 8, .inl u.2.2.2.2.2.2.1)), (nwst, .inl (cy, 8, .inl u.2.2.2.2.2.2.2)), (lw, .inr (lc, []))]) := by
  refine wk_mk2Ci (by decide) (Nat.le_of_ble_eq_true rfl) ?_
  intro p e s m args below meth c A ls Q B hA hK hP hD hS hl hret
  obtain ⟨hx, hb, hr, hlocks, hml, hown, htb, hin⟩ := B
  have hl : lv_has ls 4 [(0, .ref x), (1, .int a)] := hl
  have hF : (fn_X11_split_R lc nw_changes nwf_size nwfk_a nwfv_a nwfh_a nwft_a nws_size nwsk_a nwsv_a nwsh_a nwst_a a) = (fn_X11_split_R lc nw_changes nwf_size nwfk_a nwfv_a nwfh_a nwft_a nws_size nwsk_a nwsv_a nwsh_a nwst_a a) := rfl
  conv at hF => rhs; unfold fn_X11_split_R
  refine lv_iload_n hx hb dX11_split_0 rfl (lv_at hl 1 rfl) ?_
  refine wk_iS (As := [.int a]) (rest := []) (wc := []) (wr := [(x, .inr (11, [.ref pg, .ref wr, .ref nw, .ref kp, .ref wk, .ref tr, .ref lw, .int x_rowsRead, .int x_rowOfImage, .int x_bestsDone])), (nw, .inr (2, [.ref nwf, .ref nws, .ref nwe, .int nw_asked, .int nw_looksOfAsked, .int nw_changes])), (nwf, .inr (8, [.ref nwfk, .ref nwfv, .ref nwfh, .ref nwft, .int nwf_size])), (nwfk, .inl (cy, 8, .inl nwfk_a)), (nwfv, .inl (cy, 8, .inl nwfv_a)), (nwfh, .inl (cy, 8, .inl nwfh_a)), (nwft, .inl (cy, 8, .inl nwft_a)), (nws, .inr (8, [.ref nwsk, .ref nwsv, .ref nwsh, .ref nwst, .int nws_size])), (nwsk, .inl (cy, 8, .inl nwsk_a)), (nwsv, .inl (cy, 8, .inl nwsv_a)), (nwsh, .inl (cy, 8, .inl nwsh_a)), (nwst, .inl (cy, 8, .inl nwst_a)), (lw, .inr (lc, []))]) (n := 1) ⟨hx, hb, hml, hown, htb⟩ (c_X11_isNoKey l D cy   a ) tw_563 tw_561 tw_562 tw_64 rfl rfl (by decide +kernel) ⟨Nat.le_of_ble_eq_true rfl, Nat.le_of_ble_eq_true rfl⟩ hK hP hD hS hA [] [0, 1, 2, 3, 4, 5, 6, 7, 8, 9, 10, 11, 12] rfl rfl rfl rfl (by decide) rfl hl.1 rfl (Nat.le_of_ble_eq_true rfl) dX11_split_1 ⟨Nat.le_of_ble_eq_true rfl, Nat.le_of_ble_eq_true rfl⟩ (fun r_1 u_2 H locs hw_3 hP hD hS => ?_)
  refine W.widen (k := 0) (n := 0) (by decide) (by decide) ?_
  obtain ⟨hw_3, k_4, k_5⟩ := hw_3
  have hw_3 : r_1 = (fn_X11_isNoKey a) := hw_3
  subst hw_3
  have k_4 : ((fn_X11_isNoKey a) = 0 ∨ (fn_X11_isNoKey a) = 1) := k_4
  have k_5 : (wk_or ((fn_X11_isNoKey a).toInt = 1) (0 ≤ a.toInt ∧ a.toInt ≤ 99)) := k_5
  have k_6 : 0 ≤ (fn_X11_isNoKey a).toInt ∧ (fn_X11_isNoKey a).toInt ≤ 1 := wk_b01 (by assumption)
  have hP : va_P D classes [(x, .inr (11, [.ref pg, .ref wr, .ref nw, .ref kp, .ref wk, .ref tr, .ref lw, .int x_rowsRead, .int x_rowOfImage, .int x_bestsDone])), (nw, .inr (2, [.ref nwf, .ref nws, .ref nwe, .int nw_asked, .int nw_looksOfAsked, .int nw_changes])), (nwf, .inr (8, [.ref nwfk, .ref nwfv, .ref nwfh, .ref nwft, .int nwf_size])), (nwfk, .inl (cy, 8, .inl nwfk_a)), (nwfv, .inl (cy, 8, .inl nwfv_a)), (nwfh, .inl (cy, 8, .inl nwfh_a)), (nwft, .inl (cy, 8, .inl nwft_a)), (nws, .inr (8, [.ref nwsk, .ref nwsv, .ref nwsh, .ref nwst, .int nws_size])), (nwsk, .inl (cy, 8, .inl nwsk_a)), (nwsv, .inl (cy, 8, .inl nwsv_a)), (nwsh, .inl (cy, 8, .inl nwsh_a)), (nwst, .inl (cy, 8, .inl nwst_a)), (lw, .inr (lc, []))] H := hP
  have hD : va_D A [(x, .inr (11, [.ref pg, .ref wr, .ref nw, .ref kp, .ref wk, .ref tr, .ref lw, .int x_rowsRead, .int x_rowOfImage, .int x_bestsDone])), (nw, .inr (2, [.ref nwf, .ref nws, .ref nwe, .int nw_asked, .int nw_looksOfAsked, .int nw_changes])), (nwf, .inr (8, [.ref nwfk, .ref nwfv, .ref nwfh, .ref nwft, .int nwf_size])), (nwfk, .inl (cy, 8, .inl nwfk_a)), (nwfv, .inl (cy, 8, .inl nwfv_a)), (nwfh, .inl (cy, 8, .inl nwfh_a)), (nwft, .inl (cy, 8, .inl nwft_a)), (nws, .inr (8, [.ref nwsk, .ref nwsv, .ref nwsh, .ref nwst, .int nws_size])), (nwsk, .inl (cy, 8, .inl nwsk_a)), (nwsv, .inl (cy, 8, .inl nwsv_a)), (nwsh, .inl (cy, 8, .inl nwsh_a)), (nwst, .inl (cy, 8, .inl nwst_a)), (lw, .inr (lc, []))] := hD
  refine lv_if_eq (tgt := 10) hx hb dX11_split_4 (by decide) (fun c_7 => ?_) (fun c_7 => ?_)
  · have k_7 : (fn_X11_isNoKey a).toInt = 0 := wk_eq c_7
    have k_8 : 0 ≤ a.toInt ∧ a.toInt ≤ 99 := wk_orR k_5 (by rw [k_7]; decide)
    replace hF := hF.trans (if_pos c_7)
    refine lv_aload_n hx hb dX11_split_10 rfl (lv_at hl 0 rfl) ?_
    refine va_get (D := D) (ci := 11) (v := .ref nw) (C := RX11) (T := TX11) (N := 10) hx hb htb inX11 hown hK hP 0 rfl rfl 2 (by decide) (htb _ tw_254) (fun _ h9 => h9) rfl dX11_split_11 ?_
    refine va_get (D := D) (ci := 2) (v := .ref nwf) (C := RX2) (T := TX2) (N := 6) hx hb htb inX2 hown hK hP 1 rfl rfl 0 (by decide) (htb _ tw_171) (fun _ h9 => h9) rfl dX11_split_14 ?_
    refine lv_astore_n (lv' := [(2, .ref nwf), (0, .ref x), (1, .int a)]) hx hb dX11_split_17 rfl hl (by decide) rfl (fun ls hl => ?_)
    refine lv_aload_n hx hb dX11_split_18 rfl (lv_at hl 0 rfl) ?_
    refine lv_iload_n hx hb dX11_split_19 rfl (lv_at hl 2 rfl) ?_
    refine wk_iV (As := [.int a]) (rest := []) (wc := [(nwf, .inr (8, [.ref nwfk, .ref nwfv, .ref nwfh, .ref nwft, .int nwf_size])), (nwfk, .inl (cy, 8, .inl nwfk_a))]) (wr := [(x, .inr (11, [.ref pg, .ref wr, .ref nw, .ref kp, .ref wk, .ref tr, .ref lw, .int x_rowsRead, .int x_rowOfImage, .int x_bestsDone])), (nw, .inr (2, [.ref nwf, .ref nws, .ref nwe, .int nw_asked, .int nw_looksOfAsked, .int nw_changes])), (nwfv, .inl (cy, 8, .inl nwfv_a)), (nwfh, .inl (cy, 8, .inl nwfh_a)), (nwft, .inl (cy, 8, .inl nwft_a)), (nws, .inr (8, [.ref nwsk, .ref nwsv, .ref nwsh, .ref nwst, .int nws_size])), (nwsk, .inl (cy, 8, .inl nwsk_a)), (nwsv, .inl (cy, 8, .inl nwsv_a)), (nwsh, .inl (cy, 8, .inl nwsh_a)), (nwst, .inl (cy, 8, .inl nwst_a)), (lw, .inr (lc, []))]) (n := 1) ⟨hx, hb, hml, hown, htb⟩ (c_X8_firstNotLess l D cy nwf nwfk nwfv nwfh nwft nwf_size nwfk_a a (show 0 ≤ nwf_size.toInt ∧ nwf_size.toInt ≤ 8 from by omega)) tw_595 tw_592 tw_593 tw_594 tw_67 rfl rfl (by decide +kernel) ⟨Nat.le_of_ble_eq_true rfl, Nat.le_of_ble_eq_true rfl⟩ hK hP hD hS hA [2, 3] [0, 1, 4, 5, 6, 7, 8, 9, 10, 11, 12] rfl rfl rfl rfl (by decide) 0 (ci := 8) rfl rfl rfl hl.1 rfl (Nat.le_of_ble_eq_true rfl) dX11_split_20 ⟨Nat.le_of_ble_eq_true rfl, Nat.le_of_ble_eq_true rfl⟩ (fun r_9 u_10 H locs hw_11 hP hD hS => ?_)
    refine W.widen (k := 0) (n := 0) (by decide) (by decide) ?_
    obtain ⟨hw_11, k_12, k_13⟩ := hw_11
    have hw_11 : r_9 = (fn_X8_firstNotLess nwf_size nwfk_a a) := hw_11
    subst hw_11
    have k_12 : (0 ≤ (fn_X8_firstNotLess nwf_size nwfk_a a).toInt ∧ (fn_X8_firstNotLess nwf_size nwfk_a a).toInt ≤ 8) := k_12
    have k_13 : ((fn_X8_firstNotLess nwf_size nwfk_a a).toInt ≤ nwf_size.toInt) := k_13
    have hP : va_P D classes [(x, .inr (11, [.ref pg, .ref wr, .ref nw, .ref kp, .ref wk, .ref tr, .ref lw, .int x_rowsRead, .int x_rowOfImage, .int x_bestsDone])), (nw, .inr (2, [.ref nwf, .ref nws, .ref nwe, .int nw_asked, .int nw_looksOfAsked, .int nw_changes])), (nwfv, .inl (cy, 8, .inl nwfv_a)), (nwfh, .inl (cy, 8, .inl nwfh_a)), (nwft, .inl (cy, 8, .inl nwft_a)), (nws, .inr (8, [.ref nwsk, .ref nwsv, .ref nwsh, .ref nwst, .int nws_size])), (nwsk, .inl (cy, 8, .inl nwsk_a)), (nwsv, .inl (cy, 8, .inl nwsv_a)), (nwsh, .inl (cy, 8, .inl nwsh_a)), (nwst, .inl (cy, 8, .inl nwst_a)), (lw, .inr (lc, [])), (nwf, .inr (8, [.ref nwfk, .ref nwfv, .ref nwfh, .ref nwft, .int nwf_size])), (nwfk, .inl (cy, 8, .inl nwfk_a))] H := hP
    have hD : va_D A [(x, .inr (11, [.ref pg, .ref wr, .ref nw, .ref kp, .ref wk, .ref tr, .ref lw, .int x_rowsRead, .int x_rowOfImage, .int x_bestsDone])), (nw, .inr (2, [.ref nwf, .ref nws, .ref nwe, .int nw_asked, .int nw_looksOfAsked, .int nw_changes])), (nwfv, .inl (cy, 8, .inl nwfv_a)), (nwfh, .inl (cy, 8, .inl nwfh_a)), (nwft, .inl (cy, 8, .inl nwft_a)), (nws, .inr (8, [.ref nwsk, .ref nwsv, .ref nwsh, .ref nwst, .int nws_size])), (nwsk, .inl (cy, 8, .inl nwsk_a)), (nwsv, .inl (cy, 8, .inl nwsv_a)), (nwsh, .inl (cy, 8, .inl nwsh_a)), (nwst, .inl (cy, 8, .inl nwst_a)), (lw, .inr (lc, [])), (nwf, .inr (8, [.ref nwfk, .ref nwfv, .ref nwfh, .ref nwft, .int nwf_size])), (nwfk, .inl (cy, 8, .inl nwfk_a))] := hD
    refine lv_istore_n (lv' := [(3, .int (fn_X8_firstNotLess nwf_size nwfk_a a)), (2, .ref nwf), (0, .ref x), (1, .int a)]) hx hb dX11_split_23 rfl hl (by decide) rfl (fun ls hl => ?_)
    refine lv_aload_n hx hb dX11_split_24 rfl (lv_at hl 2 rfl) ?_
    refine va_get (D := D) (ci := 11) (v := .ref lw) (C := RX11) (T := TX11) (N := 10) hx hb htb inX11 hown hK hP 0 rfl rfl 6 (by decide) (htb _ tw_258) (fun _ h9 => h9) rfl dX11_split_25 ?_
    refine lv_ifnull hx hb dX11_split_28 ?_
    refine lv_aload_n hx hb dX11_split_31 rfl (lv_at hl 2 rfl) ?_
    refine va_get (D := D) (ci := 11) (v := .ref nw) (C := RX11) (T := TX11) (N := 10) hx hb htb inX11 hown hK hP 0 rfl rfl 2 (by decide) (htb _ tw_254) (fun _ h9 => h9) rfl dX11_split_32 ?_
    refine va_get (D := D) (ci := 2) (v := .ref nws) (C := RX2) (T := TX2) (N := 6) hx hb htb inX2 hown hK hP 1 rfl rfl 1 (by decide) (htb _ tw_173) (fun _ h9 => h9) rfl dX11_split_35 ?_
    refine va_get (D := D) (ci := 8) (v := .int nws_size) (C := RX8) (T := TX8) (N := 5) hx hb htb inX8 hown hK hP 5 rfl rfl 4 (by decide) (htb _ tw_134) (fun _ h9 => h9) rfl dX11_split_38 ?_
    refine lv_if_gt (tgt := 57) hx hb dX11_split_41 (by decide) (fun c_14 => ?_) (fun c_14 => ?_)
    · have k_14 : 0 < nws_size.toInt := wk_lt c_14
      replace hF := hF.trans (if_pos c_14)
      refine lv_bipush (v := (-103)) hx hb dX11_split_57 (by decide) ?_
      refine W.widen (k := 0) (n := 0) (by decide) (by decide) ?_
      exact hret (-103) (nw_changes, nwf_size, nwfh_a, nws_size, nwsk_a, nwsv_a, nwsh_a, nwst_a) _ _ _ 59 (wk_sub9 (is := [0, 1, 11, 12, 2, 3, 4, 5, 6, 7, 8, 9, 10]) hP rfl) (hD.sub [0, 1, 11, 12, 2, 3, 4, 5, 6, 7, 8, 9, 10] rfl rfl) hS dX11_split_59 ⟨hF.symm, (show (0 ≤ nwf_size.toInt ∧ nwf_size.toInt ≤ 8) from by omega), (show (0 ≤ nws_size.toInt ∧ nws_size.toInt ≤ 8) from by omega)⟩
    · have k_14 : ¬ 0 < nws_size.toInt := wk_nlt c_14
      replace hF := hF.trans (if_neg c_14)
      refine lv_iload_n hx hb dX11_split_44 rfl (lv_at hl 0 rfl) ?_
      refine lv_iconst (v := 2) hx hb dX11_split_45 (by decide) ?_
      refine lv_icmp_lt (tgt := 57) hx hb dX11_split_46 (by decide) (fun c_15 => ?_) (fun c_15 => ?_)
      · have k_15 : (fn_X8_firstNotLess nwf_size nwfk_a a).toInt < 2 := wk_lt c_15
        replace hF := hF.trans (if_pos c_15)
        refine lv_bipush (v := (-103)) hx hb dX11_split_57 (by decide) ?_
        refine W.widen (k := 0) (n := 0) (by decide) (by decide) ?_
        exact hret (-103) (nw_changes, nwf_size, nwfh_a, nws_size, nwsk_a, nwsv_a, nwsh_a, nwst_a) _ _ _ 59 (wk_sub9 (is := [0, 1, 11, 12, 2, 3, 4, 5, 6, 7, 8, 9, 10]) hP rfl) (hD.sub [0, 1, 11, 12, 2, 3, 4, 5, 6, 7, 8, 9, 10] rfl rfl) hS dX11_split_59 ⟨hF.symm, (show (0 ≤ nwf_size.toInt ∧ nwf_size.toInt ≤ 8) from by omega), (show (0 ≤ nws_size.toInt ∧ nws_size.toInt ≤ 8) from by omega)⟩
      · have k_15 : ¬ (fn_X8_firstNotLess nwf_size nwfk_a a).toInt < 2 := wk_nlt c_15
        replace hF := hF.trans (if_neg c_15)
        refine lv_iload_n hx hb dX11_split_49 rfl (lv_at hl 0 rfl) ?_
        refine lv_aload_n hx hb dX11_split_50 rfl (lv_at hl 1 rfl) ?_
        refine va_get (D := D) (ci := 8) (v := .int nwf_size) (C := RX8) (T := TX8) (N := 5) hx hb htb inX8 hown hK hP 11 rfl rfl 4 (by decide) (htb _ tw_134) (fun _ h9 => h9) rfl dX11_split_51 ?_
        refine lv_icmp_lt (tgt := 60) hx hb dX11_split_54 (by decide) (fun c_16 => ?_) (fun c_16 => ?_)
        · have k_16 : (fn_X8_firstNotLess nwf_size nwfk_a a).toInt < nwf_size.toInt := wk_lt c_16
          replace hF := hF.trans (if_pos c_16)
          refine lv_aload_n hx hb dX11_split_60 rfl (lv_at hl 2 rfl) ?_
          refine va_get (D := D) (ci := 11) (v := .ref nw) (C := RX11) (T := TX11) (N := 10) hx hb htb inX11 hown hK hP 0 rfl rfl 2 (by decide) (htb _ tw_254) (fun _ h9 => h9) rfl dX11_split_61 ?_
          refine va_get (D := D) (ci := 2) (v := .ref nws) (C := RX2) (T := TX2) (N := 6) hx hb htb inX2 hown hK hP 1 rfl rfl 1 (by decide) (htb _ tw_173) (fun _ h9 => h9) rfl dX11_split_64 ?_
          refine lv_aload_n hx hb dX11_split_67 rfl (lv_at hl 1 rfl) ?_
          refine lv_iload_n hx hb dX11_split_68 rfl (lv_at hl 0 rfl) ?_
          refine wk_vV (As := [.ref nwf, .int (fn_X8_firstNotLess nwf_size nwfk_a a)]) (rest := []) (wc := [(nws, .inr (8, [.ref nwsk, .ref nwsv, .ref nwsh, .ref nwst, .int nws_size])), (nwsk, .inl (cy, 8, .inl nwsk_a)), (nwsv, .inl (cy, 8, .inl nwsv_a)), (nwsh, .inl (cy, 8, .inl nwsh_a)), (nwst, .inl (cy, 8, .inl nwst_a)), (nwf, .inr (8, [.ref nwfk, .ref nwfv, .ref nwfh, .ref nwft, .int nwf_size])), (nwfk, .inl (cy, 8, .inl nwfk_a)), (nwfv, .inl (cy, 8, .inl nwfv_a)), (nwfh, .inl (cy, 8, .inl nwfh_a)), (nwft, .inl (cy, 8, .inl nwft_a))]) (wr := [(x, .inr (11, [.ref pg, .ref wr, .ref nw, .ref kp, .ref wk, .ref tr, .ref lw, .int x_rowsRead, .int x_rowOfImage, .int x_bestsDone])), (nw, .inr (2, [.ref nwf, .ref nws, .ref nwe, .int nw_asked, .int nw_looksOfAsked, .int nw_changes])), (lw, .inr (lc, []))]) (n := 2) ⟨hx, hb, hml, hown, htb⟩ (c_X8_append l D cy nws nwsk nwsv nwsh nwst nwf nwfk nwfv nwfh nwft nws_size nwsk_a nwsv_a nwsh_a nwst_a nwf_size nwfk_a nwfv_a nwfh_a nwft_a (fn_X8_firstNotLess nwf_size nwfk_a a) (show 0 ≤ nws_size.toInt ∧ nws_size.toInt ≤ 8 from by omega) (show 0 ≤ nwf_size.toInt ∧ nwf_size.toInt ≤ 8 from by omega) (show 0 ≤ (fn_X8_firstNotLess nwf_size nwfk_a a).toInt ∧ (fn_X8_firstNotLess nwf_size nwfk_a a).toInt ≤ 8 from by omega)) tw_621 tw_618 tw_619 tw_620 tw_67 rfl rfl (by decide +kernel) ⟨Nat.le_of_ble_eq_true rfl, Nat.le_of_ble_eq_true rfl⟩ hK hP hD hS hA [5, 6, 7, 8, 9, 11, 12, 2, 3, 4] [0, 1, 10] rfl rfl rfl rfl (by decide) 0 (ci := 8) rfl rfl rfl hl.1 rfl (Nat.le_of_ble_eq_true rfl) dX11_split_69 ⟨Nat.le_of_ble_eq_true rfl, Nat.le_of_ble_eq_true rfl⟩ (fun u_18 H locs hw_19 hP hD hS => ?_)
          refine W.widen (k := 0) (n := 0) (by decide) (by decide) ?_
          obtain ⟨o_20, o_21, o_22, o_23, o_24⟩ := u_18
          obtain ⟨hw_19, k_25⟩ := hw_19
          have hw_19 : (o_20, o_21, o_22, o_23, o_24) = (fn_X8_append nws_size nwsk_a nwsv_a nwsh_a nwst_a nwf_size nwfk_a nwfv_a nwfh_a nwft_a (fn_X8_firstNotLess nwf_size nwfk_a a)) := hw_19
          have k_25 : (0 ≤ o_20.toInt ∧ o_20.toInt ≤ 8) := k_25
          rw [← hw_19] at hF
          rw [pm2_mk o_20 (o_21, o_22, o_23, o_24), pm2_mk o_21 (o_22, o_23, o_24), pm2_mk o_22 (o_23, o_24), pm2_mk o_23 o_24] at hF
          have hP : va_P D classes [(x, .inr (11, [.ref pg, .ref wr, .ref nw, .ref kp, .ref wk, .ref tr, .ref lw, .int x_rowsRead, .int x_rowOfImage, .int x_bestsDone])), (nw, .inr (2, [.ref nwf, .ref nws, .ref nwe, .int nw_asked, .int nw_looksOfAsked, .int nw_changes])), (lw, .inr (lc, [])), (nws, .inr (8, [.ref nwsk, .ref nwsv, .ref nwsh, .ref nwst, .int o_20])), (nwsk, .inl (cy, 8, .inl o_21)), (nwsv, .inl (cy, 8, .inl o_22)), (nwsh, .inl (cy, 8, .inl o_23)), (nwst, .inl (cy, 8, .inl o_24)), (nwf, .inr (8, [.ref nwfk, .ref nwfv, .ref nwfh, .ref nwft, .int nwf_size])), (nwfk, .inl (cy, 8, .inl nwfk_a)), (nwfv, .inl (cy, 8, .inl nwfv_a)), (nwfh, .inl (cy, 8, .inl nwfh_a)), (nwft, .inl (cy, 8, .inl nwft_a))] H := hP
          have hD : va_D A [(x, .inr (11, [.ref pg, .ref wr, .ref nw, .ref kp, .ref wk, .ref tr, .ref lw, .int x_rowsRead, .int x_rowOfImage, .int x_bestsDone])), (nw, .inr (2, [.ref nwf, .ref nws, .ref nwe, .int nw_asked, .int nw_looksOfAsked, .int nw_changes])), (lw, .inr (lc, [])), (nws, .inr (8, [.ref nwsk, .ref nwsv, .ref nwsh, .ref nwst, .int o_20])), (nwsk, .inl (cy, 8, .inl o_21)), (nwsv, .inl (cy, 8, .inl o_22)), (nwsh, .inl (cy, 8, .inl o_23)), (nwst, .inl (cy, 8, .inl o_24)), (nwf, .inr (8, [.ref nwfk, .ref nwfv, .ref nwfh, .ref nwft, .int nwf_size])), (nwfk, .inl (cy, 8, .inl nwfk_a)), (nwfv, .inl (cy, 8, .inl nwfv_a)), (nwfh, .inl (cy, 8, .inl nwfh_a)), (nwft, .inl (cy, 8, .inl nwft_a))] := hD
          refine lv_aload_n hx hb dX11_split_72 rfl (lv_at hl 1 rfl) ?_
          refine lv_iload_n hx hb dX11_split_73 rfl (lv_at hl 0 rfl) ?_
          refine va_put (D := D) (ci := 8) (v := .int (fn_X8_firstNotLess nwf_size nwfk_a a)) (ty := .int) (C := RX8) (T := TX8) (N := 5) hx hb htb inX8 tyX8 tyX8_ok nmX8 hown hK hP hD hS 8 rfl rfl 4 (by decide) (htb _ tw_134) (fun _ h9 => h9) rfl (by decide +kernel) rfl rfl (Nat.le_of_ble_eq_true rfl) dX11_split_74 (fun H locs hP hD hS => ?_)
          have hP : va_P D classes [(x, .inr (11, [.ref pg, .ref wr, .ref nw, .ref kp, .ref wk, .ref tr, .ref lw, .int x_rowsRead, .int x_rowOfImage, .int x_bestsDone])), (nw, .inr (2, [.ref nwf, .ref nws, .ref nwe, .int nw_asked, .int nw_looksOfAsked, .int nw_changes])), (lw, .inr (lc, [])), (nws, .inr (8, [.ref nwsk, .ref nwsv, .ref nwsh, .ref nwst, .int o_20])), (nwsk, .inl (cy, 8, .inl o_21)), (nwsv, .inl (cy, 8, .inl o_22)), (nwsh, .inl (cy, 8, .inl o_23)), (nwst, .inl (cy, 8, .inl o_24)), (nwf, .inr (8, [.ref nwfk, .ref nwfv, .ref nwfh, .ref nwft, .int (fn_X8_firstNotLess nwf_size nwfk_a a)])), (nwfk, .inl (cy, 8, .inl nwfk_a)), (nwfv, .inl (cy, 8, .inl nwfv_a)), (nwfh, .inl (cy, 8, .inl nwfh_a)), (nwft, .inl (cy, 8, .inl nwft_a))] H := hP
          have hD : va_D A [(x, .inr (11, [.ref pg, .ref wr, .ref nw, .ref kp, .ref wk, .ref tr, .ref lw, .int x_rowsRead, .int x_rowOfImage, .int x_bestsDone])), (nw, .inr (2, [.ref nwf, .ref nws, .ref nwe, .int nw_asked, .int nw_looksOfAsked, .int nw_changes])), (lw, .inr (lc, [])), (nws, .inr (8, [.ref nwsk, .ref nwsv, .ref nwsh, .ref nwst, .int o_20])), (nwsk, .inl (cy, 8, .inl o_21)), (nwsv, .inl (cy, 8, .inl o_22)), (nwsh, .inl (cy, 8, .inl o_23)), (nwst, .inl (cy, 8, .inl o_24)), (nwf, .inr (8, [.ref nwfk, .ref nwfv, .ref nwfh, .ref nwft, .int (fn_X8_firstNotLess nwf_size nwfk_a a)])), (nwfk, .inl (cy, 8, .inl nwfk_a)), (nwfv, .inl (cy, 8, .inl nwfv_a)), (nwfh, .inl (cy, 8, .inl nwfh_a)), (nwft, .inl (cy, 8, .inl nwft_a))] := hD
          refine lv_aload_n hx hb dX11_split_77 rfl (lv_at hl 2 rfl) ?_
          refine wk_vV (As := []) (rest := []) (wc := [(x, .inr (11, [.ref pg, .ref wr, .ref nw, .ref kp, .ref wk, .ref tr, .ref lw, .int x_rowsRead, .int x_rowOfImage, .int x_bestsDone])), (nw, .inr (2, [.ref nwf, .ref nws, .ref nwe, .int nw_asked, .int nw_looksOfAsked, .int nw_changes])), (nwf, .inr (8, [.ref nwfk, .ref nwfv, .ref nwfh, .ref nwft, .int (fn_X8_firstNotLess nwf_size nwfk_a a)])), (nwfk, .inl (cy, 8, .inl nwfk_a)), (nwfh, .inl (cy, 8, .inl nwfh_a)), (lw, .inr (lc, []))]) (wr := [(nws, .inr (8, [.ref nwsk, .ref nwsv, .ref nwsh, .ref nwst, .int o_20])), (nwsk, .inl (cy, 8, .inl o_21)), (nwsv, .inl (cy, 8, .inl o_22)), (nwsh, .inl (cy, 8, .inl o_23)), (nwst, .inl (cy, 8, .inl o_24)), (nwfv, .inl (cy, 8, .inl nwfv_a)), (nwft, .inl (cy, 8, .inl nwft_a))]) (n := 0) ⟨hx, hb, hml, hown, htb⟩ (c_X11_changeIsMade_R l D cy x pg wr nw kp wk tr lw nwf nws nwe nwfk nwfv nwfh nwft lc hlc x_rowsRead x_rowOfImage x_bestsDone nw_asked nw_looksOfAsked nw_changes (fn_X8_firstNotLess nwf_size nwfk_a a) nwfk_a nwfh_a  (show 0 ≤ (fn_X8_firstNotLess nwf_size nwfk_a a).toInt ∧ (fn_X8_firstNotLess nwf_size nwfk_a a).toInt ≤ 8 from by omega)) tw_600 tw_597 tw_599 tw_15 tw_64 rfl rfl (by decide +kernel) ⟨Nat.le_of_ble_eq_true rfl, Nat.le_of_ble_eq_true rfl⟩ hK hP hD hS hA [0, 1, 8, 9, 11, 2] [3, 4, 5, 6, 7, 10, 12] rfl rfl rfl rfl (by decide) 0 (ci := 11) rfl rfl rfl hl.1 rfl (Nat.le_of_ble_eq_true rfl) dX11_split_78 ⟨Nat.le_of_ble_eq_true rfl, Nat.le_of_ble_eq_true rfl⟩ (fun u_27 H locs hw_28 hP hD hS => ?_)
          refine W.widen (k := 0) (n := 0) (by decide) (by decide) ?_
          obtain ⟨o_29, o_30⟩ := u_27
          have hw_28 : (o_29, o_30) = (fn_X11_changeIsMade_R lc nw_changes (fn_X8_firstNotLess nwf_size nwfk_a a) nwfk_a nwfh_a) := hw_28
          rw [← hw_28] at hF
          rw [pm2_mk o_29 o_30] at hF
          have hP : va_P D classes [(nws, .inr (8, [.ref nwsk, .ref nwsv, .ref nwsh, .ref nwst, .int o_20])), (nwsk, .inl (cy, 8, .inl o_21)), (nwsv, .inl (cy, 8, .inl o_22)), (nwsh, .inl (cy, 8, .inl o_23)), (nwst, .inl (cy, 8, .inl o_24)), (nwfv, .inl (cy, 8, .inl nwfv_a)), (nwft, .inl (cy, 8, .inl nwft_a)), (x, .inr (11, [.ref pg, .ref wr, .ref nw, .ref kp, .ref wk, .ref tr, .ref lw, .int x_rowsRead, .int x_rowOfImage, .int x_bestsDone])), (nw, .inr (2, [.ref nwf, .ref nws, .ref nwe, .int nw_asked, .int nw_looksOfAsked, .int o_29])), (nwf, .inr (8, [.ref nwfk, .ref nwfv, .ref nwfh, .ref nwft, .int (fn_X8_firstNotLess nwf_size nwfk_a a)])), (nwfk, .inl (cy, 8, .inl nwfk_a)), (nwfh, .inl (cy, 8, .inl o_30)), (lw, .inr (lc, []))] H := hP
          have hD : va_D A [(nws, .inr (8, [.ref nwsk, .ref nwsv, .ref nwsh, .ref nwst, .int o_20])), (nwsk, .inl (cy, 8, .inl o_21)), (nwsv, .inl (cy, 8, .inl o_22)), (nwsh, .inl (cy, 8, .inl o_23)), (nwst, .inl (cy, 8, .inl o_24)), (nwfv, .inl (cy, 8, .inl nwfv_a)), (nwft, .inl (cy, 8, .inl nwft_a)), (x, .inr (11, [.ref pg, .ref wr, .ref nw, .ref kp, .ref wk, .ref tr, .ref lw, .int x_rowsRead, .int x_rowOfImage, .int x_bestsDone])), (nw, .inr (2, [.ref nwf, .ref nws, .ref nwe, .int nw_asked, .int nw_looksOfAsked, .int o_29])), (nwf, .inr (8, [.ref nwfk, .ref nwfv, .ref nwfh, .ref nwft, .int (fn_X8_firstNotLess nwf_size nwfk_a a)])), (nwfk, .inl (cy, 8, .inl nwfk_a)), (nwfh, .inl (cy, 8, .inl o_30)), (lw, .inr (lc, []))] := hD
          refine lv_aload_n hx hb dX11_split_81 rfl (lv_at hl 2 rfl) ?_
          refine va_get (D := D) (ci := 11) (v := .ref nw) (C := RX11) (T := TX11) (N := 10) hx hb htb inX11 hown hK hP 7 rfl rfl 2 (by decide) (htb _ tw_254) (fun _ h9 => h9) rfl dX11_split_82 ?_
          refine va_get (D := D) (ci := 2) (v := .ref nws) (C := RX2) (T := TX2) (N := 6) hx hb htb inX2 hown hK hP 8 rfl rfl 1 (by decide) (htb _ tw_173) (fun _ h9 => h9) rfl dX11_split_85 ?_
          refine va_get (D := D) (ci := 8) (v := .int o_20) (C := RX8) (T := TX8) (N := 5) hx hb htb inX8 hown hK hP 0 rfl rfl 4 (by decide) (htb _ tw_134) (fun _ h9 => h9) rfl dX11_split_88 ?_
          refine W.widen (k := 0) (n := 0) (by decide) (by decide) ?_
          exact hret o_20 (o_29, (fn_X8_firstNotLess nwf_size nwfk_a a), o_30, o_20, o_21, o_22, o_23, o_24) _ _ _ 91 (wk_sub9 (is := [7, 8, 9, 10, 5, 11, 6, 0, 1, 2, 3, 4, 12]) hP rfl) (hD.sub [7, 8, 9, 10, 5, 11, 6, 0, 1, 2, 3, 4, 12] rfl rfl) hS dX11_split_91 ⟨hF.symm, (show (0 ≤ (fn_X8_firstNotLess nwf_size nwfk_a a).toInt ∧ (fn_X8_firstNotLess nwf_size nwfk_a a).toInt ≤ 8) from by omega), (show (0 ≤ o_20.toInt ∧ o_20.toInt ≤ 8) from by omega)⟩
        · have k_16 : ¬ (fn_X8_firstNotLess nwf_size nwfk_a a).toInt < nwf_size.toInt := wk_nlt c_16
          replace hF := hF.trans (if_neg c_16)
          refine lv_bipush (v := (-103)) hx hb dX11_split_57 (by decide) ?_
          refine W.widen (k := 0) (n := 0) (by decide) (by decide) ?_
          exact hret (-103) (nw_changes, nwf_size, nwfh_a, nws_size, nwsk_a, nwsv_a, nwsh_a, nwst_a) _ _ _ 59 (wk_sub9 (is := [0, 1, 11, 12, 2, 3, 4, 5, 6, 7, 8, 9, 10]) hP rfl) (hD.sub [0, 1, 11, 12, 2, 3, 4, 5, 6, 7, 8, 9, 10] rfl rfl) hS dX11_split_59 ⟨hF.symm, (show (0 ≤ nwf_size.toInt ∧ nwf_size.toInt ≤ 8) from by omega), (show (0 ≤ nws_size.toInt ∧ nws_size.toInt ≤ 8) from by omega)⟩
  · have k_7 : ¬ (fn_X11_isNoKey a).toInt = 0 := wk_neq c_7
    replace hF := hF.trans (if_neg c_7)
    refine lv_bipush (v := (-102)) hx hb dX11_split_7 (by decide) ?_
    refine W.widen (k := 0) (n := 0) (by decide) (by decide) ?_
    exact hret (-102) (nw_changes, nwf_size, nwfh_a, nws_size, nwsk_a, nwsv_a, nwsh_a, nwst_a) _ _ _ 9 (wk_sub9 (is := [0, 1, 2, 3, 4, 5, 6, 7, 8, 9, 10, 11, 12]) hP rfl) (hD.sub [0, 1, 2, 3, 4, 5, 6, 7, 8, 9, 10, 11, 12] rfl rfl) hS dX11_split_9 ⟨hF.symm, (show (0 ≤ nwf_size.toInt ∧ nwf_size.toInt ≤ 8) from by omega), (show (0 ≤ nws_size.toInt ∧ nws_size.toInt ≤ 8) from by omega)⟩
def fn_X11_join_N  : Int32 := (-103)
theorem dX11_join_0 : decode cX11_join 0 = .ok (.aload_n 0, 1) := by decide +kernel
theorem dX11_join_1 : decode cX11_join 1 = .ok (.getfield 22, 3) := by decide +kernel
theorem dX11_join_4 : decode cX11_join 4 = .ok (.getfield 77, 3) := by decide +kernel
theorem dX11_join_7 : decode cX11_join 7 = .ok (.astore_n 1, 1) := by decide +kernel
theorem dX11_join_8 : decode cX11_join 8 = .ok (.aload_n 0, 1) := by decide +kernel
theorem dX11_join_9 : decode cX11_join 9 = .ok (.getfield 22, 3) := by decide +kernel
theorem dX11_join_12 : decode cX11_join 12 = .ok (.getfield 192, 3) := by decide +kernel
theorem dX11_join_15 : decode cX11_join 15 = .ok (.astore_n 2, 1) := by decide +kernel
theorem dX11_join_16 : decode cX11_join 16 = .ok (.aload_n 0, 1) := by decide +kernel
theorem dX11_join_17 : decode cX11_join 17 = .ok (.getfield 71, 3) := by decide +kernel
theorem dX11_join_20 : decode cX11_join 20 = .ok (.ifnull 23, 3) := by decide +kernel
theorem dX11_join_43 : decode cX11_join 43 = .ok (.bipush (-103), 2) := by decide +kernel
theorem dX11_join_45 : decode cX11_join 45 = .ok (.ireturn, 1) := by decide +kernel
set_option maxHeartbeats 4000000 in
set_option maxRecDepth 100000 in
theorem c_X11_join_N (l : Launch) (D : va_G) (cy : ClassId) (x pg wr nw kp wk tr nwf nws nwe : Nat) (x_rowsRead : Int32) (x_rowOfImage : Int32) (x_bestsDone : Int32) (nw_asked : Int32) (nw_looksOfAsked : Int32) (nw_changes : Int32)   : wk_Ci l yX11_join cX11_join 3 (some .int) { frames := 0, cells := 0, slots := 0, locals := 0 } D cy [.ref x] [(x, .inr (11, [.ref pg, .ref wr, .ref nw, .ref kp, .ref wk, .ref tr, .null, .int x_rowsRead, .int x_rowOfImage, .int x_bestsDone])), (nw, .inr (2, [.ref nwf, .ref nws, .ref nwe, .int nw_asked, .int nw_looksOfAsked, .int nw_changes]))] 0 0 (fun (r : Int32) (u : Unit) => r = fn_X11_join_N) (fun u => [(x, .inr (11, [.ref pg, .ref wr, .ref nw, .ref kp, .ref wk, .ref tr, .null, .int x_rowsRead, .int x_rowOfImage, .int x_bestsDone])), (nw, .inr (2, [.ref nwf, .ref nws, .ref nwe, .int nw_asked, .int nw_looksOfAsked, .int nw_changes]))]) := by
  refine wk_mk2Ci (by decide) (Nat.le_of_ble_eq_true rfl) ?_
  intro p e s m args below meth c A ls Q B hA hK hP hD hS hl hret
  obtain ⟨hx, hb, hr, hlocks, hml, hown, htb, hin⟩ := B
  have hl : lv_has ls 3 [(0, .ref x)] := hl
  have hF : fn_X11_join_N = fn_X11_join_N := rfl
  conv at hF => rhs; unfold fn_X11_join_N
  refine lv_aload_n hx hb dX11_join_0 rfl (lv_at hl 0 rfl) ?_
  refine va_get (D := D) (ci := 11) (v := .ref nw) (C := RX11) (T := TX11) (N := 10) hx hb htb inX11 hown hK hP 0 rfl rfl 2 (by decide) (htb _ tw_254) (fun _ h9 => h9) rfl dX11_join_1 ?_
  refine va_get (D := D) (ci := 2) (v := .ref nwf) (C := RX2) (T := TX2) (N := 6) hx hb htb inX2 hown hK hP 1 rfl rfl 0 (by decide) (htb _ tw_171) (fun _ h9 => h9) rfl dX11_join_4 ?_
  refine lv_astore_n (lv' := [(1, .ref nwf), (0, .ref x)]) hx hb dX11_join_7 rfl hl (by decide) rfl (fun ls hl => ?_)
  refine lv_aload_n hx hb dX11_join_8 rfl (lv_at hl 1 rfl) ?_
  refine va_get (D := D) (ci := 11) (v := .ref nw) (C := RX11) (T := TX11) (N := 10) hx hb htb inX11 hown hK hP 0 rfl rfl 2 (by decide) (htb _ tw_254) (fun _ h9 => h9) rfl dX11_join_9 ?_
  refine va_get (D := D) (ci := 2) (v := .ref nws) (C := RX2) (T := TX2) (N := 6) hx hb htb inX2 hown hK hP 1 rfl rfl 1 (by decide) (htb _ tw_173) (fun _ h9 => h9) rfl dX11_join_12 ?_
  refine lv_astore_n (lv' := [(2, .ref nws), (1, .ref nwf), (0, .ref x)]) hx hb dX11_join_15 rfl hl (by decide) rfl (fun ls hl => ?_)
  refine lv_aload_n hx hb dX11_join_16 rfl (lv_at hl 2 rfl) ?_
  refine va_get (D := D) (ci := 11) (v := .null) (C := RX11) (T := TX11) (N := 10) hx hb htb inX11 hown hK hP 0 rfl rfl 6 (by decide) (htb _ tw_258) (fun _ h9 => h9) rfl dX11_join_17 ?_
  refine lv_ifnullN (tgt := 43) hx hb dX11_join_20 (by decide) ?_
  refine lv_bipush (v := (-103)) hx hb dX11_join_43 (by decide) ?_
  refine W.widen (k := 0) (n := 0) (by decide) (by decide) ?_
  exact hret (-103) () _ _ _ 45 (wk_sub9 (is := [0, 1]) hP rfl) (hD.sub [0, 1] rfl rfl) hS dX11_join_45 hF.symm
def fn_X11_join_R (lc : Nat) (nw_changes : Int32) (nwf_size : Int32) (nwfk_a : Nat → Int32) (nwfv_a : Nat → Int32) (nwfh_a : Nat → Int32) (nwft_a : Nat → Int32) (nws_size : Int32) (nwsk_a : Nat → Int32) (nwsv_a : Nat → Int32) (nwsh_a : Nat → Int32) (nwst_a : Nat → Int32) : Int32 × Int32 × Int32 × (Nat → Int32) × (Nat → Int32) × (Nat → Int32) × (Nat → Int32) × Int32 := (if nws_size = 0 then ((-103), nw_changes, nwf_size, nwfk_a, nwfv_a, nwfh_a, nwft_a, nws_size) else (if (fn_X8_lastKey nwf_size nwfk_a) < (nwsk_a (0 : Int32).toNatClampNeg) then (if (nwf_size + nws_size) ≤ 8 then (pm2 (fn_X8_append nwf_size nwfk_a nwfv_a nwfh_a nwft_a nws_size nwsk_a nwsv_a nwsh_a nwst_a 0) (fun o_11 t_ => (pm2 (t_) (fun o_12 t_ => (pm2 (t_) (fun o_13 t_ => (pm2 (t_) (fun o_14 o_15 => (pm2 (fn_X11_changeIsMade_R lc nw_changes o_11 o_12 o_14) (fun o_20 o_21 => (o_11, o_20, o_11, o_12, o_13, o_21, o_15, 0))))))))))) else ((-104), nw_changes, nwf_size, nwfk_a, nwfv_a, nwfh_a, nwft_a, nws_size)) else ((-103), nw_changes, nwf_size, nwfk_a, nwfv_a, nwfh_a, nwft_a, nws_size)))
theorem dX11_join_23 : decode cX11_join 23 = .ok (.aload_n 2, 1) := by decide +kernel
theorem dX11_join_24 : decode cX11_join 24 = .ok (.getfield 91, 3) := by decide +kernel
theorem dX11_join_27 : decode cX11_join 27 = .ok (.ifCond .eq 16, 3) := by decide +kernel
theorem dX11_join_30 : decode cX11_join 30 = .ok (.aload_n 2, 1) := by decide +kernel
theorem dX11_join_31 : decode cX11_join 31 = .ok (.getfield 105, 3) := by decide +kernel
theorem dX11_join_34 : decode cX11_join 34 = .ok (.iconst 0, 1) := by decide +kernel
theorem dX11_join_35 : decode cX11_join 35 = .ok (.iaload, 1) := by decide +kernel
theorem dX11_join_36 : decode cX11_join 36 = .ok (.aload_n 1, 1) := by decide +kernel
theorem dX11_join_37 : decode cX11_join 37 = .ok (.invokevirtual 199, 3) := by decide +kernel
theorem dX11_join_40 : decode cX11_join 40 = .ok (.if_icmp .gt 6, 3) := by decide +kernel
theorem dX11_join_46 : decode cX11_join 46 = .ok (.aload_n 1, 1) := by decide +kernel
theorem dX11_join_47 : decode cX11_join 47 = .ok (.getfield 91, 3) := by decide +kernel
theorem dX11_join_50 : decode cX11_join 50 = .ok (.aload_n 2, 1) := by decide +kernel
theorem dX11_join_51 : decode cX11_join 51 = .ok (.getfield 91, 3) := by decide +kernel
theorem dX11_join_54 : decode cX11_join 54 = .ok (.iadd, 1) := by decide +kernel
theorem dX11_join_55 : decode cX11_join 55 = .ok (.bipush 8, 2) := by decide +kernel
theorem dX11_join_57 : decode cX11_join 57 = .ok (.if_icmp .le 6, 3) := by decide +kernel
theorem dX11_join_60 : decode cX11_join 60 = .ok (.bipush (-104), 2) := by decide +kernel
theorem dX11_join_62 : decode cX11_join 62 = .ok (.ireturn, 1) := by decide +kernel
theorem dX11_join_63 : decode cX11_join 63 = .ok (.aload_n 1, 1) := by decide +kernel
theorem dX11_join_64 : decode cX11_join 64 = .ok (.aload_n 2, 1) := by decide +kernel
theorem dX11_join_65 : decode cX11_join 65 = .ok (.iconst 0, 1) := by decide +kernel
theorem dX11_join_66 : decode cX11_join 66 = .ok (.invokevirtual 195, 3) := by decide +kernel
theorem dX11_join_69 : decode cX11_join 69 = .ok (.aload_n 2, 1) := by decide +kernel
theorem dX11_join_70 : decode cX11_join 70 = .ok (.iconst 0, 1) := by decide +kernel
theorem dX11_join_71 : decode cX11_join 71 = .ok (.putfield 91, 3) := by decide +kernel
theorem dX11_join_74 : decode cX11_join 74 = .ok (.aload_n 0, 1) := by decide +kernel
theorem dX11_join_75 : decode cX11_join 75 = .ok (.invokevirtual 182, 3) := by decide +kernel
theorem dX11_join_78 : decode cX11_join 78 = .ok (.aload_n 1, 1) := by decide +kernel
theorem dX11_join_79 : decode cX11_join 79 = .ok (.getfield 91, 3) := by decide +kernel
theorem dX11_join_82 : decode cX11_join 82 = .ok (.ireturn, 1) := by decide +kernel
set_option maxHeartbeats 4000000 in
set_option maxRecDepth 100000 in
theorem c_X11_join_R (l : Launch) (D : va_G) (cy : ClassId) (x pg wr nw kp wk tr lw nwf nws nwe nwfk nwfv nwfh nwft nwsk nwsv nwsh nwst : Nat) (lc : Nat) (hlc : wk_law lc) (x_rowsRead : Int32) (x_rowOfImage : Int32) (x_bestsDone : Int32) (nw_asked : Int32) (nw_looksOfAsked : Int32) (nw_changes : Int32) (nwf_size : Int32) (nwfk_a : Nat → Int32) (nwfv_a : Nat → Int32) (nwfh_a : Nat → Int32) (nwft_a : Nat → Int32) (nws_size : Int32) (nwsk_a : Nat → Int32) (nwsv_a : Nat → Int32) (nwsh_a : Nat → Int32) (nwst_a : Nat → Int32)  (g_0 : 0 ≤ nwf_size.toInt ∧ nwf_size.toInt ≤ 8) (g_1 : 0 ≤ nws_size.toInt ∧ nws_size.toInt ≤ 8) : wk_Ci l yX11_join cX11_join 3 (some .int) { frames := 4, cells := 0, slots := 0, locals := 88 } D cy [.ref x] [(x, .inr (11, [.ref pg, .ref wr, .ref nw, .ref kp, .ref wk, .ref tr, .ref lw, .int x_rowsRead, .int x_rowOfImage, .int x_bestsDone])), (nw, .inr (2, [.ref nwf, .ref nws, .ref nwe, .int nw_asked, .int nw_looksOfAsked, .int nw_changes])), (nwf, .inr (8, [.ref nwfk, .ref nwfv, .ref nwfh, .ref nwft, .int nwf_size])), (nwfk, .inl (cy, 8, .inl nwfk_a)), (nwfv, .inl (cy, 8, .inl nwfv_a)), (nwfh, .inl (cy, 8, .inl nwfh_a)), (nwft, .inl (cy, 8, .inl nwft_a)), (nws, .inr (8, [.ref nwsk, .ref nwsv, .ref nwsh, .ref nwst, .int nws_size])), (nwsk, .inl (cy, 8, .inl nwsk_a)), (nwsv, .inl (cy, 8, .inl nwsv_a)), (nwsh, .inl (cy, 8, .inl nwsh_a)), (nwst, .inl (cy, 8, .inl nwst_a)), (lw, .inr (lc, []))] 0 0 (fun (r : Int32) (u : Int32 × Int32 × (Nat → Int32) × (Nat → Int32) × (Nat → Int32) × (Nat → Int32) × Int32) => (r, u) = (fn_X11_join_R lc nw_changes nwf_size nwfk_a nwfv_a nwfh_a nwft_a nws_size nwsk_a nwsv_a nwsh_a nwst_a) ∧ (0 ≤ u.2.1.toInt ∧ u.2.1.toInt ≤ 8) ∧ (0 ≤ u.2.2.2.2.2.2.toInt ∧ u.2.2.2.2.2.2.toInt ≤ 8)) (fun u => [(x, .inr (11, [.ref pg, .ref wr, .ref nw, .ref kp, .ref wk, .ref tr, .ref lw, .int x_rowsRead, .int x_rowOfImage, .int x_bestsDone])), (nw, .inr (2, [.ref nwf, .ref nws, .ref nwe, .int nw_asked, .int nw_looksOfAsked, .int u.1])), (nwf, .inr (8, [.ref nwfk, .ref nwfv, .ref nwfh, .ref nwft, .int u.2.1])), (nwfk, .inl (cy, 8, .inl u.2.2.1)), (nwfv, .inl (cy, 8, .inl u.2.2.2.1)), (nwfh, .inl (cy, 8, .inl u.2.2.2.2.1)), (nwft, .inl (cy, 8, .inl u.2.2.2.2.2.1)), (nws, .inr (8, [.ref nwsk, .ref nwsv, .ref nwsh, .ref nwst, .int u.2.2.2.2.2.2])), (nwsk, .inl (cy, 8, .inl nwsk_a)), (nwsv, .inl (cy, 8, .inl nwsv_a)), (nwsh, .inl (cy, 8, .inl nwsh_a)), (nwst, .inl (cy, 8, .inl nwst_a)), (lw, .inr (lc, []))]) := by
  refine wk_mk2Ci (by decide) (Nat.le_of_ble_eq_true rfl) ?_
  intro p e s m args below meth c A ls Q B hA hK hP hD hS hl hret
  obtain ⟨hx, hb, hr, hlocks, hml, hown, htb, hin⟩ := B
  have hl : lv_has ls 3 [(0, .ref x)] := hl
  have hF : (fn_X11_join_R lc nw_changes nwf_size nwfk_a nwfv_a nwfh_a nwft_a nws_size nwsk_a nwsv_a nwsh_a nwst_a) = (fn_X11_join_R lc nw_changes nwf_size nwfk_a nwfv_a nwfh_a nwft_a nws_size nwsk_a nwsv_a nwsh_a nwst_a) := rfl
  conv at hF => rhs; unfold fn_X11_join_R
  refine lv_aload_n hx hb dX11_join_0 rfl (lv_at hl 0 rfl) ?_
  refine va_get (D := D) (ci := 11) (v := .ref nw) (C := RX11) (T := TX11) (N := 10) hx hb htb inX11 hown hK hP 0 rfl rfl 2 (by decide) (htb _ tw_254) (fun _ h9 => h9) rfl dX11_join_1 ?_
  refine va_get (D := D) (ci := 2) (v := .ref nwf) (C := RX2) (T := TX2) (N := 6) hx hb htb inX2 hown hK hP 1 rfl rfl 0 (by decide) (htb _ tw_171) (fun _ h9 => h9) rfl dX11_join_4 ?_
  refine lv_astore_n (lv' := [(1, .ref nwf), (0, .ref x)]) hx hb dX11_join_7 rfl hl (by decide) rfl (fun ls hl => ?_)
  refine lv_aload_n hx hb dX11_join_8 rfl (lv_at hl 1 rfl) ?_
  refine va_get (D := D) (ci := 11) (v := .ref nw) (C := RX11) (T := TX11) (N := 10) hx hb htb inX11 hown hK hP 0 rfl rfl 2 (by decide) (htb _ tw_254) (fun _ h9 => h9) rfl dX11_join_9 ?_
  refine va_get (D := D) (ci := 2) (v := .ref nws) (C := RX2) (T := TX2) (N := 6) hx hb htb inX2 hown hK hP 1 rfl rfl 1 (by decide) (htb _ tw_173) (fun _ h9 => h9) rfl dX11_join_12 ?_
  refine lv_astore_n (lv' := [(2, .ref nws), (1, .ref nwf), (0, .ref x)]) hx hb dX11_join_15 rfl hl (by decide) rfl (fun ls hl => ?_)
  refine lv_aload_n hx hb dX11_join_16 rfl (lv_at hl 2 rfl) ?_
  refine va_get (D := D) (ci := 11) (v := .ref lw) (C := RX11) (T := TX11) (N := 10) hx hb htb inX11 hown hK hP 0 rfl rfl 6 (by decide) (htb _ tw_258) (fun _ h9 => h9) rfl dX11_join_17 ?_
  refine lv_ifnull hx hb dX11_join_20 ?_
  refine lv_aload_n hx hb dX11_join_23 rfl (lv_at hl 0 rfl) ?_
  refine va_get (D := D) (ci := 8) (v := .int nws_size) (C := RX8) (T := TX8) (N := 5) hx hb htb inX8 hown hK hP 7 rfl rfl 4 (by decide) (htb _ tw_134) (fun _ h9 => h9) rfl dX11_join_24 ?_
  refine lv_if_eq (tgt := 43) hx hb dX11_join_27 (by decide) (fun c_1 => ?_) (fun c_1 => ?_)
  · have k_1 : nws_size.toInt = 0 := wk_eq c_1
    replace hF := hF.trans (if_pos c_1)
    refine lv_bipush (v := (-103)) hx hb dX11_join_43 (by decide) ?_
    refine W.widen (k := 0) (n := 0) (by decide) (by decide) ?_
    exact hret (-103) (nw_changes, nwf_size, nwfk_a, nwfv_a, nwfh_a, nwft_a, nws_size) _ _ _ 45 (wk_sub9 (is := [0, 1, 2, 3, 4, 5, 6, 7, 8, 9, 10, 11, 12]) hP rfl) (hD.sub [0, 1, 2, 3, 4, 5, 6, 7, 8, 9, 10, 11, 12] rfl rfl) hS dX11_join_45 ⟨hF.symm, (show (0 ≤ nwf_size.toInt ∧ nwf_size.toInt ≤ 8) from by omega), (show (0 ≤ nws_size.toInt ∧ nws_size.toInt ≤ 8) from by omega)⟩
  · have k_1 : ¬ nws_size.toInt = 0 := wk_neq c_1
    replace hF := hF.trans (if_neg c_1)
    refine lv_aload_n hx hb dX11_join_30 rfl (lv_at hl 0 rfl) ?_
    refine va_get (D := D) (ci := 8) (v := .ref nwsk) (C := RX8) (T := TX8) (N := 5) hx hb htb inX8 hown hK hP 7 rfl rfl 0 (by decide) (htb _ tw_118) (fun _ h9 => h9) rfl dX11_join_31 ?_
    refine lv_iconst (v := 0) hx hb dX11_join_34 (by decide) ?_
    refine va_iald hx hb hK hP 8 0 rfl rfl (show vp_in 0 8 from vp_in_iff.mpr (show 0 ≤ 0 ∧ 0 < ((8 : Nat) : Int) from by omega)) dX11_join_35 ?_
    refine lv_aload_n hx hb dX11_join_36 rfl (lv_at hl 1 rfl) ?_
    refine wk_iV (As := []) (rest := [.int (nwsk_a (0 : Int32).toNatClampNeg)]) (wc := [(nwf, .inr (8, [.ref nwfk, .ref nwfv, .ref nwfh, .ref nwft, .int nwf_size])), (nwfk, .inl (cy, 8, .inl nwfk_a))]) (wr := [(x, .inr (11, [.ref pg, .ref wr, .ref nw, .ref kp, .ref wk, .ref tr, .ref lw, .int x_rowsRead, .int x_rowOfImage, .int x_bestsDone])), (nw, .inr (2, [.ref nwf, .ref nws, .ref nwe, .int nw_asked, .int nw_looksOfAsked, .int nw_changes])), (nwfv, .inl (cy, 8, .inl nwfv_a)), (nwfh, .inl (cy, 8, .inl nwfh_a)), (nwft, .inl (cy, 8, .inl nwft_a)), (nws, .inr (8, [.ref nwsk, .ref nwsv, .ref nwsh, .ref nwst, .int nws_size])), (nwsk, .inl (cy, 8, .inl nwsk_a)), (nwsv, .inl (cy, 8, .inl nwsv_a)), (nwsh, .inl (cy, 8, .inl nwsh_a)), (nwst, .inl (cy, 8, .inl nwst_a)), (lw, .inr (lc, []))]) (n := 0) ⟨hx, hb, hml, hown, htb⟩ (c_X8_lastKey l D cy nwf nwfk nwfv nwfh nwft nwf_size nwfk_a  (show 0 ≤ nwf_size.toInt ∧ nwf_size.toInt ≤ 8 from by omega)) tw_629 tw_626 tw_627 tw_628 tw_67 rfl rfl (by decide +kernel) ⟨Nat.le_of_ble_eq_true rfl, Nat.le_of_ble_eq_true rfl⟩ hK hP hD hS hA [2, 3] [0, 1, 4, 5, 6, 7, 8, 9, 10, 11, 12] rfl rfl rfl rfl (by decide) 0 (ci := 8) rfl rfl rfl hl.1 rfl (Nat.le_of_ble_eq_true rfl) dX11_join_37 ⟨Nat.le_of_ble_eq_true rfl, Nat.le_of_ble_eq_true rfl⟩ (fun r_2 u_3 H locs hw_4 hP hD hS => ?_)
    refine W.widen (k := 0) (n := 0) (by decide) (by decide) ?_
    have hw_4 : r_2 = (fn_X8_lastKey nwf_size nwfk_a) := hw_4
    subst hw_4
    have hP : va_P D classes [(x, .inr (11, [.ref pg, .ref wr, .ref nw, .ref kp, .ref wk, .ref tr, .ref lw, .int x_rowsRead, .int x_rowOfImage, .int x_bestsDone])), (nw, .inr (2, [.ref nwf, .ref nws, .ref nwe, .int nw_asked, .int nw_looksOfAsked, .int nw_changes])), (nwfv, .inl (cy, 8, .inl nwfv_a)), (nwfh, .inl (cy, 8, .inl nwfh_a)), (nwft, .inl (cy, 8, .inl nwft_a)), (nws, .inr (8, [.ref nwsk, .ref nwsv, .ref nwsh, .ref nwst, .int nws_size])), (nwsk, .inl (cy, 8, .inl nwsk_a)), (nwsv, .inl (cy, 8, .inl nwsv_a)), (nwsh, .inl (cy, 8, .inl nwsh_a)), (nwst, .inl (cy, 8, .inl nwst_a)), (lw, .inr (lc, [])), (nwf, .inr (8, [.ref nwfk, .ref nwfv, .ref nwfh, .ref nwft, .int nwf_size])), (nwfk, .inl (cy, 8, .inl nwfk_a))] H := hP
    have hD : va_D A [(x, .inr (11, [.ref pg, .ref wr, .ref nw, .ref kp, .ref wk, .ref tr, .ref lw, .int x_rowsRead, .int x_rowOfImage, .int x_bestsDone])), (nw, .inr (2, [.ref nwf, .ref nws, .ref nwe, .int nw_asked, .int nw_looksOfAsked, .int nw_changes])), (nwfv, .inl (cy, 8, .inl nwfv_a)), (nwfh, .inl (cy, 8, .inl nwfh_a)), (nwft, .inl (cy, 8, .inl nwft_a)), (nws, .inr (8, [.ref nwsk, .ref nwsv, .ref nwsh, .ref nwst, .int nws_size])), (nwsk, .inl (cy, 8, .inl nwsk_a)), (nwsv, .inl (cy, 8, .inl nwsv_a)), (nwsh, .inl (cy, 8, .inl nwsh_a)), (nwst, .inl (cy, 8, .inl nwst_a)), (lw, .inr (lc, [])), (nwf, .inr (8, [.ref nwfk, .ref nwfv, .ref nwfh, .ref nwft, .int nwf_size])), (nwfk, .inl (cy, 8, .inl nwfk_a))] := hD
    refine lv_icmp_gt (tgt := 46) hx hb dX11_join_40 (by decide) (fun c_5 => ?_) (fun c_5 => ?_)
    · have k_5 : (fn_X8_lastKey nwf_size nwfk_a).toInt < (nwsk_a (0 : Int32).toNatClampNeg).toInt := wk_lt c_5
      replace hF := hF.trans (if_pos c_5)
      refine lv_aload_n hx hb dX11_join_46 rfl (lv_at hl 1 rfl) ?_
      refine va_get (D := D) (ci := 8) (v := .int nwf_size) (C := RX8) (T := TX8) (N := 5) hx hb htb inX8 hown hK hP 11 rfl rfl 4 (by decide) (htb _ tw_134) (fun _ h9 => h9) rfl dX11_join_47 ?_
      refine lv_aload_n hx hb dX11_join_50 rfl (lv_at hl 0 rfl) ?_
      refine va_get (D := D) (ci := 8) (v := .int nws_size) (C := RX8) (T := TX8) (N := 5) hx hb htb inX8 hown hK hP 5 rfl rfl 4 (by decide) (htb _ tw_134) (fun _ h9 => h9) rfl dX11_join_51 ?_
      refine lv_iadd hx hb dX11_join_54 ?_
      have k_6 : (nwf_size + nws_size).toInt = nwf_size.toInt + nws_size.toInt := wk_add nwf_size.toInt nws_size.toInt rfl rfl (by omega) (by omega)
      refine lv_bipush (v := 8) hx hb dX11_join_55 (by decide) ?_
      refine lv_icmp_le (tgt := 63) hx hb dX11_join_57 (by decide) (fun c_7 => ?_) (fun c_7 => ?_)
      · have k_7 : (nwf_size + nws_size).toInt ≤ 8 := wk_le c_7
        replace hF := hF.trans (if_pos c_7)
        refine lv_aload_n hx hb dX11_join_63 rfl (lv_at hl 1 rfl) ?_
        refine lv_aload_n hx hb dX11_join_64 rfl (lv_at hl 0 rfl) ?_
        refine lv_iconst (v := 0) hx hb dX11_join_65 (by decide) ?_
        refine wk_vV (As := [.ref nws, .int 0]) (rest := []) (wc := [(nwf, .inr (8, [.ref nwfk, .ref nwfv, .ref nwfh, .ref nwft, .int nwf_size])), (nwfk, .inl (cy, 8, .inl nwfk_a)), (nwfv, .inl (cy, 8, .inl nwfv_a)), (nwfh, .inl (cy, 8, .inl nwfh_a)), (nwft, .inl (cy, 8, .inl nwft_a)), (nws, .inr (8, [.ref nwsk, .ref nwsv, .ref nwsh, .ref nwst, .int nws_size])), (nwsk, .inl (cy, 8, .inl nwsk_a)), (nwsv, .inl (cy, 8, .inl nwsv_a)), (nwsh, .inl (cy, 8, .inl nwsh_a)), (nwst, .inl (cy, 8, .inl nwst_a))]) (wr := [(x, .inr (11, [.ref pg, .ref wr, .ref nw, .ref kp, .ref wk, .ref tr, .ref lw, .int x_rowsRead, .int x_rowOfImage, .int x_bestsDone])), (nw, .inr (2, [.ref nwf, .ref nws, .ref nwe, .int nw_asked, .int nw_looksOfAsked, .int nw_changes])), (lw, .inr (lc, []))]) (n := 2) ⟨hx, hb, hml, hown, htb⟩ (c_X8_append l D cy nwf nwfk nwfv nwfh nwft nws nwsk nwsv nwsh nwst nwf_size nwfk_a nwfv_a nwfh_a nwft_a nws_size nwsk_a nwsv_a nwsh_a nwst_a 0 (show 0 ≤ nwf_size.toInt ∧ nwf_size.toInt ≤ 8 from by omega) (show 0 ≤ nws_size.toInt ∧ nws_size.toInt ≤ 8 from by omega) (show 0 ≤ 0 ∧ 0 ≤ 8 from by omega)) tw_621 tw_618 tw_619 tw_620 tw_67 rfl rfl (by decide +kernel) ⟨Nat.le_of_ble_eq_true rfl, Nat.le_of_ble_eq_true rfl⟩ hK hP hD hS hA [11, 12, 2, 3, 4, 5, 6, 7, 8, 9] [0, 1, 10] rfl rfl rfl rfl (by decide) 0 (ci := 8) rfl rfl rfl hl.1 rfl (Nat.le_of_ble_eq_true rfl) dX11_join_66 ⟨Nat.le_of_ble_eq_true rfl, Nat.le_of_ble_eq_true rfl⟩ (fun u_9 H locs hw_10 hP hD hS => ?_)
        refine W.widen (k := 0) (n := 0) (by decide) (by decide) ?_
        obtain ⟨o_11, o_12, o_13, o_14, o_15⟩ := u_9
        obtain ⟨hw_10, k_16⟩ := hw_10
        have hw_10 : (o_11, o_12, o_13, o_14, o_15) = (fn_X8_append nwf_size nwfk_a nwfv_a nwfh_a nwft_a nws_size nwsk_a nwsv_a nwsh_a nwst_a 0) := hw_10
        have k_16 : (0 ≤ o_11.toInt ∧ o_11.toInt ≤ 8) := k_16
        rw [← hw_10] at hF
        rw [pm2_mk o_11 (o_12, o_13, o_14, o_15), pm2_mk o_12 (o_13, o_14, o_15), pm2_mk o_13 (o_14, o_15), pm2_mk o_14 o_15] at hF
        have hP : va_P D classes [(x, .inr (11, [.ref pg, .ref wr, .ref nw, .ref kp, .ref wk, .ref tr, .ref lw, .int x_rowsRead, .int x_rowOfImage, .int x_bestsDone])), (nw, .inr (2, [.ref nwf, .ref nws, .ref nwe, .int nw_asked, .int nw_looksOfAsked, .int nw_changes])), (lw, .inr (lc, [])), (nwf, .inr (8, [.ref nwfk, .ref nwfv, .ref nwfh, .ref nwft, .int o_11])), (nwfk, .inl (cy, 8, .inl o_12)), (nwfv, .inl (cy, 8, .inl o_13)), (nwfh, .inl (cy, 8, .inl o_14)), (nwft, .inl (cy, 8, .inl o_15)), (nws, .inr (8, [.ref nwsk, .ref nwsv, .ref nwsh, .ref nwst, .int nws_size])), (nwsk, .inl (cy, 8, .inl nwsk_a)), (nwsv, .inl (cy, 8, .inl nwsv_a)), (nwsh, .inl (cy, 8, .inl nwsh_a)), (nwst, .inl (cy, 8, .inl nwst_a))] H := hP
        have hD : va_D A [(x, .inr (11, [.ref pg, .ref wr, .ref nw, .ref kp, .ref wk, .ref tr, .ref lw, .int x_rowsRead, .int x_rowOfImage, .int x_bestsDone])), (nw, .inr (2, [.ref nwf, .ref nws, .ref nwe, .int nw_asked, .int nw_looksOfAsked, .int nw_changes])), (lw, .inr (lc, [])), (nwf, .inr (8, [.ref nwfk, .ref nwfv, .ref nwfh, .ref nwft, .int o_11])), (nwfk, .inl (cy, 8, .inl o_12)), (nwfv, .inl (cy, 8, .inl o_13)), (nwfh, .inl (cy, 8, .inl o_14)), (nwft, .inl (cy, 8, .inl o_15)), (nws, .inr (8, [.ref nwsk, .ref nwsv, .ref nwsh, .ref nwst, .int nws_size])), (nwsk, .inl (cy, 8, .inl nwsk_a)), (nwsv, .inl (cy, 8, .inl nwsv_a)), (nwsh, .inl (cy, 8, .inl nwsh_a)), (nwst, .inl (cy, 8, .inl nwst_a))] := hD
        refine lv_aload_n hx hb dX11_join_69 rfl (lv_at hl 0 rfl) ?_
        refine lv_iconst (v := 0) hx hb dX11_join_70 (by decide) ?_
        refine va_put (D := D) (ci := 8) (v := .int 0) (ty := .int) (C := RX8) (T := TX8) (N := 5) hx hb htb inX8 tyX8 tyX8_ok nmX8 hown hK hP hD hS 8 rfl rfl 4 (by decide) (htb _ tw_134) (fun _ h9 => h9) rfl (by decide +kernel) rfl rfl (Nat.le_of_ble_eq_true rfl) dX11_join_71 (fun H locs hP hD hS => ?_)
        have hP : va_P D classes [(x, .inr (11, [.ref pg, .ref wr, .ref nw, .ref kp, .ref wk, .ref tr, .ref lw, .int x_rowsRead, .int x_rowOfImage, .int x_bestsDone])), (nw, .inr (2, [.ref nwf, .ref nws, .ref nwe, .int nw_asked, .int nw_looksOfAsked, .int nw_changes])), (lw, .inr (lc, [])), (nwf, .inr (8, [.ref nwfk, .ref nwfv, .ref nwfh, .ref nwft, .int o_11])), (nwfk, .inl (cy, 8, .inl o_12)), (nwfv, .inl (cy, 8, .inl o_13)), (nwfh, .inl (cy, 8, .inl o_14)), (nwft, .inl (cy, 8, .inl o_15)), (nws, .inr (8, [.ref nwsk, .ref nwsv, .ref nwsh, .ref nwst, .int 0])), (nwsk, .inl (cy, 8, .inl nwsk_a)), (nwsv, .inl (cy, 8, .inl nwsv_a)), (nwsh, .inl (cy, 8, .inl nwsh_a)), (nwst, .inl (cy, 8, .inl nwst_a))] H := hP
        have hD : va_D A [(x, .inr (11, [.ref pg, .ref wr, .ref nw, .ref kp, .ref wk, .ref tr, .ref lw, .int x_rowsRead, .int x_rowOfImage, .int x_bestsDone])), (nw, .inr (2, [.ref nwf, .ref nws, .ref nwe, .int nw_asked, .int nw_looksOfAsked, .int nw_changes])), (lw, .inr (lc, [])), (nwf, .inr (8, [.ref nwfk, .ref nwfv, .ref nwfh, .ref nwft, .int o_11])), (nwfk, .inl (cy, 8, .inl o_12)), (nwfv, .inl (cy, 8, .inl o_13)), (nwfh, .inl (cy, 8, .inl o_14)), (nwft, .inl (cy, 8, .inl o_15)), (nws, .inr (8, [.ref nwsk, .ref nwsv, .ref nwsh, .ref nwst, .int 0])), (nwsk, .inl (cy, 8, .inl nwsk_a)), (nwsv, .inl (cy, 8, .inl nwsv_a)), (nwsh, .inl (cy, 8, .inl nwsh_a)), (nwst, .inl (cy, 8, .inl nwst_a))] := hD
        refine lv_aload_n hx hb dX11_join_74 rfl (lv_at hl 2 rfl) ?_
        refine wk_vV (As := []) (rest := []) (wc := [(x, .inr (11, [.ref pg, .ref wr, .ref nw, .ref kp, .ref wk, .ref tr, .ref lw, .int x_rowsRead, .int x_rowOfImage, .int x_bestsDone])), (nw, .inr (2, [.ref nwf, .ref nws, .ref nwe, .int nw_asked, .int nw_looksOfAsked, .int nw_changes])), (nwf, .inr (8, [.ref nwfk, .ref nwfv, .ref nwfh, .ref nwft, .int o_11])), (nwfk, .inl (cy, 8, .inl o_12)), (nwfh, .inl (cy, 8, .inl o_14)), (lw, .inr (lc, []))]) (wr := [(nwfv, .inl (cy, 8, .inl o_13)), (nwft, .inl (cy, 8, .inl o_15)), (nws, .inr (8, [.ref nwsk, .ref nwsv, .ref nwsh, .ref nwst, .int 0])), (nwsk, .inl (cy, 8, .inl nwsk_a)), (nwsv, .inl (cy, 8, .inl nwsv_a)), (nwsh, .inl (cy, 8, .inl nwsh_a)), (nwst, .inl (cy, 8, .inl nwst_a))]) (n := 0) ⟨hx, hb, hml, hown, htb⟩ (c_X11_changeIsMade_R l D cy x pg wr nw kp wk tr lw nwf nws nwe nwfk nwfv nwfh nwft lc hlc x_rowsRead x_rowOfImage x_bestsDone nw_asked nw_looksOfAsked nw_changes o_11 o_12 o_14  (show 0 ≤ o_11.toInt ∧ o_11.toInt ≤ 8 from by omega)) tw_600 tw_597 tw_599 tw_15 tw_64 rfl rfl (by decide +kernel) ⟨Nat.le_of_ble_eq_true rfl, Nat.le_of_ble_eq_true rfl⟩ hK hP hD hS hA [0, 1, 3, 4, 6, 2] [5, 7, 8, 9, 10, 11, 12] rfl rfl rfl rfl (by decide) 0 (ci := 11) rfl rfl rfl hl.1 rfl (Nat.le_of_ble_eq_true rfl) dX11_join_75 ⟨Nat.le_of_ble_eq_true rfl, Nat.le_of_ble_eq_true rfl⟩ (fun u_18 H locs hw_19 hP hD hS => ?_)
        refine W.widen (k := 0) (n := 0) (by decide) (by decide) ?_
        obtain ⟨o_20, o_21⟩ := u_18
        have hw_19 : (o_20, o_21) = (fn_X11_changeIsMade_R lc nw_changes o_11 o_12 o_14) := hw_19
        rw [← hw_19] at hF
        rw [pm2_mk o_20 o_21] at hF
        have hP : va_P D classes [(nwfv, .inl (cy, 8, .inl o_13)), (nwft, .inl (cy, 8, .inl o_15)), (nws, .inr (8, [.ref nwsk, .ref nwsv, .ref nwsh, .ref nwst, .int 0])), (nwsk, .inl (cy, 8, .inl nwsk_a)), (nwsv, .inl (cy, 8, .inl nwsv_a)), (nwsh, .inl (cy, 8, .inl nwsh_a)), (nwst, .inl (cy, 8, .inl nwst_a)), (x, .inr (11, [.ref pg, .ref wr, .ref nw, .ref kp, .ref wk, .ref tr, .ref lw, .int x_rowsRead, .int x_rowOfImage, .int x_bestsDone])), (nw, .inr (2, [.ref nwf, .ref nws, .ref nwe, .int nw_asked, .int nw_looksOfAsked, .int o_20])), (nwf, .inr (8, [.ref nwfk, .ref nwfv, .ref nwfh, .ref nwft, .int o_11])), (nwfk, .inl (cy, 8, .inl o_12)), (nwfh, .inl (cy, 8, .inl o_21)), (lw, .inr (lc, []))] H := hP
        have hD : va_D A [(nwfv, .inl (cy, 8, .inl o_13)), (nwft, .inl (cy, 8, .inl o_15)), (nws, .inr (8, [.ref nwsk, .ref nwsv, .ref nwsh, .ref nwst, .int 0])), (nwsk, .inl (cy, 8, .inl nwsk_a)), (nwsv, .inl (cy, 8, .inl nwsv_a)), (nwsh, .inl (cy, 8, .inl nwsh_a)), (nwst, .inl (cy, 8, .inl nwst_a)), (x, .inr (11, [.ref pg, .ref wr, .ref nw, .ref kp, .ref wk, .ref tr, .ref lw, .int x_rowsRead, .int x_rowOfImage, .int x_bestsDone])), (nw, .inr (2, [.ref nwf, .ref nws, .ref nwe, .int nw_asked, .int nw_looksOfAsked, .int o_20])), (nwf, .inr (8, [.ref nwfk, .ref nwfv, .ref nwfh, .ref nwft, .int o_11])), (nwfk, .inl (cy, 8, .inl o_12)), (nwfh, .inl (cy, 8, .inl o_21)), (lw, .inr (lc, []))] := hD
        refine lv_aload_n hx hb dX11_join_78 rfl (lv_at hl 1 rfl) ?_
        refine va_get (D := D) (ci := 8) (v := .int o_11) (C := RX8) (T := TX8) (N := 5) hx hb htb inX8 hown hK hP 9 rfl rfl 4 (by decide) (htb _ tw_134) (fun _ h9 => h9) rfl dX11_join_79 ?_
        refine W.widen (k := 0) (n := 0) (by decide) (by decide) ?_
        exact hret o_11 (o_20, o_11, o_12, o_13, o_21, o_15, 0) _ _ _ 82 (wk_sub9 (is := [7, 8, 9, 10, 0, 11, 1, 2, 3, 4, 5, 6, 12]) hP rfl) (hD.sub [7, 8, 9, 10, 0, 11, 1, 2, 3, 4, 5, 6, 12] rfl rfl) hS dX11_join_82 ⟨hF.symm, (show (0 ≤ o_11.toInt ∧ o_11.toInt ≤ 8) from by omega), (show (0 ≤ 0 ∧ 0 ≤ 8) from by omega)⟩
      · have k_7 : ¬ (nwf_size + nws_size).toInt ≤ 8 := wk_nle c_7
        replace hF := hF.trans (if_neg c_7)
        refine lv_bipush (v := (-104)) hx hb dX11_join_60 (by decide) ?_
        refine W.widen (k := 0) (n := 0) (by decide) (by decide) ?_
        exact hret (-104) (nw_changes, nwf_size, nwfk_a, nwfv_a, nwfh_a, nwft_a, nws_size) _ _ _ 62 (wk_sub9 (is := [0, 1, 11, 12, 2, 3, 4, 5, 6, 7, 8, 9, 10]) hP rfl) (hD.sub [0, 1, 11, 12, 2, 3, 4, 5, 6, 7, 8, 9, 10] rfl rfl) hS dX11_join_62 ⟨hF.symm, (show (0 ≤ nwf_size.toInt ∧ nwf_size.toInt ≤ 8) from by omega), (show (0 ≤ nws_size.toInt ∧ nws_size.toInt ≤ 8) from by omega)⟩
    · have k_5 : ¬ (fn_X8_lastKey nwf_size nwfk_a).toInt < (nwsk_a (0 : Int32).toNatClampNeg).toInt := wk_nlt c_5
      replace hF := hF.trans (if_neg c_5)
      refine lv_bipush (v := (-103)) hx hb dX11_join_43 (by decide) ?_
      refine W.widen (k := 0) (n := 0) (by decide) (by decide) ?_
      exact hret (-103) (nw_changes, nwf_size, nwfk_a, nwfv_a, nwfh_a, nwft_a, nws_size) _ _ _ 45 (wk_sub9 (is := [0, 1, 11, 12, 2, 3, 4, 5, 6, 7, 8, 9, 10]) hP rfl) (hD.sub [0, 1, 11, 12, 2, 3, 4, 5, 6, 7, 8, 9, 10] rfl rfl) hS dX11_join_45 ⟨hF.symm, (show (0 ≤ nwf_size.toInt ∧ nwf_size.toInt ≤ 8) from by omega), (show (0 ≤ nws_size.toInt ∧ nws_size.toInt ≤ 8) from by omega)⟩
