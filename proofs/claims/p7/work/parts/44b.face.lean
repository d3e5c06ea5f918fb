def fn_X11_best_N (a : Int32) (b : Int32) : Int32 := (if b < 10 then (if a < 1 then (-102) else (if (18 : Int32) < a then (-102) else (if b = 0 then (-103) else (if b = 1 then (-103) else (-102))))) else (if (15 : Int32) < b then (if a < 1 then (-102) else (if (18 : Int32) < a then (-102) else (if b = 0 then default else (if b = 1 then default else (-102))))) else (if a < 1 then (-102) else (if (18 : Int32) < a then (-102) else (if b = 0 then default else (if b = 1 then default else (-103)))))))
theorem dX11_best_0 : decode cX11_best 0 = .ok (.iload_n 2, 1) := by decide +kernel
theorem dX11_best_1 : decode cX11_best 1 = .ok (.bipush 10, 2) := by decide +kernel
theorem dX11_best_3 : decode cX11_best 3 = .ok (.if_icmp .lt 13, 3) := by decide +kernel
theorem dX11_best_6 : decode cX11_best 6 = .ok (.iload_n 2, 1) := by decide +kernel
theorem dX11_best_7 : decode cX11_best 7 = .ok (.bipush 15, 2) := by decide +kernel
theorem dX11_best_9 : decode cX11_best 9 = .ok (.if_icmp .gt 7, 3) := by decide +kernel
theorem dX11_best_12 : decode cX11_best 12 = .ok (.iconst 1, 1) := by decide +kernel
theorem dX11_best_13 : decode cX11_best 13 = .ok (.goto 4, 3) := by decide +kernel
theorem dX11_best_16 : decode cX11_best 16 = .ok (.iconst 0, 1) := by decide +kernel
theorem dX11_best_17 : decode cX11_best 17 = .ok (.istore_n 3, 1) := by decide +kernel
theorem dX11_best_18 : decode cX11_best 18 = .ok (.iload_n 1, 1) := by decide +kernel
theorem dX11_best_19 : decode cX11_best 19 = .ok (.iconst 1, 1) := by decide +kernel
theorem dX11_best_20 : decode cX11_best 20 = .ok (.if_icmp .lt 22, 3) := by decide +kernel
theorem dX11_best_23 : decode cX11_best 23 = .ok (.iload_n 1, 1) := by decide +kernel
theorem dX11_best_24 : decode cX11_best 24 = .ok (.bipush 18, 2) := by decide +kernel
theorem dX11_best_26 : decode cX11_best 26 = .ok (.if_icmp .gt 16, 3) := by decide +kernel
theorem dX11_best_29 : decode cX11_best 29 = .ok (.iload_n 2, 1) := by decide +kernel
theorem dX11_best_30 : decode cX11_best 30 = .ok (.ifCond .eq 15, 3) := by decide +kernel
theorem dX11_best_33 : decode cX11_best 33 = .ok (.iload_n 2, 1) := by decide +kernel
theorem dX11_best_34 : decode cX11_best 34 = .ok (.iconst 1, 1) := by decide +kernel
theorem dX11_best_35 : decode cX11_best 35 = .ok (.if_icmp .eq 10, 3) := by decide +kernel
theorem dX11_best_38 : decode cX11_best 38 = .ok (.iload_n 3, 1) := by decide +kernel
theorem dX11_best_39 : decode cX11_best 39 = .ok (.ifCond .ne 6, 3) := by decide +kernel
theorem dX11_best_42 : decode cX11_best 42 = .ok (.bipush (-102), 2) := by decide +kernel
theorem dX11_best_44 : decode cX11_best 44 = .ok (.ireturn, 1) := by decide +kernel
theorem dX11_best_45 : decode cX11_best 45 = .ok (.aload_n 0, 1) := by decide +kernel
theorem dX11_best_46 : decode cX11_best 46 = .ok (.getfield 71, 3) := by decide +kernel
theorem dX11_best_49 : decode cX11_best 49 = .ok (.ifnull 27, 3) := by decide +kernel
theorem dX11_best_76 : decode cX11_best 76 = .ok (.bipush (-103), 2) := by decide +kernel
theorem dX11_best_78 : decode cX11_best 78 = .ok (.ireturn, 1) := by decide +kernel
set_option maxHeartbeats 4000000 in
set_option maxRecDepth 100000 in
theorem c_X11_best_N (l : Launch) (D : va_G) (cy : ClassId) (x pg wr nw kp wk tr : Nat) (x_rowsRead : Int32) (x_rowOfImage : Int32) (x_bestsDone : Int32) (a : Int32) (b : Int32)  : wk_Ci l yX11_best cX11_best 4 (some .int) { frames := 0, cells := 0, slots := 0, locals := 0 } D cy [.ref x, .int a, .int b] [(x, .inr (11, [.ref pg, .ref wr, .ref nw, .ref kp, .ref wk, .ref tr, .null, .int x_rowsRead, .int x_rowOfImage, .int x_bestsDone]))] 0 0 (fun (r : Int32) (u : Unit) => r = (fn_X11_best_N a b)) (fun u => [(x, .inr (11, [.ref pg, .ref wr, .ref nw, .ref kp, .ref wk, .ref tr, .null, .int x_rowsRead, .int x_rowOfImage, .int x_bestsDone]))]) := by
  refine wk_mk2Ci (by decide) (Nat.le_of_ble_eq_true rfl) ?_
  intro p e s m args below meth c A ls Q B hA hK hP hD hS hl hret
  obtain ⟨hx, hb, hr, hlocks, hml, hown, htb, hin⟩ := B
  have hl : lv_has ls 4 [(0, .ref x), (1, .int a), (2, .int b)] := hl
  have hF : (fn_X11_best_N a b) = (fn_X11_best_N a b) := rfl
  conv at hF => rhs; unfold fn_X11_best_N
  refine lv_iload_n hx hb dX11_best_0 rfl (lv_at hl 2 rfl) ?_
  refine lv_bipush (v := 10) hx hb dX11_best_1 (by decide) ?_
  refine lv_icmp_lt (tgt := 16) hx hb dX11_best_3 (by decide) (fun c_1 => ?_) (fun c_1 => ?_)
  · have k_1 : b.toInt < 10 := wk_lt c_1
    replace hF := hF.trans (if_pos c_1)
    refine lv_iconst (v := 0) hx hb dX11_best_16 (by decide) ?_
    refine lv_istore_n (lv' := [(3, .int 0), (0, .ref x), (1, .int a), (2, .int b)]) hx hb dX11_best_17 rfl hl (by decide) rfl (fun ls hl => ?_)
    refine lv_iload_n hx hb dX11_best_18 rfl (lv_at hl 2 rfl) ?_
    refine lv_iconst (v := 1) hx hb dX11_best_19 (by decide) ?_
    refine lv_icmp_lt (tgt := 42) hx hb dX11_best_20 (by decide) (fun c_2 => ?_) (fun c_2 => ?_)
    · have k_2 : a.toInt < 1 := wk_lt c_2
      replace hF := hF.trans (if_pos c_2)
      refine lv_bipush (v := (-102)) hx hb dX11_best_42 (by decide) ?_
      refine W.widen (k := 0) (n := 0) (by decide) (by decide) ?_
      exact hret (-102) () _ _ _ 44 (wk_sub9 (is := [0]) hP rfl) (hD.sub [0] rfl rfl) hS dX11_best_44 hF.symm
    · have k_2 : ¬ a.toInt < 1 := wk_nlt c_2
      replace hF := hF.trans (if_neg c_2)
      refine lv_iload_n hx hb dX11_best_23 rfl (lv_at hl 2 rfl) ?_
      refine lv_bipush (v := 18) hx hb dX11_best_24 (by decide) ?_
      refine lv_icmp_gt (tgt := 42) hx hb dX11_best_26 (by decide) (fun c_3 => ?_) (fun c_3 => ?_)
      · have k_3 : 18 < a.toInt := wk_lt c_3
        replace hF := hF.trans (if_pos c_3)
        refine lv_bipush (v := (-102)) hx hb dX11_best_42 (by decide) ?_
        refine W.widen (k := 0) (n := 0) (by decide) (by decide) ?_
        exact hret (-102) () _ _ _ 44 (wk_sub9 (is := [0]) hP rfl) (hD.sub [0] rfl rfl) hS dX11_best_44 hF.symm
      · have k_3 : ¬ 18 < a.toInt := wk_nlt c_3
        replace hF := hF.trans (if_neg c_3)
        refine lv_iload_n hx hb dX11_best_29 rfl (lv_at hl 3 rfl) ?_
        refine lv_if_eq (tgt := 45) hx hb dX11_best_30 (by decide) (fun c_4 => ?_) (fun c_4 => ?_)
        · have k_4 : b.toInt = 0 := wk_eq c_4
          replace hF := hF.trans (if_pos c_4)
          refine lv_aload_n hx hb dX11_best_45 rfl (lv_at hl 1 rfl) ?_
          refine va_get (D := D) (ci := 11) (v := .null) (C := RX11) (T := TX11) (N := 10) hx hb htb inX11 hown hK hP 0 rfl rfl 6 (by decide) (htb _ tw_258) (fun _ h9 => h9) rfl dX11_best_46 ?_
          refine lv_ifnullN (tgt := 76) hx hb dX11_best_49 (by decide) ?_
          refine lv_bipush (v := (-103)) hx hb dX11_best_76 (by decide) ?_
          refine W.widen (k := 0) (n := 0) (by decide) (by decide) ?_
          exact hret (-103) () _ _ _ 78 (wk_sub9 (is := [0]) hP rfl) (hD.sub [0] rfl rfl) hS dX11_best_78 hF.symm
        · have k_4 : ¬ b.toInt = 0 := wk_neq c_4
          replace hF := hF.trans (if_neg c_4)
          refine lv_iload_n hx hb dX11_best_33 rfl (lv_at hl 3 rfl) ?_
          refine lv_iconst (v := 1) hx hb dX11_best_34 (by decide) ?_
          refine lv_icmp_eq (tgt := 45) hx hb dX11_best_35 (by decide) (fun c_5 => ?_) (fun c_5 => ?_)
          · have k_5 : b.toInt = 1 := wk_eq c_5
            replace hF := hF.trans (if_pos c_5)
            refine lv_aload_n hx hb dX11_best_45 rfl (lv_at hl 1 rfl) ?_
            refine va_get (D := D) (ci := 11) (v := .null) (C := RX11) (T := TX11) (N := 10) hx hb htb inX11 hown hK hP 0 rfl rfl 6 (by decide) (htb _ tw_258) (fun _ h9 => h9) rfl dX11_best_46 ?_
            refine lv_ifnullN (tgt := 76) hx hb dX11_best_49 (by decide) ?_
            refine lv_bipush (v := (-103)) hx hb dX11_best_76 (by decide) ?_
            refine W.widen (k := 0) (n := 0) (by decide) (by decide) ?_
            exact hret (-103) () _ _ _ 78 (wk_sub9 (is := [0]) hP rfl) (hD.sub [0] rfl rfl) hS dX11_best_78 hF.symm
          · have k_5 : ¬ b.toInt = 1 := wk_neq c_5
            replace hF := hF.trans (if_neg c_5)
            refine lv_iload_n hx hb dX11_best_38 rfl (lv_at hl 0 rfl) ?_
            refine lv_if_ne (tgt := 45) hx hb dX11_best_39 (by decide) (fun c_6 => absurd (by decide) c_6) (fun _ => ?_)
            refine lv_bipush (v := (-102)) hx hb dX11_best_42 (by decide) ?_
            refine W.widen (k := 0) (n := 0) (by decide) (by decide) ?_
            exact hret (-102) () _ _ _ 44 (wk_sub9 (is := [0]) hP rfl) (hD.sub [0] rfl rfl) hS dX11_best_44 hF.symm
  · have k_1 : ¬ b.toInt < 10 := wk_nlt c_1
    replace hF := hF.trans (if_neg c_1)
    refine lv_iload_n hx hb dX11_best_6 rfl (lv_at hl 2 rfl) ?_
    refine lv_bipush (v := 15) hx hb dX11_best_7 (by decide) ?_
    refine lv_icmp_gt (tgt := 16) hx hb dX11_best_9 (by decide) (fun c_7 => ?_) (fun c_7 => ?_)
    · have k_7 : 15 < b.toInt := wk_lt c_7
      replace hF := hF.trans (if_pos c_7)
      refine lv_iconst (v := 0) hx hb dX11_best_16 (by decide) ?_
      refine lv_istore_n (lv' := [(3, .int 0), (0, .ref x), (1, .int a), (2, .int b)]) hx hb dX11_best_17 rfl hl (by decide) rfl (fun ls hl => ?_)
      refine lv_iload_n hx hb dX11_best_18 rfl (lv_at hl 2 rfl) ?_
      refine lv_iconst (v := 1) hx hb dX11_best_19 (by decide) ?_
      refine lv_icmp_lt (tgt := 42) hx hb dX11_best_20 (by decide) (fun c_8 => ?_) (fun c_8 => ?_)
      · have k_8 : a.toInt < 1 := wk_lt c_8
        replace hF := hF.trans (if_pos c_8)
        refine lv_bipush (v := (-102)) hx hb dX11_best_42 (by decide) ?_
        refine W.widen (k := 0) (n := 0) (by decide) (by decide) ?_
        exact hret (-102) () _ _ _ 44 (wk_sub9 (is := [0]) hP rfl) (hD.sub [0] rfl rfl) hS dX11_best_44 hF.symm
      · have k_8 : ¬ a.toInt < 1 := wk_nlt c_8
        replace hF := hF.trans (if_neg c_8)
        refine lv_iload_n hx hb dX11_best_23 rfl (lv_at hl 2 rfl) ?_
        refine lv_bipush (v := 18) hx hb dX11_best_24 (by decide) ?_
        refine lv_icmp_gt (tgt := 42) hx hb dX11_best_26 (by decide) (fun c_9 => ?_) (fun c_9 => ?_)
        · have k_9 : 18 < a.toInt := wk_lt c_9
          replace hF := hF.trans (if_pos c_9)
          refine lv_bipush (v := (-102)) hx hb dX11_best_42 (by decide) ?_
          refine W.widen (k := 0) (n := 0) (by decide) (by decide) ?_
          exact hret (-102) () _ _ _ 44 (wk_sub9 (is := [0]) hP rfl) (hD.sub [0] rfl rfl) hS dX11_best_44 hF.symm
        · have k_9 : ¬ 18 < a.toInt := wk_nlt c_9
          replace hF := hF.trans (if_neg c_9)
          refine lv_iload_n hx hb dX11_best_29 rfl (lv_at hl 3 rfl) ?_
          refine lv_if_eq (tgt := 45) hx hb dX11_best_30 (by decide) (fun c_10 => ?_) (fun c_10 => ?_)
          · have k_10 : b.toInt = 0 := wk_eq c_10
            replace hF := hF.trans (if_pos c_10)
            exfalso; omega
          · have k_10 : ¬ b.toInt = 0 := wk_neq c_10
            replace hF := hF.trans (if_neg c_10)
            refine lv_iload_n hx hb dX11_best_33 rfl (lv_at hl 3 rfl) ?_
            refine lv_iconst (v := 1) hx hb dX11_best_34 (by decide) ?_
            refine lv_icmp_eq (tgt := 45) hx hb dX11_best_35 (by decide) (fun c_11 => ?_) (fun c_11 => ?_)
            · have k_11 : b.toInt = 1 := wk_eq c_11
              replace hF := hF.trans (if_pos c_11)
              exfalso; omega
            · have k_11 : ¬ b.toInt = 1 := wk_neq c_11
              replace hF := hF.trans (if_neg c_11)
              refine lv_iload_n hx hb dX11_best_38 rfl (lv_at hl 0 rfl) ?_
              refine lv_if_ne (tgt := 45) hx hb dX11_best_39 (by decide) (fun c_12 => absurd (by decide) c_12) (fun _ => ?_)
              refine lv_bipush (v := (-102)) hx hb dX11_best_42 (by decide) ?_
              refine W.widen (k := 0) (n := 0) (by decide) (by decide) ?_
              exact hret (-102) () _ _ _ 44 (wk_sub9 (is := [0]) hP rfl) (hD.sub [0] rfl rfl) hS dX11_best_44 hF.symm
    · have k_7 : ¬ 15 < b.toInt := wk_nlt c_7
      replace hF := hF.trans (if_neg c_7)
      refine lv_iconst (v := 1) hx hb dX11_best_12 (by decide) ?_
      refine lv_goto (tgt := 17) hx hb dX11_best_13 (by decide) ?_
      refine lv_istore_n (lv' := [(3, .int 1), (0, .ref x), (1, .int a), (2, .int b)]) hx hb dX11_best_17 rfl hl (by decide) rfl (fun ls hl => ?_)
      refine lv_iload_n hx hb dX11_best_18 rfl (lv_at hl 2 rfl) ?_
      refine lv_iconst (v := 1) hx hb dX11_best_19 (by decide) ?_
      refine lv_icmp_lt (tgt := 42) hx hb dX11_best_20 (by decide) (fun c_13 => ?_) (fun c_13 => ?_)
      · have k_13 : a.toInt < 1 := wk_lt c_13
        replace hF := hF.trans (if_pos c_13)
        refine lv_bipush (v := (-102)) hx hb dX11_best_42 (by decide) ?_
        refine W.widen (k := 0) (n := 0) (by decide) (by decide) ?_
        exact hret (-102) () _ _ _ 44 (wk_sub9 (is := [0]) hP rfl) (hD.sub [0] rfl rfl) hS dX11_best_44 hF.symm
      · have k_13 : ¬ a.toInt < 1 := wk_nlt c_13
        replace hF := hF.trans (if_neg c_13)
        refine lv_iload_n hx hb dX11_best_23 rfl (lv_at hl 2 rfl) ?_
        refine lv_bipush (v := 18) hx hb dX11_best_24 (by decide) ?_
        refine lv_icmp_gt (tgt := 42) hx hb dX11_best_26 (by decide) (fun c_14 => ?_) (fun c_14 => ?_)
        · have k_14 : 18 < a.toInt := wk_lt c_14
          replace hF := hF.trans (if_pos c_14)
          refine lv_bipush (v := (-102)) hx hb dX11_best_42 (by decide) ?_
          refine W.widen (k := 0) (n := 0) (by decide) (by decide) ?_
          exact hret (-102) () _ _ _ 44 (wk_sub9 (is := [0]) hP rfl) (hD.sub [0] rfl rfl) hS dX11_best_44 hF.symm
        · have k_14 : ¬ 18 < a.toInt := wk_nlt c_14
          replace hF := hF.trans (if_neg c_14)
          refine lv_iload_n hx hb dX11_best_29 rfl (lv_at hl 3 rfl) ?_
          refine lv_if_eq (tgt := 45) hx hb dX11_best_30 (by decide) (fun c_15 => ?_) (fun c_15 => ?_)
          · have k_15 : b.toInt = 0 := wk_eq c_15
            replace hF := hF.trans (if_pos c_15)
            exfalso; omega
          · have k_15 : ¬ b.toInt = 0 := wk_neq c_15
            replace hF := hF.trans (if_neg c_15)
            refine lv_iload_n hx hb dX11_best_33 rfl (lv_at hl 3 rfl) ?_
            refine lv_iconst (v := 1) hx hb dX11_best_34 (by decide) ?_
            refine lv_icmp_eq (tgt := 45) hx hb dX11_best_35 (by decide) (fun c_16 => ?_) (fun c_16 => ?_)
            · have k_16 : b.toInt = 1 := wk_eq c_16
              replace hF := hF.trans (if_pos c_16)
              exfalso; omega
            · have k_16 : ¬ b.toInt = 1 := wk_neq c_16
              replace hF := hF.trans (if_neg c_16)
              refine lv_iload_n hx hb dX11_best_38 rfl (lv_at hl 0 rfl) ?_
              refine lv_if_ne (tgt := 45) hx hb dX11_best_39 (by decide) (fun _ => ?_) (fun c_17 => absurd c_17 (by decide))
              refine lv_aload_n hx hb dX11_best_45 rfl (lv_at hl 1 rfl) ?_
              refine va_get (D := D) (ci := 11) (v := .null) (C := RX11) (T := TX11) (N := 10) hx hb htb inX11 hown hK hP 0 rfl rfl 6 (by decide) (htb _ tw_258) (fun _ h9 => h9) rfl dX11_best_46 ?_
              refine lv_ifnullN (tgt := 76) hx hb dX11_best_49 (by decide) ?_
              refine lv_bipush (v := (-103)) hx hb dX11_best_76 (by decide) ?_
              refine W.widen (k := 0) (n := 0) (by decide) (by decide) ?_
              exact hret (-103) () _ _ _ 78 (wk_sub9 (is := [0]) hP rfl) (hD.sub [0] rfl rfl) hS dX11_best_78 hF.symm
def fn_X11_best_R (x_bestsDone : Int32) (nwf_size : Int32) (nwfk_a : Nat → Int32) (nwft_a : Nat → Int32) (tr_least : Int32) (tr_bestLinks : Int32) (trw_number : Int32) (trw_lane : Int32) (trw_looks : Int32) (tra_a : Nat → Int32) (trb_a : Nat → Int32) (a : Int32) (b : Int32) : Int32 × Int32 × Int32 × Int32 × Int32 × Int32 × Int32 × (Nat → Int32) × (Nat → Int32) := (if b < 10 then (if a < 1 then ((-102), x_bestsDone, tr_least, tr_bestLinks, trw_number, trw_lane, trw_looks, tra_a, trb_a) else (if (18 : Int32) < a then ((-102), x_bestsDone, tr_least, tr_bestLinks, trw_number, trw_lane, trw_looks, tra_a, trb_a) else (if b = 0 then (if (6 : Int32) < nwf_size then ((-103), x_bestsDone, tr_least, tr_bestLinks, trw_number, trw_lane, trw_looks, tra_a, trb_a) else (if x_bestsDone < 12 then (pm2 (fn_X9_seekBest tr_least tr_bestLinks trw_number trw_lane trw_looks tra_a trb_a nwf_size nwfk_a nwft_a a) (fun o_10 t_ => (pm2 (t_) (fun o_11 t_ => (pm2 (t_) (fun o_12 t_ => (pm2 (t_) (fun o_13 t_ => (pm2 (t_) (fun o_14 t_ => (pm2 (t_) (fun o_15 o_16 => (if o_10 = (-1) then ((-1), (x_bestsDone + 1), o_10, o_11, o_12, o_13, o_14, o_15, o_16) else (if b = 0 then (o_10, (x_bestsDone + 1), o_10, o_11, o_12, o_13, o_14, o_15, o_16) else (if b = 1 then (o_11, (x_bestsDone + 1), o_10, o_11, o_12, o_13, o_14, o_15, o_16) else ((fn_X9_bestHeight o_16 nwf_size (b - 10)), (x_bestsDone + 1), o_10, o_11, o_12, o_13, o_14, o_15, o_16)))))))))))))))) else ((-103), x_bestsDone, tr_least, tr_bestLinks, trw_number, trw_lane, trw_looks, tra_a, trb_a))) else (if b = 1 then (if (6 : Int32) < nwf_size then ((-103), x_bestsDone, tr_least, tr_bestLinks, trw_number, trw_lane, trw_looks, tra_a, trb_a) else (if x_bestsDone < 12 then (pm2 (fn_X9_seekBest tr_least tr_bestLinks trw_number trw_lane trw_looks tra_a trb_a nwf_size nwfk_a nwft_a a) (fun o_31 t_ => (pm2 (t_) (fun o_32 t_ => (pm2 (t_) (fun o_33 t_ => (pm2 (t_) (fun o_34 t_ => (pm2 (t_) (fun o_35 t_ => (pm2 (t_) (fun o_36 o_37 => (if o_31 = (-1) then ((-1), (x_bestsDone + 1), o_31, o_32, o_33, o_34, o_35, o_36, o_37) else (if b = 0 then (o_31, (x_bestsDone + 1), o_31, o_32, o_33, o_34, o_35, o_36, o_37) else (if b = 1 then (o_32, (x_bestsDone + 1), o_31, o_32, o_33, o_34, o_35, o_36, o_37) else ((fn_X9_bestHeight o_37 nwf_size (b - 10)), (x_bestsDone + 1), o_31, o_32, o_33, o_34, o_35, o_36, o_37)))))))))))))))) else ((-103), x_bestsDone, tr_least, tr_bestLinks, trw_number, trw_lane, trw_looks, tra_a, trb_a))) else ((-102), x_bestsDone, tr_least, tr_bestLinks, trw_number, trw_lane, trw_looks, tra_a, trb_a))))) else (if (15 : Int32) < b then (if a < 1 then ((-102), x_bestsDone, tr_least, tr_bestLinks, trw_number, trw_lane, trw_looks, tra_a, trb_a) else (if (18 : Int32) < a then ((-102), x_bestsDone, tr_least, tr_bestLinks, trw_number, trw_lane, trw_looks, tra_a, trb_a) else (if b = 0 then default else (if b = 1 then default else ((-102), x_bestsDone, tr_least, tr_bestLinks, trw_number, trw_lane, trw_looks, tra_a, trb_a))))) else (if a < 1 then ((-102), x_bestsDone, tr_least, tr_bestLinks, trw_number, trw_lane, trw_looks, tra_a, trb_a) else (if (18 : Int32) < a then ((-102), x_bestsDone, tr_least, tr_bestLinks, trw_number, trw_lane, trw_looks, tra_a, trb_a) else (if b = 0 then default else (if b = 1 then default else (if (6 : Int32) < nwf_size then ((-103), x_bestsDone, tr_least, tr_bestLinks, trw_number, trw_lane, trw_looks, tra_a, trb_a) else (if x_bestsDone < 12 then (pm2 (fn_X9_seekBest tr_least tr_bestLinks trw_number trw_lane trw_looks tra_a trb_a nwf_size nwfk_a nwft_a a) (fun o_63 t_ => (pm2 (t_) (fun o_64 t_ => (pm2 (t_) (fun o_65 t_ => (pm2 (t_) (fun o_66 t_ => (pm2 (t_) (fun o_67 t_ => (pm2 (t_) (fun o_68 o_69 => (if o_63 = (-1) then ((-1), (x_bestsDone + 1), o_63, o_64, o_65, o_66, o_67, o_68, o_69) else (if b = 0 then (o_63, (x_bestsDone + 1), o_63, o_64, o_65, o_66, o_67, o_68, o_69) else (if b = 1 then (o_64, (x_bestsDone + 1), o_63, o_64, o_65, o_66, o_67, o_68, o_69) else ((fn_X9_bestHeight o_69 nwf_size (b - 10)), (x_bestsDone + 1), o_63, o_64, o_65, o_66, o_67, o_68, o_69)))))))))))))))) else ((-103), x_bestsDone, tr_least, tr_bestLinks, trw_number, trw_lane, trw_looks, tra_a, trb_a)))))))))
theorem dX11_best_52 : decode cX11_best 52 = .ok (.aload_n 0, 1) := by decide +kernel
theorem dX11_best_53 : decode cX11_best 53 = .ok (.getfield 22, 3) := by decide +kernel
theorem dX11_best_56 : decode cX11_best 56 = .ok (.getfield 77, 3) := by decide +kernel
theorem dX11_best_59 : decode cX11_best 59 = .ok (.getfield 91, 3) := by decide +kernel
theorem dX11_best_62 : decode cX11_best 62 = .ok (.bipush 6, 2) := by decide +kernel
theorem dX11_best_64 : decode cX11_best 64 = .ok (.if_icmp .gt 12, 3) := by decide +kernel
theorem dX11_best_67 : decode cX11_best 67 = .ok (.aload_n 0, 1) := by decide +kernel
theorem dX11_best_68 : decode cX11_best 68 = .ok (.getfield 206, 3) := by decide +kernel
theorem dX11_best_71 : decode cX11_best 71 = .ok (.bipush 12, 2) := by decide +kernel
theorem dX11_best_73 : decode cX11_best 73 = .ok (.if_icmp .lt 6, 3) := by decide +kernel
theorem dX11_best_79 : decode cX11_best 79 = .ok (.aload_n 0, 1) := by decide +kernel
theorem dX11_best_80 : decode cX11_best 80 = .ok (.dup, 1) := by decide +kernel
theorem dX11_best_81 : decode cX11_best 81 = .ok (.getfield 206, 3) := by decide +kernel
theorem dX11_best_84 : decode cX11_best 84 = .ok (.iconst 1, 1) := by decide +kernel
theorem dX11_best_85 : decode cX11_best 85 = .ok (.iadd, 1) := by decide +kernel
theorem dX11_best_86 : decode cX11_best 86 = .ok (.putfield 206, 3) := by decide +kernel
theorem dX11_best_89 : decode cX11_best 89 = .ok (.aload_n 0, 1) := by decide +kernel
theorem dX11_best_90 : decode cX11_best 90 = .ok (.getfield 39, 3) := by decide +kernel
theorem dX11_best_93 : decode cX11_best 93 = .ok (.aload_n 0, 1) := by decide +kernel
theorem dX11_best_94 : decode cX11_best 94 = .ok (.getfield 22, 3) := by decide +kernel
theorem dX11_best_97 : decode cX11_best 97 = .ok (.getfield 77, 3) := by decide +kernel
theorem dX11_best_100 : decode cX11_best 100 = .ok (.iload_n 1, 1) := by decide +kernel
theorem dX11_best_101 : decode cX11_best 101 = .ok (.invokevirtual 209, 3) := by decide +kernel
theorem dX11_best_104 : decode cX11_best 104 = .ok (.aload_n 0, 1) := by decide +kernel
theorem dX11_best_105 : decode cX11_best 105 = .ok (.getfield 39, 3) := by decide +kernel
theorem dX11_best_108 : decode cX11_best 108 = .ok (.getfield 212, 3) := by decide +kernel
theorem dX11_best_111 : decode cX11_best 111 = .ok (.iconst (-1), 1) := by decide +kernel
theorem dX11_best_112 : decode cX11_best 112 = .ok (.if_icmp .ne 5, 3) := by decide +kernel
theorem dX11_best_115 : decode cX11_best 115 = .ok (.iconst (-1), 1) := by decide +kernel
theorem dX11_best_116 : decode cX11_best 116 = .ok (.ireturn, 1) := by decide +kernel
theorem dX11_best_117 : decode cX11_best 117 = .ok (.iload_n 2, 1) := by decide +kernel
theorem dX11_best_118 : decode cX11_best 118 = .ok (.lookupswitch 42 #[(0, 26), (1, 34)], 26) := by decide +kernel
theorem dX11_best_144 : decode cX11_best 144 = .ok (.aload_n 0, 1) := by decide +kernel
theorem dX11_best_145 : decode cX11_best 145 = .ok (.getfield 39, 3) := by decide +kernel
theorem dX11_best_148 : decode cX11_best 148 = .ok (.getfield 212, 3) := by decide +kernel
theorem dX11_best_151 : decode cX11_best 151 = .ok (.ireturn, 1) := by decide +kernel
theorem dX11_best_152 : decode cX11_best 152 = .ok (.aload_n 0, 1) := by decide +kernel
theorem dX11_best_153 : decode cX11_best 153 = .ok (.getfield 39, 3) := by decide +kernel
theorem dX11_best_156 : decode cX11_best 156 = .ok (.getfield 215, 3) := by decide +kernel
theorem dX11_best_159 : decode cX11_best 159 = .ok (.ireturn, 1) := by decide +kernel
theorem dX11_best_160 : decode cX11_best 160 = .ok (.aload_n 0, 1) := by decide +kernel
theorem dX11_best_161 : decode cX11_best 161 = .ok (.getfield 39, 3) := by decide +kernel
theorem dX11_best_164 : decode cX11_best 164 = .ok (.aload_n 0, 1) := by decide +kernel
theorem dX11_best_165 : decode cX11_best 165 = .ok (.getfield 22, 3) := by decide +kernel
theorem dX11_best_168 : decode cX11_best 168 = .ok (.getfield 77, 3) := by decide +kernel
theorem dX11_best_171 : decode cX11_best 171 = .ok (.iload_n 2, 1) := by decide +kernel
theorem dX11_best_172 : decode cX11_best 172 = .ok (.bipush 10, 2) := by decide +kernel
theorem dX11_best_174 : decode cX11_best 174 = .ok (.isub, 1) := by decide +kernel
theorem dX11_best_175 : decode cX11_best 175 = .ok (.invokevirtual 218, 3) := by decide +kernel
theorem dX11_best_178 : decode cX11_best 178 = .ok (.ireturn, 1) := by decide +kernel
set_option maxHeartbeats 4000000 in
set_option maxRecDepth 100000 in
theorem c_X11_best_R (l : Launch) (D : va_G) (cy : ClassId) (x pg wr nw kp wk tr lw nwf nws nwe nwfk nwfv nwfh nwft trw tra trb trc : Nat) (x_rowsRead : Int32) (x_rowOfImage : Int32) (x_bestsDone : Int32) (nw_asked : Int32) (nw_looksOfAsked : Int32) (nw_changes : Int32) (nwf_size : Int32) (nwfk_a : Nat → Int32) (nwft_a : Nat → Int32) (tr_least : Int32) (tr_bestLinks : Int32) (tr_changeNumber : Int32) (tr_changeHeight : Int32) (trw_number : Int32) (trw_lane : Int32) (trw_looks : Int32) (tra_a : Nat → Int32) (trb_a : Nat → Int32) (a : Int32) (b : Int32) (g_0 : 0 ≤ nwf_size.toInt ∧ nwf_size.toInt ≤ 8) (g_1 : (-1) ≤ trw_number.toInt ∧ trw_number.toInt ≤ 7) : wk_Ci l yX11_best cX11_best 4 (some .int) { frames := 6, cells := 0, slots := 0, locals := 137 } D cy [.ref x, .int a, .int b] [(x, .inr (11, [.ref pg, .ref wr, .ref nw, .ref kp, .ref wk, .ref tr, .ref lw, .int x_rowsRead, .int x_rowOfImage, .int x_bestsDone])), (nw, .inr (2, [.ref nwf, .ref nws, .ref nwe, .int nw_asked, .int nw_looksOfAsked, .int nw_changes])), (nwf, .inr (8, [.ref nwfk, .ref nwfv, .ref nwfh, .ref nwft, .int nwf_size])), (nwfk, .inl (cy, 8, .inl nwfk_a)), (nwft, .inl (cy, 8, .inl nwft_a)), (tr, .inr (9, [.ref trw, .ref tra, .ref trb, .ref trc, .int tr_least, .int tr_bestLinks, .int tr_changeNumber, .int tr_changeHeight])), (trw, .inr (10, [.int trw_number, .int trw_lane, .int trw_looks])), (tra, .inl (cy, 8, .inl tra_a)), (trb, .inl (cy, 8, .inl trb_a))] 0 0 (fun (r : Int32) (u : Int32 × Int32 × Int32 × Int32 × Int32 × Int32 × (Nat → Int32) × (Nat → Int32)) => (r, u) = (fn_X11_best_R x_bestsDone nwf_size nwfk_a nwft_a tr_least tr_bestLinks trw_number trw_lane trw_looks tra_a trb_a a b) ∧ ((-1) ≤ u.2.2.2.1.toInt ∧ u.2.2.2.1.toInt ≤ 7)) (fun u => [(x, .inr (11, [.ref pg, .ref wr, .ref nw, .ref kp, .ref wk, .ref tr, .ref lw, .int x_rowsRead, .int x_rowOfImage, .int u.1])), (nw, .inr (2, [.ref nwf, .ref nws, .ref nwe, .int nw_asked, .int nw_looksOfAsked, .int nw_changes])), (nwf, .inr (8, [.ref nwfk, .ref nwfv, .ref nwfh, .ref nwft, .int nwf_size])), (nwfk, .inl (cy, 8, .inl nwfk_a)), (nwft, .inl (cy, 8, .inl nwft_a)), (tr, .inr (9, [.ref trw, .ref tra, .ref trb, .ref trc, .int u.2.1, .int u.2.2.1, .int tr_changeNumber, .int tr_changeHeight])), (trw, .inr (10, [.int u.2.2.2.1, .int u.2.2.2.2.1, .int u.2.2.2.2.2.1])), (tra, .inl (cy, 8, .inl u.2.2.2.2.2.2.1)), (trb, .inl (cy, 8, .inl u.2.2.2.2.2.2.2))]) := by
  refine wk_mk2Ci (by decide) (Nat.le_of_ble_eq_true rfl) ?_
  intro p e s m args below meth c A ls Q B hA hK hP hD hS hl hret
  obtain ⟨hx, hb, hr, hlocks, hml, hown, htb, hin⟩ := B
  have hl : lv_has ls 4 [(0, .ref x), (1, .int a), (2, .int b)] := hl
  have hF : (fn_X11_best_R x_bestsDone nwf_size nwfk_a nwft_a tr_least tr_bestLinks trw_number trw_lane trw_looks tra_a trb_a a b) = (fn_X11_best_R x_bestsDone nwf_size nwfk_a nwft_a tr_least tr_bestLinks trw_number trw_lane trw_looks tra_a trb_a a b) := rfl
  conv at hF => rhs; unfold fn_X11_best_R
  refine lv_iload_n hx hb dX11_best_0 rfl (lv_at hl 2 rfl) ?_
  refine lv_bipush (v := 10) hx hb dX11_best_1 (by decide) ?_
  refine lv_icmp_lt (tgt := 16) hx hb dX11_best_3 (by decide) (fun c_1 => ?_) (fun c_1 => ?_)
  · have k_1 : b.toInt < 10 := wk_lt c_1
    replace hF := hF.trans (if_pos c_1)
    refine lv_iconst (v := 0) hx hb dX11_best_16 (by decide) ?_
    refine lv_istore_n (lv' := [(3, .int 0), (0, .ref x), (1, .int a), (2, .int b)]) hx hb dX11_best_17 rfl hl (by decide) rfl (fun ls hl => ?_)
    refine lv_iload_n hx hb dX11_best_18 rfl (lv_at hl 2 rfl) ?_
    refine lv_iconst (v := 1) hx hb dX11_best_19 (by decide) ?_
    refine lv_icmp_lt (tgt := 42) hx hb dX11_best_20 (by decide) (fun c_2 => ?_) (fun c_2 => ?_)
    · have k_2 : a.toInt < 1 := wk_lt c_2
      replace hF := hF.trans (if_pos c_2)
      refine lv_bipush (v := (-102)) hx hb dX11_best_42 (by decide) ?_
      refine W.widen (k := 0) (n := 0) (by decide) (by decide) ?_
      exact hret (-102) (x_bestsDone, tr_least, tr_bestLinks, trw_number, trw_lane, trw_looks, tra_a, trb_a) _ _ _ 44 (wk_sub9 (is := [0, 1, 2, 3, 4, 5, 6, 7, 8]) hP rfl) (hD.sub [0, 1, 2, 3, 4, 5, 6, 7, 8] rfl rfl) hS dX11_best_44 ⟨hF.symm, (show ((-1) ≤ trw_number.toInt ∧ trw_number.toInt ≤ 7) from by omega)⟩
    · have k_2 : ¬ a.toInt < 1 := wk_nlt c_2
      replace hF := hF.trans (if_neg c_2)
      refine lv_iload_n hx hb dX11_best_23 rfl (lv_at hl 2 rfl) ?_
      refine lv_bipush (v := 18) hx hb dX11_best_24 (by decide) ?_
      refine lv_icmp_gt (tgt := 42) hx hb dX11_best_26 (by decide) (fun c_3 => ?_) (fun c_3 => ?_)
      · have k_3 : 18 < a.toInt := wk_lt c_3
        replace hF := hF.trans (if_pos c_3)
        refine lv_bipush (v := (-102)) hx hb dX11_best_42 (by decide) ?_
        refine W.widen (k := 0) (n := 0) (by decide) (by decide) ?_
        exact hret (-102) (x_bestsDone, tr_least, tr_bestLinks, trw_number, trw_lane, trw_looks, tra_a, trb_a) _ _ _ 44 (wk_sub9 (is := [0, 1, 2, 3, 4, 5, 6, 7, 8]) hP rfl) (hD.sub [0, 1, 2, 3, 4, 5, 6, 7, 8] rfl rfl) hS dX11_best_44 ⟨hF.symm, (show ((-1) ≤ trw_number.toInt ∧ trw_number.toInt ≤ 7) from by omega)⟩
      · have k_3 : ¬ 18 < a.toInt := wk_nlt c_3
        replace hF := hF.trans (if_neg c_3)
        refine lv_iload_n hx hb dX11_best_29 rfl (lv_at hl 3 rfl) ?_
        refine lv_if_eq (tgt := 45) hx hb dX11_best_30 (by decide) (fun c_4 => ?_) (fun c_4 => ?_)
        · have k_4 : b.toInt = 0 := wk_eq c_4
          replace hF := hF.trans (if_pos c_4)
          refine lv_aload_n hx hb dX11_best_45 rfl (lv_at hl 1 rfl) ?_
          refine va_get (D := D) (ci := 11) (v := .ref lw) (C := RX11) (T := TX11) (N := 10) hx hb htb inX11 hown hK hP 0 rfl rfl 6 (by decide) (htb _ tw_258) (fun _ h9 => h9) rfl dX11_best_46 ?_
          refine lv_ifnull hx hb dX11_best_49 ?_
          refine lv_aload_n hx hb dX11_best_52 rfl (lv_at hl 1 rfl) ?_
          refine va_get (D := D) (ci := 11) (v := .ref nw) (C := RX11) (T := TX11) (N := 10) hx hb htb inX11 hown hK hP 0 rfl rfl 2 (by decide) (htb _ tw_254) (fun _ h9 => h9) rfl dX11_best_53 ?_
          refine va_get (D := D) (ci := 2) (v := .ref nwf) (C := RX2) (T := TX2) (N := 6) hx hb htb inX2 hown hK hP 1 rfl rfl 0 (by decide) (htb _ tw_171) (fun _ h9 => h9) rfl dX11_best_56 ?_
          refine va_get (D := D) (ci := 8) (v := .int nwf_size) (C := RX8) (T := TX8) (N := 5) hx hb htb inX8 hown hK hP 2 rfl rfl 4 (by decide) (htb _ tw_134) (fun _ h9 => h9) rfl dX11_best_59 ?_
          refine lv_bipush (v := 6) hx hb dX11_best_62 (by decide) ?_
          refine lv_icmp_gt (tgt := 76) hx hb dX11_best_64 (by decide) (fun c_5 => ?_) (fun c_5 => ?_)
          · have k_5 : 6 < nwf_size.toInt := wk_lt c_5
            replace hF := hF.trans (if_pos c_5)
            refine lv_bipush (v := (-103)) hx hb dX11_best_76 (by decide) ?_
            refine W.widen (k := 0) (n := 0) (by decide) (by decide) ?_
            exact hret (-103) (x_bestsDone, tr_least, tr_bestLinks, trw_number, trw_lane, trw_looks, tra_a, trb_a) _ _ _ 78 (wk_sub9 (is := [0, 1, 2, 3, 4, 5, 6, 7, 8]) hP rfl) (hD.sub [0, 1, 2, 3, 4, 5, 6, 7, 8] rfl rfl) hS dX11_best_78 ⟨hF.symm, (show ((-1) ≤ trw_number.toInt ∧ trw_number.toInt ≤ 7) from by omega)⟩
          · have k_5 : ¬ 6 < nwf_size.toInt := wk_nlt c_5
            replace hF := hF.trans (if_neg c_5)
            refine lv_aload_n hx hb dX11_best_67 rfl (lv_at hl 1 rfl) ?_
            refine va_get (D := D) (ci := 11) (v := .int x_bestsDone) (C := RX11) (T := TX11) (N := 10) hx hb htb inX11 hown hK hP 0 rfl rfl 9 (by decide) (htb _ tw_261) (fun _ h9 => h9) rfl dX11_best_68 ?_
            refine lv_bipush (v := 12) hx hb dX11_best_71 (by decide) ?_
            refine lv_icmp_lt (tgt := 79) hx hb dX11_best_73 (by decide) (fun c_6 => ?_) (fun c_6 => ?_)
            · have k_6 : x_bestsDone.toInt < 12 := wk_lt c_6
              replace hF := hF.trans (if_pos c_6)
              refine lv_aload_n hx hb dX11_best_79 rfl (lv_at hl 1 rfl) ?_
              refine lv_dup hx hb dX11_best_80 rfl ?_
              refine va_get (D := D) (ci := 11) (v := .int x_bestsDone) (C := RX11) (T := TX11) (N := 10) hx hb htb inX11 hown hK hP 0 rfl rfl 9 (by decide) (htb _ tw_261) (fun _ h9 => h9) rfl dX11_best_81 ?_
              refine lv_iconst (v := 1) hx hb dX11_best_84 (by decide) ?_
              refine lv_iadd hx hb dX11_best_85 ?_
              refine va_put (D := D) (ci := 11) (v := .int (x_bestsDone + 1)) (ty := .int) (C := RX11) (T := TX11) (N := 10) hx hb htb inX11 tyX11 tyX11_ok nmX11 hown hK hP hD hS 0 rfl rfl 9 (by decide) (htb _ tw_261) (fun _ h9 => h9) rfl (by decide +kernel) rfl rfl (Nat.le_of_ble_eq_true rfl) dX11_best_86 (fun H locs hP hD hS => ?_)
              have hP : va_P D classes [(x, .inr (11, [.ref pg, .ref wr, .ref nw, .ref kp, .ref wk, .ref tr, .ref lw, .int x_rowsRead, .int x_rowOfImage, .int (x_bestsDone + 1)])), (nw, .inr (2, [.ref nwf, .ref nws, .ref nwe, .int nw_asked, .int nw_looksOfAsked, .int nw_changes])), (nwf, .inr (8, [.ref nwfk, .ref nwfv, .ref nwfh, .ref nwft, .int nwf_size])), (nwfk, .inl (cy, 8, .inl nwfk_a)), (nwft, .inl (cy, 8, .inl nwft_a)), (tr, .inr (9, [.ref trw, .ref tra, .ref trb, .ref trc, .int tr_least, .int tr_bestLinks, .int tr_changeNumber, .int tr_changeHeight])), (trw, .inr (10, [.int trw_number, .int trw_lane, .int trw_looks])), (tra, .inl (cy, 8, .inl tra_a)), (trb, .inl (cy, 8, .inl trb_a))] H := hP
              have hD : va_D A [(x, .inr (11, [.ref pg, .ref wr, .ref nw, .ref kp, .ref wk, .ref tr, .ref lw, .int x_rowsRead, .int x_rowOfImage, .int (x_bestsDone + 1)])), (nw, .inr (2, [.ref nwf, .ref nws, .ref nwe, .int nw_asked, .int nw_looksOfAsked, .int nw_changes])), (nwf, .inr (8, [.ref nwfk, .ref nwfv, .ref nwfh, .ref nwft, .int nwf_size])), (nwfk, .inl (cy, 8, .inl nwfk_a)), (nwft, .inl (cy, 8, .inl nwft_a)), (tr, .inr (9, [.ref trw, .ref tra, .ref trb, .ref trc, .int tr_least, .int tr_bestLinks, .int tr_changeNumber, .int tr_changeHeight])), (trw, .inr (10, [.int trw_number, .int trw_lane, .int trw_looks])), (tra, .inl (cy, 8, .inl tra_a)), (trb, .inl (cy, 8, .inl trb_a))] := hD
              refine lv_aload_n hx hb dX11_best_89 rfl (lv_at hl 1 rfl) ?_
              refine va_get (D := D) (ci := 11) (v := .ref tr) (C := RX11) (T := TX11) (N := 10) hx hb htb inX11 hown hK hP 0 rfl rfl 5 (by decide) (htb _ tw_257) (fun _ h9 => h9) rfl dX11_best_90 ?_
              refine lv_aload_n hx hb dX11_best_93 rfl (lv_at hl 1 rfl) ?_
              refine va_get (D := D) (ci := 11) (v := .ref nw) (C := RX11) (T := TX11) (N := 10) hx hb htb inX11 hown hK hP 0 rfl rfl 2 (by decide) (htb _ tw_254) (fun _ h9 => h9) rfl dX11_best_94 ?_
              refine va_get (D := D) (ci := 2) (v := .ref nwf) (C := RX2) (T := TX2) (N := 6) hx hb htb inX2 hown hK hP 1 rfl rfl 0 (by decide) (htb _ tw_171) (fun _ h9 => h9) rfl dX11_best_97 ?_
              refine lv_iload_n hx hb dX11_best_100 rfl (lv_at hl 2 rfl) ?_
              refine wk_vV (As := [.ref nwf, .int a]) (rest := []) (wc := [(tr, .inr (9, [.ref trw, .ref tra, .ref trb, .ref trc, .int tr_least, .int tr_bestLinks, .int tr_changeNumber, .int tr_changeHeight])), (trw, .inr (10, [.int trw_number, .int trw_lane, .int trw_looks])), (tra, .inl (cy, 8, .inl tra_a)), (trb, .inl (cy, 8, .inl trb_a)), (nwf, .inr (8, [.ref nwfk, .ref nwfv, .ref nwfh, .ref nwft, .int nwf_size])), (nwfk, .inl (cy, 8, .inl nwfk_a)), (nwft, .inl (cy, 8, .inl nwft_a))]) (wr := [(x, .inr (11, [.ref pg, .ref wr, .ref nw, .ref kp, .ref wk, .ref tr, .ref lw, .int x_rowsRead, .int x_rowOfImage, .int (x_bestsDone + 1)])), (nw, .inr (2, [.ref nwf, .ref nws, .ref nwe, .int nw_asked, .int nw_looksOfAsked, .int nw_changes]))]) (n := 2) ⟨hx, hb, hml, hown, htb⟩ (c_X9_seekBest l D cy tr trw tra trb trc nwf nwfk nwfv nwfh nwft tr_least tr_bestLinks tr_changeNumber tr_changeHeight trw_number trw_lane trw_looks tra_a trb_a nwf_size nwfk_a nwft_a a (show (-1) ≤ trw_number.toInt ∧ trw_number.toInt ≤ 7 from by omega) (show 0 ≤ nwf_size.toInt ∧ nwf_size.toInt ≤ 8 from by omega)) tw_645 tw_642 tw_643 tw_644 tw_70 rfl rfl (by decide +kernel) ⟨Nat.le_of_ble_eq_true rfl, Nat.le_of_ble_eq_true rfl⟩ hK hP hD hS hA [5, 6, 7, 8, 2, 3, 4] [0, 1] rfl rfl rfl rfl (by decide) 0 (ci := 9) rfl rfl rfl hl.1 rfl (Nat.le_of_ble_eq_true rfl) dX11_best_101 ⟨Nat.le_of_ble_eq_true rfl, Nat.le_of_ble_eq_true rfl⟩ (fun u_8 H locs hw_9 hP hD hS => ?_)
              refine W.widen (k := 0) (n := 0) (by decide) (by decide) ?_
              obtain ⟨o_10, o_11, o_12, o_13, o_14, o_15, o_16⟩ := u_8
              obtain ⟨hw_9, k_17⟩ := hw_9
              have hw_9 : (o_10, o_11, o_12, o_13, o_14, o_15, o_16) = (fn_X9_seekBest tr_least tr_bestLinks trw_number trw_lane trw_looks tra_a trb_a nwf_size nwfk_a nwft_a a) := hw_9
              have k_17 : ((-1) ≤ o_12.toInt ∧ o_12.toInt ≤ 7) := k_17
              rw [← hw_9] at hF
              rw [pm2_mk o_10 (o_11, o_12, o_13, o_14, o_15, o_16), pm2_mk o_11 (o_12, o_13, o_14, o_15, o_16), pm2_mk o_12 (o_13, o_14, o_15, o_16), pm2_mk o_13 (o_14, o_15, o_16), pm2_mk o_14 (o_15, o_16), pm2_mk o_15 o_16] at hF
              have hP : va_P D classes [(x, .inr (11, [.ref pg, .ref wr, .ref nw, .ref kp, .ref wk, .ref tr, .ref lw, .int x_rowsRead, .int x_rowOfImage, .int (x_bestsDone + 1)])), (nw, .inr (2, [.ref nwf, .ref nws, .ref nwe, .int nw_asked, .int nw_looksOfAsked, .int nw_changes])), (tr, .inr (9, [.ref trw, .ref tra, .ref trb, .ref trc, .int o_10, .int o_11, .int tr_changeNumber, .int tr_changeHeight])), (trw, .inr (10, [.int o_12, .int o_13, .int o_14])), (tra, .inl (cy, 8, .inl o_15)), (trb, .inl (cy, 8, .inl o_16)), (nwf, .inr (8, [.ref nwfk, .ref nwfv, .ref nwfh, .ref nwft, .int nwf_size])), (nwfk, .inl (cy, 8, .inl nwfk_a)), (nwft, .inl (cy, 8, .inl nwft_a))] H := hP
              have hD : va_D A [(x, .inr (11, [.ref pg, .ref wr, .ref nw, .ref kp, .ref wk, .ref tr, .ref lw, .int x_rowsRead, .int x_rowOfImage, .int (x_bestsDone + 1)])), (nw, .inr (2, [.ref nwf, .ref nws, .ref nwe, .int nw_asked, .int nw_looksOfAsked, .int nw_changes])), (tr, .inr (9, [.ref trw, .ref tra, .ref trb, .ref trc, .int o_10, .int o_11, .int tr_changeNumber, .int tr_changeHeight])), (trw, .inr (10, [.int o_12, .int o_13, .int o_14])), (tra, .inl (cy, 8, .inl o_15)), (trb, .inl (cy, 8, .inl o_16)), (nwf, .inr (8, [.ref nwfk, .ref nwfv, .ref nwfh, .ref nwft, .int nwf_size])), (nwfk, .inl (cy, 8, .inl nwfk_a)), (nwft, .inl (cy, 8, .inl nwft_a))] := hD
              refine lv_aload_n hx hb dX11_best_104 rfl (lv_at hl 1 rfl) ?_
              refine va_get (D := D) (ci := 11) (v := .ref tr) (C := RX11) (T := TX11) (N := 10) hx hb htb inX11 hown hK hP 0 rfl rfl 5 (by decide) (htb _ tw_257) (fun _ h9 => h9) rfl dX11_best_105 ?_
              refine va_get (D := D) (ci := 9) (v := .int o_10) (C := RX9) (T := TX9) (N := 8) hx hb htb inX9 hown hK hP 2 rfl rfl 4 (by decide) (htb _ tw_228) (fun _ h9 => h9) rfl dX11_best_108 ?_
              refine lv_iconst (v := (-1)) hx hb dX11_best_111 (by decide) ?_
              refine lv_icmp_ne (tgt := 117) hx hb dX11_best_112 (by decide) (fun c_18 => ?_) (fun c_18 => ?_)
              · have k_18 : ¬ o_10.toInt = (-1) := wk_neq c_18
                replace hF := hF.trans (if_neg c_18)
                refine lv_iload_n hx hb dX11_best_117 rfl (lv_at hl 3 rfl) ?_
                by_cases c_19 : b = 0
                · refine wk_toi c_19 ?_
                  replace hF := hF.trans (if_pos c_19)
                  have k_19 : b.toInt = 0 := wk_eq c_19
                  refine lv_lookup (off := 26) (tgt := 144) hx hb dX11_best_118 (by decide) (by decide) (by decide) ?_
                  refine lv_aload_n hx hb dX11_best_144 rfl (lv_at hl 1 rfl) ?_
                  refine va_get (D := D) (ci := 11) (v := .ref tr) (C := RX11) (T := TX11) (N := 10) hx hb htb inX11 hown hK hP 0 rfl rfl 5 (by decide) (htb _ tw_257) (fun _ h9 => h9) rfl dX11_best_145 ?_
                  refine va_get (D := D) (ci := 9) (v := .int o_10) (C := RX9) (T := TX9) (N := 8) hx hb htb inX9 hown hK hP 2 rfl rfl 4 (by decide) (htb _ tw_228) (fun _ h9 => h9) rfl dX11_best_148 ?_
                  refine W.widen (k := 0) (n := 0) (by decide) (by decide) ?_
                  exact hret o_10 ((x_bestsDone + 1), o_10, o_11, o_12, o_13, o_14, o_15, o_16) _ _ _ 151 (wk_sub9 (is := [0, 1, 6, 7, 8, 2, 3, 4, 5]) hP rfl) (hD.sub [0, 1, 6, 7, 8, 2, 3, 4, 5] rfl rfl) hS dX11_best_151 ⟨hF.symm, (show ((-1) ≤ o_12.toInt ∧ o_12.toInt ≤ 7) from by omega)⟩
                replace hF := hF.trans (if_neg c_19)
                have k_19 : ¬ b.toInt = 0 := wk_neq c_19
                by_cases c_20 : b = 1
                · refine wk_toi c_20 ?_
                  replace hF := hF.trans (if_pos c_20)
                  have k_20 : b.toInt = 1 := wk_eq c_20
                  refine lv_lookup (off := 34) (tgt := 152) hx hb dX11_best_118 (by decide) (by decide) (by decide) ?_
                  refine lv_aload_n hx hb dX11_best_152 rfl (lv_at hl 1 rfl) ?_
                  refine va_get (D := D) (ci := 11) (v := .ref tr) (C := RX11) (T := TX11) (N := 10) hx hb htb inX11 hown hK hP 0 rfl rfl 5 (by decide) (htb _ tw_257) (fun _ h9 => h9) rfl dX11_best_153 ?_
                  refine va_get (D := D) (ci := 9) (v := .int o_11) (C := RX9) (T := TX9) (N := 8) hx hb htb inX9 hown hK hP 2 rfl rfl 5 (by decide) (htb _ tw_230) (fun _ h9 => h9) rfl dX11_best_156 ?_
                  refine W.widen (k := 0) (n := 0) (by decide) (by decide) ?_
                  exact hret o_11 ((x_bestsDone + 1), o_10, o_11, o_12, o_13, o_14, o_15, o_16) _ _ _ 159 (wk_sub9 (is := [0, 1, 6, 7, 8, 2, 3, 4, 5]) hP rfl) (hD.sub [0, 1, 6, 7, 8, 2, 3, 4, 5] rfl rfl) hS dX11_best_159 ⟨hF.symm, (show ((-1) ≤ o_12.toInt ∧ o_12.toInt ≤ 7) from by omega)⟩
                replace hF := hF.trans (if_neg c_20)
                have k_20 : ¬ b.toInt = 1 := wk_neq c_20
                refine lv_lookup (off := 42) (tgt := 160) hx hb dX11_best_118 (by decide) ((lv_osw c_19 rfl).trans ((lv_osw c_20 rfl).trans rfl)) (by decide) ?_
                refine lv_aload_n hx hb dX11_best_160 rfl (lv_at hl 1 rfl) ?_
                refine va_get (D := D) (ci := 11) (v := .ref tr) (C := RX11) (T := TX11) (N := 10) hx hb htb inX11 hown hK hP 0 rfl rfl 5 (by decide) (htb _ tw_257) (fun _ h9 => h9) rfl dX11_best_161 ?_
                refine lv_aload_n hx hb dX11_best_164 rfl (lv_at hl 1 rfl) ?_
                refine va_get (D := D) (ci := 11) (v := .ref nw) (C := RX11) (T := TX11) (N := 10) hx hb htb inX11 hown hK hP 0 rfl rfl 2 (by decide) (htb _ tw_254) (fun _ h9 => h9) rfl dX11_best_165 ?_
                refine va_get (D := D) (ci := 2) (v := .ref nwf) (C := RX2) (T := TX2) (N := 6) hx hb htb inX2 hown hK hP 1 rfl rfl 0 (by decide) (htb _ tw_171) (fun _ h9 => h9) rfl dX11_best_168 ?_
                refine lv_iload_n hx hb dX11_best_171 rfl (lv_at hl 3 rfl) ?_
                refine lv_bipush (v := 10) hx hb dX11_best_172 (by decide) ?_
                refine lv_isub hx hb dX11_best_174 ?_
                obtain ⟨z_21, ez_21⟩ : ∃ y : Int32, y = (b - 10) := ⟨_, rfl⟩
                refine wk_toi ez_21.symm ?_
                try rw [← ez_21] at hF
                have k_22 : z_21.toInt = b.toInt - 10 := by rw [ez_21]; exact wk_sub b.toInt 10 rfl rfl (by omega) (by omega)
                refine wk_iV (As := [.ref nwf, .int z_21]) (rest := []) (wc := [(tr, .inr (9, [.ref trw, .ref tra, .ref trb, .ref trc, .int o_10, .int o_11, .int tr_changeNumber, .int tr_changeHeight])), (trb, .inl (cy, 8, .inl o_16)), (nwf, .inr (8, [.ref nwfk, .ref nwfv, .ref nwfh, .ref nwft, .int nwf_size]))]) (wr := [(x, .inr (11, [.ref pg, .ref wr, .ref nw, .ref kp, .ref wk, .ref tr, .ref lw, .int x_rowsRead, .int x_rowOfImage, .int (x_bestsDone + 1)])), (nw, .inr (2, [.ref nwf, .ref nws, .ref nwe, .int nw_asked, .int nw_looksOfAsked, .int nw_changes])), (trw, .inr (10, [.int o_12, .int o_13, .int o_14])), (tra, .inl (cy, 8, .inl o_15)), (nwfk, .inl (cy, 8, .inl nwfk_a)), (nwft, .inl (cy, 8, .inl nwft_a))]) (n := 2) ⟨hx, hb, hml, hown, htb⟩ (c_X9_bestHeight l D cy tr trw tra trb trc nwf nwfk nwfv nwfh nwft o_10 o_11 tr_changeNumber tr_changeHeight o_16 nwf_size z_21 (show 0 ≤ nwf_size.toInt ∧ nwf_size.toInt ≤ 8 from by omega)) tw_662 tw_659 tw_660 tw_661 tw_70 rfl rfl (by decide +kernel) ⟨Nat.le_of_ble_eq_true rfl, Nat.le_of_ble_eq_true rfl⟩ hK hP hD hS hA [2, 5, 6] [0, 1, 3, 4, 7, 8] rfl rfl rfl rfl (by decide) 0 (ci := 9) rfl rfl rfl hl.1 rfl (Nat.le_of_ble_eq_true rfl) dX11_best_175 ⟨Nat.le_of_ble_eq_true rfl, Nat.le_of_ble_eq_true rfl⟩ (fun r_23 u_24 H locs hw_25 hP hD hS => ?_)
                refine W.widen (k := 0) (n := 0) (by decide) (by decide) ?_
                have hw_25 : r_23 = (fn_X9_bestHeight o_16 nwf_size z_21) := hw_25
                subst hw_25
                have hP : va_P D classes [(x, .inr (11, [.ref pg, .ref wr, .ref nw, .ref kp, .ref wk, .ref tr, .ref lw, .int x_rowsRead, .int x_rowOfImage, .int (x_bestsDone + 1)])), (nw, .inr (2, [.ref nwf, .ref nws, .ref nwe, .int nw_asked, .int nw_looksOfAsked, .int nw_changes])), (trw, .inr (10, [.int o_12, .int o_13, .int o_14])), (tra, .inl (cy, 8, .inl o_15)), (nwfk, .inl (cy, 8, .inl nwfk_a)), (nwft, .inl (cy, 8, .inl nwft_a)), (tr, .inr (9, [.ref trw, .ref tra, .ref trb, .ref trc, .int o_10, .int o_11, .int tr_changeNumber, .int tr_changeHeight])), (trb, .inl (cy, 8, .inl o_16)), (nwf, .inr (8, [.ref nwfk, .ref nwfv, .ref nwfh, .ref nwft, .int nwf_size]))] H := hP
                have hD : va_D A [(x, .inr (11, [.ref pg, .ref wr, .ref nw, .ref kp, .ref wk, .ref tr, .ref lw, .int x_rowsRead, .int x_rowOfImage, .int (x_bestsDone + 1)])), (nw, .inr (2, [.ref nwf, .ref nws, .ref nwe, .int nw_asked, .int nw_looksOfAsked, .int nw_changes])), (trw, .inr (10, [.int o_12, .int o_13, .int o_14])), (tra, .inl (cy, 8, .inl o_15)), (nwfk, .inl (cy, 8, .inl nwfk_a)), (nwft, .inl (cy, 8, .inl nwft_a)), (tr, .inr (9, [.ref trw, .ref tra, .ref trb, .ref trc, .int o_10, .int o_11, .int tr_changeNumber, .int tr_changeHeight])), (trb, .inl (cy, 8, .inl o_16)), (nwf, .inr (8, [.ref nwfk, .ref nwfv, .ref nwfh, .ref nwft, .int nwf_size]))] := hD
                refine W.widen (k := 0) (n := 0) (by decide) (by decide) ?_
                exact hret (fn_X9_bestHeight o_16 nwf_size z_21) ((x_bestsDone + 1), o_10, o_11, o_12, o_13, o_14, o_15, o_16) _ _ _ 178 (wk_sub9 (is := [0, 1, 8, 4, 5, 6, 2, 3, 7]) hP rfl) (hD.sub [0, 1, 8, 4, 5, 6, 2, 3, 7] rfl rfl) hS dX11_best_178 ⟨hF.symm, (show ((-1) ≤ o_12.toInt ∧ o_12.toInt ≤ 7) from by omega)⟩
              · have k_18 : o_10.toInt = (-1) := wk_eq c_18
                replace hF := hF.trans (if_pos c_18)
                refine lv_iconst (v := (-1)) hx hb dX11_best_115 (by decide) ?_
                refine W.widen (k := 0) (n := 0) (by decide) (by decide) ?_
                exact hret (-1) ((x_bestsDone + 1), o_10, o_11, o_12, o_13, o_14, o_15, o_16) _ _ _ 116 (wk_sub9 (is := [0, 1, 6, 7, 8, 2, 3, 4, 5]) hP rfl) (hD.sub [0, 1, 6, 7, 8, 2, 3, 4, 5] rfl rfl) hS dX11_best_116 ⟨hF.symm, (show ((-1) ≤ o_12.toInt ∧ o_12.toInt ≤ 7) from by omega)⟩
            · have k_6 : ¬ x_bestsDone.toInt < 12 := wk_nlt c_6
              replace hF := hF.trans (if_neg c_6)
              refine lv_bipush (v := (-103)) hx hb dX11_best_76 (by decide) ?_
              refine W.widen (k := 0) (n := 0) (by decide) (by decide) ?_
              exact hret (-103) (x_bestsDone, tr_least, tr_bestLinks, trw_number, trw_lane, trw_looks, tra_a, trb_a) _ _ _ 78 (wk_sub9 (is := [0, 1, 2, 3, 4, 5, 6, 7, 8]) hP rfl) (hD.sub [0, 1, 2, 3, 4, 5, 6, 7, 8] rfl rfl) hS dX11_best_78 ⟨hF.symm, (show ((-1) ≤ trw_number.toInt ∧ trw_number.toInt ≤ 7) from by omega)⟩
        · have k_4 : ¬ b.toInt = 0 := wk_neq c_4
          replace hF := hF.trans (if_neg c_4)
          refine lv_iload_n hx hb dX11_best_33 rfl (lv_at hl 3 rfl) ?_
          refine lv_iconst (v := 1) hx hb dX11_best_34 (by decide) ?_
          refine lv_icmp_eq (tgt := 45) hx hb dX11_best_35 (by decide) (fun c_26 => ?_) (fun c_26 => ?_)
          · have k_26 : b.toInt = 1 := wk_eq c_26
            replace hF := hF.trans (if_pos c_26)
            refine lv_aload_n hx hb dX11_best_45 rfl (lv_at hl 1 rfl) ?_
            refine va_get (D := D) (ci := 11) (v := .ref lw) (C := RX11) (T := TX11) (N := 10) hx hb htb inX11 hown hK hP 0 rfl rfl 6 (by decide) (htb _ tw_258) (fun _ h9 => h9) rfl dX11_best_46 ?_
            refine lv_ifnull hx hb dX11_best_49 ?_
            refine lv_aload_n hx hb dX11_best_52 rfl (lv_at hl 1 rfl) ?_
            refine va_get (D := D) (ci := 11) (v := .ref nw) (C := RX11) (T := TX11) (N := 10) hx hb htb inX11 hown hK hP 0 rfl rfl 2 (by decide) (htb _ tw_254) (fun _ h9 => h9) rfl dX11_best_53 ?_
            refine va_get (D := D) (ci := 2) (v := .ref nwf) (C := RX2) (T := TX2) (N := 6) hx hb htb inX2 hown hK hP 1 rfl rfl 0 (by decide) (htb _ tw_171) (fun _ h9 => h9) rfl dX11_best_56 ?_
            refine va_get (D := D) (ci := 8) (v := .int nwf_size) (C := RX8) (T := TX8) (N := 5) hx hb htb inX8 hown hK hP 2 rfl rfl 4 (by decide) (htb _ tw_134) (fun _ h9 => h9) rfl dX11_best_59 ?_
            refine lv_bipush (v := 6) hx hb dX11_best_62 (by decide) ?_
            refine lv_icmp_gt (tgt := 76) hx hb dX11_best_64 (by decide) (fun c_27 => ?_) (fun c_27 => ?_)
            · have k_27 : 6 < nwf_size.toInt := wk_lt c_27
              replace hF := hF.trans (if_pos c_27)
              refine lv_bipush (v := (-103)) hx hb dX11_best_76 (by decide) ?_
              refine W.widen (k := 0) (n := 0) (by decide) (by decide) ?_
              exact hret (-103) (x_bestsDone, tr_least, tr_bestLinks, trw_number, trw_lane, trw_looks, tra_a, trb_a) _ _ _ 78 (wk_sub9 (is := [0, 1, 2, 3, 4, 5, 6, 7, 8]) hP rfl) (hD.sub [0, 1, 2, 3, 4, 5, 6, 7, 8] rfl rfl) hS dX11_best_78 ⟨hF.symm, (show ((-1) ≤ trw_number.toInt ∧ trw_number.toInt ≤ 7) from by omega)⟩
            · have k_27 : ¬ 6 < nwf_size.toInt := wk_nlt c_27
              replace hF := hF.trans (if_neg c_27)
              refine lv_aload_n hx hb dX11_best_67 rfl (lv_at hl 1 rfl) ?_
              refine va_get (D := D) (ci := 11) (v := .int x_bestsDone) (C := RX11) (T := TX11) (N := 10) hx hb htb inX11 hown hK hP 0 rfl rfl 9 (by decide) (htb _ tw_261) (fun _ h9 => h9) rfl dX11_best_68 ?_
              refine lv_bipush (v := 12) hx hb dX11_best_71 (by decide) ?_
              refine lv_icmp_lt (tgt := 79) hx hb dX11_best_73 (by decide) (fun c_28 => ?_) (fun c_28 => ?_)
              · have k_28 : x_bestsDone.toInt < 12 := wk_lt c_28
                replace hF := hF.trans (if_pos c_28)
                refine lv_aload_n hx hb dX11_best_79 rfl (lv_at hl 1 rfl) ?_
                refine lv_dup hx hb dX11_best_80 rfl ?_
                refine va_get (D := D) (ci := 11) (v := .int x_bestsDone) (C := RX11) (T := TX11) (N := 10) hx hb htb inX11 hown hK hP 0 rfl rfl 9 (by decide) (htb _ tw_261) (fun _ h9 => h9) rfl dX11_best_81 ?_
                refine lv_iconst (v := 1) hx hb dX11_best_84 (by decide) ?_
                refine lv_iadd hx hb dX11_best_85 ?_
                refine va_put (D := D) (ci := 11) (v := .int (x_bestsDone + 1)) (ty := .int) (C := RX11) (T := TX11) (N := 10) hx hb htb inX11 tyX11 tyX11_ok nmX11 hown hK hP hD hS 0 rfl rfl 9 (by decide) (htb _ tw_261) (fun _ h9 => h9) rfl (by decide +kernel) rfl rfl (Nat.le_of_ble_eq_true rfl) dX11_best_86 (fun H locs hP hD hS => ?_)
                have hP : va_P D classes [(x, .inr (11, [.ref pg, .ref wr, .ref nw, .ref kp, .ref wk, .ref tr, .ref lw, .int x_rowsRead, .int x_rowOfImage, .int (x_bestsDone + 1)])), (nw, .inr (2, [.ref nwf, .ref nws, .ref nwe, .int nw_asked, .int nw_looksOfAsked, .int nw_changes])), (nwf, .inr (8, [.ref nwfk, .ref nwfv, .ref nwfh, .ref nwft, .int nwf_size])), (nwfk, .inl (cy, 8, .inl nwfk_a)), (nwft, .inl (cy, 8, .inl nwft_a)), (tr, .inr (9, [.ref trw, .ref tra, .ref trb, .ref trc, .int tr_least, .int tr_bestLinks, .int tr_changeNumber, .int tr_changeHeight])), (trw, .inr (10, [.int trw_number, .int trw_lane, .int trw_looks])), (tra, .inl (cy, 8, .inl tra_a)), (trb, .inl (cy, 8, .inl trb_a))] H := hP
                have hD : va_D A [(x, .inr (11, [.ref pg, .ref wr, .ref nw, .ref kp, .ref wk, .ref tr, .ref lw, .int x_rowsRead, .int x_rowOfImage, .int (x_bestsDone + 1)])), (nw, .inr (2, [.ref nwf, .ref nws, .ref nwe, .int nw_asked, .int nw_looksOfAsked, .int nw_changes])), (nwf, .inr (8, [.ref nwfk, .ref nwfv, .ref nwfh, .ref nwft, .int nwf_size])), (nwfk, .inl (cy, 8, .inl nwfk_a)), (nwft, .inl (cy, 8, .inl nwft_a)), (tr, .inr (9, [.ref trw, .ref tra, .ref trb, .ref trc, .int tr_least, .int tr_bestLinks, .int tr_changeNumber, .int tr_changeHeight])), (trw, .inr (10, [.int trw_number, .int trw_lane, .int trw_looks])), (tra, .inl (cy, 8, .inl tra_a)), (trb, .inl (cy, 8, .inl trb_a))] := hD
                refine lv_aload_n hx hb dX11_best_89 rfl (lv_at hl 1 rfl) ?_
                refine va_get (D := D) (ci := 11) (v := .ref tr) (C := RX11) (T := TX11) (N := 10) hx hb htb inX11 hown hK hP 0 rfl rfl 5 (by decide) (htb _ tw_257) (fun _ h9 => h9) rfl dX11_best_90 ?_
                refine lv_aload_n hx hb dX11_best_93 rfl (lv_at hl 1 rfl) ?_
                refine va_get (D := D) (ci := 11) (v := .ref nw) (C := RX11) (T := TX11) (N := 10) hx hb htb inX11 hown hK hP 0 rfl rfl 2 (by decide) (htb _ tw_254) (fun _ h9 => h9) rfl dX11_best_94 ?_
                refine va_get (D := D) (ci := 2) (v := .ref nwf) (C := RX2) (T := TX2) (N := 6) hx hb htb inX2 hown hK hP 1 rfl rfl 0 (by decide) (htb _ tw_171) (fun _ h9 => h9) rfl dX11_best_97 ?_
                refine lv_iload_n hx hb dX11_best_100 rfl (lv_at hl 2 rfl) ?_
                refine wk_vV (As := [.ref nwf, .int a]) (rest := []) (wc := [(tr, .inr (9, [.ref trw, .ref tra, .ref trb, .ref trc, .int tr_least, .int tr_bestLinks, .int tr_changeNumber, .int tr_changeHeight])), (trw, .inr (10, [.int trw_number, .int trw_lane, .int trw_looks])), (tra, .inl (cy, 8, .inl tra_a)), (trb, .inl (cy, 8, .inl trb_a)), (nwf, .inr (8, [.ref nwfk, .ref nwfv, .ref nwfh, .ref nwft, .int nwf_size])), (nwfk, .inl (cy, 8, .inl nwfk_a)), (nwft, .inl (cy, 8, .inl nwft_a))]) (wr := [(x, .inr (11, [.ref pg, .ref wr, .ref nw, .ref kp, .ref wk, .ref tr, .ref lw, .int x_rowsRead, .int x_rowOfImage, .int (x_bestsDone + 1)])), (nw, .inr (2, [.ref nwf, .ref nws, .ref nwe, .int nw_asked, .int nw_looksOfAsked, .int nw_changes]))]) (n := 2) ⟨hx, hb, hml, hown, htb⟩ (c_X9_seekBest l D cy tr trw tra trb trc nwf nwfk nwfv nwfh nwft tr_least tr_bestLinks tr_changeNumber tr_changeHeight trw_number trw_lane trw_looks tra_a trb_a nwf_size nwfk_a nwft_a a (show (-1) ≤ trw_number.toInt ∧ trw_number.toInt ≤ 7 from by omega) (show 0 ≤ nwf_size.toInt ∧ nwf_size.toInt ≤ 8 from by omega)) tw_645 tw_642 tw_643 tw_644 tw_70 rfl rfl (by decide +kernel) ⟨Nat.le_of_ble_eq_true rfl, Nat.le_of_ble_eq_true rfl⟩ hK hP hD hS hA [5, 6, 7, 8, 2, 3, 4] [0, 1] rfl rfl rfl rfl (by decide) 0 (ci := 9) rfl rfl rfl hl.1 rfl (Nat.le_of_ble_eq_true rfl) dX11_best_101 ⟨Nat.le_of_ble_eq_true rfl, Nat.le_of_ble_eq_true rfl⟩ (fun u_30 H locs hw_31 hP hD hS => ?_)
                refine W.widen (k := 0) (n := 0) (by decide) (by decide) ?_
                obtain ⟨o_32, o_33, o_34, o_35, o_36, o_37, o_38⟩ := u_30
                obtain ⟨hw_31, k_39⟩ := hw_31
                have hw_31 : (o_32, o_33, o_34, o_35, o_36, o_37, o_38) = (fn_X9_seekBest tr_least tr_bestLinks trw_number trw_lane trw_looks tra_a trb_a nwf_size nwfk_a nwft_a a) := hw_31
                have k_39 : ((-1) ≤ o_34.toInt ∧ o_34.toInt ≤ 7) := k_39
                rw [← hw_31] at hF
                rw [pm2_mk o_32 (o_33, o_34, o_35, o_36, o_37, o_38), pm2_mk o_33 (o_34, o_35, o_36, o_37, o_38), pm2_mk o_34 (o_35, o_36, o_37, o_38), pm2_mk o_35 (o_36, o_37, o_38), pm2_mk o_36 (o_37, o_38), pm2_mk o_37 o_38] at hF
                have hP : va_P D classes [(x, .inr (11, [.ref pg, .ref wr, .ref nw, .ref kp, .ref wk, .ref tr, .ref lw, .int x_rowsRead, .int x_rowOfImage, .int (x_bestsDone + 1)])), (nw, .inr (2, [.ref nwf, .ref nws, .ref nwe, .int nw_asked, .int nw_looksOfAsked, .int nw_changes])), (tr, .inr (9, [.ref trw, .ref tra, .ref trb, .ref trc, .int o_32, .int o_33, .int tr_changeNumber, .int tr_changeHeight])), (trw, .inr (10, [.int o_34, .int o_35, .int o_36])), (tra, .inl (cy, 8, .inl o_37)), (trb, .inl (cy, 8, .inl o_38)), (nwf, .inr (8, [.ref nwfk, .ref nwfv, .ref nwfh, .ref nwft, .int nwf_size])), (nwfk, .inl (cy, 8, .inl nwfk_a)), (nwft, .inl (cy, 8, .inl nwft_a))] H := hP
                have hD : va_D A [(x, .inr (11, [.ref pg, .ref wr, .ref nw, .ref kp, .ref wk, .ref tr, .ref lw, .int x_rowsRead, .int x_rowOfImage, .int (x_bestsDone + 1)])), (nw, .inr (2, [.ref nwf, .ref nws, .ref nwe, .int nw_asked, .int nw_looksOfAsked, .int nw_changes])), (tr, .inr (9, [.ref trw, .ref tra, .ref trb, .ref trc, .int o_32, .int o_33, .int tr_changeNumber, .int tr_changeHeight])), (trw, .inr (10, [.int o_34, .int o_35, .int o_36])), (tra, .inl (cy, 8, .inl o_37)), (trb, .inl (cy, 8, .inl o_38)), (nwf, .inr (8, [.ref nwfk, .ref nwfv, .ref nwfh, .ref nwft, .int nwf_size])), (nwfk, .inl (cy, 8, .inl nwfk_a)), (nwft, .inl (cy, 8, .inl nwft_a))] := hD
                refine lv_aload_n hx hb dX11_best_104 rfl (lv_at hl 1 rfl) ?_
                refine va_get (D := D) (ci := 11) (v := .ref tr) (C := RX11) (T := TX11) (N := 10) hx hb htb inX11 hown hK hP 0 rfl rfl 5 (by decide) (htb _ tw_257) (fun _ h9 => h9) rfl dX11_best_105 ?_
                refine va_get (D := D) (ci := 9) (v := .int o_32) (C := RX9) (T := TX9) (N := 8) hx hb htb inX9 hown hK hP 2 rfl rfl 4 (by decide) (htb _ tw_228) (fun _ h9 => h9) rfl dX11_best_108 ?_
                refine lv_iconst (v := (-1)) hx hb dX11_best_111 (by decide) ?_
                refine lv_icmp_ne (tgt := 117) hx hb dX11_best_112 (by decide) (fun c_40 => ?_) (fun c_40 => ?_)
                · have k_40 : ¬ o_32.toInt = (-1) := wk_neq c_40
                  replace hF := hF.trans (if_neg c_40)
                  refine lv_iload_n hx hb dX11_best_117 rfl (lv_at hl 3 rfl) ?_
                  by_cases c_41 : b = 0
                  · refine wk_toi c_41 ?_
                    replace hF := hF.trans (if_pos c_41)
                    have k_41 : b.toInt = 0 := wk_eq c_41
                    refine lv_lookup (off := 26) (tgt := 144) hx hb dX11_best_118 (by decide) (by decide) (by decide) ?_
                    refine lv_aload_n hx hb dX11_best_144 rfl (lv_at hl 1 rfl) ?_
                    refine va_get (D := D) (ci := 11) (v := .ref tr) (C := RX11) (T := TX11) (N := 10) hx hb htb inX11 hown hK hP 0 rfl rfl 5 (by decide) (htb _ tw_257) (fun _ h9 => h9) rfl dX11_best_145 ?_
                    refine va_get (D := D) (ci := 9) (v := .int o_32) (C := RX9) (T := TX9) (N := 8) hx hb htb inX9 hown hK hP 2 rfl rfl 4 (by decide) (htb _ tw_228) (fun _ h9 => h9) rfl dX11_best_148 ?_
                    refine W.widen (k := 0) (n := 0) (by decide) (by decide) ?_
                    exact hret o_32 ((x_bestsDone + 1), o_32, o_33, o_34, o_35, o_36, o_37, o_38) _ _ _ 151 (wk_sub9 (is := [0, 1, 6, 7, 8, 2, 3, 4, 5]) hP rfl) (hD.sub [0, 1, 6, 7, 8, 2, 3, 4, 5] rfl rfl) hS dX11_best_151 ⟨hF.symm, (show ((-1) ≤ o_34.toInt ∧ o_34.toInt ≤ 7) from by omega)⟩
                  replace hF := hF.trans (if_neg c_41)
                  have k_41 : ¬ b.toInt = 0 := wk_neq c_41
                  by_cases c_42 : b = 1
                  · refine wk_toi c_42 ?_
                    replace hF := hF.trans (if_pos c_42)
                    have k_42 : b.toInt = 1 := wk_eq c_42
                    refine lv_lookup (off := 34) (tgt := 152) hx hb dX11_best_118 (by decide) (by decide) (by decide) ?_
                    refine lv_aload_n hx hb dX11_best_152 rfl (lv_at hl 1 rfl) ?_
                    refine va_get (D := D) (ci := 11) (v := .ref tr) (C := RX11) (T := TX11) (N := 10) hx hb htb inX11 hown hK hP 0 rfl rfl 5 (by decide) (htb _ tw_257) (fun _ h9 => h9) rfl dX11_best_153 ?_
                    refine va_get (D := D) (ci := 9) (v := .int o_33) (C := RX9) (T := TX9) (N := 8) hx hb htb inX9 hown hK hP 2 rfl rfl 5 (by decide) (htb _ tw_230) (fun _ h9 => h9) rfl dX11_best_156 ?_
                    refine W.widen (k := 0) (n := 0) (by decide) (by decide) ?_
                    exact hret o_33 ((x_bestsDone + 1), o_32, o_33, o_34, o_35, o_36, o_37, o_38) _ _ _ 159 (wk_sub9 (is := [0, 1, 6, 7, 8, 2, 3, 4, 5]) hP rfl) (hD.sub [0, 1, 6, 7, 8, 2, 3, 4, 5] rfl rfl) hS dX11_best_159 ⟨hF.symm, (show ((-1) ≤ o_34.toInt ∧ o_34.toInt ≤ 7) from by omega)⟩
                  replace hF := hF.trans (if_neg c_42)
                  have k_42 : ¬ b.toInt = 1 := wk_neq c_42
                  refine lv_lookup (off := 42) (tgt := 160) hx hb dX11_best_118 (by decide) ((lv_osw c_41 rfl).trans ((lv_osw c_42 rfl).trans rfl)) (by decide) ?_
                  refine lv_aload_n hx hb dX11_best_160 rfl (lv_at hl 1 rfl) ?_
                  refine va_get (D := D) (ci := 11) (v := .ref tr) (C := RX11) (T := TX11) (N := 10) hx hb htb inX11 hown hK hP 0 rfl rfl 5 (by decide) (htb _ tw_257) (fun _ h9 => h9) rfl dX11_best_161 ?_
                  refine lv_aload_n hx hb dX11_best_164 rfl (lv_at hl 1 rfl) ?_
                  refine va_get (D := D) (ci := 11) (v := .ref nw) (C := RX11) (T := TX11) (N := 10) hx hb htb inX11 hown hK hP 0 rfl rfl 2 (by decide) (htb _ tw_254) (fun _ h9 => h9) rfl dX11_best_165 ?_
                  refine va_get (D := D) (ci := 2) (v := .ref nwf) (C := RX2) (T := TX2) (N := 6) hx hb htb inX2 hown hK hP 1 rfl rfl 0 (by decide) (htb _ tw_171) (fun _ h9 => h9) rfl dX11_best_168 ?_
                  refine lv_iload_n hx hb dX11_best_171 rfl (lv_at hl 3 rfl) ?_
                  refine lv_bipush (v := 10) hx hb dX11_best_172 (by decide) ?_
                  refine lv_isub hx hb dX11_best_174 ?_
                  obtain ⟨z_43, ez_43⟩ : ∃ y : Int32, y = (b - 10) := ⟨_, rfl⟩
                  refine wk_toi ez_43.symm ?_
                  try rw [← ez_43] at hF
                  have k_44 : z_43.toInt = b.toInt - 10 := by rw [ez_43]; exact wk_sub b.toInt 10 rfl rfl (by omega) (by omega)
                  refine wk_iV (As := [.ref nwf, .int z_43]) (rest := []) (wc := [(tr, .inr (9, [.ref trw, .ref tra, .ref trb, .ref trc, .int o_32, .int o_33, .int tr_changeNumber, .int tr_changeHeight])), (trb, .inl (cy, 8, .inl o_38)), (nwf, .inr (8, [.ref nwfk, .ref nwfv, .ref nwfh, .ref nwft, .int nwf_size]))]) (wr := [(x, .inr (11, [.ref pg, .ref wr, .ref nw, .ref kp, .ref wk, .ref tr, .ref lw, .int x_rowsRead, .int x_rowOfImage, .int (x_bestsDone + 1)])), (nw, .inr (2, [.ref nwf, .ref nws, .ref nwe, .int nw_asked, .int nw_looksOfAsked, .int nw_changes])), (trw, .inr (10, [.int o_34, .int o_35, .int o_36])), (tra, .inl (cy, 8, .inl o_37)), (nwfk, .inl (cy, 8, .inl nwfk_a)), (nwft, .inl (cy, 8, .inl nwft_a))]) (n := 2) ⟨hx, hb, hml, hown, htb⟩ (c_X9_bestHeight l D cy tr trw tra trb trc nwf nwfk nwfv nwfh nwft o_32 o_33 tr_changeNumber tr_changeHeight o_38 nwf_size z_43 (show 0 ≤ nwf_size.toInt ∧ nwf_size.toInt ≤ 8 from by omega)) tw_662 tw_659 tw_660 tw_661 tw_70 rfl rfl (by decide +kernel) ⟨Nat.le_of_ble_eq_true rfl, Nat.le_of_ble_eq_true rfl⟩ hK hP hD hS hA [2, 5, 6] [0, 1, 3, 4, 7, 8] rfl rfl rfl rfl (by decide) 0 (ci := 9) rfl rfl rfl hl.1 rfl (Nat.le_of_ble_eq_true rfl) dX11_best_175 ⟨Nat.le_of_ble_eq_true rfl, Nat.le_of_ble_eq_true rfl⟩ (fun r_45 u_46 H locs hw_47 hP hD hS => ?_)
                  refine W.widen (k := 0) (n := 0) (by decide) (by decide) ?_
                  have hw_47 : r_45 = (fn_X9_bestHeight o_38 nwf_size z_43) := hw_47
                  subst hw_47
                  have hP : va_P D classes [(x, .inr (11, [.ref pg, .ref wr, .ref nw, .ref kp, .ref wk, .ref tr, .ref lw, .int x_rowsRead, .int x_rowOfImage, .int (x_bestsDone + 1)])), (nw, .inr (2, [.ref nwf, .ref nws, .ref nwe, .int nw_asked, .int nw_looksOfAsked, .int nw_changes])), (trw, .inr (10, [.int o_34, .int o_35, .int o_36])), (tra, .inl (cy, 8, .inl o_37)), (nwfk, .inl (cy, 8, .inl nwfk_a)), (nwft, .inl (cy, 8, .inl nwft_a)), (tr, .inr (9, [.ref trw, .ref tra, .ref trb, .ref trc, .int o_32, .int o_33, .int tr_changeNumber, .int tr_changeHeight])), (trb, .inl (cy, 8, .inl o_38)), (nwf, .inr (8, [.ref nwfk, .ref nwfv, .ref nwfh, .ref nwft, .int nwf_size]))] H := hP
                  have hD : va_D A [(x, .inr (11, [.ref pg, .ref wr, .ref nw, .ref kp, .ref wk, .ref tr, .ref lw, .int x_rowsRead, .int x_rowOfImage, .int (x_bestsDone + 1)])), (nw, .inr (2, [.ref nwf, .ref nws, .ref nwe, .int nw_asked, .int nw_looksOfAsked, .int nw_changes])), (trw, .inr (10, [.int o_34, .int o_35, .int o_36])), (tra, .inl (cy, 8, .inl o_37)), (nwfk, .inl (cy, 8, .inl nwfk_a)), (nwft, .inl (cy, 8, .inl nwft_a)), (tr, .inr (9, [.ref trw, .ref tra, .ref trb, .ref trc, .int o_32, .int o_33, .int tr_changeNumber, .int tr_changeHeight])), (trb, .inl (cy, 8, .inl o_38)), (nwf, .inr (8, [.ref nwfk, .ref nwfv, .ref nwfh, .ref nwft, .int nwf_size]))] := hD
                  refine W.widen (k := 0) (n := 0) (by decide) (by decide) ?_
                  exact hret (fn_X9_bestHeight o_38 nwf_size z_43) ((x_bestsDone + 1), o_32, o_33, o_34, o_35, o_36, o_37, o_38) _ _ _ 178 (wk_sub9 (is := [0, 1, 8, 4, 5, 6, 2, 3, 7]) hP rfl) (hD.sub [0, 1, 8, 4, 5, 6, 2, 3, 7] rfl rfl) hS dX11_best_178 ⟨hF.symm, (show ((-1) ≤ o_34.toInt ∧ o_34.toInt ≤ 7) from by omega)⟩
                · have k_40 : o_32.toInt = (-1) := wk_eq c_40
                  replace hF := hF.trans (if_pos c_40)
                  refine lv_iconst (v := (-1)) hx hb dX11_best_115 (by decide) ?_
                  refine W.widen (k := 0) (n := 0) (by decide) (by decide) ?_
                  exact hret (-1) ((x_bestsDone + 1), o_32, o_33, o_34, o_35, o_36, o_37, o_38) _ _ _ 116 (wk_sub9 (is := [0, 1, 6, 7, 8, 2, 3, 4, 5]) hP rfl) (hD.sub [0, 1, 6, 7, 8, 2, 3, 4, 5] rfl rfl) hS dX11_best_116 ⟨hF.symm, (show ((-1) ≤ o_34.toInt ∧ o_34.toInt ≤ 7) from by omega)⟩
              · have k_28 : ¬ x_bestsDone.toInt < 12 := wk_nlt c_28
                replace hF := hF.trans (if_neg c_28)
                refine lv_bipush (v := (-103)) hx hb dX11_best_76 (by decide) ?_
                refine W.widen (k := 0) (n := 0) (by decide) (by decide) ?_
                exact hret (-103) (x_bestsDone, tr_least, tr_bestLinks, trw_number, trw_lane, trw_looks, tra_a, trb_a) _ _ _ 78 (wk_sub9 (is := [0, 1, 2, 3, 4, 5, 6, 7, 8]) hP rfl) (hD.sub [0, 1, 2, 3, 4, 5, 6, 7, 8] rfl rfl) hS dX11_best_78 ⟨hF.symm, (show ((-1) ≤ trw_number.toInt ∧ trw_number.toInt ≤ 7) from by omega)⟩
          · have k_26 : ¬ b.toInt = 1 := wk_neq c_26
            replace hF := hF.trans (if_neg c_26)
            refine lv_iload_n hx hb dX11_best_38 rfl (lv_at hl 0 rfl) ?_
            refine lv_if_ne (tgt := 45) hx hb dX11_best_39 (by decide) (fun c_48 => absurd (by decide) c_48) (fun _ => ?_)
            refine lv_bipush (v := (-102)) hx hb dX11_best_42 (by decide) ?_
            refine W.widen (k := 0) (n := 0) (by decide) (by decide) ?_
            exact hret (-102) (x_bestsDone, tr_least, tr_bestLinks, trw_number, trw_lane, trw_looks, tra_a, trb_a) _ _ _ 44 (wk_sub9 (is := [0, 1, 2, 3, 4, 5, 6, 7, 8]) hP rfl) (hD.sub [0, 1, 2, 3, 4, 5, 6, 7, 8] rfl rfl) hS dX11_best_44 ⟨hF.symm, (show ((-1) ≤ trw_number.toInt ∧ trw_number.toInt ≤ 7) from by omega)⟩
  · have k_1 : ¬ b.toInt < 10 := wk_nlt c_1
    replace hF := hF.trans (if_neg c_1)
    refine lv_iload_n hx hb dX11_best_6 rfl (lv_at hl 2 rfl) ?_
    refine lv_bipush (v := 15) hx hb dX11_best_7 (by decide) ?_
    refine lv_icmp_gt (tgt := 16) hx hb dX11_best_9 (by decide) (fun c_49 => ?_) (fun c_49 => ?_)
    · have k_49 : 15 < b.toInt := wk_lt c_49
      replace hF := hF.trans (if_pos c_49)
      refine lv_iconst (v := 0) hx hb dX11_best_16 (by decide) ?_
      refine lv_istore_n (lv' := [(3, .int 0), (0, .ref x), (1, .int a), (2, .int b)]) hx hb dX11_best_17 rfl hl (by decide) rfl (fun ls hl => ?_)
      refine lv_iload_n hx hb dX11_best_18 rfl (lv_at hl 2 rfl) ?_
      refine lv_iconst (v := 1) hx hb dX11_best_19 (by decide) ?_
      refine lv_icmp_lt (tgt := 42) hx hb dX11_best_20 (by decide) (fun c_50 => ?_) (fun c_50 => ?_)
      · have k_50 : a.toInt < 1 := wk_lt c_50
        replace hF := hF.trans (if_pos c_50)
        refine lv_bipush (v := (-102)) hx hb dX11_best_42 (by decide) ?_
        refine W.widen (k := 0) (n := 0) (by decide) (by decide) ?_
        exact hret (-102) (x_bestsDone, tr_least, tr_bestLinks, trw_number, trw_lane, trw_looks, tra_a, trb_a) _ _ _ 44 (wk_sub9 (is := [0, 1, 2, 3, 4, 5, 6, 7, 8]) hP rfl) (hD.sub [0, 1, 2, 3, 4, 5, 6, 7, 8] rfl rfl) hS dX11_best_44 ⟨hF.symm, (show ((-1) ≤ trw_number.toInt ∧ trw_number.toInt ≤ 7) from by omega)⟩
      · have k_50 : ¬ a.toInt < 1 := wk_nlt c_50
        replace hF := hF.trans (if_neg c_50)
        refine lv_iload_n hx hb dX11_best_23 rfl (lv_at hl 2 rfl) ?_
        refine lv_bipush (v := 18) hx hb dX11_best_24 (by decide) ?_
        refine lv_icmp_gt (tgt := 42) hx hb dX11_best_26 (by decide) (fun c_51 => ?_) (fun c_51 => ?_)
        · have k_51 : 18 < a.toInt := wk_lt c_51
          replace hF := hF.trans (if_pos c_51)
          refine lv_bipush (v := (-102)) hx hb dX11_best_42 (by decide) ?_
          refine W.widen (k := 0) (n := 0) (by decide) (by decide) ?_
          exact hret (-102) (x_bestsDone, tr_least, tr_bestLinks, trw_number, trw_lane, trw_looks, tra_a, trb_a) _ _ _ 44 (wk_sub9 (is := [0, 1, 2, 3, 4, 5, 6, 7, 8]) hP rfl) (hD.sub [0, 1, 2, 3, 4, 5, 6, 7, 8] rfl rfl) hS dX11_best_44 ⟨hF.symm, (show ((-1) ≤ trw_number.toInt ∧ trw_number.toInt ≤ 7) from by omega)⟩
        · have k_51 : ¬ 18 < a.toInt := wk_nlt c_51
          replace hF := hF.trans (if_neg c_51)
          refine lv_iload_n hx hb dX11_best_29 rfl (lv_at hl 3 rfl) ?_
          refine lv_if_eq (tgt := 45) hx hb dX11_best_30 (by decide) (fun c_52 => ?_) (fun c_52 => ?_)
          · have k_52 : b.toInt = 0 := wk_eq c_52
            replace hF := hF.trans (if_pos c_52)
            exfalso; omega
          · have k_52 : ¬ b.toInt = 0 := wk_neq c_52
            replace hF := hF.trans (if_neg c_52)
            refine lv_iload_n hx hb dX11_best_33 rfl (lv_at hl 3 rfl) ?_
            refine lv_iconst (v := 1) hx hb dX11_best_34 (by decide) ?_
            refine lv_icmp_eq (tgt := 45) hx hb dX11_best_35 (by decide) (fun c_53 => ?_) (fun c_53 => ?_)
            · have k_53 : b.toInt = 1 := wk_eq c_53
              replace hF := hF.trans (if_pos c_53)
              exfalso; omega
            · have k_53 : ¬ b.toInt = 1 := wk_neq c_53
              replace hF := hF.trans (if_neg c_53)
              refine lv_iload_n hx hb dX11_best_38 rfl (lv_at hl 0 rfl) ?_
              refine lv_if_ne (tgt := 45) hx hb dX11_best_39 (by decide) (fun c_54 => absurd (by decide) c_54) (fun _ => ?_)
              refine lv_bipush (v := (-102)) hx hb dX11_best_42 (by decide) ?_
              refine W.widen (k := 0) (n := 0) (by decide) (by decide) ?_
              exact hret (-102) (x_bestsDone, tr_least, tr_bestLinks, trw_number, trw_lane, trw_looks, tra_a, trb_a) _ _ _ 44 (wk_sub9 (is := [0, 1, 2, 3, 4, 5, 6, 7, 8]) hP rfl) (hD.sub [0, 1, 2, 3, 4, 5, 6, 7, 8] rfl rfl) hS dX11_best_44 ⟨hF.symm, (show ((-1) ≤ trw_number.toInt ∧ trw_number.toInt ≤ 7) from by omega)⟩
    · have k_49 : ¬ 15 < b.toInt := wk_nlt c_49
      replace hF := hF.trans (if_neg c_49)
      refine lv_iconst (v := 1) hx hb dX11_best_12 (by decide) ?_
      refine lv_goto (tgt := 17) hx hb dX11_best_13 (by decide) ?_
      refine lv_istore_n (lv' := [(3, .int 1), (0, .ref x), (1, .int a), (2, .int b)]) hx hb dX11_best_17 rfl hl (by decide) rfl (fun ls hl => ?_)
      refine lv_iload_n hx hb dX11_best_18 rfl (lv_at hl 2 rfl) ?_
      refine lv_iconst (v := 1) hx hb dX11_best_19 (by decide) ?_
      refine lv_icmp_lt (tgt := 42) hx hb dX11_best_20 (by decide) (fun c_55 => ?_) (fun c_55 => ?_)
      · have k_55 : a.toInt < 1 := wk_lt c_55
        replace hF := hF.trans (if_pos c_55)
        refine lv_bipush (v := (-102)) hx hb dX11_best_42 (by decide) ?_
        refine W.widen (k := 0) (n := 0) (by decide) (by decide) ?_
        exact hret (-102) (x_bestsDone, tr_least, tr_bestLinks, trw_number, trw_lane, trw_looks, tra_a, trb_a) _ _ _ 44 (wk_sub9 (is := [0, 1, 2, 3, 4, 5, 6, 7, 8]) hP rfl) (hD.sub [0, 1, 2, 3, 4, 5, 6, 7, 8] rfl rfl) hS dX11_best_44 ⟨hF.symm, (show ((-1) ≤ trw_number.toInt ∧ trw_number.toInt ≤ 7) from by omega)⟩
      · have k_55 : ¬ a.toInt < 1 := wk_nlt c_55
        replace hF := hF.trans (if_neg c_55)
        refine lv_iload_n hx hb dX11_best_23 rfl (lv_at hl 2 rfl) ?_
        refine lv_bipush (v := 18) hx hb dX11_best_24 (by decide) ?_
        refine lv_icmp_gt (tgt := 42) hx hb dX11_best_26 (by decide) (fun c_56 => ?_) (fun c_56 => ?_)
        · have k_56 : 18 < a.toInt := wk_lt c_56
          replace hF := hF.trans (if_pos c_56)
          refine lv_bipush (v := (-102)) hx hb dX11_best_42 (by decide) ?_
          refine W.widen (k := 0) (n := 0) (by decide) (by decide) ?_
          exact hret (-102) (x_bestsDone, tr_least, tr_bestLinks, trw_number, trw_lane, trw_looks, tra_a, trb_a) _ _ _ 44 (wk_sub9 (is := [0, 1, 2, 3, 4, 5, 6, 7, 8]) hP rfl) (hD.sub [0, 1, 2, 3, 4, 5, 6, 7, 8] rfl rfl) hS dX11_best_44 ⟨hF.symm, (show ((-1) ≤ trw_number.toInt ∧ trw_number.toInt ≤ 7) from by omega)⟩
        · have k_56 : ¬ 18 < a.toInt := wk_nlt c_56
          replace hF := hF.trans (if_neg c_56)
          refine lv_iload_n hx hb dX11_best_29 rfl (lv_at hl 3 rfl) ?_
          refine lv_if_eq (tgt := 45) hx hb dX11_best_30 (by decide) (fun c_57 => ?_) (fun c_57 => ?_)
          · have k_57 : b.toInt = 0 := wk_eq c_57
            replace hF := hF.trans (if_pos c_57)
            exfalso; omega
          · have k_57 : ¬ b.toInt = 0 := wk_neq c_57
            replace hF := hF.trans (if_neg c_57)
            refine lv_iload_n hx hb dX11_best_33 rfl (lv_at hl 3 rfl) ?_
            refine lv_iconst (v := 1) hx hb dX11_best_34 (by decide) ?_
            refine lv_icmp_eq (tgt := 45) hx hb dX11_best_35 (by decide) (fun c_58 => ?_) (fun c_58 => ?_)
            · have k_58 : b.toInt = 1 := wk_eq c_58
              replace hF := hF.trans (if_pos c_58)
              exfalso; omega
            · have k_58 : ¬ b.toInt = 1 := wk_neq c_58
              replace hF := hF.trans (if_neg c_58)
              refine lv_iload_n hx hb dX11_best_38 rfl (lv_at hl 0 rfl) ?_
              refine lv_if_ne (tgt := 45) hx hb dX11_best_39 (by decide) (fun _ => ?_) (fun c_59 => absurd c_59 (by decide))
              refine lv_aload_n hx hb dX11_best_45 rfl (lv_at hl 1 rfl) ?_
              refine va_get (D := D) (ci := 11) (v := .ref lw) (C := RX11) (T := TX11) (N := 10) hx hb htb inX11 hown hK hP 0 rfl rfl 6 (by decide) (htb _ tw_258) (fun _ h9 => h9) rfl dX11_best_46 ?_
              refine lv_ifnull hx hb dX11_best_49 ?_
              refine lv_aload_n hx hb dX11_best_52 rfl (lv_at hl 1 rfl) ?_
              refine va_get (D := D) (ci := 11) (v := .ref nw) (C := RX11) (T := TX11) (N := 10) hx hb htb inX11 hown hK hP 0 rfl rfl 2 (by decide) (htb _ tw_254) (fun _ h9 => h9) rfl dX11_best_53 ?_
              refine va_get (D := D) (ci := 2) (v := .ref nwf) (C := RX2) (T := TX2) (N := 6) hx hb htb inX2 hown hK hP 1 rfl rfl 0 (by decide) (htb _ tw_171) (fun _ h9 => h9) rfl dX11_best_56 ?_
              refine va_get (D := D) (ci := 8) (v := .int nwf_size) (C := RX8) (T := TX8) (N := 5) hx hb htb inX8 hown hK hP 2 rfl rfl 4 (by decide) (htb _ tw_134) (fun _ h9 => h9) rfl dX11_best_59 ?_
              refine lv_bipush (v := 6) hx hb dX11_best_62 (by decide) ?_
              refine lv_icmp_gt (tgt := 76) hx hb dX11_best_64 (by decide) (fun c_60 => ?_) (fun c_60 => ?_)
              · have k_60 : 6 < nwf_size.toInt := wk_lt c_60
                replace hF := hF.trans (if_pos c_60)
                refine lv_bipush (v := (-103)) hx hb dX11_best_76 (by decide) ?_
                refine W.widen (k := 0) (n := 0) (by decide) (by decide) ?_
                exact hret (-103) (x_bestsDone, tr_least, tr_bestLinks, trw_number, trw_lane, trw_looks, tra_a, trb_a) _ _ _ 78 (wk_sub9 (is := [0, 1, 2, 3, 4, 5, 6, 7, 8]) hP rfl) (hD.sub [0, 1, 2, 3, 4, 5, 6, 7, 8] rfl rfl) hS dX11_best_78 ⟨hF.symm, (show ((-1) ≤ trw_number.toInt ∧ trw_number.toInt ≤ 7) from by omega)⟩
              · have k_60 : ¬ 6 < nwf_size.toInt := wk_nlt c_60
                replace hF := hF.trans (if_neg c_60)
                refine lv_aload_n hx hb dX11_best_67 rfl (lv_at hl 1 rfl) ?_
                refine va_get (D := D) (ci := 11) (v := .int x_bestsDone) (C := RX11) (T := TX11) (N := 10) hx hb htb inX11 hown hK hP 0 rfl rfl 9 (by decide) (htb _ tw_261) (fun _ h9 => h9) rfl dX11_best_68 ?_
                refine lv_bipush (v := 12) hx hb dX11_best_71 (by decide) ?_
                refine lv_icmp_lt (tgt := 79) hx hb dX11_best_73 (by decide) (fun c_61 => ?_) (fun c_61 => ?_)
                · have k_61 : x_bestsDone.toInt < 12 := wk_lt c_61
                  replace hF := hF.trans (if_pos c_61)
                  refine lv_aload_n hx hb dX11_best_79 rfl (lv_at hl 1 rfl) ?_
                  refine lv_dup hx hb dX11_best_80 rfl ?_
                  refine va_get (D := D) (ci := 11) (v := .int x_bestsDone) (C := RX11) (T := TX11) (N := 10) hx hb htb inX11 hown hK hP 0 rfl rfl 9 (by decide) (htb _ tw_261) (fun _ h9 => h9) rfl dX11_best_81 ?_
                  refine lv_iconst (v := 1) hx hb dX11_best_84 (by decide) ?_
                  refine lv_iadd hx hb dX11_best_85 ?_
                  refine va_put (D := D) (ci := 11) (v := .int (x_bestsDone + 1)) (ty := .int) (C := RX11) (T := TX11) (N := 10) hx hb htb inX11 tyX11 tyX11_ok nmX11 hown hK hP hD hS 0 rfl rfl 9 (by decide) (htb _ tw_261) (fun _ h9 => h9) rfl (by decide +kernel) rfl rfl (Nat.le_of_ble_eq_true rfl) dX11_best_86 (fun H locs hP hD hS => ?_)
                  have hP : va_P D classes [(x, .inr (11, [.ref pg, .ref wr, .ref nw, .ref kp, .ref wk, .ref tr, .ref lw, .int x_rowsRead, .int x_rowOfImage, .int (x_bestsDone + 1)])), (nw, .inr (2, [.ref nwf, .ref nws, .ref nwe, .int nw_asked, .int nw_looksOfAsked, .int nw_changes])), (nwf, .inr (8, [.ref nwfk, .ref nwfv, .ref nwfh, .ref nwft, .int nwf_size])), (nwfk, .inl (cy, 8, .inl nwfk_a)), (nwft, .inl (cy, 8, .inl nwft_a)), (tr, .inr (9, [.ref trw, .ref tra, .ref trb, .ref trc, .int tr_least, .int tr_bestLinks, .int tr_changeNumber, .int tr_changeHeight])), (trw, .inr (10, [.int trw_number, .int trw_lane, .int trw_looks])), (tra, .inl (cy, 8, .inl tra_a)), (trb, .inl (cy, 8, .inl trb_a))] H := hP
                  have hD : va_D A [(x, .inr (11, [.ref pg, .ref wr, .ref nw, .ref kp, .ref wk, .ref tr, .ref lw, .int x_rowsRead, .int x_rowOfImage, .int (x_bestsDone + 1)])), (nw, .inr (2, [.ref nwf, .ref nws, .ref nwe, .int nw_asked, .int nw_looksOfAsked, .int nw_changes])), (nwf, .inr (8, [.ref nwfk, .ref nwfv, .ref nwfh, .ref nwft, .int nwf_size])), (nwfk, .inl (cy, 8, .inl nwfk_a)), (nwft, .inl (cy, 8, .inl nwft_a)), (tr, .inr (9, [.ref trw, .ref tra, .ref trb, .ref trc, .int tr_least, .int tr_bestLinks, .int tr_changeNumber, .int tr_changeHeight])), (trw, .inr (10, [.int trw_number, .int trw_lane, .int trw_looks])), (tra, .inl (cy, 8, .inl tra_a)), (trb, .inl (cy, 8, .inl trb_a))] := hD
                  refine lv_aload_n hx hb dX11_best_89 rfl (lv_at hl 1 rfl) ?_
                  refine va_get (D := D) (ci := 11) (v := .ref tr) (C := RX11) (T := TX11) (N := 10) hx hb htb inX11 hown hK hP 0 rfl rfl 5 (by decide) (htb _ tw_257) (fun _ h9 => h9) rfl dX11_best_90 ?_
                  refine lv_aload_n hx hb dX11_best_93 rfl (lv_at hl 1 rfl) ?_
                  refine va_get (D := D) (ci := 11) (v := .ref nw) (C := RX11) (T := TX11) (N := 10) hx hb htb inX11 hown hK hP 0 rfl rfl 2 (by decide) (htb _ tw_254) (fun _ h9 => h9) rfl dX11_best_94 ?_
                  refine va_get (D := D) (ci := 2) (v := .ref nwf) (C := RX2) (T := TX2) (N := 6) hx hb htb inX2 hown hK hP 1 rfl rfl 0 (by decide) (htb _ tw_171) (fun _ h9 => h9) rfl dX11_best_97 ?_
                  refine lv_iload_n hx hb dX11_best_100 rfl (lv_at hl 2 rfl) ?_
                  refine wk_vV (As := [.ref nwf, .int a]) (rest := []) (wc := [(tr, .inr (9, [.ref trw, .ref tra, .ref trb, .ref trc, .int tr_least, .int tr_bestLinks, .int tr_changeNumber, .int tr_changeHeight])), (trw, .inr (10, [.int trw_number, .int trw_lane, .int trw_looks])), (tra, .inl (cy, 8, .inl tra_a)), (trb, .inl (cy, 8, .inl trb_a)), (nwf, .inr (8, [.ref nwfk, .ref nwfv, .ref nwfh, .ref nwft, .int nwf_size])), (nwfk, .inl (cy, 8, .inl nwfk_a)), (nwft, .inl (cy, 8, .inl nwft_a))]) (wr := [(x, .inr (11, [.ref pg, .ref wr, .ref nw, .ref kp, .ref wk, .ref tr, .ref lw, .int x_rowsRead, .int x_rowOfImage, .int (x_bestsDone + 1)])), (nw, .inr (2, [.ref nwf, .ref nws, .ref nwe, .int nw_asked, .int nw_looksOfAsked, .int nw_changes]))]) (n := 2) ⟨hx, hb, hml, hown, htb⟩ (c_X9_seekBest l D cy tr trw tra trb trc nwf nwfk nwfv nwfh nwft tr_least tr_bestLinks tr_changeNumber tr_changeHeight trw_number trw_lane trw_looks tra_a trb_a nwf_size nwfk_a nwft_a a (show (-1) ≤ trw_number.toInt ∧ trw_number.toInt ≤ 7 from by omega) (show 0 ≤ nwf_size.toInt ∧ nwf_size.toInt ≤ 8 from by omega)) tw_645 tw_642 tw_643 tw_644 tw_70 rfl rfl (by decide +kernel) ⟨Nat.le_of_ble_eq_true rfl, Nat.le_of_ble_eq_true rfl⟩ hK hP hD hS hA [5, 6, 7, 8, 2, 3, 4] [0, 1] rfl rfl rfl rfl (by decide) 0 (ci := 9) rfl rfl rfl hl.1 rfl (Nat.le_of_ble_eq_true rfl) dX11_best_101 ⟨Nat.le_of_ble_eq_true rfl, Nat.le_of_ble_eq_true rfl⟩ (fun u_63 H locs hw_64 hP hD hS => ?_)
                  refine W.widen (k := 0) (n := 0) (by decide) (by decide) ?_
                  obtain ⟨o_65, o_66, o_67, o_68, o_69, o_70, o_71⟩ := u_63
                  obtain ⟨hw_64, k_72⟩ := hw_64
                  have hw_64 : (o_65, o_66, o_67, o_68, o_69, o_70, o_71) = (fn_X9_seekBest tr_least tr_bestLinks trw_number trw_lane trw_looks tra_a trb_a nwf_size nwfk_a nwft_a a) := hw_64
                  have k_72 : ((-1) ≤ o_67.toInt ∧ o_67.toInt ≤ 7) := k_72
                  rw [← hw_64] at hF
                  rw [pm2_mk o_65 (o_66, o_67, o_68, o_69, o_70, o_71), pm2_mk o_66 (o_67, o_68, o_69, o_70, o_71), pm2_mk o_67 (o_68, o_69, o_70, o_71), pm2_mk o_68 (o_69, o_70, o_71), pm2_mk o_69 (o_70, o_71), pm2_mk o_70 o_71] at hF
                  have hP : va_P D classes [(x, .inr (11, [.ref pg, .ref wr, .ref nw, .ref kp, .ref wk, .ref tr, .ref lw, .int x_rowsRead, .int x_rowOfImage, .int (x_bestsDone + 1)])), (nw, .inr (2, [.ref nwf, .ref nws, .ref nwe, .int nw_asked, .int nw_looksOfAsked, .int nw_changes])), (tr, .inr (9, [.ref trw, .ref tra, .ref trb, .ref trc, .int o_65, .int o_66, .int tr_changeNumber, .int tr_changeHeight])), (trw, .inr (10, [.int o_67, .int o_68, .int o_69])), (tra, .inl (cy, 8, .inl o_70)), (trb, .inl (cy, 8, .inl o_71)), (nwf, .inr (8, [.ref nwfk, .ref nwfv, .ref nwfh, .ref nwft, .int nwf_size])), (nwfk, .inl (cy, 8, .inl nwfk_a)), (nwft, .inl (cy, 8, .inl nwft_a))] H := hP
                  have hD : va_D A [(x, .inr (11, [.ref pg, .ref wr, .ref nw, .ref kp, .ref wk, .ref tr, .ref lw, .int x_rowsRead, .int x_rowOfImage, .int (x_bestsDone + 1)])), (nw, .inr (2, [.ref nwf, .ref nws, .ref nwe, .int nw_asked, .int nw_looksOfAsked, .int nw_changes])), (tr, .inr (9, [.ref trw, .ref tra, .ref trb, .ref trc, .int o_65, .int o_66, .int tr_changeNumber, .int tr_changeHeight])), (trw, .inr (10, [.int o_67, .int o_68, .int o_69])), (tra, .inl (cy, 8, .inl o_70)), (trb, .inl (cy, 8, .inl o_71)), (nwf, .inr (8, [.ref nwfk, .ref nwfv, .ref nwfh, .ref nwft, .int nwf_size])), (nwfk, .inl (cy, 8, .inl nwfk_a)), (nwft, .inl (cy, 8, .inl nwft_a))] := hD
                  refine lv_aload_n hx hb dX11_best_104 rfl (lv_at hl 1 rfl) ?_
                  refine va_get (D := D) (ci := 11) (v := .ref tr) (C := RX11) (T := TX11) (N := 10) hx hb htb inX11 hown hK hP 0 rfl rfl 5 (by decide) (htb _ tw_257) (fun _ h9 => h9) rfl dX11_best_105 ?_
                  refine va_get (D := D) (ci := 9) (v := .int o_65) (C := RX9) (T := TX9) (N := 8) hx hb htb inX9 hown hK hP 2 rfl rfl 4 (by decide) (htb _ tw_228) (fun _ h9 => h9) rfl dX11_best_108 ?_
                  refine lv_iconst (v := (-1)) hx hb dX11_best_111 (by decide) ?_
                  refine lv_icmp_ne (tgt := 117) hx hb dX11_best_112 (by decide) (fun c_73 => ?_) (fun c_73 => ?_)
                  · have k_73 : ¬ o_65.toInt = (-1) := wk_neq c_73
                    replace hF := hF.trans (if_neg c_73)
                    refine lv_iload_n hx hb dX11_best_117 rfl (lv_at hl 3 rfl) ?_
                    by_cases c_74 : b = 0
                    · refine wk_toi c_74 ?_
                      replace hF := hF.trans (if_pos c_74)
                      have k_74 : b.toInt = 0 := wk_eq c_74
                      refine lv_lookup (off := 26) (tgt := 144) hx hb dX11_best_118 (by decide) (by decide) (by decide) ?_
                      refine lv_aload_n hx hb dX11_best_144 rfl (lv_at hl 1 rfl) ?_
                      refine va_get (D := D) (ci := 11) (v := .ref tr) (C := RX11) (T := TX11) (N := 10) hx hb htb inX11 hown hK hP 0 rfl rfl 5 (by decide) (htb _ tw_257) (fun _ h9 => h9) rfl dX11_best_145 ?_
                      refine va_get (D := D) (ci := 9) (v := .int o_65) (C := RX9) (T := TX9) (N := 8) hx hb htb inX9 hown hK hP 2 rfl rfl 4 (by decide) (htb _ tw_228) (fun _ h9 => h9) rfl dX11_best_148 ?_
                      refine W.widen (k := 0) (n := 0) (by decide) (by decide) ?_
                      exact hret o_65 ((x_bestsDone + 1), o_65, o_66, o_67, o_68, o_69, o_70, o_71) _ _ _ 151 (wk_sub9 (is := [0, 1, 6, 7, 8, 2, 3, 4, 5]) hP rfl) (hD.sub [0, 1, 6, 7, 8, 2, 3, 4, 5] rfl rfl) hS dX11_best_151 ⟨hF.symm, (show ((-1) ≤ o_67.toInt ∧ o_67.toInt ≤ 7) from by omega)⟩
                    replace hF := hF.trans (if_neg c_74)
                    have k_74 : ¬ b.toInt = 0 := wk_neq c_74
                    by_cases c_75 : b = 1
                    · refine wk_toi c_75 ?_
                      replace hF := hF.trans (if_pos c_75)
                      have k_75 : b.toInt = 1 := wk_eq c_75
                      refine lv_lookup (off := 34) (tgt := 152) hx hb dX11_best_118 (by decide) (by decide) (by decide) ?_
                      refine lv_aload_n hx hb dX11_best_152 rfl (lv_at hl 1 rfl) ?_
                      refine va_get (D := D) (ci := 11) (v := .ref tr) (C := RX11) (T := TX11) (N := 10) hx hb htb inX11 hown hK hP 0 rfl rfl 5 (by decide) (htb _ tw_257) (fun _ h9 => h9) rfl dX11_best_153 ?_
                      refine va_get (D := D) (ci := 9) (v := .int o_66) (C := RX9) (T := TX9) (N := 8) hx hb htb inX9 hown hK hP 2 rfl rfl 5 (by decide) (htb _ tw_230) (fun _ h9 => h9) rfl dX11_best_156 ?_
                      refine W.widen (k := 0) (n := 0) (by decide) (by decide) ?_
                      exact hret o_66 ((x_bestsDone + 1), o_65, o_66, o_67, o_68, o_69, o_70, o_71) _ _ _ 159 (wk_sub9 (is := [0, 1, 6, 7, 8, 2, 3, 4, 5]) hP rfl) (hD.sub [0, 1, 6, 7, 8, 2, 3, 4, 5] rfl rfl) hS dX11_best_159 ⟨hF.symm, (show ((-1) ≤ o_67.toInt ∧ o_67.toInt ≤ 7) from by omega)⟩
                    replace hF := hF.trans (if_neg c_75)
                    have k_75 : ¬ b.toInt = 1 := wk_neq c_75
                    refine lv_lookup (off := 42) (tgt := 160) hx hb dX11_best_118 (by decide) ((lv_osw c_74 rfl).trans ((lv_osw c_75 rfl).trans rfl)) (by decide) ?_
                    refine lv_aload_n hx hb dX11_best_160 rfl (lv_at hl 1 rfl) ?_
                    refine va_get (D := D) (ci := 11) (v := .ref tr) (C := RX11) (T := TX11) (N := 10) hx hb htb inX11 hown hK hP 0 rfl rfl 5 (by decide) (htb _ tw_257) (fun _ h9 => h9) rfl dX11_best_161 ?_
                    refine lv_aload_n hx hb dX11_best_164 rfl (lv_at hl 1 rfl) ?_
                    refine va_get (D := D) (ci := 11) (v := .ref nw) (C := RX11) (T := TX11) (N := 10) hx hb htb inX11 hown hK hP 0 rfl rfl 2 (by decide) (htb _ tw_254) (fun _ h9 => h9) rfl dX11_best_165 ?_
                    refine va_get (D := D) (ci := 2) (v := .ref nwf) (C := RX2) (T := TX2) (N := 6) hx hb htb inX2 hown hK hP 1 rfl rfl 0 (by decide) (htb _ tw_171) (fun _ h9 => h9) rfl dX11_best_168 ?_
                    refine lv_iload_n hx hb dX11_best_171 rfl (lv_at hl 3 rfl) ?_
                    refine lv_bipush (v := 10) hx hb dX11_best_172 (by decide) ?_
                    refine lv_isub hx hb dX11_best_174 ?_
                    obtain ⟨z_76, ez_76⟩ : ∃ y : Int32, y = (b - 10) := ⟨_, rfl⟩
                    refine wk_toi ez_76.symm ?_
                    try rw [← ez_76] at hF
                    have k_77 : z_76.toInt = b.toInt - 10 := by rw [ez_76]; exact wk_sub b.toInt 10 rfl rfl (by omega) (by omega)
                    refine wk_iV (As := [.ref nwf, .int z_76]) (rest := []) (wc := [(tr, .inr (9, [.ref trw, .ref tra, .ref trb, .ref trc, .int o_65, .int o_66, .int tr_changeNumber, .int tr_changeHeight])), (trb, .inl (cy, 8, .inl o_71)), (nwf, .inr (8, [.ref nwfk, .ref nwfv, .ref nwfh, .ref nwft, .int nwf_size]))]) (wr := [(x, .inr (11, [.ref pg, .ref wr, .ref nw, .ref kp, .ref wk, .ref tr, .ref lw, .int x_rowsRead, .int x_rowOfImage, .int (x_bestsDone + 1)])), (nw, .inr (2, [.ref nwf, .ref nws, .ref nwe, .int nw_asked, .int nw_looksOfAsked, .int nw_changes])), (trw, .inr (10, [.int o_67, .int o_68, .int o_69])), (tra, .inl (cy, 8, .inl o_70)), (nwfk, .inl (cy, 8, .inl nwfk_a)), (nwft, .inl (cy, 8, .inl nwft_a))]) (n := 2) ⟨hx, hb, hml, hown, htb⟩ (c_X9_bestHeight l D cy tr trw tra trb trc nwf nwfk nwfv nwfh nwft o_65 o_66 tr_changeNumber tr_changeHeight o_71 nwf_size z_76 (show 0 ≤ nwf_size.toInt ∧ nwf_size.toInt ≤ 8 from by omega)) tw_662 tw_659 tw_660 tw_661 tw_70 rfl rfl (by decide +kernel) ⟨Nat.le_of_ble_eq_true rfl, Nat.le_of_ble_eq_true rfl⟩ hK hP hD hS hA [2, 5, 6] [0, 1, 3, 4, 7, 8] rfl rfl rfl rfl (by decide) 0 (ci := 9) rfl rfl rfl hl.1 rfl (Nat.le_of_ble_eq_true rfl) dX11_best_175 ⟨Nat.le_of_ble_eq_true rfl, Nat.le_of_ble_eq_true rfl⟩ (fun r_78 u_79 H locs hw_80 hP hD hS => ?_)
                    refine W.widen (k := 0) (n := 0) (by decide) (by decide) ?_
                    have hw_80 : r_78 = (fn_X9_bestHeight o_71 nwf_size z_76) := hw_80
                    subst hw_80
                    have hP : va_P D classes [(x, .inr (11, [.ref pg, .ref wr, .ref nw, .ref kp, .ref wk, .ref tr, .ref lw, .int x_rowsRead, .int x_rowOfImage, .int (x_bestsDone + 1)])), (nw, .inr (2, [.ref nwf, .ref nws, .ref nwe, .int nw_asked, .int nw_looksOfAsked, .int nw_changes])), (trw, .inr (10, [.int o_67, .int o_68, .int o_69])), (tra, .inl (cy, 8, .inl o_70)), (nwfk, .inl (cy, 8, .inl nwfk_a)), (nwft, .inl (cy, 8, .inl nwft_a)), (tr, .inr (9, [.ref trw, .ref tra, .ref trb, .ref trc, .int o_65, .int o_66, .int tr_changeNumber, .int tr_changeHeight])), (trb, .inl (cy, 8, .inl o_71)), (nwf, .inr (8, [.ref nwfk, .ref nwfv, .ref nwfh, .ref nwft, .int nwf_size]))] H := hP
                    have hD : va_D A [(x, .inr (11, [.ref pg, .ref wr, .ref nw, .ref kp, .ref wk, .ref tr, .ref lw, .int x_rowsRead, .int x_rowOfImage, .int (x_bestsDone + 1)])), (nw, .inr (2, [.ref nwf, .ref nws, .ref nwe, .int nw_asked, .int nw_looksOfAsked, .int nw_changes])), (trw, .inr (10, [.int o_67, .int o_68, .int o_69])), (tra, .inl (cy, 8, .inl o_70)), (nwfk, .inl (cy, 8, .inl nwfk_a)), (nwft, .inl (cy, 8, .inl nwft_a)), (tr, .inr (9, [.ref trw, .ref tra, .ref trb, .ref trc, .int o_65, .int o_66, .int tr_changeNumber, .int tr_changeHeight])), (trb, .inl (cy, 8, .inl o_71)), (nwf, .inr (8, [.ref nwfk, .ref nwfv, .ref nwfh, .ref nwft, .int nwf_size]))] := hD
                    refine W.widen (k := 0) (n := 0) (by decide) (by decide) ?_
                    exact hret (fn_X9_bestHeight o_71 nwf_size z_76) ((x_bestsDone + 1), o_65, o_66, o_67, o_68, o_69, o_70, o_71) _ _ _ 178 (wk_sub9 (is := [0, 1, 8, 4, 5, 6, 2, 3, 7]) hP rfl) (hD.sub [0, 1, 8, 4, 5, 6, 2, 3, 7] rfl rfl) hS dX11_best_178 ⟨hF.symm, (show ((-1) ≤ o_67.toInt ∧ o_67.toInt ≤ 7) from by omega)⟩
                  · have k_73 : o_65.toInt = (-1) := wk_eq c_73
                    replace hF := hF.trans (if_pos c_73)
                    refine lv_iconst (v := (-1)) hx hb dX11_best_115 (by decide) ?_
                    refine W.widen (k := 0) (n := 0) (by decide) (by decide) ?_
                    exact hret (-1) ((x_bestsDone + 1), o_65, o_66, o_67, o_68, o_69, o_70, o_71) _ _ _ 116 (wk_sub9 (is := [0, 1, 6, 7, 8, 2, 3, 4, 5]) hP rfl) (hD.sub [0, 1, 6, 7, 8, 2, 3, 4, 5] rfl rfl) hS dX11_best_116 ⟨hF.symm, (show ((-1) ≤ o_67.toInt ∧ o_67.toInt ≤ 7) from by omega)⟩
                · have k_61 : ¬ x_bestsDone.toInt < 12 := wk_nlt c_61
                  replace hF := hF.trans (if_neg c_61)
                  refine lv_bipush (v := (-103)) hx hb dX11_best_76 (by decide) ?_
                  refine W.widen (k := 0) (n := 0) (by decide) (by decide) ?_
                  exact hret (-103) (x_bestsDone, tr_least, tr_bestLinks, trw_number, trw_lane, trw_looks, tra_a, trb_a) _ _ _ 78 (wk_sub9 (is := [0, 1, 2, 3, 4, 5, 6, 7, 8]) hP rfl) (hD.sub [0, 1, 2, 3, 4, 5, 6, 7, 8] rfl rfl) hS dX11_best_78 ⟨hF.symm, (show ((-1) ≤ trw_number.toInt ∧ trw_number.toInt ≤ 7) from by omega)⟩
def fn_X11_rounds_N (a : Int32) (b : Int32) (d : Int32) : Int32 := (if a < 1 then (-102) else (if (60 : Int32) < a then (-102) else (if b < 0 then (-102) else (if d < 0 then (-102) else (if d ≤ 2 then (-103) else (-102))))))
theorem dX11_rounds_0 : decode cX11_rounds 0 = .ok (.iload_n 1, 1) := by decide +kernel
theorem dX11_rounds_1 : decode cX11_rounds 1 = .ok (.iconst 1, 1) := by decide +kernel
theorem dX11_rounds_2 : decode cX11_rounds 2 = .ok (.if_icmp .lt 22, 3) := by decide +kernel
theorem dX11_rounds_5 : decode cX11_rounds 5 = .ok (.iload_n 1, 1) := by decide +kernel
theorem dX11_rounds_6 : decode cX11_rounds 6 = .ok (.bipush 60, 2) := by decide +kernel
theorem dX11_rounds_8 : decode cX11_rounds 8 = .ok (.if_icmp .gt 16, 3) := by decide +kernel
theorem dX11_rounds_11 : decode cX11_rounds 11 = .ok (.iload_n 2, 1) := by decide +kernel
theorem dX11_rounds_12 : decode cX11_rounds 12 = .ok (.ifCond .lt 12, 3) := by decide +kernel
theorem dX11_rounds_15 : decode cX11_rounds 15 = .ok (.iload_n 3, 1) := by decide +kernel
theorem dX11_rounds_16 : decode cX11_rounds 16 = .ok (.ifCond .lt 8, 3) := by decide +kernel
theorem dX11_rounds_19 : decode cX11_rounds 19 = .ok (.iload_n 3, 1) := by decide +kernel
theorem dX11_rounds_20 : decode cX11_rounds 20 = .ok (.iconst 2, 1) := by decide +kernel
theorem dX11_rounds_21 : decode cX11_rounds 21 = .ok (.if_icmp .le 6, 3) := by decide +kernel
theorem dX11_rounds_24 : decode cX11_rounds 24 = .ok (.bipush (-102), 2) := by decide +kernel
theorem dX11_rounds_26 : decode cX11_rounds 26 = .ok (.ireturn, 1) := by decide +kernel
theorem dX11_rounds_27 : decode cX11_rounds 27 = .ok (.aload_n 0, 1) := by decide +kernel
theorem dX11_rounds_28 : decode cX11_rounds 28 = .ok (.getfield 71, 3) := by decide +kernel
theorem dX11_rounds_31 : decode cX11_rounds 31 = .ok (.ifnonnull 6, 3) := by decide +kernel
theorem dX11_rounds_34 : decode cX11_rounds 34 = .ok (.bipush (-103), 2) := by decide +kernel
theorem dX11_rounds_36 : decode cX11_rounds 36 = .ok (.ireturn, 1) := by decide +kernel
set_option maxHeartbeats 4000000 in
set_option maxRecDepth 100000 in
theorem c_X11_rounds_N (l : Launch) (D : va_G) (cy : ClassId) (x pg wr nw kp wk tr : Nat) (x_rowsRead : Int32) (x_rowOfImage : Int32) (x_bestsDone : Int32) (a : Int32) (b : Int32) (d : Int32)  : wk_Ci l yX11_rounds cX11_rounds 8 (some .int) { frames := 0, cells := 0, slots := 0, locals := 0 } D cy [.ref x, .int a, .int b, .int d] [(x, .inr (11, [.ref pg, .ref wr, .ref nw, .ref kp, .ref wk, .ref tr, .null, .int x_rowsRead, .int x_rowOfImage, .int x_bestsDone]))] 0 0 (fun (r : Int32) (u : Unit) => r = (fn_X11_rounds_N a b d)) (fun u => [(x, .inr (11, [.ref pg, .ref wr, .ref nw, .ref kp, .ref wk, .ref tr, .null, .int x_rowsRead, .int x_rowOfImage, .int x_bestsDone]))]) := by
  refine wk_mk2Ci (by decide) (Nat.le_of_ble_eq_true rfl) ?_
  intro p e s m args below meth c A ls Q B hA hK hP hD hS hl hret
  obtain ⟨hx, hb, hr, hlocks, hml, hown, htb, hin⟩ := B
  have hl : lv_has ls 8 [(0, .ref x), (1, .int a), (2, .int b), (3, .int d)] := hl
  have hF : (fn_X11_rounds_N a b d) = (fn_X11_rounds_N a b d) := rfl
  conv at hF => rhs; unfold fn_X11_rounds_N
  refine lv_iload_n hx hb dX11_rounds_0 rfl (lv_at hl 1 rfl) ?_
  refine lv_iconst (v := 1) hx hb dX11_rounds_1 (by decide) ?_
  refine lv_icmp_lt (tgt := 24) hx hb dX11_rounds_2 (by decide) (fun c_1 => ?_) (fun c_1 => ?_)
  · have k_1 : a.toInt < 1 := wk_lt c_1
    replace hF := hF.trans (if_pos c_1)
    refine lv_bipush (v := (-102)) hx hb dX11_rounds_24 (by decide) ?_
    refine W.widen (k := 0) (n := 0) (by decide) (by decide) ?_
    exact hret (-102) () _ _ _ 26 (wk_sub9 (is := [0]) hP rfl) (hD.sub [0] rfl rfl) hS dX11_rounds_26 hF.symm
  · have k_1 : ¬ a.toInt < 1 := wk_nlt c_1
    replace hF := hF.trans (if_neg c_1)
    refine lv_iload_n hx hb dX11_rounds_5 rfl (lv_at hl 1 rfl) ?_
    refine lv_bipush (v := 60) hx hb dX11_rounds_6 (by decide) ?_
    refine lv_icmp_gt (tgt := 24) hx hb dX11_rounds_8 (by decide) (fun c_2 => ?_) (fun c_2 => ?_)
    · have k_2 : 60 < a.toInt := wk_lt c_2
      replace hF := hF.trans (if_pos c_2)
      refine lv_bipush (v := (-102)) hx hb dX11_rounds_24 (by decide) ?_
      refine W.widen (k := 0) (n := 0) (by decide) (by decide) ?_
      exact hret (-102) () _ _ _ 26 (wk_sub9 (is := [0]) hP rfl) (hD.sub [0] rfl rfl) hS dX11_rounds_26 hF.symm
    · have k_2 : ¬ 60 < a.toInt := wk_nlt c_2
      replace hF := hF.trans (if_neg c_2)
      refine lv_iload_n hx hb dX11_rounds_11 rfl (lv_at hl 2 rfl) ?_
      refine lv_if_lt (tgt := 24) hx hb dX11_rounds_12 (by decide) (fun c_3 => ?_) (fun c_3 => ?_)
      · have k_3 : b.toInt < 0 := wk_lt c_3
        replace hF := hF.trans (if_pos c_3)
        refine lv_bipush (v := (-102)) hx hb dX11_rounds_24 (by decide) ?_
        refine W.widen (k := 0) (n := 0) (by decide) (by decide) ?_
        exact hret (-102) () _ _ _ 26 (wk_sub9 (is := [0]) hP rfl) (hD.sub [0] rfl rfl) hS dX11_rounds_26 hF.symm
      · have k_3 : ¬ b.toInt < 0 := wk_nlt c_3
        replace hF := hF.trans (if_neg c_3)
        refine lv_iload_n hx hb dX11_rounds_15 rfl (lv_at hl 3 rfl) ?_
        refine lv_if_lt (tgt := 24) hx hb dX11_rounds_16 (by decide) (fun c_4 => ?_) (fun c_4 => ?_)
        · have k_4 : d.toInt < 0 := wk_lt c_4
          replace hF := hF.trans (if_pos c_4)
          refine lv_bipush (v := (-102)) hx hb dX11_rounds_24 (by decide) ?_
          refine W.widen (k := 0) (n := 0) (by decide) (by decide) ?_
          exact hret (-102) () _ _ _ 26 (wk_sub9 (is := [0]) hP rfl) (hD.sub [0] rfl rfl) hS dX11_rounds_26 hF.symm
        · have k_4 : ¬ d.toInt < 0 := wk_nlt c_4
          replace hF := hF.trans (if_neg c_4)
          refine lv_iload_n hx hb dX11_rounds_19 rfl (lv_at hl 3 rfl) ?_
          refine lv_iconst (v := 2) hx hb dX11_rounds_20 (by decide) ?_
          refine lv_icmp_le (tgt := 27) hx hb dX11_rounds_21 (by decide) (fun c_5 => ?_) (fun c_5 => ?_)
          · have k_5 : d.toInt ≤ 2 := wk_le c_5
            replace hF := hF.trans (if_pos c_5)
            refine lv_aload_n hx hb dX11_rounds_27 rfl (lv_at hl 0 rfl) ?_
            refine va_get (D := D) (ci := 11) (v := .null) (C := RX11) (T := TX11) (N := 10) hx hb htb inX11 hown hK hP 0 rfl rfl 6 (by decide) (htb _ tw_258) (fun _ h9 => h9) rfl dX11_rounds_28 ?_
            refine lv_ifnonnullN hx hb dX11_rounds_31 ?_
            refine lv_bipush (v := (-103)) hx hb dX11_rounds_34 (by decide) ?_
            refine W.widen (k := 0) (n := 0) (by decide) (by decide) ?_
            exact hret (-103) () _ _ _ 36 (wk_sub9 (is := [0]) hP rfl) (hD.sub [0] rfl rfl) hS dX11_rounds_36 hF.symm
          · have k_5 : ¬ d.toInt ≤ 2 := wk_nle c_5
            replace hF := hF.trans (if_neg c_5)
            refine lv_bipush (v := (-102)) hx hb dX11_rounds_24 (by decide) ?_
            refine W.widen (k := 0) (n := 0) (by decide) (by decide) ?_
            exact hret (-102) () _ _ _ 26 (wk_sub9 (is := [0]) hP rfl) (hD.sub [0] rfl rfl) hS dX11_rounds_26 hF.symm
def lp_X11_rounds_R_49 (nwf_size : Int32) (nwfk_a : Nat → Int32) (nwfh_a : Nat → Int32) (wk_number : Int32) (wk_lane : Int32) (wk_looks : Int32) (a : Int32) (b : Int32) (d : Int32) : Nat → Int32 → Int32 → Int32 → Int32 → Int32 → Int32 → Int32 → Int32 × Int32 × Int32 × Int32 × Int32 × Int32 × Int32
  | 0, _, _, _, _, _, _, _ => default
  | fu_49 + 1, x4_49, x5_49, x6_49, x7_49, wk_number_49, wk_lane_49, wk_looks_49 => (if a ≤ x7_49 then (x4_49, x5_49, x6_49, x7_49, wk_number_49, wk_lane_49, wk_looks_49) else (pm2 (fn_X10_go wk_number_49 wk_lane_49 wk_looks_49 nwf_size nwfk_a nwfh_a (-1) (((fn_X11_seedBehind x4_49) / 65536) - ((fn_X11_seedBehind x4_49) / 65536) / 100 * 100)) (fun o_13 t_ => (pm2 (t_) (fun o_14 o_15 => (if o_13 = (-1) then (lp_X11_rounds_R_49 nwf_size nwfk_a nwfh_a wk_number wk_lane wk_looks a b d fu_49 (fn_X11_seedBehind x4_49) (x5_49 + 0) (x6_49 + o_15) (x7_49 + 1) o_13 o_14 o_15) else (lp_X11_rounds_R_49 nwf_size nwfk_a nwfh_a wk_number wk_lane wk_looks a b d fu_49 (fn_X11_seedBehind x4_49) (x5_49 + 1) (x6_49 + o_15) (x7_49 + 1) o_13 o_14 o_15)))))))
termination_by n => n
def fn_X11_rounds_R (nwf_size : Int32) (nwfk_a : Nat → Int32) (nwfh_a : Nat → Int32) (wk_number : Int32) (wk_lane : Int32) (wk_looks : Int32) (a : Int32) (b : Int32) (d : Int32) : Int32 × Int32 × Int32 × Int32 := (if a < 1 then ((-102), wk_number, wk_lane, wk_looks) else (if (60 : Int32) < a then ((-102), wk_number, wk_lane, wk_looks) else (if b < 0 then ((-102), wk_number, wk_lane, wk_looks) else (if d < 0 then ((-102), wk_number, wk_lane, wk_looks) else (if d ≤ 2 then (pm2 (lp_X11_rounds_R_49 nwf_size nwfk_a nwfh_a wk_number wk_lane wk_looks a b d 62 b 0 0 0 wk_number wk_lane wk_looks) (fun x4_49 t_ => (pm2 (t_) (fun x5_49 t_ => (pm2 (t_) (fun x6_49 t_ => (pm2 (t_) (fun x7_49 t_ => (pm2 (t_) (fun wk_number_49 t_ => (pm2 (t_) (fun wk_lane_49 wk_looks_49 => (if d = 0 then (x5_49, wk_number_49, wk_lane_49, wk_looks_49) else (if d = 1 then (x6_49, wk_number_49, wk_lane_49, wk_looks_49) else (x4_49, wk_number_49, wk_lane_49, wk_looks_49))))))))))))))) else ((-102), wk_number, wk_lane, wk_looks))))))
theorem dX11_rounds_37 : decode cX11_rounds 37 = .ok (.iload_n 2, 1) := by decide +kernel
theorem dX11_rounds_38 : decode cX11_rounds 38 = .ok (.istore 4, 2) := by decide +kernel
theorem dX11_rounds_40 : decode cX11_rounds 40 = .ok (.iconst 0, 1) := by decide +kernel
theorem dX11_rounds_41 : decode cX11_rounds 41 = .ok (.istore 5, 2) := by decide +kernel
theorem dX11_rounds_43 : decode cX11_rounds 43 = .ok (.iconst 0, 1) := by decide +kernel
theorem dX11_rounds_44 : decode cX11_rounds 44 = .ok (.istore 6, 2) := by decide +kernel
theorem dX11_rounds_46 : decode cX11_rounds 46 = .ok (.iconst 0, 1) := by decide +kernel
theorem dX11_rounds_47 : decode cX11_rounds 47 = .ok (.istore 7, 2) := by decide +kernel
theorem dX11_rounds_49 : decode cX11_rounds 49 = .ok (.iload 7, 2) := by decide +kernel
theorem dX11_rounds_51 : decode cX11_rounds 51 = .ok (.iload_n 1, 1) := by decide +kernel
theorem dX11_rounds_52 : decode cX11_rounds 52 = .ok (.if_icmp .ge 82, 3) := by decide +kernel
theorem dX11_rounds_55 : decode cX11_rounds 55 = .ok (.iload 4, 2) := by decide +kernel
theorem dX11_rounds_57 : decode cX11_rounds 57 = .ok (.invokestatic 238, 3) := by decide +kernel
theorem dX11_rounds_60 : decode cX11_rounds 60 = .ok (.istore 4, 2) := by decide +kernel
theorem dX11_rounds_62 : decode cX11_rounds 62 = .ok (.aload_n 0, 1) := by decide +kernel
theorem dX11_rounds_63 : decode cX11_rounds 63 = .ok (.getfield 32, 3) := by decide +kernel
theorem dX11_rounds_66 : decode cX11_rounds 66 = .ok (.aload_n 0, 1) := by decide +kernel
theorem dX11_rounds_67 : decode cX11_rounds 67 = .ok (.getfield 22, 3) := by decide +kernel
theorem dX11_rounds_70 : decode cX11_rounds 70 = .ok (.getfield 77, 3) := by decide +kernel
theorem dX11_rounds_73 : decode cX11_rounds 73 = .ok (.aload_n 0, 1) := by decide +kernel
theorem dX11_rounds_74 : decode cX11_rounds 74 = .ok (.getfield 22, 3) := by decide +kernel
theorem dX11_rounds_77 : decode cX11_rounds 77 = .ok (.getfield 77, 3) := by decide +kernel
theorem dX11_rounds_80 : decode cX11_rounds 80 = .ok (.getfield 111, 3) := by decide +kernel
theorem dX11_rounds_83 : decode cX11_rounds 83 = .ok (.iconst (-1), 1) := by decide +kernel
theorem dX11_rounds_84 : decode cX11_rounds 84 = .ok (.iload 4, 2) := by decide +kernel
theorem dX11_rounds_86 : decode cX11_rounds 86 = .ok (.ldc 241, 2) := by decide +kernel
theorem dX11_rounds_88 : decode cX11_rounds 88 = .ok (.idiv, 1) := by decide +kernel
theorem dX11_rounds_89 : decode cX11_rounds 89 = .ok (.bipush 100, 2) := by decide +kernel
theorem dX11_rounds_91 : decode cX11_rounds 91 = .ok (.irem, 1) := by decide +kernel
theorem dX11_rounds_92 : decode cX11_rounds 92 = .ok (.invokevirtual 150, 3) := by decide +kernel
theorem dX11_rounds_95 : decode cX11_rounds 95 = .ok (.iload 5, 2) := by decide +kernel
theorem dX11_rounds_97 : decode cX11_rounds 97 = .ok (.aload_n 0, 1) := by decide +kernel
theorem dX11_rounds_98 : decode cX11_rounds 98 = .ok (.getfield 32, 3) := by decide +kernel
theorem dX11_rounds_101 : decode cX11_rounds 101 = .ok (.getfield 154, 3) := by decide +kernel
theorem dX11_rounds_104 : decode cX11_rounds 104 = .ok (.iconst (-1), 1) := by decide +kernel
theorem dX11_rounds_105 : decode cX11_rounds 105 = .ok (.if_icmp .ne 7, 3) := by decide +kernel
theorem dX11_rounds_108 : decode cX11_rounds 108 = .ok (.iconst 0, 1) := by decide +kernel
theorem dX11_rounds_109 : decode cX11_rounds 109 = .ok (.goto 4, 3) := by decide +kernel
theorem dX11_rounds_112 : decode cX11_rounds 112 = .ok (.iconst 1, 1) := by decide +kernel
theorem dX11_rounds_113 : decode cX11_rounds 113 = .ok (.iadd, 1) := by decide +kernel
theorem dX11_rounds_114 : decode cX11_rounds 114 = .ok (.istore 5, 2) := by decide +kernel
theorem dX11_rounds_116 : decode cX11_rounds 116 = .ok (.iload 6, 2) := by decide +kernel
theorem dX11_rounds_118 : decode cX11_rounds 118 = .ok (.aload_n 0, 1) := by decide +kernel
theorem dX11_rounds_119 : decode cX11_rounds 119 = .ok (.getfield 32, 3) := by decide +kernel
theorem dX11_rounds_122 : decode cX11_rounds 122 = .ok (.getfield 157, 3) := by decide +kernel
theorem dX11_rounds_125 : decode cX11_rounds 125 = .ok (.iadd, 1) := by decide +kernel
theorem dX11_rounds_126 : decode cX11_rounds 126 = .ok (.istore 6, 2) := by decide +kernel
theorem dX11_rounds_128 : decode cX11_rounds 128 = .ok (.iinc 7 1, 3) := by decide +kernel
theorem dX11_rounds_131 : decode cX11_rounds 131 = .ok (.goto (-82), 3) := by decide +kernel
theorem dX11_rounds_134 : decode cX11_rounds 134 = .ok (.iload_n 3, 1) := by decide +kernel
theorem dX11_rounds_135 : decode cX11_rounds 135 = .ok (.lookupswitch 31 #[(0, 25), (1, 28)], 25) := by decide +kernel
theorem dX11_rounds_160 : decode cX11_rounds 160 = .ok (.iload 5, 2) := by decide +kernel
theorem dX11_rounds_162 : decode cX11_rounds 162 = .ok (.ireturn, 1) := by decide +kernel
theorem dX11_rounds_163 : decode cX11_rounds 163 = .ok (.iload 6, 2) := by decide +kernel
theorem dX11_rounds_165 : decode cX11_rounds 165 = .ok (.ireturn, 1) := by decide +kernel
theorem dX11_rounds_166 : decode cX11_rounds 166 = .ok (.iload 4, 2) := by decide +kernel
theorem dX11_rounds_168 : decode cX11_rounds 168 = .ok (.ireturn, 1) := by decide +kernel
set_option maxHeartbeats 4000000 in
set_option maxRecDepth 100000 in
theorem c_X11_rounds_R (l : Launch) (D : va_G) (cy : ClassId) (x pg wr nw kp wk tr lw nwf nws nwe nwfk nwfv nwfh nwft : Nat) (x_rowsRead : Int32) (x_rowOfImage : Int32) (x_bestsDone : Int32) (nw_asked : Int32) (nw_looksOfAsked : Int32) (nw_changes : Int32) (nwf_size : Int32) (nwfk_a : Nat → Int32) (nwfh_a : Nat → Int32) (wk_number : Int32) (wk_lane : Int32) (wk_looks : Int32) (a : Int32) (b : Int32) (d : Int32) (g_0 : 0 ≤ nwf_size.toInt ∧ nwf_size.toInt ≤ 8) (g_1 : (-1) ≤ wk_number.toInt ∧ wk_number.toInt ≤ 7) : wk_Ci l yX11_rounds cX11_rounds 8 (some .int) { frames := 3, cells := 0, slots := 0, locals := 65 } D cy [.ref x, .int a, .int b, .int d] [(x, .inr (11, [.ref pg, .ref wr, .ref nw, .ref kp, .ref wk, .ref tr, .ref lw, .int x_rowsRead, .int x_rowOfImage, .int x_bestsDone])), (nw, .inr (2, [.ref nwf, .ref nws, .ref nwe, .int nw_asked, .int nw_looksOfAsked, .int nw_changes])), (nwf, .inr (8, [.ref nwfk, .ref nwfv, .ref nwfh, .ref nwft, .int nwf_size])), (nwfk, .inl (cy, 8, .inl nwfk_a)), (nwfh, .inl (cy, 8, .inl nwfh_a)), (wk, .inr (10, [.int wk_number, .int wk_lane, .int wk_looks]))] 0 0 (fun (r : Int32) (u : Int32 × Int32 × Int32) => (r, u) = (fn_X11_rounds_R nwf_size nwfk_a nwfh_a wk_number wk_lane wk_looks a b d) ∧ ((-1) ≤ u.1.toInt ∧ u.1.toInt ≤ 7)) (fun u => [(x, .inr (11, [.ref pg, .ref wr, .ref nw, .ref kp, .ref wk, .ref tr, .ref lw, .int x_rowsRead, .int x_rowOfImage, .int x_bestsDone])), (nw, .inr (2, [.ref nwf, .ref nws, .ref nwe, .int nw_asked, .int nw_looksOfAsked, .int nw_changes])), (nwf, .inr (8, [.ref nwfk, .ref nwfv, .ref nwfh, .ref nwft, .int nwf_size])), (nwfk, .inl (cy, 8, .inl nwfk_a)), (nwfh, .inl (cy, 8, .inl nwfh_a)), (wk, .inr (10, [.int u.1, .int u.2.1, .int u.2.2]))]) := by
  refine wk_mk2Ci (by decide) (Nat.le_of_ble_eq_true rfl) ?_
  intro p e s m args below meth c A ls Q B hA hK hP hD hS hl hret
  obtain ⟨hx, hb, hr, hlocks, hml, hown, htb, hin⟩ := B
  have hl : lv_has ls 8 [(0, .ref x), (1, .int a), (2, .int b), (3, .int d)] := hl
  have hF : (fn_X11_rounds_R nwf_size nwfk_a nwfh_a wk_number wk_lane wk_looks a b d) = (fn_X11_rounds_R nwf_size nwfk_a nwfh_a wk_number wk_lane wk_looks a b d) := rfl
  conv at hF => rhs; unfold fn_X11_rounds_R
  refine lv_iload_n hx hb dX11_rounds_0 rfl (lv_at hl 1 rfl) ?_
  refine lv_iconst (v := 1) hx hb dX11_rounds_1 (by decide) ?_
  refine lv_icmp_lt (tgt := 24) hx hb dX11_rounds_2 (by decide) (fun c_1 => ?_) (fun c_1 => ?_)
  · have k_1 : a.toInt < 1 := wk_lt c_1
    replace hF := hF.trans (if_pos c_1)
    refine lv_bipush (v := (-102)) hx hb dX11_rounds_24 (by decide) ?_
    refine W.widen (k := 0) (n := 0) (by decide) (by decide) ?_
    exact hret (-102) (wk_number, wk_lane, wk_looks) _ _ _ 26 (wk_sub9 (is := [0, 1, 2, 3, 4, 5]) hP rfl) (hD.sub [0, 1, 2, 3, 4, 5] rfl rfl) hS dX11_rounds_26 ⟨hF.symm, (show ((-1) ≤ wk_number.toInt ∧ wk_number.toInt ≤ 7) from by omega)⟩
  · have k_1 : ¬ a.toInt < 1 := wk_nlt c_1
    replace hF := hF.trans (if_neg c_1)
    refine lv_iload_n hx hb dX11_rounds_5 rfl (lv_at hl 1 rfl) ?_
    refine lv_bipush (v := 60) hx hb dX11_rounds_6 (by decide) ?_
    refine lv_icmp_gt (tgt := 24) hx hb dX11_rounds_8 (by decide) (fun c_2 => ?_) (fun c_2 => ?_)
    · have k_2 : 60 < a.toInt := wk_lt c_2
      replace hF := hF.trans (if_pos c_2)
      refine lv_bipush (v := (-102)) hx hb dX11_rounds_24 (by decide) ?_
      refine W.widen (k := 0) (n := 0) (by decide) (by decide) ?_
      exact hret (-102) (wk_number, wk_lane, wk_looks) _ _ _ 26 (wk_sub9 (is := [0, 1, 2, 3, 4, 5]) hP rfl) (hD.sub [0, 1, 2, 3, 4, 5] rfl rfl) hS dX11_rounds_26 ⟨hF.symm, (show ((-1) ≤ wk_number.toInt ∧ wk_number.toInt ≤ 7) from by omega)⟩
    · have k_2 : ¬ 60 < a.toInt := wk_nlt c_2
      replace hF := hF.trans (if_neg c_2)
      refine lv_iload_n hx hb dX11_rounds_11 rfl (lv_at hl 2 rfl) ?_
      refine lv_if_lt (tgt := 24) hx hb dX11_rounds_12 (by decide) (fun c_3 => ?_) (fun c_3 => ?_)
      · have k_3 : b.toInt < 0 := wk_lt c_3
        replace hF := hF.trans (if_pos c_3)
        refine lv_bipush (v := (-102)) hx hb dX11_rounds_24 (by decide) ?_
        refine W.widen (k := 0) (n := 0) (by decide) (by decide) ?_
        exact hret (-102) (wk_number, wk_lane, wk_looks) _ _ _ 26 (wk_sub9 (is := [0, 1, 2, 3, 4, 5]) hP rfl) (hD.sub [0, 1, 2, 3, 4, 5] rfl rfl) hS dX11_rounds_26 ⟨hF.symm, (show ((-1) ≤ wk_number.toInt ∧ wk_number.toInt ≤ 7) from by omega)⟩
      · have k_3 : ¬ b.toInt < 0 := wk_nlt c_3
        replace hF := hF.trans (if_neg c_3)
        refine lv_iload_n hx hb dX11_rounds_15 rfl (lv_at hl 3 rfl) ?_
        refine lv_if_lt (tgt := 24) hx hb dX11_rounds_16 (by decide) (fun c_4 => ?_) (fun c_4 => ?_)
        · have k_4 : d.toInt < 0 := wk_lt c_4
          replace hF := hF.trans (if_pos c_4)
          refine lv_bipush (v := (-102)) hx hb dX11_rounds_24 (by decide) ?_
          refine W.widen (k := 0) (n := 0) (by decide) (by decide) ?_
          exact hret (-102) (wk_number, wk_lane, wk_looks) _ _ _ 26 (wk_sub9 (is := [0, 1, 2, 3, 4, 5]) hP rfl) (hD.sub [0, 1, 2, 3, 4, 5] rfl rfl) hS dX11_rounds_26 ⟨hF.symm, (show ((-1) ≤ wk_number.toInt ∧ wk_number.toInt ≤ 7) from by omega)⟩
        · have k_4 : ¬ d.toInt < 0 := wk_nlt c_4
          replace hF := hF.trans (if_neg c_4)
          refine lv_iload_n hx hb dX11_rounds_19 rfl (lv_at hl 3 rfl) ?_
          refine lv_iconst (v := 2) hx hb dX11_rounds_20 (by decide) ?_
          refine lv_icmp_le (tgt := 27) hx hb dX11_rounds_21 (by decide) (fun c_5 => ?_) (fun c_5 => ?_)
          · have k_5 : d.toInt ≤ 2 := wk_le c_5
            replace hF := hF.trans (if_pos c_5)
            refine lv_aload_n hx hb dX11_rounds_27 rfl (lv_at hl 0 rfl) ?_
            refine va_get (D := D) (ci := 11) (v := .ref lw) (C := RX11) (T := TX11) (N := 10) hx hb htb inX11 hown hK hP 0 rfl rfl 6 (by decide) (htb _ tw_258) (fun _ h9 => h9) rfl dX11_rounds_28 ?_
            refine lv_ifnonnull (tgt := 37) hx hb dX11_rounds_31 (by decide) ?_
            refine lv_iload_n hx hb dX11_rounds_37 rfl (lv_at hl 2 rfl) ?_
            refine lv_istore (lv' := [(4, .int b), (0, .ref x), (1, .int a), (2, .int b), (3, .int d)]) hx hb dX11_rounds_38 hl (by decide) rfl (fun ls hl => ?_)
            refine lv_iconst (v := 0) hx hb dX11_rounds_40 (by decide) ?_
            refine lv_istore (lv' := [(5, .int 0), (4, .int b), (0, .ref x), (1, .int a), (2, .int b), (3, .int d)]) hx hb dX11_rounds_41 hl (by decide) rfl (fun ls hl => ?_)
            refine lv_iconst (v := 0) hx hb dX11_rounds_43 (by decide) ?_
            refine lv_istore (lv' := [(6, .int 0), (5, .int 0), (4, .int b), (0, .ref x), (1, .int a), (2, .int b), (3, .int d)]) hx hb dX11_rounds_44 hl (by decide) rfl (fun ls hl => ?_)
            refine lv_iconst (v := 0) hx hb dX11_rounds_46 (by decide) ?_
            refine lv_istore (lv' := [(7, .int 0), (6, .int 0), (5, .int 0), (4, .int b), (0, .ref x), (1, .int a), (2, .int b), (3, .int d)]) hx hb dX11_rounds_47 hl (by decide) rfl (fun ls hl => ?_)
            have hlp_49 : ∀ (fu_49 : Nat) (x4_49 : Int32) (x5_49 : Int32) (x6_49 : Int32) (x7_49 : Int32) (wk_number_49 : Int32) (wk_lane_49 : Int32) (wk_looks_49 : Int32) (H : Heap) (locs : List Loc) (ls : Array Slot), (0 ≤ x7_49.toInt ∧ x7_49.toInt ≤ 60) → ((-1) ≤ wk_number_49.toInt ∧ wk_number_49.toInt ≤ 7) → (x7_49.toInt ≤ a.toInt) → a.toInt - x7_49.toInt < (fu_49 : Int) → ((fn_X11_rounds_R nwf_size nwfk_a nwfh_a wk_number wk_lane wk_looks a b d) = (pm2 (lp_X11_rounds_R_49 nwf_size nwfk_a nwfh_a wk_number wk_lane wk_looks a b d fu_49 x4_49 x5_49 x6_49 x7_49 wk_number_49 wk_lane_49 wk_looks_49) (fun x4_49 t_ => (pm2 (t_) (fun x5_49 t_ => (pm2 (t_) (fun x6_49 t_ => (pm2 (t_) (fun x7_49 t_ => (pm2 (t_) (fun wk_number_49 t_ => (pm2 (t_) (fun wk_lane_49 wk_looks_49 => (if d = 0 then (x5_49, wk_number_49, wk_lane_49, wk_looks_49) else (if d = 1 then (x6_49, wk_number_49, wk_lane_49, wk_looks_49) else (x4_49, wk_number_49, wk_lane_49, wk_looks_49)))))))))))))))) → va_P D classes [(x, .inr (11, [.ref pg, .ref wr, .ref nw, .ref kp, .ref wk, .ref tr, .ref lw, .int x_rowsRead, .int x_rowOfImage, .int x_bestsDone])), (nw, .inr (2, [.ref nwf, .ref nws, .ref nwe, .int nw_asked, .int nw_looksOfAsked, .int nw_changes])), (nwf, .inr (8, [.ref nwfk, .ref nwfv, .ref nwfh, .ref nwft, .int nwf_size])), (nwfk, .inl (cy, 8, .inl nwfk_a)), (nwfh, .inl (cy, 8, .inl nwfh_a)), (wk, .inr (10, [.int wk_number_49, .int wk_lane_49, .int wk_looks_49]))] H → va_D A [(x, .inr (11, [.ref pg, .ref wr, .ref nw, .ref kp, .ref wk, .ref tr, .ref lw, .int x_rowsRead, .int x_rowOfImage, .int x_bestsDone])), (nw, .inr (2, [.ref nwf, .ref nws, .ref nwe, .int nw_asked, .int nw_looksOfAsked, .int nw_changes])), (nwf, .inr (8, [.ref nwfk, .ref nwfv, .ref nwfh, .ref nwft, .int nwf_size])), (nwfk, .inl (cy, 8, .inl nwfk_a)), (nwfh, .inl (cy, 8, .inl nwfh_a)), (wk, .inr (10, [.int wk_number_49, .int wk_lane_49, .int wk_looks_49]))] → va_S A s.heap H locs → lv_has ls 8 [(7, .int x7_49), (6, .int x6_49), (5, .int x5_49), (4, .int x4_49), (0, .ref x), (1, .int a), (2, .int b), (3, .int d)] → W p l e { frames := 3, cells := 0, slots := 0, locals := 65 } s m args below meth c H locs 0 0 Q (F0 m 49 ls []) := by
              intro fu_49
              induction fu_49 with
              | zero =>
                intro x4_49 x5_49 x6_49 x7_49 wk_number_49 wk_lane_49 wk_looks_49 H locs ls hi_49_0 hi_49_1 hi_49_2 hm hF hP hD hS hl
                exfalso; omega
              | succ fu_49 ih_49 =>
                intro x4_49 x5_49 x6_49 x7_49 wk_number_49 wk_lane_49 wk_looks_49 H locs ls hi_49_0 hi_49_1 hi_49_2 hm hF hP hD hS hl
                rw [lp_X11_rounds_R_49] at hF
                refine lv_iload hx hb dX11_rounds_49 (lv_at hl 0 rfl) ?_
                refine lv_iload_n hx hb dX11_rounds_51 rfl (lv_at hl 5 rfl) ?_
                refine lv_icmp_ge (tgt := 134) hx hb dX11_rounds_52 (by decide) (fun c_6 => ?_) (fun c_6 => ?_)
                · have k_6 : a.toInt ≤ x7_49.toInt := wk_le c_6
                  replace hF := hF.trans (pm2_p1 c_6)
                  rw [pm2_mk x4_49 (x5_49, x6_49, x7_49, wk_number_49, wk_lane_49, wk_looks_49), pm2_mk x5_49 (x6_49, x7_49, wk_number_49, wk_lane_49, wk_looks_49), pm2_mk x6_49 (x7_49, wk_number_49, wk_lane_49, wk_looks_49), pm2_mk x7_49 (wk_number_49, wk_lane_49, wk_looks_49), pm2_mk wk_number_49 (wk_lane_49, wk_looks_49), pm2_mk wk_lane_49 wk_looks_49] at hF
                  refine lv_iload_n hx hb dX11_rounds_134 rfl (lv_at hl 7 rfl) ?_
                  by_cases c_7 : d = 0
                  · refine wk_toi c_7 ?_
                    replace hF := hF.trans (if_pos c_7)
                    have k_7 : d.toInt = 0 := wk_eq c_7
                    refine lv_lookup (off := 25) (tgt := 160) hx hb dX11_rounds_135 (by decide) (by decide) (by decide) ?_
                    refine lv_iload hx hb dX11_rounds_160 (lv_at hl 2 rfl) ?_
                    refine W.widen (k := 0) (n := 0) (by decide) (by decide) ?_
                    exact hret x5_49 (wk_number_49, wk_lane_49, wk_looks_49) _ _ _ 162 (wk_sub9 (is := [0, 1, 2, 3, 4, 5]) hP rfl) (hD.sub [0, 1, 2, 3, 4, 5] rfl rfl) hS dX11_rounds_162 ⟨hF.symm, (show ((-1) ≤ wk_number_49.toInt ∧ wk_number_49.toInt ≤ 7) from by omega)⟩
                  replace hF := hF.trans (if_neg c_7)
                  have k_7 : ¬ d.toInt = 0 := wk_neq c_7
                  by_cases c_8 : d = 1
                  · refine wk_toi c_8 ?_
                    replace hF := hF.trans (if_pos c_8)
                    have k_8 : d.toInt = 1 := wk_eq c_8
                    refine lv_lookup (off := 28) (tgt := 163) hx hb dX11_rounds_135 (by decide) (by decide) (by decide) ?_
                    refine lv_iload hx hb dX11_rounds_163 (lv_at hl 1 rfl) ?_
                    refine W.widen (k := 0) (n := 0) (by decide) (by decide) ?_
                    exact hret x6_49 (wk_number_49, wk_lane_49, wk_looks_49) _ _ _ 165 (wk_sub9 (is := [0, 1, 2, 3, 4, 5]) hP rfl) (hD.sub [0, 1, 2, 3, 4, 5] rfl rfl) hS dX11_rounds_165 ⟨hF.symm, (show ((-1) ≤ wk_number_49.toInt ∧ wk_number_49.toInt ≤ 7) from by omega)⟩
                  replace hF := hF.trans (if_neg c_8)
                  have k_8 : ¬ d.toInt = 1 := wk_neq c_8
                  refine lv_lookup (off := 31) (tgt := 166) hx hb dX11_rounds_135 (by decide) ((lv_osw c_7 rfl).trans ((lv_osw c_8 rfl).trans rfl)) (by decide) ?_
                  refine lv_iload hx hb dX11_rounds_166 (lv_at hl 3 rfl) ?_
                  refine W.widen (k := 0) (n := 0) (by decide) (by decide) ?_
                  exact hret x4_49 (wk_number_49, wk_lane_49, wk_looks_49) _ _ _ 168 (wk_sub9 (is := [0, 1, 2, 3, 4, 5]) hP rfl) (hD.sub [0, 1, 2, 3, 4, 5] rfl rfl) hS dX11_rounds_168 ⟨hF.symm, (show ((-1) ≤ wk_number_49.toInt ∧ wk_number_49.toInt ≤ 7) from by omega)⟩
                · have k_6 : ¬ a.toInt ≤ x7_49.toInt := wk_nle c_6
                  replace hF := hF.trans (pm2_n1 c_6)
                  refine lv_iload hx hb dX11_rounds_55 (lv_at hl 3 rfl) ?_
                  refine wk_iS (As := [.int x4_49]) (rest := []) (wc := []) (wr := [(x, .inr (11, [.ref pg, .ref wr, .ref nw, .ref kp, .ref wk, .ref tr, .ref lw, .int x_rowsRead, .int x_rowOfImage, .int x_bestsDone])), (nw, .inr (2, [.ref nwf, .ref nws, .ref nwe, .int nw_asked, .int nw_looksOfAsked, .int nw_changes])), (nwf, .inr (8, [.ref nwfk, .ref nwfv, .ref nwfh, .ref nwft, .int nwf_size])), (nwfk, .inl (cy, 8, .inl nwfk_a)), (nwfh, .inl (cy, 8, .inl nwfh_a)), (wk, .inr (10, [.int wk_number_49, .int wk_lane_49, .int wk_looks_49]))]) (n := 1) ⟨hx, hb, hml, hown, htb⟩ (c_X11_seedBehind l D cy   x4_49 ) tw_694 tw_692 tw_693 tw_64 rfl rfl (by decide +kernel) ⟨Nat.le_of_ble_eq_true rfl, Nat.le_of_ble_eq_true rfl⟩ hK hP hD hS hA [] [0, 1, 2, 3, 4, 5] rfl rfl rfl rfl (by decide) rfl hl.1 rfl (Nat.le_of_ble_eq_true rfl) dX11_rounds_57 ⟨Nat.le_of_ble_eq_true rfl, Nat.le_of_ble_eq_true rfl⟩ (fun r_9 u_10 H locs hw_11 hP hD hS => ?_)
                  refine W.widen (k := 0) (n := 0) (by decide) (by decide) ?_
                  have hw_11 : r_9 = (fn_X11_seedBehind x4_49) := hw_11
                  subst hw_11
                  have hP : va_P D classes [(x, .inr (11, [.ref pg, .ref wr, .ref nw, .ref kp, .ref wk, .ref tr, .ref lw, .int x_rowsRead, .int x_rowOfImage, .int x_bestsDone])), (nw, .inr (2, [.ref nwf, .ref nws, .ref nwe, .int nw_asked, .int nw_looksOfAsked, .int nw_changes])), (nwf, .inr (8, [.ref nwfk, .ref nwfv, .ref nwfh, .ref nwft, .int nwf_size])), (nwfk, .inl (cy, 8, .inl nwfk_a)), (nwfh, .inl (cy, 8, .inl nwfh_a)), (wk, .inr (10, [.int wk_number_49, .int wk_lane_49, .int wk_looks_49]))] H := hP
                  have hD : va_D A [(x, .inr (11, [.ref pg, .ref wr, .ref nw, .ref kp, .ref wk, .ref tr, .ref lw, .int x_rowsRead, .int x_rowOfImage, .int x_bestsDone])), (nw, .inr (2, [.ref nwf, .ref nws, .ref nwe, .int nw_asked, .int nw_looksOfAsked, .int nw_changes])), (nwf, .inr (8, [.ref nwfk, .ref nwfv, .ref nwfh, .ref nwft, .int nwf_size])), (nwfk, .inl (cy, 8, .inl nwfk_a)), (nwfh, .inl (cy, 8, .inl nwfh_a)), (wk, .inr (10, [.int wk_number_49, .int wk_lane_49, .int wk_looks_49]))] := hD
                  refine lv_istore (lv' := [(4, .int (fn_X11_seedBehind x4_49)), (7, .int x7_49), (6, .int x6_49), (5, .int x5_49), (0, .ref x), (1, .int a), (2, .int b), (3, .int d)]) hx hb dX11_rounds_60 hl (by decide) rfl (fun ls hl => ?_)
                  refine lv_aload_n hx hb dX11_rounds_62 rfl (lv_at hl 4 rfl) ?_
                  refine va_get (D := D) (ci := 11) (v := .ref wk) (C := RX11) (T := TX11) (N := 10) hx hb htb inX11 hown hK hP 0 rfl rfl 4 (by decide) (htb _ tw_256) (fun _ h9 => h9) rfl dX11_rounds_63 ?_
                  refine lv_aload_n hx hb dX11_rounds_66 rfl (lv_at hl 4 rfl) ?_
                  refine va_get (D := D) (ci := 11) (v := .ref nw) (C := RX11) (T := TX11) (N := 10) hx hb htb inX11 hown hK hP 0 rfl rfl 2 (by decide) (htb _ tw_254) (fun _ h9 => h9) rfl dX11_rounds_67 ?_
                  refine va_get (D := D) (ci := 2) (v := .ref nwf) (C := RX2) (T := TX2) (N := 6) hx hb htb inX2 hown hK hP 1 rfl rfl 0 (by decide) (htb _ tw_171) (fun _ h9 => h9) rfl dX11_rounds_70 ?_
                  refine lv_aload_n hx hb dX11_rounds_73 rfl (lv_at hl 4 rfl) ?_
                  refine va_get (D := D) (ci := 11) (v := .ref nw) (C := RX11) (T := TX11) (N := 10) hx hb htb inX11 hown hK hP 0 rfl rfl 2 (by decide) (htb _ tw_254) (fun _ h9 => h9) rfl dX11_rounds_74 ?_
                  refine va_get (D := D) (ci := 2) (v := .ref nwf) (C := RX2) (T := TX2) (N := 6) hx hb htb inX2 hown hK hP 1 rfl rfl 0 (by decide) (htb _ tw_171) (fun _ h9 => h9) rfl dX11_rounds_77 ?_
                  refine va_get (D := D) (ci := 8) (v := .ref nwfh) (C := RX8) (T := TX8) (N := 5) hx hb htb inX8 hown hK hP 2 rfl rfl 2 (by decide) (htb _ tw_125) (fun _ h9 => h9) rfl dX11_rounds_80 ?_
                  refine lv_iconst (v := (-1)) hx hb dX11_rounds_83 (by decide) ?_
                  refine lv_iload hx hb dX11_rounds_84 (lv_at hl 0 rfl) ?_
                  refine lv_ldc (v := 65536) hx hb hown (htb _ tw_698) dX11_rounds_86 ?_
                  refine lv_idiv hx hb dX11_rounds_88 (by decide) ?_
                  refine lv_bipush (v := 100) hx hb dX11_rounds_89 (by decide) ?_
                  refine lv_irem hx hb dX11_rounds_91 (by decide) ?_
                  refine wk_vV (As := [.ref nwf, .ref nwfh, .int (-1), .int (((fn_X11_seedBehind x4_49) / 65536) - ((fn_X11_seedBehind x4_49) / 65536) / 100 * 100)]) (rest := []) (wc := [(wk, .inr (10, [.int wk_number_49, .int wk_lane_49, .int wk_looks_49])), (nwf, .inr (8, [.ref nwfk, .ref nwfv, .ref nwfh, .ref nwft, .int nwf_size])), (nwfk, .inl (cy, 8, .inl nwfk_a)), (nwfh, .inl (cy, 8, .inl nwfh_a))]) (wr := [(x, .inr (11, [.ref pg, .ref wr, .ref nw, .ref kp, .ref wk, .ref tr, .ref lw, .int x_rowsRead, .int x_rowOfImage, .int x_bestsDone])), (nw, .inr (2, [.ref nwf, .ref nws, .ref nwe, .int nw_asked, .int nw_looksOfAsked, .int nw_changes]))]) (n := 4) ⟨hx, hb, hml, hown, htb⟩ (c_X10_go l D cy wk nwf nwfk nwfv nwfh nwft nwfh wk_number_49 wk_lane_49 wk_looks_49 nwf_size nwfk_a nwfh_a (-1) (((fn_X11_seedBehind x4_49) / 65536) - ((fn_X11_seedBehind x4_49) / 65536) / 100 * 100) (show (-1) ≤ wk_number_49.toInt ∧ wk_number_49.toInt ≤ 7 from by omega) (show 0 ≤ nwf_size.toInt ∧ nwf_size.toInt ≤ 8 from by omega)) tw_489 tw_486 tw_487 tw_488 tw_69 rfl rfl (by decide +kernel) ⟨Nat.le_of_ble_eq_true rfl, Nat.le_of_ble_eq_true rfl⟩ hK hP hD hS hA [5, 2, 3, 4] [0, 1] rfl rfl rfl rfl (by decide) 0 (ci := 10) rfl rfl rfl hl.1 rfl (Nat.le_of_ble_eq_true rfl) dX11_rounds_92 ⟨Nat.le_of_ble_eq_true rfl, Nat.le_of_ble_eq_true rfl⟩ (fun u_13 H locs hw_14 hP hD hS => ?_)
                  refine W.widen (k := 0) (n := 0) (by decide) (by decide) ?_
                  obtain ⟨o_15, o_16, o_17⟩ := u_13
                  obtain ⟨hw_14, k_18⟩ := hw_14
                  have hw_14 : (o_15, o_16, o_17) = (fn_X10_go wk_number_49 wk_lane_49 wk_looks_49 nwf_size nwfk_a nwfh_a (-1) (((fn_X11_seedBehind x4_49) / 65536) - ((fn_X11_seedBehind x4_49) / 65536) / 100 * 100)) := hw_14
                  have k_18 : ((-1) ≤ o_15.toInt ∧ o_15.toInt ≤ 7) := k_18
                  rw [← hw_14] at hF
                  rw [pm2_mk o_15 (o_16, o_17), pm2_mk o_16 o_17] at hF
                  have hP : va_P D classes [(x, .inr (11, [.ref pg, .ref wr, .ref nw, .ref kp, .ref wk, .ref tr, .ref lw, .int x_rowsRead, .int x_rowOfImage, .int x_bestsDone])), (nw, .inr (2, [.ref nwf, .ref nws, .ref nwe, .int nw_asked, .int nw_looksOfAsked, .int nw_changes])), (wk, .inr (10, [.int o_15, .int o_16, .int o_17])), (nwf, .inr (8, [.ref nwfk, .ref nwfv, .ref nwfh, .ref nwft, .int nwf_size])), (nwfk, .inl (cy, 8, .inl nwfk_a)), (nwfh, .inl (cy, 8, .inl nwfh_a))] H := hP
                  have hD : va_D A [(x, .inr (11, [.ref pg, .ref wr, .ref nw, .ref kp, .ref wk, .ref tr, .ref lw, .int x_rowsRead, .int x_rowOfImage, .int x_bestsDone])), (nw, .inr (2, [.ref nwf, .ref nws, .ref nwe, .int nw_asked, .int nw_looksOfAsked, .int nw_changes])), (wk, .inr (10, [.int o_15, .int o_16, .int o_17])), (nwf, .inr (8, [.ref nwfk, .ref nwfv, .ref nwfh, .ref nwft, .int nwf_size])), (nwfk, .inl (cy, 8, .inl nwfk_a)), (nwfh, .inl (cy, 8, .inl nwfh_a))] := hD
                  refine lv_iload hx hb dX11_rounds_95 (lv_at hl 3 rfl) ?_
                  refine lv_aload_n hx hb dX11_rounds_97 rfl (lv_at hl 4 rfl) ?_
                  refine va_get (D := D) (ci := 11) (v := .ref wk) (C := RX11) (T := TX11) (N := 10) hx hb htb inX11 hown hK hP 0 rfl rfl 4 (by decide) (htb _ tw_256) (fun _ h9 => h9) rfl dX11_rounds_98 ?_
                  refine va_get (D := D) (ci := 10) (v := .int o_15) (C := RX10) (T := TX10) (N := 3) hx hb htb inX10 hown hK hP 2 rfl rfl 0 (by decide) (htb _ tw_202) (fun _ h9 => h9) rfl dX11_rounds_101 ?_
                  refine lv_iconst (v := (-1)) hx hb dX11_rounds_104 (by decide) ?_
                  refine lv_icmp_ne (tgt := 112) hx hb dX11_rounds_105 (by decide) (fun c_19 => ?_) (fun c_19 => ?_)
                  · have k_19 : ¬ o_15.toInt = (-1) := wk_neq c_19
                    replace hF := hF.trans (pm2_n1 c_19)
                    refine lv_iconst (v := 1) hx hb dX11_rounds_112 (by decide) ?_
                    refine lv_iadd hx hb dX11_rounds_113 ?_
                    refine lv_istore (lv' := [(5, .int (x5_49 + 1)), (4, .int (fn_X11_seedBehind x4_49)), (7, .int x7_49), (6, .int x6_49), (0, .ref x), (1, .int a), (2, .int b), (3, .int d)]) hx hb dX11_rounds_114 hl (by decide) rfl (fun ls hl => ?_)
                    refine lv_iload hx hb dX11_rounds_116 (lv_at hl 3 rfl) ?_
                    refine lv_aload_n hx hb dX11_rounds_118 rfl (lv_at hl 4 rfl) ?_
                    refine va_get (D := D) (ci := 11) (v := .ref wk) (C := RX11) (T := TX11) (N := 10) hx hb htb inX11 hown hK hP 0 rfl rfl 4 (by decide) (htb _ tw_256) (fun _ h9 => h9) rfl dX11_rounds_119 ?_
                    refine va_get (D := D) (ci := 10) (v := .int o_17) (C := RX10) (T := TX10) (N := 3) hx hb htb inX10 hown hK hP 2 rfl rfl 2 (by decide) (htb _ tw_207) (fun _ h9 => h9) rfl dX11_rounds_122 ?_
                    refine lv_iadd hx hb dX11_rounds_125 ?_
                    refine lv_istore (lv' := [(6, .int (x6_49 + o_17)), (5, .int (x5_49 + 1)), (4, .int (fn_X11_seedBehind x4_49)), (7, .int x7_49), (0, .ref x), (1, .int a), (2, .int b), (3, .int d)]) hx hb dX11_rounds_126 hl (by decide) rfl (fun ls hl => ?_)
                    refine lv_iinc (v := (x7_49 + 1)) (lv' := [(7, .int (x7_49 + 1)), (6, .int (x6_49 + o_17)), (5, .int (x5_49 + 1)), (4, .int (fn_X11_seedBehind x4_49)), (0, .ref x), (1, .int a), (2, .int b), (3, .int d)]) hx hb dX11_rounds_128 hl (k := 3) rfl rfl (by decide) rfl (fun ls hl => ?_)
                    have k_20 : (x7_49 + 1).toInt = x7_49.toInt + 1 := wk_add x7_49.toInt 1 rfl rfl (by omega) (by omega)
                    refine lv_goto (tgt := 49) hx hb dX11_rounds_131 (by decide) ?_
                    exact ih_49 (fn_X11_seedBehind x4_49) (x5_49 + 1) (x6_49 + o_17) (x7_49 + 1) o_15 o_16 o_17 _ _ _ (show 0 ≤ (x7_49 + 1).toInt ∧ (x7_49 + 1).toInt ≤ 60 from by omega) (show (-1) ≤ o_15.toInt ∧ o_15.toInt ≤ 7 from by omega) (show (x7_49 + 1).toInt ≤ a.toInt from by omega) (show a.toInt - (x7_49 + 1).toInt < ((fu_49 : Nat) : Int) from by omega) hF (wk_sub9 (is := [0, 1, 3, 4, 5, 2]) hP rfl) (hD.sub [0, 1, 3, 4, 5, 2] rfl rfl) hS (lv_sub hl [0, 1, 2, 3, 4, 5, 6, 7] rfl)
                  · have k_19 : o_15.toInt = (-1) := wk_eq c_19
                    replace hF := hF.trans (pm2_p1 c_19)
                    refine lv_iconst (v := 0) hx hb dX11_rounds_108 (by decide) ?_
                    refine lv_goto (tgt := 113) hx hb dX11_rounds_109 (by decide) ?_
                    refine lv_iadd hx hb dX11_rounds_113 ?_
                    refine lv_istore (lv' := [(5, .int (x5_49 + 0)), (4, .int (fn_X11_seedBehind x4_49)), (7, .int x7_49), (6, .int x6_49), (0, .ref x), (1, .int a), (2, .int b), (3, .int d)]) hx hb dX11_rounds_114 hl (by decide) rfl (fun ls hl => ?_)
                    refine lv_iload hx hb dX11_rounds_116 (lv_at hl 3 rfl) ?_
                    refine lv_aload_n hx hb dX11_rounds_118 rfl (lv_at hl 4 rfl) ?_
                    refine va_get (D := D) (ci := 11) (v := .ref wk) (C := RX11) (T := TX11) (N := 10) hx hb htb inX11 hown hK hP 0 rfl rfl 4 (by decide) (htb _ tw_256) (fun _ h9 => h9) rfl dX11_rounds_119 ?_
                    refine va_get (D := D) (ci := 10) (v := .int o_17) (C := RX10) (T := TX10) (N := 3) hx hb htb inX10 hown hK hP 2 rfl rfl 2 (by decide) (htb _ tw_207) (fun _ h9 => h9) rfl dX11_rounds_122 ?_
                    refine lv_iadd hx hb dX11_rounds_125 ?_
                    refine lv_istore (lv' := [(6, .int (x6_49 + o_17)), (5, .int (x5_49 + 0)), (4, .int (fn_X11_seedBehind x4_49)), (7, .int x7_49), (0, .ref x), (1, .int a), (2, .int b), (3, .int d)]) hx hb dX11_rounds_126 hl (by decide) rfl (fun ls hl => ?_)
                    refine lv_iinc (v := (x7_49 + 1)) (lv' := [(7, .int (x7_49 + 1)), (6, .int (x6_49 + o_17)), (5, .int (x5_49 + 0)), (4, .int (fn_X11_seedBehind x4_49)), (0, .ref x), (1, .int a), (2, .int b), (3, .int d)]) hx hb dX11_rounds_128 hl (k := 3) rfl rfl (by decide) rfl (fun ls hl => ?_)
                    have k_21 : (x7_49 + 1).toInt = x7_49.toInt + 1 := wk_add x7_49.toInt 1 rfl rfl (by omega) (by omega)
                    refine lv_goto (tgt := 49) hx hb dX11_rounds_131 (by decide) ?_
                    exact ih_49 (fn_X11_seedBehind x4_49) (x5_49 + 0) (x6_49 + o_17) (x7_49 + 1) o_15 o_16 o_17 _ _ _ (show 0 ≤ (x7_49 + 1).toInt ∧ (x7_49 + 1).toInt ≤ 60 from by omega) (show (-1) ≤ o_15.toInt ∧ o_15.toInt ≤ 7 from by omega) (show (x7_49 + 1).toInt ≤ a.toInt from by omega) (show a.toInt - (x7_49 + 1).toInt < ((fu_49 : Nat) : Int) from by omega) hF (wk_sub9 (is := [0, 1, 3, 4, 5, 2]) hP rfl) (hD.sub [0, 1, 3, 4, 5, 2] rfl rfl) hS (lv_sub hl [0, 1, 2, 3, 4, 5, 6, 7] rfl)
            exact hlp_49 62 b 0 0 0 wk_number wk_lane wk_looks _ _ _ (show 0 ≤ 0 ∧ 0 ≤ 60 from by omega) (show (-1) ≤ wk_number.toInt ∧ wk_number.toInt ≤ 7 from by omega) (show 0 ≤ a.toInt from by omega) (show a.toInt - 0 < ((62 : Nat) : Int) from by omega) hF hP hD hS (lv_sub hl [0, 1, 2, 3, 4, 5, 6, 7] rfl)
          · have k_5 : ¬ d.toInt ≤ 2 := wk_nle c_5
            replace hF := hF.trans (if_neg c_5)
            refine lv_bipush (v := (-102)) hx hb dX11_rounds_24 (by decide) ?_
            refine W.widen (k := 0) (n := 0) (by decide) (by decide) ?_
            exact hret (-102) (wk_number, wk_lane, wk_looks) _ _ _ 26 (wk_sub9 (is := [0, 1, 2, 3, 4, 5]) hP rfl) (hD.sub [0, 1, 2, 3, 4, 5] rfl rfl) hS dX11_rounds_26 ⟨hF.symm, (show ((-1) ≤ wk_number.toInt ∧ wk_number.toInt ≤ 7) from by omega)⟩
def fn_X11_isKind_R (lc : Nat) (a : Int32) : Int32 := (if a = 0 then 1 else (if a = 1 then (fn_law_is lc 1) else (if a = 2 then (fn_law_is lc 5) else (if a = 3 then (fn_law_is lc 0) else (fn_law_is lc 7)))))
theorem dX11_isKind_0 : decode cX11_isKind 0 = .ok (.iload_n 1, 1) := by decide +kernel
theorem dX11_isKind_1 : decode cX11_isKind 1 = .ok (.tableswitch 57 0 3 #[31, 33, 41, 49], 31) := by decide +kernel
theorem dX11_isKind_32 : decode cX11_isKind 32 = .ok (.iconst 1, 1) := by decide +kernel
theorem dX11_isKind_33 : decode cX11_isKind 33 = .ok (.ireturn, 1) := by decide +kernel
theorem dX11_isKind_34 : decode cX11_isKind 34 = .ok (.aload_n 0, 1) := by decide +kernel
theorem dX11_isKind_35 : decode cX11_isKind 35 = .ok (.getfield 71, 3) := by decide +kernel
theorem dX11_isKind_38 : decode cX11_isKind 38 = .ok (.instanceof 295, 3) := by decide +kernel
theorem dX11_isKind_41 : decode cX11_isKind 41 = .ok (.ireturn, 1) := by decide +kernel
theorem dX11_isKind_42 : decode cX11_isKind 42 = .ok (.aload_n 0, 1) := by decide +kernel
theorem dX11_isKind_43 : decode cX11_isKind 43 = .ok (.getfield 71, 3) := by decide +kernel
theorem dX11_isKind_46 : decode cX11_isKind 46 = .ok (.instanceof 297, 3) := by decide +kernel
theorem dX11_isKind_49 : decode cX11_isKind 49 = .ok (.ireturn, 1) := by decide +kernel
theorem dX11_isKind_50 : decode cX11_isKind 50 = .ok (.aload_n 0, 1) := by decide +kernel
theorem dX11_isKind_51 : decode cX11_isKind 51 = .ok (.getfield 71, 3) := by decide +kernel
theorem dX11_isKind_54 : decode cX11_isKind 54 = .ok (.instanceof 299, 3) := by decide +kernel
theorem dX11_isKind_57 : decode cX11_isKind 57 = .ok (.ireturn, 1) := by decide +kernel
theorem dX11_isKind_58 : decode cX11_isKind 58 = .ok (.aload_n 0, 1) := by decide +kernel
theorem dX11_isKind_59 : decode cX11_isKind 59 = .ok (.getfield 71, 3) := by decide +kernel
theorem dX11_isKind_62 : decode cX11_isKind 62 = .ok (.instanceof 301, 3) := by decide +kernel
theorem dX11_isKind_65 : decode cX11_isKind 65 = .ok (.ireturn, 1) := by decide +kernel
set_option maxHeartbeats 4000000 in
set_option maxRecDepth 100000 in
theorem c_X11_isKind_R (l : Launch) (D : va_G) (cy : ClassId) (x pg wr nw kp wk tr lw : Nat) (lc : Nat) (hlc : wk_law lc) (x_rowsRead : Int32) (x_rowOfImage : Int32) (x_bestsDone : Int32) (a : Int32)  : wk_CiE l yX11_isKind cX11_isKind 2 (some .boolean) { frames := 0, cells := 0, slots := 0, locals := 0 } D cy [.ref x, .int a] [(x, .inr (11, [.ref pg, .ref wr, .ref nw, .ref kp, .ref wk, .ref tr, .ref lw, .int x_rowsRead, .int x_rowOfImage, .int x_bestsDone])), (lw, .inr (lc, []))] 0 0 (fun (r : Int32) (u : Unit) => r = (fn_X11_isKind_R lc a) ∧ (r = 0 ∨ r = 1)) (fun u => [(x, .inr (11, [.ref pg, .ref wr, .ref nw, .ref kp, .ref wk, .ref tr, .ref lw, .int x_rowsRead, .int x_rowOfImage, .int x_bestsDone])), (lw, .inr (lc, []))]) := by
  refine wk_mk2CzE (by decide) (Nat.le_of_ble_eq_true rfl) ?_
  intro p e s m args below meth c A ls Q B hA hK hE hP hD hS hl hret
  obtain ⟨hx, hb, hr, hlocks, hml, hown, htb, hin⟩ := B
  have hl : lv_has ls 2 [(0, .ref x), (1, .int a)] := hl
  have hF : (fn_X11_isKind_R lc a) = (fn_X11_isKind_R lc a) := rfl
  conv at hF => rhs; unfold fn_X11_isKind_R
  refine lv_iload_n hx hb dX11_isKind_0 rfl (lv_at hl 1 rfl) ?_
  by_cases c_1 : a = 0
  · refine wk_toi c_1 ?_
    replace hF := hF.trans (if_pos c_1)
    have k_1 : a.toInt = 0 := wk_eq c_1
    refine lv_tableIn (off := 31) (tgt := 32) hx hb dX11_isKind_1 (by decide) (by decide) (by decide) (by decide) ?_
    refine lv_iconst (v := 1) hx hb dX11_isKind_32 (by decide) ?_
    refine W.widen (k := 0) (n := 0) (by decide) (by decide) ?_
    exact hret 1 () _ _ _ 33 (wk_nb (by first | exact Or.inl rfl | exact Or.inr rfl | assumption)) (wk_sub9 (is := [0, 1]) hP rfl) (hD.sub [0, 1] rfl rfl) hS dX11_isKind_33 ⟨hF.symm, (by first | exact Or.inl rfl | exact Or.inr rfl | assumption)⟩
  replace hF := hF.trans (if_neg c_1)
  have k_1 : ¬ a.toInt = 0 := wk_neq c_1
  by_cases c_2 : a = 1
  · refine wk_toi c_2 ?_
    replace hF := hF.trans (if_pos c_2)
    have k_2 : a.toInt = 1 := wk_eq c_2
    refine lv_tableIn (off := 33) (tgt := 34) hx hb dX11_isKind_1 (by decide) (by decide) (by decide) (by decide) ?_
    refine lv_aload_n hx hb dX11_isKind_34 rfl (lv_at hl 0 rfl) ?_
    refine va_get (D := D) (ci := 11) (v := .ref lw) (C := RX11) (T := TX11) (N := 10) hx hb htb inX11 hown hK hP 0 rfl rfl 6 (by decide) (htb _ tw_258) (fun _ h9 => h9) rfl dX11_isKind_35 ?_
    obtain ⟨q9, hq9⟩ := wk_lawC hlc
    refine wk_instE hx hb hown (htb _ tw_470) (va_recv hK hP hq9 (q0 := 1) rfl) (fn_law_is lc 1) (wk_law_is01 lc 1) (fun c1 t1 h1 h2 => wk_asg1 hE hlc hq9 h1 h2) dX11_isKind_38 ?_
    have k_3 : 0 ≤ (fn_law_is lc 1).toInt ∧ (fn_law_is lc 1).toInt ≤ 1 := wk_b01 (wk_law_is01 lc 1)
    have k_4 : (fn_law_is lc 1) = 0 ∨ (fn_law_is lc 1) = 1 := wk_law_is01 lc 1
    refine W.widen (k := 0) (n := 0) (by decide) (by decide) ?_
    exact hret (fn_law_is lc 1) () _ _ _ 41 (wk_nb (by first | exact Or.inl rfl | exact Or.inr rfl | assumption)) (wk_sub9 (is := [0, 1]) hP rfl) (hD.sub [0, 1] rfl rfl) hS dX11_isKind_41 ⟨hF.symm, (by first | exact Or.inl rfl | exact Or.inr rfl | assumption)⟩
  replace hF := hF.trans (if_neg c_2)
  have k_2 : ¬ a.toInt = 1 := wk_neq c_2
  by_cases c_5 : a = 2
  · refine wk_toi c_5 ?_
    replace hF := hF.trans (if_pos c_5)
    have k_5 : a.toInt = 2 := wk_eq c_5
    refine lv_tableIn (off := 41) (tgt := 42) hx hb dX11_isKind_1 (by decide) (by decide) (by decide) (by decide) ?_
    refine lv_aload_n hx hb dX11_isKind_42 rfl (lv_at hl 0 rfl) ?_
    refine va_get (D := D) (ci := 11) (v := .ref lw) (C := RX11) (T := TX11) (N := 10) hx hb htb inX11 hown hK hP 0 rfl rfl 6 (by decide) (htb _ tw_258) (fun _ h9 => h9) rfl dX11_isKind_43 ?_
    obtain ⟨q9, hq9⟩ := wk_lawC hlc
    refine wk_instE hx hb hown (htb _ tw_471) (va_recv hK hP hq9 (q0 := 1) rfl) (fn_law_is lc 5) (wk_law_is01 lc 5) (fun c1 t1 h1 h2 => wk_asg5 hE hlc hq9 h1 h2) dX11_isKind_46 ?_
    have k_6 : 0 ≤ (fn_law_is lc 5).toInt ∧ (fn_law_is lc 5).toInt ≤ 1 := wk_b01 (wk_law_is01 lc 5)
    have k_7 : (fn_law_is lc 5) = 0 ∨ (fn_law_is lc 5) = 1 := wk_law_is01 lc 5
    refine W.widen (k := 0) (n := 0) (by decide) (by decide) ?_
    exact hret (fn_law_is lc 5) () _ _ _ 49 (wk_nb (by first | exact Or.inl rfl | exact Or.inr rfl | assumption)) (wk_sub9 (is := [0, 1]) hP rfl) (hD.sub [0, 1] rfl rfl) hS dX11_isKind_49 ⟨hF.symm, (by first | exact Or.inl rfl | exact Or.inr rfl | assumption)⟩
  replace hF := hF.trans (if_neg c_5)
  have k_5 : ¬ a.toInt = 2 := wk_neq c_5
  by_cases c_8 : a = 3
  · refine wk_toi c_8 ?_
    replace hF := hF.trans (if_pos c_8)
    have k_8 : a.toInt = 3 := wk_eq c_8
    refine lv_tableIn (off := 49) (tgt := 50) hx hb dX11_isKind_1 (by decide) (by decide) (by decide) (by decide) ?_
    refine lv_aload_n hx hb dX11_isKind_50 rfl (lv_at hl 0 rfl) ?_
    refine va_get (D := D) (ci := 11) (v := .ref lw) (C := RX11) (T := TX11) (N := 10) hx hb htb inX11 hown hK hP 0 rfl rfl 6 (by decide) (htb _ tw_258) (fun _ h9 => h9) rfl dX11_isKind_51 ?_
    obtain ⟨q9, hq9⟩ := wk_lawC hlc
    refine wk_instE hx hb hown (htb _ tw_472) (va_recv hK hP hq9 (q0 := 1) rfl) (fn_law_is lc 0) (wk_law_is01 lc 0) (fun c1 t1 h1 h2 => wk_asg0 hE hlc hq9 h1 h2) dX11_isKind_54 ?_
    have k_9 : 0 ≤ (fn_law_is lc 0).toInt ∧ (fn_law_is lc 0).toInt ≤ 1 := wk_b01 (wk_law_is01 lc 0)
    have k_10 : (fn_law_is lc 0) = 0 ∨ (fn_law_is lc 0) = 1 := wk_law_is01 lc 0
    refine W.widen (k := 0) (n := 0) (by decide) (by decide) ?_
    exact hret (fn_law_is lc 0) () _ _ _ 57 (wk_nb (by first | exact Or.inl rfl | exact Or.inr rfl | assumption)) (wk_sub9 (is := [0, 1]) hP rfl) (hD.sub [0, 1] rfl rfl) hS dX11_isKind_57 ⟨hF.symm, (by first | exact Or.inl rfl | exact Or.inr rfl | assumption)⟩
  replace hF := hF.trans (if_neg c_8)
  have k_8 : ¬ a.toInt = 3 := wk_neq c_8
  refine lv_tableOut (tgt := 58) hx hb dX11_isKind_1 (show a.toInt < 0 ∨ 3 < a.toInt from by omega) (by decide) ?_
  refine lv_aload_n hx hb dX11_isKind_58 rfl (lv_at hl 0 rfl) ?_
  refine va_get (D := D) (ci := 11) (v := .ref lw) (C := RX11) (T := TX11) (N := 10) hx hb htb inX11 hown hK hP 0 rfl rfl 6 (by decide) (htb _ tw_258) (fun _ h9 => h9) rfl dX11_isKind_59 ?_
  obtain ⟨q9, hq9⟩ := wk_lawC hlc
  refine wk_instE hx hb hown (htb _ tw_473) (va_recv hK hP hq9 (q0 := 1) rfl) (fn_law_is lc 7) (wk_law_is01 lc 7) (fun c1 t1 h1 h2 => wk_asg7 hE hlc hq9 h1 h2) dX11_isKind_62 ?_
  have k_11 : 0 ≤ (fn_law_is lc 7).toInt ∧ (fn_law_is lc 7).toInt ≤ 1 := wk_b01 (wk_law_is01 lc 7)
  have k_12 : (fn_law_is lc 7) = 0 ∨ (fn_law_is lc 7) = 1 := wk_law_is01 lc 7
  refine W.widen (k := 0) (n := 0) (by decide) (by decide) ?_
  exact hret (fn_law_is lc 7) () _ _ _ 65 (wk_nb (by first | exact Or.inl rfl | exact Or.inr rfl | assumption)) (wk_sub9 (is := [0, 1]) hP rfl) (hD.sub [0, 1] rfl rfl) hS dX11_isKind_65 ⟨hF.symm, (by first | exact Or.inl rfl | exact Or.inr rfl | assumption)⟩
def fn_X11_as_N (a : Int32) : Int32 := (if a < 0 then (-102) else (if a ≤ 4 then (-103) else (-102)))
theorem dX11_as_0 : decode cX11_as 0 = .ok (.iload_n 1, 1) := by decide +kernel
theorem dX11_as_1 : decode cX11_as 1 = .ok (.ifCond .lt 8, 3) := by decide +kernel
theorem dX11_as_4 : decode cX11_as 4 = .ok (.iload_n 1, 1) := by decide +kernel
theorem dX11_as_5 : decode cX11_as 5 = .ok (.iconst 4, 1) := by decide +kernel
theorem dX11_as_6 : decode cX11_as 6 = .ok (.if_icmp .le 6, 3) := by decide +kernel
theorem dX11_as_9 : decode cX11_as 9 = .ok (.bipush (-102), 2) := by decide +kernel
theorem dX11_as_11 : decode cX11_as 11 = .ok (.ireturn, 1) := by decide +kernel
theorem dX11_as_12 : decode cX11_as 12 = .ok (.aload_n 0, 1) := by decide +kernel
theorem dX11_as_13 : decode cX11_as 13 = .ok (.getfield 71, 3) := by decide +kernel
theorem dX11_as_16 : decode cX11_as 16 = .ok (.ifnonnull 6, 3) := by decide +kernel
theorem dX11_as_19 : decode cX11_as 19 = .ok (.bipush (-103), 2) := by decide +kernel
theorem dX11_as_21 : decode cX11_as 21 = .ok (.ireturn, 1) := by decide +kernel
set_option maxHeartbeats 4000000 in
set_option maxRecDepth 100000 in
theorem c_X11_as_N (l : Launch) (D : va_G) (cy : ClassId) (x pg wr nw kp wk tr : Nat) (x_rowsRead : Int32) (x_rowOfImage : Int32) (x_bestsDone : Int32) (a : Int32)  : wk_Ci l yX11_as cX11_as 2 (some .int) { frames := 0, cells := 0, slots := 0, locals := 0 } D cy [.ref x, .int a] [(x, .inr (11, [.ref pg, .ref wr, .ref nw, .ref kp, .ref wk, .ref tr, .null, .int x_rowsRead, .int x_rowOfImage, .int x_bestsDone]))] 0 0 (fun (r : Int32) (u : Unit) => r = (fn_X11_as_N a)) (fun u => [(x, .inr (11, [.ref pg, .ref wr, .ref nw, .ref kp, .ref wk, .ref tr, .null, .int x_rowsRead, .int x_rowOfImage, .int x_bestsDone]))]) := by
  refine wk_mk2Ci (by decide) (Nat.le_of_ble_eq_true rfl) ?_
  intro p e s m args below meth c A ls Q B hA hK hP hD hS hl hret
  obtain ⟨hx, hb, hr, hlocks, hml, hown, htb, hin⟩ := B
  have hl : lv_has ls 2 [(0, .ref x), (1, .int a)] := hl
  have hF : (fn_X11_as_N a) = (fn_X11_as_N a) := rfl
  conv at hF => rhs; unfold fn_X11_as_N
  refine lv_iload_n hx hb dX11_as_0 rfl (lv_at hl 1 rfl) ?_
  refine lv_if_lt (tgt := 9) hx hb dX11_as_1 (by decide) (fun c_1 => ?_) (fun c_1 => ?_)
  · have k_1 : a.toInt < 0 := wk_lt c_1
    replace hF := hF.trans (if_pos c_1)
    refine lv_bipush (v := (-102)) hx hb dX11_as_9 (by decide) ?_
    refine W.widen (k := 0) (n := 0) (by decide) (by decide) ?_
    exact hret (-102) () _ _ _ 11 (wk_sub9 (is := [0]) hP rfl) (hD.sub [0] rfl rfl) hS dX11_as_11 hF.symm
  · have k_1 : ¬ a.toInt < 0 := wk_nlt c_1
    replace hF := hF.trans (if_neg c_1)
    refine lv_iload_n hx hb dX11_as_4 rfl (lv_at hl 1 rfl) ?_
    refine lv_iconst (v := 4) hx hb dX11_as_5 (by decide) ?_
    refine lv_icmp_le (tgt := 12) hx hb dX11_as_6 (by decide) (fun c_2 => ?_) (fun c_2 => ?_)
    · have k_2 : a.toInt ≤ 4 := wk_le c_2
      replace hF := hF.trans (if_pos c_2)
      refine lv_aload_n hx hb dX11_as_12 rfl (lv_at hl 0 rfl) ?_
      refine va_get (D := D) (ci := 11) (v := .null) (C := RX11) (T := TX11) (N := 10) hx hb htb inX11 hown hK hP 0 rfl rfl 6 (by decide) (htb _ tw_258) (fun _ h9 => h9) rfl dX11_as_13 ?_
      refine lv_ifnonnullN hx hb dX11_as_16 ?_
      refine lv_bipush (v := (-103)) hx hb dX11_as_19 (by decide) ?_
      refine W.widen (k := 0) (n := 0) (by decide) (by decide) ?_
      exact hret (-103) () _ _ _ 21 (wk_sub9 (is := [0]) hP rfl) (hD.sub [0] rfl rfl) hS dX11_as_21 hF.symm
    · have k_2 : ¬ a.toInt ≤ 4 := wk_nle c_2
      replace hF := hF.trans (if_neg c_2)
      refine lv_bipush (v := (-102)) hx hb dX11_as_9 (by decide) ?_
      refine W.widen (k := 0) (n := 0) (by decide) (by decide) ?_
      exact hret (-102) () _ _ _ 11 (wk_sub9 (is := [0]) hP rfl) (hD.sub [0] rfl rfl) hS dX11_as_11 hF.symm
def fn_X11_as_R (lc : Nat) (a : Int32) : Int32 := (if a < 0 then (-102) else (if a ≤ 4 then (if (fn_X11_isKind_R lc a) = 0 then (-1) else 1) else (-102)))
theorem dX11_as_22 : decode cX11_as 22 = .ok (.aload_n 0, 1) := by decide +kernel
theorem dX11_as_23 : decode cX11_as 23 = .ok (.iload_n 1, 1) := by decide +kernel
theorem dX11_as_24 : decode cX11_as 24 = .ok (.invokevirtual 98, 3) := by decide +kernel
theorem dX11_as_27 : decode cX11_as 27 = .ok (.ifCond .eq 7, 3) := by decide +kernel
theorem dX11_as_30 : decode cX11_as 30 = .ok (.iconst 1, 1) := by decide +kernel
theorem dX11_as_31 : decode cX11_as 31 = .ok (.goto 4, 3) := by decide +kernel
theorem dX11_as_34 : decode cX11_as 34 = .ok (.iconst (-1), 1) := by decide +kernel
theorem dX11_as_35 : decode cX11_as 35 = .ok (.ireturn, 1) := by decide +kernel
set_option maxHeartbeats 4000000 in
set_option maxRecDepth 100000 in
theorem c_X11_as_R (l : Launch) (D : va_G) (cy : ClassId) (x pg wr nw kp wk tr lw : Nat) (lc : Nat) (hlc : wk_law lc) (x_rowsRead : Int32) (x_rowOfImage : Int32) (x_bestsDone : Int32) (a : Int32)  : wk_CiE l yX11_as cX11_as 2 (some .int) { frames := 1, cells := 0, slots := 0, locals := 21 } D cy [.ref x, .int a] [(x, .inr (11, [.ref pg, .ref wr, .ref nw, .ref kp, .ref wk, .ref tr, .ref lw, .int x_rowsRead, .int x_rowOfImage, .int x_bestsDone])), (lw, .inr (lc, []))] 0 0 (fun (r : Int32) (u : Unit) => r = (fn_X11_as_R lc a)) (fun u => [(x, .inr (11, [.ref pg, .ref wr, .ref nw, .ref kp, .ref wk, .ref tr, .ref lw, .int x_rowsRead, .int x_rowOfImage, .int x_bestsDone])), (lw, .inr (lc, []))]) := by
  refine wk_mk2CiE (by decide) (Nat.le_of_ble_eq_true rfl) ?_
  intro p e s m args below meth c A ls Q B hA hK hE hP hD hS hl hret
  obtain ⟨hx, hb, hr, hlocks, hml, hown, htb, hin⟩ := B
  have hl : lv_has ls 2 [(0, .ref x), (1, .int a)] := hl
  have hF : (fn_X11_as_R lc a) = (fn_X11_as_R lc a) := rfl
  conv at hF => rhs; unfold fn_X11_as_R
  refine lv_iload_n hx hb dX11_as_0 rfl (lv_at hl 1 rfl) ?_
  refine lv_if_lt (tgt := 9) hx hb dX11_as_1 (by decide) (fun c_1 => ?_) (fun c_1 => ?_)
  · have k_1 : a.toInt < 0 := wk_lt c_1
    replace hF := hF.trans (if_pos c_1)
    refine lv_bipush (v := (-102)) hx hb dX11_as_9 (by decide) ?_
    refine W.widen (k := 0) (n := 0) (by decide) (by decide) ?_
    exact hret (-102) () _ _ _ 11 (wk_sub9 (is := [0, 1]) hP rfl) (hD.sub [0, 1] rfl rfl) hS dX11_as_11 hF.symm
  · have k_1 : ¬ a.toInt < 0 := wk_nlt c_1
    replace hF := hF.trans (if_neg c_1)
    refine lv_iload_n hx hb dX11_as_4 rfl (lv_at hl 1 rfl) ?_
    refine lv_iconst (v := 4) hx hb dX11_as_5 (by decide) ?_
    refine lv_icmp_le (tgt := 12) hx hb dX11_as_6 (by decide) (fun c_2 => ?_) (fun c_2 => ?_)
    · have k_2 : a.toInt ≤ 4 := wk_le c_2
      replace hF := hF.trans (if_pos c_2)
      refine lv_aload_n hx hb dX11_as_12 rfl (lv_at hl 0 rfl) ?_
      refine va_get (D := D) (ci := 11) (v := .ref lw) (C := RX11) (T := TX11) (N := 10) hx hb htb inX11 hown hK hP 0 rfl rfl 6 (by decide) (htb _ tw_258) (fun _ h9 => h9) rfl dX11_as_13 ?_
      refine lv_ifnonnull (tgt := 22) hx hb dX11_as_16 (by decide) ?_
      refine lv_aload_n hx hb dX11_as_22 rfl (lv_at hl 0 rfl) ?_
      refine lv_iload_n hx hb dX11_as_23 rfl (lv_at hl 1 rfl) ?_
      refine wk_iVE (As := [.int a]) (rest := []) (wc := [(x, .inr (11, [.ref pg, .ref wr, .ref nw, .ref kp, .ref wk, .ref tr, .ref lw, .int x_rowsRead, .int x_rowOfImage, .int x_bestsDone])), (lw, .inr (lc, []))]) (wr := []) (n := 1) ⟨hx, hb, hml, hown, htb⟩ (c_X11_isKind_R l D cy x pg wr nw kp wk tr lw lc hlc x_rowsRead x_rowOfImage x_bestsDone a ) tw_469 tw_466 tw_468 tw_6 tw_64 rfl rfl (by decide +kernel) ⟨Nat.le_of_ble_eq_true rfl, Nat.le_of_ble_eq_true rfl⟩ hK hE hP hD hS hA [0, 1] [] rfl rfl rfl rfl (by decide) 0 (ci := 11) rfl rfl rfl hl.1 rfl (Nat.le_of_ble_eq_true rfl) dX11_as_24 ⟨Nat.le_of_ble_eq_true rfl, Nat.le_of_ble_eq_true rfl⟩ (fun r_3 u_4 H locs hw_5 hP hD hS => ?_)
      refine W.widen (k := 0) (n := 0) (by decide) (by decide) ?_
      obtain ⟨hw_5, k_6⟩ := hw_5
      have hw_5 : r_3 = (fn_X11_isKind_R lc a) := hw_5
      subst hw_5
      have k_6 : ((fn_X11_isKind_R lc a) = 0 ∨ (fn_X11_isKind_R lc a) = 1) := k_6
      have k_7 : 0 ≤ (fn_X11_isKind_R lc a).toInt ∧ (fn_X11_isKind_R lc a).toInt ≤ 1 := wk_b01 (by assumption)
      have hP : va_P D classes [(x, .inr (11, [.ref pg, .ref wr, .ref nw, .ref kp, .ref wk, .ref tr, .ref lw, .int x_rowsRead, .int x_rowOfImage, .int x_bestsDone])), (lw, .inr (lc, []))] H := hP
      have hD : va_D A [(x, .inr (11, [.ref pg, .ref wr, .ref nw, .ref kp, .ref wk, .ref tr, .ref lw, .int x_rowsRead, .int x_rowOfImage, .int x_bestsDone])), (lw, .inr (lc, []))] := hD
      refine lv_if_eq (tgt := 34) hx hb dX11_as_27 (by decide) (fun c_8 => ?_) (fun c_8 => ?_)
      · have k_8 : (fn_X11_isKind_R lc a).toInt = 0 := wk_eq c_8
        replace hF := hF.trans (if_pos c_8)
        refine lv_iconst (v := (-1)) hx hb dX11_as_34 (by decide) ?_
        refine W.widen (k := 0) (n := 0) (by decide) (by decide) ?_
        exact hret (-1) () _ _ _ 35 (wk_sub9 (is := [0, 1]) hP rfl) (hD.sub [0, 1] rfl rfl) hS dX11_as_35 hF.symm
      · have k_8 : ¬ (fn_X11_isKind_R lc a).toInt = 0 := wk_neq c_8
        replace hF := hF.trans (if_neg c_8)
        refine lv_iconst (v := 1) hx hb dX11_as_30 (by decide) ?_
        refine lv_goto (tgt := 35) hx hb dX11_as_31 (by decide) ?_
        refine W.widen (k := 0) (n := 0) (by decide) (by decide) ?_
        exact hret 1 () _ _ _ 35 (wk_sub9 (is := [0, 1]) hP rfl) (hD.sub [0, 1] rfl rfl) hS dX11_as_35 hF.symm
    · have k_2 : ¬ a.toInt ≤ 4 := wk_nle c_2
      replace hF := hF.trans (if_neg c_2)
      refine lv_bipush (v := (-102)) hx hb dX11_as_9 (by decide) ?_
      refine W.widen (k := 0) (n := 0) (by decide) (by decide) ?_
      exact hret (-102) () _ _ _ 11 (wk_sub9 (is := [0, 1]) hP rfl) (hD.sub [0, 1] rfl rfl) hS dX11_as_11 hF.symm
def fn_X11_tape_N (a : Int32) : Int32 := (if a < 0 then (-102) else (if a ≤ 50 then (-103) else (-102)))
theorem dX11_tape_0 : decode cX11_tape 0 = .ok (.iload_n 1, 1) := by decide +kernel
theorem dX11_tape_1 : decode cX11_tape 1 = .ok (.ifCond .lt 9, 3) := by decide +kernel
theorem dX11_tape_4 : decode cX11_tape 4 = .ok (.iload_n 1, 1) := by decide +kernel
theorem dX11_tape_5 : decode cX11_tape 5 = .ok (.bipush 50, 2) := by decide +kernel
theorem dX11_tape_7 : decode cX11_tape 7 = .ok (.if_icmp .le 6, 3) := by decide +kernel
theorem dX11_tape_10 : decode cX11_tape 10 = .ok (.bipush (-102), 2) := by decide +kernel
theorem dX11_tape_12 : decode cX11_tape 12 = .ok (.ireturn, 1) := by decide +kernel
theorem dX11_tape_13 : decode cX11_tape 13 = .ok (.aload_n 0, 1) := by decide +kernel
theorem dX11_tape_14 : decode cX11_tape 14 = .ok (.getfield 71, 3) := by decide +kernel
theorem dX11_tape_17 : decode cX11_tape 17 = .ok (.ifnonnull 6, 3) := by decide +kernel
theorem dX11_tape_20 : decode cX11_tape 20 = .ok (.bipush (-103), 2) := by decide +kernel
theorem dX11_tape_22 : decode cX11_tape 22 = .ok (.ireturn, 1) := by decide +kernel
set_option maxHeartbeats 4000000 in
set_option maxRecDepth 100000 in
theorem c_X11_tape_N (l : Launch) (D : va_G) (cy : ClassId) (x pg wr nw kp wk tr : Nat) (x_rowsRead : Int32) (x_rowOfImage : Int32) (x_bestsDone : Int32) (a : Int32)  : wk_Ci l yX11_tape cX11_tape 2 (some .int) { frames := 0, cells := 0, slots := 0, locals := 0 } D cy [.ref x, .int a] [(x, .inr (11, [.ref pg, .ref wr, .ref nw, .ref kp, .ref wk, .ref tr, .null, .int x_rowsRead, .int x_rowOfImage, .int x_bestsDone]))] 0 0 (fun (r : Int32) (u : Unit) => r = (fn_X11_tape_N a)) (fun u => [(x, .inr (11, [.ref pg, .ref wr, .ref nw, .ref kp, .ref wk, .ref tr, .null, .int x_rowsRead, .int x_rowOfImage, .int x_bestsDone]))]) := by
  refine wk_mk2Ci (by decide) (Nat.le_of_ble_eq_true rfl) ?_
  intro p e s m args below meth c A ls Q B hA hK hP hD hS hl hret
  obtain ⟨hx, hb, hr, hlocks, hml, hown, htb, hin⟩ := B
  have hl : lv_has ls 2 [(0, .ref x), (1, .int a)] := hl
  have hF : (fn_X11_tape_N a) = (fn_X11_tape_N a) := rfl
  conv at hF => rhs; unfold fn_X11_tape_N
  refine lv_iload_n hx hb dX11_tape_0 rfl (lv_at hl 1 rfl) ?_
  refine lv_if_lt (tgt := 10) hx hb dX11_tape_1 (by decide) (fun c_1 => ?_) (fun c_1 => ?_)
  · have k_1 : a.toInt < 0 := wk_lt c_1
    replace hF := hF.trans (if_pos c_1)
    refine lv_bipush (v := (-102)) hx hb dX11_tape_10 (by decide) ?_
    refine W.widen (k := 0) (n := 0) (by decide) (by decide) ?_
    exact hret (-102) () _ _ _ 12 (wk_sub9 (is := [0]) hP rfl) (hD.sub [0] rfl rfl) hS dX11_tape_12 hF.symm
  · have k_1 : ¬ a.toInt < 0 := wk_nlt c_1
    replace hF := hF.trans (if_neg c_1)
    refine lv_iload_n hx hb dX11_tape_4 rfl (lv_at hl 1 rfl) ?_
    refine lv_bipush (v := 50) hx hb dX11_tape_5 (by decide) ?_
    refine lv_icmp_le (tgt := 13) hx hb dX11_tape_7 (by decide) (fun c_2 => ?_) (fun c_2 => ?_)
    · have k_2 : a.toInt ≤ 50 := wk_le c_2
      replace hF := hF.trans (if_pos c_2)
      refine lv_aload_n hx hb dX11_tape_13 rfl (lv_at hl 0 rfl) ?_
      refine va_get (D := D) (ci := 11) (v := .null) (C := RX11) (T := TX11) (N := 10) hx hb htb inX11 hown hK hP 0 rfl rfl 6 (by decide) (htb _ tw_258) (fun _ h9 => h9) rfl dX11_tape_14 ?_
      refine lv_ifnonnullN hx hb dX11_tape_17 ?_
      refine lv_bipush (v := (-103)) hx hb dX11_tape_20 (by decide) ?_
      refine W.widen (k := 0) (n := 0) (by decide) (by decide) ?_
      exact hret (-103) () _ _ _ 22 (wk_sub9 (is := [0]) hP rfl) (hD.sub [0] rfl rfl) hS dX11_tape_22 hF.symm
    · have k_2 : ¬ a.toInt ≤ 50 := wk_nle c_2
      replace hF := hF.trans (if_neg c_2)
      refine lv_bipush (v := (-102)) hx hb dX11_tape_10 (by decide) ?_
      refine W.widen (k := 0) (n := 0) (by decide) (by decide) ?_
      exact hret (-102) () _ _ _ 12 (wk_sub9 (is := [0]) hP rfl) (hD.sub [0] rfl rfl) hS dX11_tape_12 hF.symm
def fn_X11_tape_R (lc : Nat) (wr_size : Int32) (wrc_a : Nat → Int32) (nwf_size : Int32) (nwfk_a : Nat → Int32) (nwfv_a : Nat → Int32) (nwfh_a : Nat → Int32) (a : Int32) : Int32 × Int32 × (Nat → Int32) := (if a < 0 then ((-102), wr_size, wrc_a) else (if a ≤ 50 then (pm2 (fn_X6_write lc wr_size wrc_a nwf_size nwfk_a nwfv_a nwfh_a) (fun o_6 o_7 => (if o_6 ≤ a then ((-1), o_6, o_7) else ((o_7 a.toNatClampNeg), o_6, o_7)))) else ((-102), wr_size, wrc_a)))
theorem dX11_tape_23 : decode cX11_tape 23 = .ok (.aload_n 0, 1) := by decide +kernel
theorem dX11_tape_24 : decode cX11_tape 24 = .ok (.getfield 16, 3) := by decide +kernel
theorem dX11_tape_27 : decode cX11_tape 27 = .ok (.aload_n 0, 1) := by decide +kernel
theorem dX11_tape_28 : decode cX11_tape 28 = .ok (.getfield 71, 3) := by decide +kernel
theorem dX11_tape_31 : decode cX11_tape 31 = .ok (.aload_n 0, 1) := by decide +kernel
theorem dX11_tape_32 : decode cX11_tape 32 = .ok (.getfield 22, 3) := by decide +kernel
theorem dX11_tape_35 : decode cX11_tape 35 = .ok (.getfield 77, 3) := by decide +kernel
theorem dX11_tape_38 : decode cX11_tape 38 = .ok (.invokevirtual 94, 3) := by decide +kernel
theorem dX11_tape_41 : decode cX11_tape 41 = .ok (.iload_n 1, 1) := by decide +kernel
theorem dX11_tape_42 : decode cX11_tape 42 = .ok (.aload_n 0, 1) := by decide +kernel
theorem dX11_tape_43 : decode cX11_tape 43 = .ok (.getfield 16, 3) := by decide +kernel
theorem dX11_tape_46 : decode cX11_tape 46 = .ok (.getfield 43, 3) := by decide +kernel
theorem dX11_tape_49 : decode cX11_tape 49 = .ok (.if_icmp .ge 15, 3) := by decide +kernel
theorem dX11_tape_52 : decode cX11_tape 52 = .ok (.aload_n 0, 1) := by decide +kernel
theorem dX11_tape_53 : decode cX11_tape 53 = .ok (.getfield 16, 3) := by decide +kernel
theorem dX11_tape_56 : decode cX11_tape 56 = .ok (.getfield 61, 3) := by decide +kernel
theorem dX11_tape_59 : decode cX11_tape 59 = .ok (.iload_n 1, 1) := by decide +kernel
theorem dX11_tape_60 : decode cX11_tape 60 = .ok (.iaload, 1) := by decide +kernel
theorem dX11_tape_61 : decode cX11_tape 61 = .ok (.goto 4, 3) := by decide +kernel
theorem dX11_tape_64 : decode cX11_tape 64 = .ok (.iconst (-1), 1) := by decide +kernel
theorem dX11_tape_65 : decode cX11_tape 65 = .ok (.ireturn, 1) := by decide +kernel
set_option maxHeartbeats 4000000 in
set_option maxRecDepth 100000 in
theorem c_X11_tape_R (l : Launch) (D : va_G) (cy : ClassId) (x pg wr nw kp wk tr lw wrc nwf nws nwe nwfk nwfv nwfh nwft : Nat) (lc : Nat) (hlc : wk_law lc) (x_rowsRead : Int32) (x_rowOfImage : Int32) (x_bestsDone : Int32) (wr_size : Int32) (wrc_a : Nat → Int32) (nw_asked : Int32) (nw_looksOfAsked : Int32) (nw_changes : Int32) (nwf_size : Int32) (nwfk_a : Nat → Int32) (nwfv_a : Nat → Int32) (nwfh_a : Nat → Int32) (a : Int32) (g_0 : 0 ≤ wr_size.toInt ∧ wr_size.toInt ≤ 44) (g_1 : 0 ≤ nwf_size.toInt ∧ nwf_size.toInt ≤ 8) : wk_Ci l yX11_tape cX11_tape 2 (some .int) { frames := 2, cells := 0, slots := 0, locals := 44 } D cy [.ref x, .int a] [(x, .inr (11, [.ref pg, .ref wr, .ref nw, .ref kp, .ref wk, .ref tr, .ref lw, .int x_rowsRead, .int x_rowOfImage, .int x_bestsDone])), (wr, .inr (6, [.ref wrc, .int wr_size])), (wrc, .inl (cy, 44, .inl wrc_a)), (nw, .inr (2, [.ref nwf, .ref nws, .ref nwe, .int nw_asked, .int nw_looksOfAsked, .int nw_changes])), (nwf, .inr (8, [.ref nwfk, .ref nwfv, .ref nwfh, .ref nwft, .int nwf_size])), (nwfk, .inl (cy, 8, .inl nwfk_a)), (nwfv, .inl (cy, 8, .inl nwfv_a)), (nwfh, .inl (cy, 8, .inl nwfh_a)), (lw, .inr (lc, []))] 0 0 (fun (r : Int32) (u : Int32 × (Nat → Int32)) => (r, u) = (fn_X11_tape_R lc wr_size wrc_a nwf_size nwfk_a nwfv_a nwfh_a a) ∧ (0 ≤ u.1.toInt ∧ u.1.toInt ≤ 44)) (fun u => [(x, .inr (11, [.ref pg, .ref wr, .ref nw, .ref kp, .ref wk, .ref tr, .ref lw, .int x_rowsRead, .int x_rowOfImage, .int x_bestsDone])), (wr, .inr (6, [.ref wrc, .int u.1])), (wrc, .inl (cy, 44, .inl u.2)), (nw, .inr (2, [.ref nwf, .ref nws, .ref nwe, .int nw_asked, .int nw_looksOfAsked, .int nw_changes])), (nwf, .inr (8, [.ref nwfk, .ref nwfv, .ref nwfh, .ref nwft, .int nwf_size])), (nwfk, .inl (cy, 8, .inl nwfk_a)), (nwfv, .inl (cy, 8, .inl nwfv_a)), (nwfh, .inl (cy, 8, .inl nwfh_a)), (lw, .inr (lc, []))]) := by
  refine wk_mk2Ci (by decide) (Nat.le_of_ble_eq_true rfl) ?_
  intro p e s m args below meth c A ls Q B hA hK hP hD hS hl hret
  obtain ⟨hx, hb, hr, hlocks, hml, hown, htb, hin⟩ := B
  have hl : lv_has ls 2 [(0, .ref x), (1, .int a)] := hl
  have hF : (fn_X11_tape_R lc wr_size wrc_a nwf_size nwfk_a nwfv_a nwfh_a a) = (fn_X11_tape_R lc wr_size wrc_a nwf_size nwfk_a nwfv_a nwfh_a a) := rfl
  conv at hF => rhs; unfold fn_X11_tape_R
  refine lv_iload_n hx hb dX11_tape_0 rfl (lv_at hl 1 rfl) ?_
  refine lv_if_lt (tgt := 10) hx hb dX11_tape_1 (by decide) (fun c_1 => ?_) (fun c_1 => ?_)
  · have k_1 : a.toInt < 0 := wk_lt c_1
    replace hF := hF.trans (if_pos c_1)
    refine lv_bipush (v := (-102)) hx hb dX11_tape_10 (by decide) ?_
    refine W.widen (k := 0) (n := 0) (by decide) (by decide) ?_
    exact hret (-102) (wr_size, wrc_a) _ _ _ 12 (wk_sub9 (is := [0, 1, 2, 3, 4, 5, 6, 7, 8]) hP rfl) (hD.sub [0, 1, 2, 3, 4, 5, 6, 7, 8] rfl rfl) hS dX11_tape_12 ⟨hF.symm, (show (0 ≤ wr_size.toInt ∧ wr_size.toInt ≤ 44) from by omega)⟩
  · have k_1 : ¬ a.toInt < 0 := wk_nlt c_1
    replace hF := hF.trans (if_neg c_1)
    refine lv_iload_n hx hb dX11_tape_4 rfl (lv_at hl 1 rfl) ?_
    refine lv_bipush (v := 50) hx hb dX11_tape_5 (by decide) ?_
    refine lv_icmp_le (tgt := 13) hx hb dX11_tape_7 (by decide) (fun c_2 => ?_) (fun c_2 => ?_)
    · have k_2 : a.toInt ≤ 50 := wk_le c_2
      replace hF := hF.trans (if_pos c_2)
      refine lv_aload_n hx hb dX11_tape_13 rfl (lv_at hl 0 rfl) ?_
      refine va_get (D := D) (ci := 11) (v := .ref lw) (C := RX11) (T := TX11) (N := 10) hx hb htb inX11 hown hK hP 0 rfl rfl 6 (by decide) (htb _ tw_258) (fun _ h9 => h9) rfl dX11_tape_14 ?_
      refine lv_ifnonnull (tgt := 23) hx hb dX11_tape_17 (by decide) ?_
      refine lv_aload_n hx hb dX11_tape_23 rfl (lv_at hl 0 rfl) ?_
      refine va_get (D := D) (ci := 11) (v := .ref wr) (C := RX11) (T := TX11) (N := 10) hx hb htb inX11 hown hK hP 0 rfl rfl 1 (by decide) (htb _ tw_253) (fun _ h9 => h9) rfl dX11_tape_24 ?_
      refine lv_aload_n hx hb dX11_tape_27 rfl (lv_at hl 0 rfl) ?_
      refine va_get (D := D) (ci := 11) (v := .ref lw) (C := RX11) (T := TX11) (N := 10) hx hb htb inX11 hown hK hP 0 rfl rfl 6 (by decide) (htb _ tw_258) (fun _ h9 => h9) rfl dX11_tape_28 ?_
      refine lv_aload_n hx hb dX11_tape_31 rfl (lv_at hl 0 rfl) ?_
      refine va_get (D := D) (ci := 11) (v := .ref nw) (C := RX11) (T := TX11) (N := 10) hx hb htb inX11 hown hK hP 0 rfl rfl 2 (by decide) (htb _ tw_254) (fun _ h9 => h9) rfl dX11_tape_32 ?_
      refine va_get (D := D) (ci := 2) (v := .ref nwf) (C := RX2) (T := TX2) (N := 6) hx hb htb inX2 hown hK hP 3 rfl rfl 0 (by decide) (htb _ tw_171) (fun _ h9 => h9) rfl dX11_tape_35 ?_
      refine wk_vV (As := [.ref lw, .ref nwf]) (rest := []) (wc := [(wr, .inr (6, [.ref wrc, .int wr_size])), (wrc, .inl (cy, 44, .inl wrc_a)), (nwf, .inr (8, [.ref nwfk, .ref nwfv, .ref nwfh, .ref nwft, .int nwf_size])), (nwfk, .inl (cy, 8, .inl nwfk_a)), (nwfv, .inl (cy, 8, .inl nwfv_a)), (nwfh, .inl (cy, 8, .inl nwfh_a)), (lw, .inr (lc, []))]) (wr := [(x, .inr (11, [.ref pg, .ref wr, .ref nw, .ref kp, .ref wk, .ref tr, .ref lw, .int x_rowsRead, .int x_rowOfImage, .int x_bestsDone])), (nw, .inr (2, [.ref nwf, .ref nws, .ref nwe, .int nw_asked, .int nw_looksOfAsked, .int nw_changes]))]) (n := 2) ⟨hx, hb, hml, hown, htb⟩ (c_X6_write l D cy wr wrc nwf nwfk nwfv nwfh nwft lw lc hlc wr_size wrc_a nwf_size nwfk_a nwfv_a nwfh_a  (show 0 ≤ wr_size.toInt ∧ wr_size.toInt ≤ 44 from by omega) (show 0 ≤ nwf_size.toInt ∧ nwf_size.toInt ≤ 8 from by omega)) tw_427 tw_424 tw_425 tw_426 tw_65 rfl rfl (by decide +kernel) ⟨Nat.le_of_ble_eq_true rfl, Nat.le_of_ble_eq_true rfl⟩ hK hP hD hS hA [1, 2, 4, 5, 6, 7, 8] [0, 3] rfl rfl rfl rfl (by decide) 0 (ci := 6) rfl rfl rfl hl.1 rfl (Nat.le_of_ble_eq_true rfl) dX11_tape_38 ⟨Nat.le_of_ble_eq_true rfl, Nat.le_of_ble_eq_true rfl⟩ (fun u_4 H locs hw_5 hP hD hS => ?_)
      refine W.widen (k := 0) (n := 0) (by decide) (by decide) ?_
      obtain ⟨o_6, o_7⟩ := u_4
      obtain ⟨hw_5, k_8⟩ := hw_5
      have hw_5 : (o_6, o_7) = (fn_X6_write lc wr_size wrc_a nwf_size nwfk_a nwfv_a nwfh_a) := hw_5
      have k_8 : (0 ≤ o_6.toInt ∧ o_6.toInt ≤ 44) := k_8
      rw [← hw_5] at hF
      rw [pm2_mk o_6 o_7] at hF
      have hP : va_P D classes [(x, .inr (11, [.ref pg, .ref wr, .ref nw, .ref kp, .ref wk, .ref tr, .ref lw, .int x_rowsRead, .int x_rowOfImage, .int x_bestsDone])), (nw, .inr (2, [.ref nwf, .ref nws, .ref nwe, .int nw_asked, .int nw_looksOfAsked, .int nw_changes])), (wr, .inr (6, [.ref wrc, .int o_6])), (wrc, .inl (cy, 44, .inl o_7)), (nwf, .inr (8, [.ref nwfk, .ref nwfv, .ref nwfh, .ref nwft, .int nwf_size])), (nwfk, .inl (cy, 8, .inl nwfk_a)), (nwfv, .inl (cy, 8, .inl nwfv_a)), (nwfh, .inl (cy, 8, .inl nwfh_a)), (lw, .inr (lc, []))] H := hP
      have hD : va_D A [(x, .inr (11, [.ref pg, .ref wr, .ref nw, .ref kp, .ref wk, .ref tr, .ref lw, .int x_rowsRead, .int x_rowOfImage, .int x_bestsDone])), (nw, .inr (2, [.ref nwf, .ref nws, .ref nwe, .int nw_asked, .int nw_looksOfAsked, .int nw_changes])), (wr, .inr (6, [.ref wrc, .int o_6])), (wrc, .inl (cy, 44, .inl o_7)), (nwf, .inr (8, [.ref nwfk, .ref nwfv, .ref nwfh, .ref nwft, .int nwf_size])), (nwfk, .inl (cy, 8, .inl nwfk_a)), (nwfv, .inl (cy, 8, .inl nwfv_a)), (nwfh, .inl (cy, 8, .inl nwfh_a)), (lw, .inr (lc, []))] := hD
      refine lv_iload_n hx hb dX11_tape_41 rfl (lv_at hl 1 rfl) ?_
      refine lv_aload_n hx hb dX11_tape_42 rfl (lv_at hl 0 rfl) ?_
      refine va_get (D := D) (ci := 11) (v := .ref wr) (C := RX11) (T := TX11) (N := 10) hx hb htb inX11 hown hK hP 0 rfl rfl 1 (by decide) (htb _ tw_253) (fun _ h9 => h9) rfl dX11_tape_43 ?_
      refine va_get (D := D) (ci := 6) (v := .int o_6) (C := RX6) (T := TX6) (N := 2) hx hb htb inX6 hown hK hP 2 rfl rfl 1 (by decide) (htb _ tw_95) (fun _ h9 => h9) rfl dX11_tape_46 ?_
      refine lv_icmp_ge (tgt := 64) hx hb dX11_tape_49 (by decide) (fun c_9 => ?_) (fun c_9 => ?_)
      · have k_9 : o_6.toInt ≤ a.toInt := wk_le c_9
        replace hF := hF.trans (if_pos c_9)
        refine lv_iconst (v := (-1)) hx hb dX11_tape_64 (by decide) ?_
        refine W.widen (k := 0) (n := 0) (by decide) (by decide) ?_
        exact hret (-1) (o_6, o_7) _ _ _ 65 (wk_sub9 (is := [0, 2, 3, 1, 4, 5, 6, 7, 8]) hP rfl) (hD.sub [0, 2, 3, 1, 4, 5, 6, 7, 8] rfl rfl) hS dX11_tape_65 ⟨hF.symm, (show (0 ≤ o_6.toInt ∧ o_6.toInt ≤ 44) from by omega)⟩
      · have k_9 : ¬ o_6.toInt ≤ a.toInt := wk_nle c_9
        replace hF := hF.trans (if_neg c_9)
        refine lv_aload_n hx hb dX11_tape_52 rfl (lv_at hl 0 rfl) ?_
        refine va_get (D := D) (ci := 11) (v := .ref wr) (C := RX11) (T := TX11) (N := 10) hx hb htb inX11 hown hK hP 0 rfl rfl 1 (by decide) (htb _ tw_253) (fun _ h9 => h9) rfl dX11_tape_53 ?_
        refine va_get (D := D) (ci := 6) (v := .ref wrc) (C := RX6) (T := TX6) (N := 2) hx hb htb inX6 hown hK hP 2 rfl rfl 0 (by decide) (htb _ tw_93) (fun _ h9 => h9) rfl dX11_tape_56 ?_
        refine lv_iload_n hx hb dX11_tape_59 rfl (lv_at hl 1 rfl) ?_
        refine va_iald hx hb hK hP 3 0 rfl rfl (show vp_in a 44 from vp_in_iff.mpr (show 0 ≤ a.toInt ∧ a.toInt < ((44 : Nat) : Int) from by omega)) dX11_tape_60 ?_
        refine lv_goto (tgt := 65) hx hb dX11_tape_61 (by decide) ?_
        refine W.widen (k := 0) (n := 0) (by decide) (by decide) ?_
        exact hret (o_7 a.toNatClampNeg) (o_6, o_7) _ _ _ 65 (wk_sub9 (is := [0, 2, 3, 1, 4, 5, 6, 7, 8]) hP rfl) (hD.sub [0, 2, 3, 1, 4, 5, 6, 7, 8] rfl rfl) hS dX11_tape_65 ⟨hF.symm, (show (0 ≤ o_6.toInt ∧ o_6.toInt ≤ 44) from by omega)⟩
    · have k_2 : ¬ a.toInt ≤ 50 := wk_nle c_2
      replace hF := hF.trans (if_neg c_2)
      refine lv_bipush (v := (-102)) hx hb dX11_tape_10 (by decide) ?_
      refine W.widen (k := 0) (n := 0) (by decide) (by decide) ?_
      exact hret (-102) (wr_size, wrc_a) _ _ _ 12 (wk_sub9 (is := [0, 1, 2, 3, 4, 5, 6, 7, 8]) hP rfl) (hD.sub [0, 1, 2, 3, 4, 5, 6, 7, 8] rfl rfl) hS dX11_tape_12 ⟨hF.symm, (show (0 ≤ wr_size.toInt ∧ wr_size.toInt ≤ 44) from by omega)⟩
