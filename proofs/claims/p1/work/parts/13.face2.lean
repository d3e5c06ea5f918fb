theorem dX11_join_0 : decode cX11_join 0 = .ok (.aload_n 0, 1) := by decide +kernel
theorem dX11_join_1 : decode cX11_join 1 = .ok (.getfield 22, 3) := by decide +kernel
theorem dX11_join_4 : decode cX11_join 4 = .ok (.getfield 77, 3) := by decide +kernel
theorem dX11_join_7 : decode cX11_join 7 = .ok (.astore_n 1, 1) := by decide +kernel
theorem dX11_join_8 : decode cX11_join 8 = .ok (.aload_n 0, 1) := by decide +kernel
theorem dX11_join_9 : decode cX11_join 9 = .ok (.getfield 22, 3) := by decide +kernel
theorem dX11_join_12 : decode cX11_join 12 = .ok (.getfield 192, 3) := by decide +kernel
theorem dX11_join_15 : decode cX11_join 15 = .ok (.astore_n 2, 1) := by decide +kernel
theorem dX11_join_16 : decode cX11_join 16 = .ok (.aload_n 0, 1) := by decide +kernel
theorem dX11_join_17 : decode cX11_join 17 = .ok (.getfield 71, 3) := by decide +kernel
theorem dX11_join_20 : decode cX11_join 20 = .ok (.ifnull 23, 3) := by decide +kernel
theorem dX11_join_43 : decode cX11_join 43 = .ok (.bipush (-103), 2) := by decide +kernel
theorem dX11_join_45 : decode cX11_join 45 = .ok (.ireturn, 1) := by decide +kernel
set_option maxHeartbeats 4000000 in
set_option maxRecDepth 100000 in
theorem c_X11_join (l : Launch) (D : va_G) (cy : ClassId) (x pg wr nw kp wk tr nwf nws nwe : Nat) : wk_Ci l yX11_join cX11_join 3 (some .int) { frames := 0, cells := 0, slots := 0, locals := 0 } D cy [.ref x] [(x, .inr (11, [.ref pg, .ref wr, .ref nw, .ref kp, .ref wk, .ref tr, .null, .int 0, .int 0, .int 0])), (nw, .inr (2, [.ref nwf, .ref nws, .ref nwe, .int 0, .int 0, .int 0]))] 0 0 (fun (r : Int32) (u : Unit) => r = (-103)) (fun u => [(x, .inr (11, [.ref pg, .ref wr, .ref nw, .ref kp, .ref wk, .ref tr, .null, .int 0, .int 0, .int 0])), (nw, .inr (2, [.ref nwf, .ref nws, .ref nwe, .int 0, .int 0, .int 0]))]) := by
  refine wk_mkCi (by decide) (Nat.le_of_ble_eq_true rfl) ?_
  intro p e s m below meth c A ls B hA hK hP hD hS hl
  obtain ⟨hx, hb, hr, hlocks, hml, hown, htb, hin⟩ := B
  have hl : lv_has ls 3 [(0, .ref x)] := hl
  refine lv_aload_n hx hb dX11_join_0 rfl (lv_at hl 0 rfl) ?_
  refine va_get (D := D) (ci := 11) (v := .ref nw) (C := RX11) (T := TX11) (N := 10) hx hb htb inX11 hown hK hP 0 rfl rfl 2 (by decide) (htb _ tw_254) (fun _ h9 => h9) rfl dX11_join_1 ?_
  refine va_get (D := D) (ci := 2) (v := .ref nwf) (C := RX2) (T := TX2) (N := 6) hx hb htb inX2 hown hK hP 1 rfl rfl 0 (by decide) (htb _ tw_171) (fun _ h9 => h9) rfl dX11_join_4 ?_
  refine lv_astore_n (lv' := [(1, .ref nwf), (0, .ref x)]) hx hb dX11_join_7 rfl hl (by decide) rfl (fun ls hl => ?_)
  refine lv_aload_n hx hb dX11_join_8 rfl (lv_at hl 1 rfl) ?_
  refine va_get (D := D) (ci := 11) (v := .ref nw) (C := RX11) (T := TX11) (N := 10) hx hb htb inX11 hown hK hP 0 rfl rfl 2 (by decide) (htb _ tw_254) (fun _ h9 => h9) rfl dX11_join_9 ?_
  refine va_get (D := D) (ci := 2) (v := .ref nws) (C := RX2) (T := TX2) (N := 6) hx hb htb inX2 hown hK hP 1 rfl rfl 1 (by decide) (htb _ tw_173) (fun _ h9 => h9) rfl dX11_join_12 ?_
  refine lv_astore_n (lv' := [(2, .ref nws), (1, .ref nwf), (0, .ref x)]) hx hb dX11_join_15 rfl hl (by decide) rfl (fun ls hl => ?_)
  refine lv_aload_n hx hb dX11_join_16 rfl (lv_at hl 2 rfl) ?_
  refine va_get (D := D) (ci := 11) (v := .null) (C := RX11) (T := TX11) (N := 10) hx hb htb inX11 hown hK hP 0 rfl rfl 6 (by decide) (htb _ tw_258) (fun _ h9 => h9) rfl dX11_join_17 ?_
  refine lv_ifnullN (tgt := 43) hx hb dX11_join_20 (by decide) ?_
  refine lv_bipush (v := (-103)) hx hb dX11_join_43 (by decide) ?_
  refine W.widen (k := 0) (n := 0) (by decide) (by decide) ?_
  exact wk_iret () hx hb hr hlocks rfl hK hP hD hS [0, 1] rfl rfl dX11_join_45
theorem dX11_cost_0 : decode cX11_cost 0 = .ok (.aload_n 0, 1) := by decide +kernel
theorem dX11_cost_1 : decode cX11_cost 1 = .ok (.getfield 71, 3) := by decide +kernel
theorem dX11_cost_4 : decode cX11_cost 4 = .ok (.ifnonnull 6, 3) := by decide +kernel
theorem dX11_cost_7 : decode cX11_cost 7 = .ok (.bipush (-103), 2) := by decide +kernel
theorem dX11_cost_9 : decode cX11_cost 9 = .ok (.ireturn, 1) := by decide +kernel
set_option maxHeartbeats 4000000 in
set_option maxRecDepth 100000 in
theorem c_X11_cost (l : Launch) (D : va_G) (cy : ClassId) (x pg wr nw kp wk tr : Nat) : wk_Ci l yX11_cost cX11_cost 1 (some .int) { frames := 0, cells := 0, slots := 0, locals := 0 } D cy [.ref x] [(x, .inr (11, [.ref pg, .ref wr, .ref nw, .ref kp, .ref wk, .ref tr, .null, .int 0, .int 0, .int 0]))] 0 0 (fun (r : Int32) (u : Unit) => r = (-103)) (fun u => [(x, .inr (11, [.ref pg, .ref wr, .ref nw, .ref kp, .ref wk, .ref tr, .null, .int 0, .int 0, .int 0]))]) := by
  refine wk_mkCi (by decide) (Nat.le_of_ble_eq_true rfl) ?_
  intro p e s m below meth c A ls B hA hK hP hD hS hl
  obtain ⟨hx, hb, hr, hlocks, hml, hown, htb, hin⟩ := B
  have hl : lv_has ls 1 [(0, .ref x)] := hl
  refine lv_aload_n hx hb dX11_cost_0 rfl (lv_at hl 0 rfl) ?_
  refine va_get (D := D) (ci := 11) (v := .null) (C := RX11) (T := TX11) (N := 10) hx hb htb inX11 hown hK hP 0 rfl rfl 6 (by decide) (htb _ tw_258) (fun _ h9 => h9) rfl dX11_cost_1 ?_
  refine lv_ifnonnullN hx hb dX11_cost_4 ?_
  refine lv_bipush (v := (-103)) hx hb dX11_cost_7 (by decide) ?_
  refine W.widen (k := 0) (n := 0) (by decide) (by decide) ?_
  exact wk_iret () hx hb hr hlocks rfl hK hP hD hS [0] rfl rfl dX11_cost_9
theorem dX11_best_0 : decode cX11_best 0 = .ok (.iload_n 2, 1) := by decide +kernel
theorem dX11_best_1 : decode cX11_best 1 = .ok (.bipush 10, 2) := by decide +kernel
theorem dX11_best_3 : decode cX11_best 3 = .ok (.if_icmp .lt 13, 3) := by decide +kernel
theorem dX11_best_6 : decode cX11_best 6 = .ok (.iload_n 2, 1) := by decide +kernel
theorem dX11_best_7 : decode cX11_best 7 = .ok (.bipush 15, 2) := by decide +kernel
theorem dX11_best_9 : decode cX11_best 9 = .ok (.if_icmp .gt 7, 3) := by decide +kernel
theorem dX11_best_12 : decode cX11_best 12 = .ok (.iconst 1, 1) := by decide +kernel
theorem dX11_best_13 : decode cX11_best 13 = .ok (.goto 4, 3) := by decide +kernel
theorem dX11_best_16 : decode cX11_best 16 = .ok (.iconst 0, 1) := by decide +kernel
theorem dX11_best_17 : decode cX11_best 17 = .ok (.istore_n 3, 1) := by decide +kernel
theorem dX11_best_18 : decode cX11_best 18 = .ok (.iload_n 1, 1) := by decide +kernel
theorem dX11_best_19 : decode cX11_best 19 = .ok (.iconst 1, 1) := by decide +kernel
theorem dX11_best_20 : decode cX11_best 20 = .ok (.if_icmp .lt 22, 3) := by decide +kernel
theorem dX11_best_23 : decode cX11_best 23 = .ok (.iload_n 1, 1) := by decide +kernel
theorem dX11_best_24 : decode cX11_best 24 = .ok (.bipush 18, 2) := by decide +kernel
theorem dX11_best_26 : decode cX11_best 26 = .ok (.if_icmp .gt 16, 3) := by decide +kernel
theorem dX11_best_29 : decode cX11_best 29 = .ok (.iload_n 2, 1) := by decide +kernel
theorem dX11_best_30 : decode cX11_best 30 = .ok (.ifCond .eq 15, 3) := by decide +kernel
theorem dX11_best_33 : decode cX11_best 33 = .ok (.iload_n 2, 1) := by decide +kernel
theorem dX11_best_34 : decode cX11_best 34 = .ok (.iconst 1, 1) := by decide +kernel
theorem dX11_best_35 : decode cX11_best 35 = .ok (.if_icmp .eq 10, 3) := by decide +kernel
theorem dX11_best_38 : decode cX11_best 38 = .ok (.iload_n 3, 1) := by decide +kernel
theorem dX11_best_39 : decode cX11_best 39 = .ok (.ifCond .ne 6, 3) := by decide +kernel
theorem dX11_best_42 : decode cX11_best 42 = .ok (.bipush (-102), 2) := by decide +kernel
theorem dX11_best_44 : decode cX11_best 44 = .ok (.ireturn, 1) := by decide +kernel
theorem dX11_best_45 : decode cX11_best 45 = .ok (.aload_n 0, 1) := by decide +kernel
theorem dX11_best_46 : decode cX11_best 46 = .ok (.getfield 71, 3) := by decide +kernel
theorem dX11_best_49 : decode cX11_best 49 = .ok (.ifnull 27, 3) := by decide +kernel
theorem dX11_best_76 : decode cX11_best 76 = .ok (.bipush (-103), 2) := by decide +kernel
theorem dX11_best_78 : decode cX11_best 78 = .ok (.ireturn, 1) := by decide +kernel
set_option maxHeartbeats 4000000 in
set_option maxRecDepth 100000 in
theorem c_X11_best (l : Launch) (D : va_G) (cy : ClassId) (x pg wr nw kp wk tr : Nat) (a b : Int32) : wk_Ci l yX11_best cX11_best 4 (some .int) { frames := 0, cells := 0, slots := 0, locals := 0 } D cy [.ref x, .int a, .int b] [(x, .inr (11, [.ref pg, .ref wr, .ref nw, .ref kp, .ref wk, .ref tr, .null, .int 0, .int 0, .int 0]))] 0 0 (fun (r : Int32) (u : Unit) => r = if (1 ≤ a.toInt ∧ a.toInt ≤ 18) ∧ (b.toInt = 0 ∨ b.toInt = 1 ∨ (10 ≤ b.toInt ∧ b.toInt ≤ 15)) then (-103) else (-102)) (fun u => [(x, .inr (11, [.ref pg, .ref wr, .ref nw, .ref kp, .ref wk, .ref tr, .null, .int 0, .int 0, .int 0]))]) := by
  refine wk_mkCi (by decide) (Nat.le_of_ble_eq_true rfl) ?_
  intro p e s m below meth c A ls B hA hK hP hD hS hl
  obtain ⟨hx, hb, hr, hlocks, hml, hown, htb, hin⟩ := B
  have hl : lv_has ls 4 [(0, .ref x), (1, .int a), (2, .int b)] := hl
  refine lv_iload_n hx hb dX11_best_0 rfl (lv_at hl 2 rfl) ?_
  refine lv_bipush (v := 10) hx hb dX11_best_1 (by decide) ?_
  refine lv_icmp_lt (tgt := 16) hx hb dX11_best_3 (by decide) (fun c_1 => ?_) (fun c_1 => ?_)
  · have k_1 : b.toInt < 10 := wk_lt c_1
    refine lv_iconst (v := 0) hx hb dX11_best_16 (by decide) ?_
    refine lv_istore_n (lv' := [(3, .int 0), (0, .ref x), (1, .int a), (2, .int b)]) hx hb dX11_best_17 rfl hl (by decide) rfl (fun ls hl => ?_)
    refine lv_iload_n hx hb dX11_best_18 rfl (lv_at hl 2 rfl) ?_
    refine lv_iconst (v := 1) hx hb dX11_best_19 (by decide) ?_
    refine lv_icmp_lt (tgt := 42) hx hb dX11_best_20 (by decide) (fun c_2 => ?_) (fun c_2 => ?_)
    · have k_2 : a.toInt < 1 := wk_lt c_2
      refine lv_bipush (v := (-102)) hx hb dX11_best_42 (by decide) ?_
      refine W.widen (k := 0) (n := 0) (by decide) (by decide) ?_
      exact wk_iret () hx hb hr hlocks (if_neg (by omega)).symm hK hP hD hS [0] rfl rfl dX11_best_44
    · have k_2 : ¬ a.toInt < 1 := wk_nlt c_2
      refine lv_iload_n hx hb dX11_best_23 rfl (lv_at hl 2 rfl) ?_
      refine lv_bipush (v := 18) hx hb dX11_best_24 (by decide) ?_
      refine lv_icmp_gt (tgt := 42) hx hb dX11_best_26 (by decide) (fun c_3 => ?_) (fun c_3 => ?_)
      · have k_3 : 18 < a.toInt := wk_lt c_3
        refine lv_bipush (v := (-102)) hx hb dX11_best_42 (by decide) ?_
        refine W.widen (k := 0) (n := 0) (by decide) (by decide) ?_
        exact wk_iret () hx hb hr hlocks (if_neg (by omega)).symm hK hP hD hS [0] rfl rfl dX11_best_44
      · have k_3 : ¬ 18 < a.toInt := wk_nlt c_3
        refine lv_iload_n hx hb dX11_best_29 rfl (lv_at hl 3 rfl) ?_
        refine lv_if_eq (tgt := 45) hx hb dX11_best_30 (by decide) (fun c_4 => ?_) (fun c_4 => ?_)
        · have k_4 : b.toInt = 0 := wk_eq c_4
          refine lv_aload_n hx hb dX11_best_45 rfl (lv_at hl 1 rfl) ?_
          refine va_get (D := D) (ci := 11) (v := .null) (C := RX11) (T := TX11) (N := 10) hx hb htb inX11 hown hK hP 0 rfl rfl 6 (by decide) (htb _ tw_258) (fun _ h9 => h9) rfl dX11_best_46 ?_
          refine lv_ifnullN (tgt := 76) hx hb dX11_best_49 (by decide) ?_
          refine lv_bipush (v := (-103)) hx hb dX11_best_76 (by decide) ?_
          refine W.widen (k := 0) (n := 0) (by decide) (by decide) ?_
          exact wk_iret () hx hb hr hlocks (if_pos (by omega)).symm hK hP hD hS [0] rfl rfl dX11_best_78
        · have k_4 : ¬ b.toInt = 0 := wk_neq c_4
          refine lv_iload_n hx hb dX11_best_33 rfl (lv_at hl 3 rfl) ?_
          refine lv_iconst (v := 1) hx hb dX11_best_34 (by decide) ?_
          refine lv_icmp_eq (tgt := 45) hx hb dX11_best_35 (by decide) (fun c_5 => ?_) (fun c_5 => ?_)
          · have k_5 : b.toInt = 1 := wk_eq c_5
            refine lv_aload_n hx hb dX11_best_45 rfl (lv_at hl 1 rfl) ?_
            refine va_get (D := D) (ci := 11) (v := .null) (C := RX11) (T := TX11) (N := 10) hx hb htb inX11 hown hK hP 0 rfl rfl 6 (by decide) (htb _ tw_258) (fun _ h9 => h9) rfl dX11_best_46 ?_
            refine lv_ifnullN (tgt := 76) hx hb dX11_best_49 (by decide) ?_
            refine lv_bipush (v := (-103)) hx hb dX11_best_76 (by decide) ?_
            refine W.widen (k := 0) (n := 0) (by decide) (by decide) ?_
            exact wk_iret () hx hb hr hlocks (if_pos (by omega)).symm hK hP hD hS [0] rfl rfl dX11_best_78
          · have k_5 : ¬ b.toInt = 1 := wk_neq c_5
            refine lv_iload_n hx hb dX11_best_38 rfl (lv_at hl 0 rfl) ?_
            refine lv_if_ne (tgt := 45) hx hb dX11_best_39 (by decide) (fun c_6 => absurd (by decide) c_6) (fun _ => ?_)
            refine lv_bipush (v := (-102)) hx hb dX11_best_42 (by decide) ?_
            refine W.widen (k := 0) (n := 0) (by decide) (by decide) ?_
            exact wk_iret () hx hb hr hlocks (if_neg (by omega)).symm hK hP hD hS [0] rfl rfl dX11_best_44
  · have k_1 : ¬ b.toInt < 10 := wk_nlt c_1
    refine lv_iload_n hx hb dX11_best_6 rfl (lv_at hl 2 rfl) ?_
    refine lv_bipush (v := 15) hx hb dX11_best_7 (by decide) ?_
    refine lv_icmp_gt (tgt := 16) hx hb dX11_best_9 (by decide) (fun c_7 => ?_) (fun c_7 => ?_)
    · have k_7 : 15 < b.toInt := wk_lt c_7
      refine lv_iconst (v := 0) hx hb dX11_best_16 (by decide) ?_
      refine lv_istore_n (lv' := [(3, .int 0), (0, .ref x), (1, .int a), (2, .int b)]) hx hb dX11_best_17 rfl hl (by decide) rfl (fun ls hl => ?_)
      refine lv_iload_n hx hb dX11_best_18 rfl (lv_at hl 2 rfl) ?_
      refine lv_iconst (v := 1) hx hb dX11_best_19 (by decide) ?_
      refine lv_icmp_lt (tgt := 42) hx hb dX11_best_20 (by decide) (fun c_8 => ?_) (fun c_8 => ?_)
      · have k_8 : a.toInt < 1 := wk_lt c_8
        refine lv_bipush (v := (-102)) hx hb dX11_best_42 (by decide) ?_
        refine W.widen (k := 0) (n := 0) (by decide) (by decide) ?_
        exact wk_iret () hx hb hr hlocks (if_neg (by omega)).symm hK hP hD hS [0] rfl rfl dX11_best_44
      · have k_8 : ¬ a.toInt < 1 := wk_nlt c_8
        refine lv_iload_n hx hb dX11_best_23 rfl (lv_at hl 2 rfl) ?_
        refine lv_bipush (v := 18) hx hb dX11_best_24 (by decide) ?_
        refine lv_icmp_gt (tgt := 42) hx hb dX11_best_26 (by decide) (fun c_9 => ?_) (fun c_9 => ?_)
        · have k_9 : 18 < a.toInt := wk_lt c_9
          refine lv_bipush (v := (-102)) hx hb dX11_best_42 (by decide) ?_
          refine W.widen (k := 0) (n := 0) (by decide) (by decide) ?_
          exact wk_iret () hx hb hr hlocks (if_neg (by omega)).symm hK hP hD hS [0] rfl rfl dX11_best_44
        · have k_9 : ¬ 18 < a.toInt := wk_nlt c_9
          refine lv_iload_n hx hb dX11_best_29 rfl (lv_at hl 3 rfl) ?_
          refine lv_if_eq (tgt := 45) hx hb dX11_best_30 (by decide) (fun c_10 => ?_) (fun c_10 => ?_)
          · have k_10 : b.toInt = 0 := wk_eq c_10
            refine lv_aload_n hx hb dX11_best_45 rfl (lv_at hl 1 rfl) ?_
            refine va_get (D := D) (ci := 11) (v := .null) (C := RX11) (T := TX11) (N := 10) hx hb htb inX11 hown hK hP 0 rfl rfl 6 (by decide) (htb _ tw_258) (fun _ h9 => h9) rfl dX11_best_46 ?_
            refine lv_ifnullN (tgt := 76) hx hb dX11_best_49 (by decide) ?_
            refine lv_bipush (v := (-103)) hx hb dX11_best_76 (by decide) ?_
            refine W.widen (k := 0) (n := 0) (by decide) (by decide) ?_
            exact wk_iret () hx hb hr hlocks (if_pos (by omega)).symm hK hP hD hS [0] rfl rfl dX11_best_78
          · have k_10 : ¬ b.toInt = 0 := wk_neq c_10
            refine lv_iload_n hx hb dX11_best_33 rfl (lv_at hl 3 rfl) ?_
            refine lv_iconst (v := 1) hx hb dX11_best_34 (by decide) ?_
            refine lv_icmp_eq (tgt := 45) hx hb dX11_best_35 (by decide) (fun c_11 => ?_) (fun c_11 => ?_)
            · have k_11 : b.toInt = 1 := wk_eq c_11
              refine lv_aload_n hx hb dX11_best_45 rfl (lv_at hl 1 rfl) ?_
              refine va_get (D := D) (ci := 11) (v := .null) (C := RX11) (T := TX11) (N := 10) hx hb htb inX11 hown hK hP 0 rfl rfl 6 (by decide) (htb _ tw_258) (fun _ h9 => h9) rfl dX11_best_46 ?_
              refine lv_ifnullN (tgt := 76) hx hb dX11_best_49 (by decide) ?_
              refine lv_bipush (v := (-103)) hx hb dX11_best_76 (by decide) ?_
              refine W.widen (k := 0) (n := 0) (by decide) (by decide) ?_
              exact wk_iret () hx hb hr hlocks (if_pos (by omega)).symm hK hP hD hS [0] rfl rfl dX11_best_78
            · have k_11 : ¬ b.toInt = 1 := wk_neq c_11
              refine lv_iload_n hx hb dX11_best_38 rfl (lv_at hl 0 rfl) ?_
              refine lv_if_ne (tgt := 45) hx hb dX11_best_39 (by decide) (fun c_12 => absurd (by decide) c_12) (fun _ => ?_)
              refine lv_bipush (v := (-102)) hx hb dX11_best_42 (by decide) ?_
              refine W.widen (k := 0) (n := 0) (by decide) (by decide) ?_
              exact wk_iret () hx hb hr hlocks (if_neg (by omega)).symm hK hP hD hS [0] rfl rfl dX11_best_44
    · have k_7 : ¬ 15 < b.toInt := wk_nlt c_7
      refine lv_iconst (v := 1) hx hb dX11_best_12 (by decide) ?_
      refine lv_goto (tgt := 17) hx hb dX11_best_13 (by decide) ?_
      refine lv_istore_n (lv' := [(3, .int 1), (0, .ref x), (1, .int a), (2, .int b)]) hx hb dX11_best_17 rfl hl (by decide) rfl (fun ls hl => ?_)
      refine lv_iload_n hx hb dX11_best_18 rfl (lv_at hl 2 rfl) ?_
      refine lv_iconst (v := 1) hx hb dX11_best_19 (by decide) ?_
      refine lv_icmp_lt (tgt := 42) hx hb dX11_best_20 (by decide) (fun c_13 => ?_) (fun c_13 => ?_)
      · have k_13 : a.toInt < 1 := wk_lt c_13
        refine lv_bipush (v := (-102)) hx hb dX11_best_42 (by decide) ?_
        refine W.widen (k := 0) (n := 0) (by decide) (by decide) ?_
        exact wk_iret () hx hb hr hlocks (if_neg (by omega)).symm hK hP hD hS [0] rfl rfl dX11_best_44
      · have k_13 : ¬ a.toInt < 1 := wk_nlt c_13
        refine lv_iload_n hx hb dX11_best_23 rfl (lv_at hl 2 rfl) ?_
        refine lv_bipush (v := 18) hx hb dX11_best_24 (by decide) ?_
        refine lv_icmp_gt (tgt := 42) hx hb dX11_best_26 (by decide) (fun c_14 => ?_) (fun c_14 => ?_)
        · have k_14 : 18 < a.toInt := wk_lt c_14
          refine lv_bipush (v := (-102)) hx hb dX11_best_42 (by decide) ?_
          refine W.widen (k := 0) (n := 0) (by decide) (by decide) ?_
          exact wk_iret () hx hb hr hlocks (if_neg (by omega)).symm hK hP hD hS [0] rfl rfl dX11_best_44
        · have k_14 : ¬ 18 < a.toInt := wk_nlt c_14
          refine lv_iload_n hx hb dX11_best_29 rfl (lv_at hl 3 rfl) ?_
          refine lv_if_eq (tgt := 45) hx hb dX11_best_30 (by decide) (fun c_15 => ?_) (fun c_15 => ?_)
          · have k_15 : b.toInt = 0 := wk_eq c_15
            refine lv_aload_n hx hb dX11_best_45 rfl (lv_at hl 1 rfl) ?_
            refine va_get (D := D) (ci := 11) (v := .null) (C := RX11) (T := TX11) (N := 10) hx hb htb inX11 hown hK hP 0 rfl rfl 6 (by decide) (htb _ tw_258) (fun _ h9 => h9) rfl dX11_best_46 ?_
            refine lv_ifnullN (tgt := 76) hx hb dX11_best_49 (by decide) ?_
            refine lv_bipush (v := (-103)) hx hb dX11_best_76 (by decide) ?_
            refine W.widen (k := 0) (n := 0) (by decide) (by decide) ?_
            exact wk_iret () hx hb hr hlocks (if_pos (by omega)).symm hK hP hD hS [0] rfl rfl dX11_best_78
          · have k_15 : ¬ b.toInt = 0 := wk_neq c_15
            refine lv_iload_n hx hb dX11_best_33 rfl (lv_at hl 3 rfl) ?_
            refine lv_iconst (v := 1) hx hb dX11_best_34 (by decide) ?_
            refine lv_icmp_eq (tgt := 45) hx hb dX11_best_35 (by decide) (fun c_16 => ?_) (fun c_16 => ?_)
            · have k_16 : b.toInt = 1 := wk_eq c_16
              refine lv_aload_n hx hb dX11_best_45 rfl (lv_at hl 1 rfl) ?_
              refine va_get (D := D) (ci := 11) (v := .null) (C := RX11) (T := TX11) (N := 10) hx hb htb inX11 hown hK hP 0 rfl rfl 6 (by decide) (htb _ tw_258) (fun _ h9 => h9) rfl dX11_best_46 ?_
              refine lv_ifnullN (tgt := 76) hx hb dX11_best_49 (by decide) ?_
              refine lv_bipush (v := (-103)) hx hb dX11_best_76 (by decide) ?_
              refine W.widen (k := 0) (n := 0) (by decide) (by decide) ?_
              exact wk_iret () hx hb hr hlocks (if_pos (by omega)).symm hK hP hD hS [0] rfl rfl dX11_best_78
            · have k_16 : ¬ b.toInt = 1 := wk_neq c_16
              refine lv_iload_n hx hb dX11_best_38 rfl (lv_at hl 0 rfl) ?_
              refine lv_if_ne (tgt := 45) hx hb dX11_best_39 (by decide) (fun _ => ?_) (fun c_17 => absurd c_17 (by decide))
              refine lv_aload_n hx hb dX11_best_45 rfl (lv_at hl 1 rfl) ?_
              refine va_get (D := D) (ci := 11) (v := .null) (C := RX11) (T := TX11) (N := 10) hx hb htb inX11 hown hK hP 0 rfl rfl 6 (by decide) (htb _ tw_258) (fun _ h9 => h9) rfl dX11_best_46 ?_
              refine lv_ifnullN (tgt := 76) hx hb dX11_best_49 (by decide) ?_
              refine lv_bipush (v := (-103)) hx hb dX11_best_76 (by decide) ?_
              refine W.widen (k := 0) (n := 0) (by decide) (by decide) ?_
              exact wk_iret () hx hb hr hlocks (if_pos (by omega)).symm hK hP hD hS [0] rfl rfl dX11_best_78
theorem dX11_change_0 : decode cX11_change 0 = .ok (.iload_n 1, 1) := by decide +kernel
theorem dX11_change_1 : decode cX11_change 1 = .ok (.ifCond .lt 8, 3) := by decide +kernel
theorem dX11_change_4 : decode cX11_change 4 = .ok (.iload_n 1, 1) := by decide +kernel
theorem dX11_change_5 : decode cX11_change 5 = .ok (.iconst 2, 1) := by decide +kernel
theorem dX11_change_6 : decode cX11_change 6 = .ok (.if_icmp .le 6, 3) := by decide +kernel
theorem dX11_change_9 : decode cX11_change 9 = .ok (.bipush (-102), 2) := by decide +kernel
theorem dX11_change_11 : decode cX11_change 11 = .ok (.ireturn, 1) := by decide +kernel
theorem dX11_change_12 : decode cX11_change 12 = .ok (.aload_n 0, 1) := by decide +kernel
theorem dX11_change_13 : decode cX11_change 13 = .ok (.getfield 71, 3) := by decide +kernel
theorem dX11_change_16 : decode cX11_change 16 = .ok (.ifnonnull 6, 3) := by decide +kernel
theorem dX11_change_19 : decode cX11_change 19 = .ok (.bipush (-103), 2) := by decide +kernel
theorem dX11_change_21 : decode cX11_change 21 = .ok (.ireturn, 1) := by decide +kernel
set_option maxHeartbeats 4000000 in
set_option maxRecDepth 100000 in
theorem c_X11_change (l : Launch) (D : va_G) (cy : ClassId) (x pg wr nw kp wk tr : Nat) (a : Int32) : wk_Ci l yX11_change cX11_change 2 (some .int) { frames := 0, cells := 0, slots := 0, locals := 0 } D cy [.ref x, .int a] [(x, .inr (11, [.ref pg, .ref wr, .ref nw, .ref kp, .ref wk, .ref tr, .null, .int 0, .int 0, .int 0]))] 0 0 (fun (r : Int32) (u : Unit) => r = if (0 ≤ a.toInt ∧ a.toInt ≤ 2) then (-103) else (-102)) (fun u => [(x, .inr (11, [.ref pg, .ref wr, .ref nw, .ref kp, .ref wk, .ref tr, .null, .int 0, .int 0, .int 0]))]) := by
  refine wk_mkCi (by decide) (Nat.le_of_ble_eq_true rfl) ?_
  intro p e s m below meth c A ls B hA hK hP hD hS hl
  obtain ⟨hx, hb, hr, hlocks, hml, hown, htb, hin⟩ := B
  have hl : lv_has ls 2 [(0, .ref x), (1, .int a)] := hl
  refine lv_iload_n hx hb dX11_change_0 rfl (lv_at hl 1 rfl) ?_
  refine lv_if_lt (tgt := 9) hx hb dX11_change_1 (by decide) (fun c_1 => ?_) (fun c_1 => ?_)
  · have k_1 : a.toInt < 0 := wk_lt c_1
    refine lv_bipush (v := (-102)) hx hb dX11_change_9 (by decide) ?_
    refine W.widen (k := 0) (n := 0) (by decide) (by decide) ?_
    exact wk_iret () hx hb hr hlocks (if_neg (by omega)).symm hK hP hD hS [0] rfl rfl dX11_change_11
  · have k_1 : ¬ a.toInt < 0 := wk_nlt c_1
    refine lv_iload_n hx hb dX11_change_4 rfl (lv_at hl 1 rfl) ?_
    refine lv_iconst (v := 2) hx hb dX11_change_5 (by decide) ?_
    refine lv_icmp_le (tgt := 12) hx hb dX11_change_6 (by decide) (fun c_2 => ?_) (fun c_2 => ?_)
    · have k_2 : a.toInt ≤ 2 := wk_le c_2
      refine lv_aload_n hx hb dX11_change_12 rfl (lv_at hl 0 rfl) ?_
      refine va_get (D := D) (ci := 11) (v := .null) (C := RX11) (T := TX11) (N := 10) hx hb htb inX11 hown hK hP 0 rfl rfl 6 (by decide) (htb _ tw_258) (fun _ h9 => h9) rfl dX11_change_13 ?_
      refine lv_ifnonnullN hx hb dX11_change_16 ?_
      refine lv_bipush (v := (-103)) hx hb dX11_change_19 (by decide) ?_
      refine W.widen (k := 0) (n := 0) (by decide) (by decide) ?_
      exact wk_iret () hx hb hr hlocks (if_pos (by omega)).symm hK hP hD hS [0] rfl rfl dX11_change_21
    · have k_2 : ¬ a.toInt ≤ 2 := wk_nle c_2
      refine lv_bipush (v := (-102)) hx hb dX11_change_9 (by decide) ?_
      refine W.widen (k := 0) (n := 0) (by decide) (by decide) ?_
      exact wk_iret () hx hb hr hlocks (if_neg (by omega)).symm hK hP hD hS [0] rfl rfl dX11_change_11
theorem dX11_see_0 : decode cX11_see 0 = .ok (.aload_n 0, 1) := by decide +kernel
theorem dX11_see_1 : decode cX11_see 1 = .ok (.iload_n 1, 1) := by decide +kernel
theorem dX11_see_2 : decode cX11_see 2 = .ok (.invokevirtual 102, 3) := by decide +kernel
theorem dX11_see_5 : decode cX11_see 5 = .ok (.ifCond .eq 6, 3) := by decide +kernel
theorem dX11_see_8 : decode cX11_see 8 = .ok (.bipush (-101), 2) := by decide +kernel
theorem dX11_see_10 : decode cX11_see 10 = .ok (.ireturn, 1) := by decide +kernel
set_option maxHeartbeats 4000000 in
set_option maxRecDepth 100000 in
theorem c_X11_see (l : Launch) (D : va_G) (cy : ClassId) (x pg wr nw kp wk tr nwf nws nwe nwfk nwfv nwfh nwft : Nat) (a b d : Int32) : wk_Ci l yX11_see cX11_see 4 (some .int) { frames := 1, cells := 0, slots := 0, locals := 21 } D cy [.ref x, .int a, .int b, .int d] [(x, .inr (11, [.ref pg, .ref wr, .ref nw, .ref kp, .ref wk, .ref tr, .null, .int 0, .int 0, .int 0])), (nw, .inr (2, [.ref nwf, .ref nws, .ref nwe, .int 0, .int 0, .int 0])), (nwf, .inr (8, [.ref nwfk, .ref nwfv, .ref nwfh, .ref nwft, .int 0]))] 0 0 (fun (r : Int32) (u : Unit) => r = (-101)) (fun u => [(x, .inr (11, [.ref pg, .ref wr, .ref nw, .ref kp, .ref wk, .ref tr, .null, .int 0, .int 0, .int 0])), (nw, .inr (2, [.ref nwf, .ref nws, .ref nwe, .int 0, .int 0, .int 0])), (nwf, .inr (8, [.ref nwfk, .ref nwfv, .ref nwfh, .ref nwft, .int 0]))]) := by
  refine wk_mkCi (by decide) (Nat.le_of_ble_eq_true rfl) ?_
  intro p e s m below meth c A ls B hA hK hP hD hS hl
  obtain ⟨hx, hb, hr, hlocks, hml, hown, htb, hin⟩ := B
  have hl : lv_has ls 4 [(0, .ref x), (1, .int a), (2, .int b), (3, .int d)] := hl
  refine lv_aload_n hx hb dX11_see_0 rfl (lv_at hl 0 rfl) ?_
  refine lv_iload_n hx hb dX11_see_1 rfl (lv_at hl 1 rfl) ?_
  refine wk_iV (As := [.int a]) (rest := []) (wc := [(x, .inr (11, [.ref pg, .ref wr, .ref nw, .ref kp, .ref wk, .ref tr, .null, .int 0, .int 0, .int 0])), (nw, .inr (2, [.ref nwf, .ref nws, .ref nwe, .int 0, .int 0, .int 0])), (nwf, .inr (8, [.ref nwfk, .ref nwfv, .ref nwfh, .ref nwft, .int 0]))]) (wr := []) (n := 1) (R := _) ⟨hx, hb, hml, hown, htb⟩ (c_X11_namesNoKey l D cy x pg wr nw kp wk tr nwf nws nwe nwfk nwfv nwfh nwft a ) tw_481 tw_478 tw_480 tw_7 tw_64 rfl rfl (by decide +kernel) ⟨Nat.le_of_ble_eq_true rfl, Nat.le_of_ble_eq_true rfl⟩ hK hP hD hS hA [0, 1, 2] [] rfl rfl rfl rfl (by decide) 0 (ci := 11) rfl rfl rfl hl.1 rfl (Nat.le_of_ble_eq_true rfl) dX11_see_2 ⟨Nat.le_of_ble_eq_true rfl, Nat.le_of_ble_eq_true rfl⟩ (fun r_1 u_2 H locs hw_3 hP hD hS => ?_)
  refine W.widen (k := 0) (n := 0) (by decide) (by decide) ?_
  have hw_3 : r_1 = 1 := hw_3
  subst hw_3
  have hP : va_P D classes [(x, .inr (11, [.ref pg, .ref wr, .ref nw, .ref kp, .ref wk, .ref tr, .null, .int 0, .int 0, .int 0])), (nw, .inr (2, [.ref nwf, .ref nws, .ref nwe, .int 0, .int 0, .int 0])), (nwf, .inr (8, [.ref nwfk, .ref nwfv, .ref nwfh, .ref nwft, .int 0]))] H := hP
  have hD : va_D A [(x, .inr (11, [.ref pg, .ref wr, .ref nw, .ref kp, .ref wk, .ref tr, .null, .int 0, .int 0, .int 0])), (nw, .inr (2, [.ref nwf, .ref nws, .ref nwe, .int 0, .int 0, .int 0])), (nwf, .inr (8, [.ref nwfk, .ref nwfv, .ref nwfh, .ref nwft, .int 0]))] := hD
  refine lv_if_eq (tgt := 11) hx hb dX11_see_5 (by decide) (fun c_4 => absurd c_4 (by decide)) (fun _ => ?_)
  refine lv_bipush (v := (-101)) hx hb dX11_see_8 (by decide) ?_
  refine W.widen (k := 0) (n := 0) (by decide) (by decide) ?_
  exact wk_iret () hx hb hr hlocks rfl hK hP hD hS [0, 1, 2] rfl rfl dX11_see_10
theorem dX11_forget_0 : decode cX11_forget 0 = .ok (.aload_n 0, 1) := by decide +kernel
theorem dX11_forget_1 : decode cX11_forget 1 = .ok (.getfield 22, 3) := by decide +kernel
theorem dX11_forget_4 : decode cX11_forget 4 = .ok (.getfield 123, 3) := by decide +kernel
theorem dX11_forget_7 : decode cX11_forget 7 = .ok (.invokevirtual 237, 3) := by decide +kernel
theorem dX11_forget_10 : decode cX11_forget 10 = .ok (.ireturn, 1) := by decide +kernel
set_option maxHeartbeats 4000000 in
set_option maxRecDepth 100000 in
theorem c_X11_forget (l : Launch) (D : va_G) (cy : ClassId) (x pg wr nw kp wk tr nwf nws nwe nwea nweb nwec : Nat) : wk_Ci l yX11_forget cX11_forget 1 (some .int) { frames := 1, cells := 0, slots := 0, locals := 21 } D cy [.ref x] [(x, .inr (11, [.ref pg, .ref wr, .ref nw, .ref kp, .ref wk, .ref tr, .null, .int 0, .int 0, .int 0])), (nw, .inr (2, [.ref nwf, .ref nws, .ref nwe, .int 0, .int 0, .int 0])), (nwe, .inr (4, [.ref nwea, .ref nweb, .ref nwec, .int 0]))] 0 0 (fun (r : Int32) (u : Unit) => r = 0) (fun u => []) := by
  refine wk_mkCi (by decide) (Nat.le_of_ble_eq_true rfl) ?_
  intro p e s m below meth c A ls B hA hK hP hD hS hl
  obtain ⟨hx, hb, hr, hlocks, hml, hown, htb, hin⟩ := B
  have hl : lv_has ls 1 [(0, .ref x)] := hl
  refine lv_aload_n hx hb dX11_forget_0 rfl (lv_at hl 0 rfl) ?_
  refine va_get (D := D) (ci := 11) (v := .ref nw) (C := RX11) (T := TX11) (N := 10) hx hb htb inX11 hown hK hP 0 rfl rfl 2 (by decide) (htb _ tw_254) (fun _ h9 => h9) rfl dX11_forget_1 ?_
  refine va_get (D := D) (ci := 2) (v := .ref nwe) (C := RX2) (T := TX2) (N := 6) hx hb htb inX2 hown hK hP 1 rfl rfl 2 (by decide) (htb _ tw_175) (fun _ h9 => h9) rfl dX11_forget_4 ?_
  refine wk_iV (As := []) (rest := []) (wc := [(nwe, .inr (4, [.ref nwea, .ref nweb, .ref nwec, .int 0]))]) (wr := [(x, .inr (11, [.ref pg, .ref wr, .ref nw, .ref kp, .ref wk, .ref tr, .null, .int 0, .int 0, .int 0])), (nw, .inr (2, [.ref nwf, .ref nws, .ref nwe, .int 0, .int 0, .int 0]))]) (n := 0) (R := _) ⟨hx, hb, hml, hown, htb⟩ (c_X4_clear l D cy nwe nwea nweb nwec  ) tw_377 tw_687 tw_375 tw_376 tw_68 rfl rfl (by decide +kernel) ⟨Nat.le_of_ble_eq_true rfl, Nat.le_of_ble_eq_true rfl⟩ hK hP hD hS hA [2] [0, 1] rfl rfl rfl rfl (by decide) 0 (ci := 4) rfl rfl rfl hl.1 rfl (Nat.le_of_ble_eq_true rfl) dX11_forget_7 ⟨Nat.le_of_ble_eq_true rfl, Nat.le_of_ble_eq_true rfl⟩ (fun r_1 u_2 H locs hw_3 hP hD hS => ?_)
  refine W.widen (k := 0) (n := 0) (by decide) (by decide) ?_
  have hw_3 : r_1 = 0 := hw_3
  subst hw_3
  have hP : va_P D classes [(x, .inr (11, [.ref pg, .ref wr, .ref nw, .ref kp, .ref wk, .ref tr, .null, .int 0, .int 0, .int 0])), (nw, .inr (2, [.ref nwf, .ref nws, .ref nwe, .int 0, .int 0, .int 0]))] H := hP
  have hD : va_D A [(x, .inr (11, [.ref pg, .ref wr, .ref nw, .ref kp, .ref wk, .ref tr, .null, .int 0, .int 0, .int 0])), (nw, .inr (2, [.ref nwf, .ref nws, .ref nwe, .int 0, .int 0, .int 0]))] := hD
  refine W.widen (k := 0) (n := 0) (by decide) (by decide) ?_
  exact wk_iret () hx hb hr hlocks rfl hK hP hD hS [] rfl rfl dX11_forget_10
theorem dX11_rounds_0 : decode cX11_rounds 0 = .ok (.iload_n 1, 1) := by decide +kernel
theorem dX11_rounds_1 : decode cX11_rounds 1 = .ok (.iconst 1, 1) := by decide +kernel
theorem dX11_rounds_2 : decode cX11_rounds 2 = .ok (.if_icmp .lt 22, 3) := by decide +kernel
theorem dX11_rounds_5 : decode cX11_rounds 5 = .ok (.iload_n 1, 1) := by decide +kernel
theorem dX11_rounds_6 : decode cX11_rounds 6 = .ok (.bipush 60, 2) := by decide +kernel
theorem dX11_rounds_8 : decode cX11_rounds 8 = .ok (.if_icmp .gt 16, 3) := by decide +kernel
theorem dX11_rounds_11 : decode cX11_rounds 11 = .ok (.iload_n 2, 1) := by decide +kernel
theorem dX11_rounds_12 : decode cX11_rounds 12 = .ok (.ifCond .lt 12, 3) := by decide +kernel
theorem dX11_rounds_15 : decode cX11_rounds 15 = .ok (.iload_n 3, 1) := by decide +kernel
theorem dX11_rounds_16 : decode cX11_rounds 16 = .ok (.ifCond .lt 8, 3) := by decide +kernel
theorem dX11_rounds_19 : decode cX11_rounds 19 = .ok (.iload_n 3, 1) := by decide +kernel
theorem dX11_rounds_20 : decode cX11_rounds 20 = .ok (.iconst 2, 1) := by decide +kernel
theorem dX11_rounds_21 : decode cX11_rounds 21 = .ok (.if_icmp .le 6, 3) := by decide +kernel
theorem dX11_rounds_24 : decode cX11_rounds 24 = .ok (.bipush (-102), 2) := by decide +kernel
theorem dX11_rounds_26 : decode cX11_rounds 26 = .ok (.ireturn, 1) := by decide +kernel
theorem dX11_rounds_27 : decode cX11_rounds 27 = .ok (.aload_n 0, 1) := by decide +kernel
theorem dX11_rounds_28 : decode cX11_rounds 28 = .ok (.getfield 71, 3) := by decide +kernel
theorem dX11_rounds_31 : decode cX11_rounds 31 = .ok (.ifnonnull 6, 3) := by decide +kernel
theorem dX11_rounds_34 : decode cX11_rounds 34 = .ok (.bipush (-103), 2) := by decide +kernel
theorem dX11_rounds_36 : decode cX11_rounds 36 = .ok (.ireturn, 1) := by decide +kernel
set_option maxHeartbeats 4000000 in
set_option maxRecDepth 100000 in
theorem c_X11_rounds (l : Launch) (D : va_G) (cy : ClassId) (x pg wr nw kp wk tr : Nat) (a b d : Int32) : wk_Ci l yX11_rounds cX11_rounds 8 (some .int) { frames := 0, cells := 0, slots := 0, locals := 0 } D cy [.ref x, .int a, .int b, .int d] [(x, .inr (11, [.ref pg, .ref wr, .ref nw, .ref kp, .ref wk, .ref tr, .null, .int 0, .int 0, .int 0]))] 0 0 (fun (r : Int32) (u : Unit) => r = if (1 ≤ a.toInt ∧ a.toInt ≤ 60) ∧ 0 ≤ b.toInt ∧ (0 ≤ d.toInt ∧ d.toInt ≤ 2) then (-103) else (-102)) (fun u => [(x, .inr (11, [.ref pg, .ref wr, .ref nw, .ref kp, .ref wk, .ref tr, .null, .int 0, .int 0, .int 0]))]) := by
  refine wk_mkCi (by decide) (Nat.le_of_ble_eq_true rfl) ?_
  intro p e s m below meth c A ls B hA hK hP hD hS hl
  obtain ⟨hx, hb, hr, hlocks, hml, hown, htb, hin⟩ := B
  have hl : lv_has ls 8 [(0, .ref x), (1, .int a), (2, .int b), (3, .int d)] := hl
  refine lv_iload_n hx hb dX11_rounds_0 rfl (lv_at hl 1 rfl) ?_
  refine lv_iconst (v := 1) hx hb dX11_rounds_1 (by decide) ?_
  refine lv_icmp_lt (tgt := 24) hx hb dX11_rounds_2 (by decide) (fun c_1 => ?_) (fun c_1 => ?_)
  · have k_1 : a.toInt < 1 := wk_lt c_1
    refine lv_bipush (v := (-102)) hx hb dX11_rounds_24 (by decide) ?_
    refine W.widen (k := 0) (n := 0) (by decide) (by decide) ?_
    exact wk_iret () hx hb hr hlocks (if_neg (by omega)).symm hK hP hD hS [0] rfl rfl dX11_rounds_26
  · have k_1 : ¬ a.toInt < 1 := wk_nlt c_1
    refine lv_iload_n hx hb dX11_rounds_5 rfl (lv_at hl 1 rfl) ?_
    refine lv_bipush (v := 60) hx hb dX11_rounds_6 (by decide) ?_
    refine lv_icmp_gt (tgt := 24) hx hb dX11_rounds_8 (by decide) (fun c_2 => ?_) (fun c_2 => ?_)
    · have k_2 : 60 < a.toInt := wk_lt c_2
      refine lv_bipush (v := (-102)) hx hb dX11_rounds_24 (by decide) ?_
      refine W.widen (k := 0) (n := 0) (by decide) (by decide) ?_
      exact wk_iret () hx hb hr hlocks (if_neg (by omega)).symm hK hP hD hS [0] rfl rfl dX11_rounds_26
    · have k_2 : ¬ 60 < a.toInt := wk_nlt c_2
      refine lv_iload_n hx hb dX11_rounds_11 rfl (lv_at hl 2 rfl) ?_
      refine lv_if_lt (tgt := 24) hx hb dX11_rounds_12 (by decide) (fun c_3 => ?_) (fun c_3 => ?_)
      · have k_3 : b.toInt < 0 := wk_lt c_3
        refine lv_bipush (v := (-102)) hx hb dX11_rounds_24 (by decide) ?_
        refine W.widen (k := 0) (n := 0) (by decide) (by decide) ?_
        exact wk_iret () hx hb hr hlocks (if_neg (by omega)).symm hK hP hD hS [0] rfl rfl dX11_rounds_26
      · have k_3 : ¬ b.toInt < 0 := wk_nlt c_3
        refine lv_iload_n hx hb dX11_rounds_15 rfl (lv_at hl 3 rfl) ?_
        refine lv_if_lt (tgt := 24) hx hb dX11_rounds_16 (by decide) (fun c_4 => ?_) (fun c_4 => ?_)
        · have k_4 : d.toInt < 0 := wk_lt c_4
          refine lv_bipush (v := (-102)) hx hb dX11_rounds_24 (by decide) ?_
          refine W.widen (k := 0) (n := 0) (by decide) (by decide) ?_
          exact wk_iret () hx hb hr hlocks (if_neg (by omega)).symm hK hP hD hS [0] rfl rfl dX11_rounds_26
        · have k_4 : ¬ d.toInt < 0 := wk_nlt c_4
          refine lv_iload_n hx hb dX11_rounds_19 rfl (lv_at hl 3 rfl) ?_
          refine lv_iconst (v := 2) hx hb dX11_rounds_20 (by decide) ?_
          refine lv_icmp_le (tgt := 27) hx hb dX11_rounds_21 (by decide) (fun c_5 => ?_) (fun c_5 => ?_)
          · have k_5 : d.toInt ≤ 2 := wk_le c_5
            refine lv_aload_n hx hb dX11_rounds_27 rfl (lv_at hl 0 rfl) ?_
            refine va_get (D := D) (ci := 11) (v := .null) (C := RX11) (T := TX11) (N := 10) hx hb htb inX11 hown hK hP 0 rfl rfl 6 (by decide) (htb _ tw_258) (fun _ h9 => h9) rfl dX11_rounds_28 ?_
            refine lv_ifnonnullN hx hb dX11_rounds_31 ?_
            refine lv_bipush (v := (-103)) hx hb dX11_rounds_34 (by decide) ?_
            refine W.widen (k := 0) (n := 0) (by decide) (by decide) ?_
            exact wk_iret () hx hb hr hlocks (if_pos (by omega)).symm hK hP hD hS [0] rfl rfl dX11_rounds_36
          · have k_5 : ¬ d.toInt ≤ 2 := wk_nle c_5
            refine lv_bipush (v := (-102)) hx hb dX11_rounds_24 (by decide) ?_
            refine W.widen (k := 0) (n := 0) (by decide) (by decide) ?_
            exact wk_iret () hx hb hr hlocks (if_neg (by omega)).symm hK hP hD hS [0] rfl rfl dX11_rounds_26
theorem dX11_image_0 : decode cX11_image 0 = .ok (.aload_n 0, 1) := by decide +kernel
theorem dX11_image_1 : decode cX11_image 1 = .ok (.getfield 71, 3) := by decide +kernel
theorem dX11_image_4 : decode cX11_image 4 = .ok (.ifnonnull 6, 3) := by decide +kernel
theorem dX11_image_7 : decode cX11_image 7 = .ok (.bipush (-103), 2) := by decide +kernel
theorem dX11_image_9 : decode cX11_image 9 = .ok (.ireturn, 1) := by decide +kernel
set_option maxHeartbeats 4000000 in
set_option maxRecDepth 100000 in
theorem c_X11_image (l : Launch) (D : va_G) (cy : ClassId) (x pg wr nw kp wk tr : Nat) : wk_Ci l yX11_image cX11_image 1 (some .int) { frames := 0, cells := 0, slots := 0, locals := 0 } D cy [.ref x] [(x, .inr (11, [.ref pg, .ref wr, .ref nw, .ref kp, .ref wk, .ref tr, .null, .int 0, .int 0, .int 0]))] 0 0 (fun (r : Int32) (u : Unit) => r = (-103)) (fun u => [(x, .inr (11, [.ref pg, .ref wr, .ref nw, .ref kp, .ref wk, .ref tr, .null, .int 0, .int 0, .int 0]))]) := by
  refine wk_mkCi (by decide) (Nat.le_of_ble_eq_true rfl) ?_
  intro p e s m below meth c A ls B hA hK hP hD hS hl
  obtain ⟨hx, hb, hr, hlocks, hml, hown, htb, hin⟩ := B
  have hl : lv_has ls 1 [(0, .ref x)] := hl
  refine lv_aload_n hx hb dX11_image_0 rfl (lv_at hl 0 rfl) ?_
  refine va_get (D := D) (ci := 11) (v := .null) (C := RX11) (T := TX11) (N := 10) hx hb htb inX11 hown hK hP 0 rfl rfl 6 (by decide) (htb _ tw_258) (fun _ h9 => h9) rfl dX11_image_1 ?_
  refine lv_ifnonnullN hx hb dX11_image_4 ?_
  refine lv_bipush (v := (-103)) hx hb dX11_image_7 (by decide) ?_
  refine W.widen (k := 0) (n := 0) (by decide) (by decide) ?_
  exact wk_iret () hx hb hr hlocks rfl hK hP hD hS [0] rfl rfl dX11_image_9
theorem dX11_restore_0 : decode cX11_restore 0 = .ok (.aload_n 0, 1) := by decide +kernel
theorem dX11_restore_1 : decode cX11_restore 1 = .ok (.getfield 246, 3) := by decide +kernel
theorem dX11_restore_4 : decode cX11_restore 4 = .ok (.ifCond .eq 14, 3) := by decide +kernel
theorem dX11_restore_18 : decode cX11_restore 18 = .ok (.bipush (-103), 2) := by decide +kernel
theorem dX11_restore_20 : decode cX11_restore 20 = .ok (.ireturn, 1) := by decide +kernel
set_option maxHeartbeats 4000000 in
set_option maxRecDepth 100000 in
theorem c_X11_restore (l : Launch) (D : va_G) (cy : ClassId) (x pg wr nw kp wk tr : Nat) : wk_Ci l yX11_restore cX11_restore 1 (some .int) { frames := 0, cells := 0, slots := 0, locals := 0 } D cy [.ref x] [(x, .inr (11, [.ref pg, .ref wr, .ref nw, .ref kp, .ref wk, .ref tr, .null, .int 0, .int 0, .int 0]))] 0 0 (fun (r : Int32) (u : Unit) => r = (-103)) (fun u => [(x, .inr (11, [.ref pg, .ref wr, .ref nw, .ref kp, .ref wk, .ref tr, .null, .int 0, .int 0, .int 0]))]) := by
  refine wk_mkCi (by decide) (Nat.le_of_ble_eq_true rfl) ?_
  intro p e s m below meth c A ls B hA hK hP hD hS hl
  obtain ⟨hx, hb, hr, hlocks, hml, hown, htb, hin⟩ := B
  have hl : lv_has ls 1 [(0, .ref x)] := hl
  refine lv_aload_n hx hb dX11_restore_0 rfl (lv_at hl 0 rfl) ?_
  refine va_get (D := D) (ci := 11) (v := .int 0) (C := RX11) (T := TX11) (N := 10) hx hb htb inX11 hown hK hP 0 rfl rfl 8 (by decide) (htb _ tw_260) (fun _ h9 => h9) rfl dX11_restore_1 ?_
  refine lv_if_eq (tgt := 18) hx hb dX11_restore_4 (by decide) (fun _ => ?_) (fun c_1 => absurd (by decide) c_1)
  refine lv_bipush (v := (-103)) hx hb dX11_restore_18 (by decide) ?_
  refine W.widen (k := 0) (n := 0) (by decide) (by decide) ?_
  exact wk_iret () hx hb hr hlocks rfl hK hP hD hS [0] rfl rfl dX11_restore_20
theorem dX11_count_0 : decode cX11_count 0 = .ok (.iload_n 1, 1) := by decide +kernel
theorem dX11_count_1 : decode cX11_count 1 = .ok (.tableswitch 209 0 12 #[67, 78, 99, 120, 134, 145, 156, 164, 172, 180, 191, 199, 204], 67) := by decide +kernel
theorem dX11_count_68 : decode cX11_count 68 = .ok (.aload_n 0, 1) := by decide +kernel
theorem dX11_count_69 : decode cX11_count 69 = .ok (.getfield 22, 3) := by decide +kernel
theorem dX11_count_72 : decode cX11_count 72 = .ok (.getfield 77, 3) := by decide +kernel
theorem dX11_count_75 : decode cX11_count 75 = .ok (.getfield 91, 3) := by decide +kernel
theorem dX11_count_78 : decode cX11_count 78 = .ok (.ireturn, 1) := by decide +kernel
theorem dX11_count_79 : decode cX11_count 79 = .ok (.aload_n 0, 1) := by decide +kernel
theorem dX11_count_80 : decode cX11_count 80 = .ok (.getfield 22, 3) := by decide +kernel
theorem dX11_count_83 : decode cX11_count 83 = .ok (.getfield 77, 3) := by decide +kernel
theorem dX11_count_86 : decode cX11_count 86 = .ok (.aload_n 0, 1) := by decide +kernel
theorem dX11_count_87 : decode cX11_count 87 = .ok (.getfield 22, 3) := by decide +kernel
theorem dX11_count_90 : decode cX11_count 90 = .ok (.getfield 77, 3) := by decide +kernel
theorem dX11_count_93 : decode cX11_count 93 = .ok (.getfield 111, 3) := by decide +kernel
theorem dX11_count_96 : decode cX11_count 96 = .ok (.invokevirtual 252, 3) := by decide +kernel
theorem dX11_count_99 : decode cX11_count 99 = .ok (.ireturn, 1) := by decide +kernel
theorem dX11_count_100 : decode cX11_count 100 = .ok (.aload_n 0, 1) := by decide +kernel
theorem dX11_count_101 : decode cX11_count 101 = .ok (.getfield 22, 3) := by decide +kernel
theorem dX11_count_104 : decode cX11_count 104 = .ok (.getfield 77, 3) := by decide +kernel
theorem dX11_count_107 : decode cX11_count 107 = .ok (.aload_n 0, 1) := by decide +kernel
theorem dX11_count_108 : decode cX11_count 108 = .ok (.getfield 22, 3) := by decide +kernel
theorem dX11_count_111 : decode cX11_count 111 = .ok (.getfield 77, 3) := by decide +kernel
theorem dX11_count_114 : decode cX11_count 114 = .ok (.getfield 111, 3) := by decide +kernel
theorem dX11_count_117 : decode cX11_count 117 = .ok (.invokevirtual 256, 3) := by decide +kernel
theorem dX11_count_120 : decode cX11_count 120 = .ok (.ireturn, 1) := by decide +kernel
theorem dX11_count_121 : decode cX11_count 121 = .ok (.aload_n 0, 1) := by decide +kernel
theorem dX11_count_122 : decode cX11_count 122 = .ok (.getfield 22, 3) := by decide +kernel
theorem dX11_count_125 : decode cX11_count 125 = .ok (.getfield 77, 3) := by decide +kernel
theorem dX11_count_128 : decode cX11_count 128 = .ok (.iconst 0, 1) := by decide +kernel
theorem dX11_count_129 : decode cX11_count 129 = .ok (.bipush 99, 2) := by decide +kernel
theorem dX11_count_131 : decode cX11_count 131 = .ok (.invokevirtual 166, 3) := by decide +kernel
theorem dX11_count_134 : decode cX11_count 134 = .ok (.ireturn, 1) := by decide +kernel
theorem dX11_count_135 : decode cX11_count 135 = .ok (.aload_n 0, 1) := by decide +kernel
theorem dX11_count_136 : decode cX11_count 136 = .ok (.getfield 22, 3) := by decide +kernel
theorem dX11_count_139 : decode cX11_count 139 = .ok (.getfield 77, 3) := by decide +kernel
theorem dX11_count_142 : decode cX11_count 142 = .ok (.invokevirtual 259, 3) := by decide +kernel
theorem dX11_count_145 : decode cX11_count 145 = .ok (.ireturn, 1) := by decide +kernel
theorem dX11_count_146 : decode cX11_count 146 = .ok (.aload_n 0, 1) := by decide +kernel
theorem dX11_count_147 : decode cX11_count 147 = .ok (.getfield 22, 3) := by decide +kernel
theorem dX11_count_150 : decode cX11_count 150 = .ok (.getfield 192, 3) := by decide +kernel
theorem dX11_count_153 : decode cX11_count 153 = .ok (.getfield 91, 3) := by decide +kernel
theorem dX11_count_156 : decode cX11_count 156 = .ok (.ireturn, 1) := by decide +kernel
theorem dX11_count_157 : decode cX11_count 157 = .ok (.aload_n 0, 1) := by decide +kernel
theorem dX11_count_158 : decode cX11_count 158 = .ok (.getfield 22, 3) := by decide +kernel
theorem dX11_count_161 : decode cX11_count 161 = .ok (.getfield 169, 3) := by decide +kernel
theorem dX11_count_164 : decode cX11_count 164 = .ok (.ireturn, 1) := by decide +kernel
theorem dX11_count_165 : decode cX11_count 165 = .ok (.aload_n 0, 1) := by decide +kernel
theorem dX11_count_166 : decode cX11_count 166 = .ok (.getfield 22, 3) := by decide +kernel
theorem dX11_count_169 : decode cX11_count 169 = .ok (.getfield 172, 3) := by decide +kernel
theorem dX11_count_172 : decode cX11_count 172 = .ok (.ireturn, 1) := by decide +kernel
theorem dX11_count_173 : decode cX11_count 173 = .ok (.aload_n 0, 1) := by decide +kernel
theorem dX11_count_174 : decode cX11_count 174 = .ok (.getfield 22, 3) := by decide +kernel
theorem dX11_count_177 : decode cX11_count 177 = .ok (.getfield 249, 3) := by decide +kernel
theorem dX11_count_180 : decode cX11_count 180 = .ok (.ireturn, 1) := by decide +kernel
theorem dX11_count_181 : decode cX11_count 181 = .ok (.aload_n 0, 1) := by decide +kernel
theorem dX11_count_182 : decode cX11_count 182 = .ok (.getfield 22, 3) := by decide +kernel
theorem dX11_count_185 : decode cX11_count 185 = .ok (.getfield 123, 3) := by decide +kernel
theorem dX11_count_188 : decode cX11_count 188 = .ok (.getfield 231, 3) := by decide +kernel
theorem dX11_count_191 : decode cX11_count 191 = .ok (.ireturn, 1) := by decide +kernel
theorem dX11_count_192 : decode cX11_count 192 = .ok (.aload_n 0, 1) := by decide +kernel
theorem dX11_count_193 : decode cX11_count 193 = .ok (.getfield 10, 3) := by decide +kernel
theorem dX11_count_196 : decode cX11_count 196 = .ok (.getfield 43, 3) := by decide +kernel
theorem dX11_count_199 : decode cX11_count 199 = .ok (.ireturn, 1) := by decide +kernel
theorem dX11_count_200 : decode cX11_count 200 = .ok (.aload_n 0, 1) := by decide +kernel
theorem dX11_count_201 : decode cX11_count 201 = .ok (.getfield 88, 3) := by decide +kernel
theorem dX11_count_204 : decode cX11_count 204 = .ok (.ireturn, 1) := by decide +kernel
theorem dX11_count_205 : decode cX11_count 205 = .ok (.aload_n 0, 1) := by decide +kernel
theorem dX11_count_206 : decode cX11_count 206 = .ok (.getfield 206, 3) := by decide +kernel
theorem dX11_count_209 : decode cX11_count 209 = .ok (.ireturn, 1) := by decide +kernel
theorem dX11_count_210 : decode cX11_count 210 = .ok (.bipush (-102), 2) := by decide +kernel
theorem dX11_count_212 : decode cX11_count 212 = .ok (.ireturn, 1) := by decide +kernel
set_option maxHeartbeats 4000000 in
set_option maxRecDepth 100000 in
theorem c_X11_count (l : Launch) (D : va_G) (cy : ClassId) (x pg wr nw kp wk tr pgc nwf nws nwe nwfk nwfv nwfh nwft nwsk nwsv nwsh nwst nwea nweb nwec : Nat) (a : Int32) : wk_Ci l yX11_count cX11_count 2 (some .int) { frames := 1, cells := 0, slots := 0, locals := 24 } D cy [.ref x, .int a] [(x, .inr (11, [.ref pg, .ref wr, .ref nw, .ref kp, .ref wk, .ref tr, .null, .int 0, .int 0, .int 0])), (pg, .inr (6, [.ref pgc, .int 0])), (nw, .inr (2, [.ref nwf, .ref nws, .ref nwe, .int 0, .int 0, .int 0])), (nwf, .inr (8, [.ref nwfk, .ref nwfv, .ref nwfh, .ref nwft, .int 0])), (nws, .inr (8, [.ref nwsk, .ref nwsv, .ref nwsh, .ref nwst, .int 0])), (nwe, .inr (4, [.ref nwea, .ref nweb, .ref nwec, .int 0]))] 0 0 (fun (r : Int32) (u : Unit) => r = if (0 ≤ (a : Int32).toInt ∧ (a : Int32).toInt ≤ 12) then 0 else (-102)) (fun u => [(x, .inr (11, [.ref pg, .ref wr, .ref nw, .ref kp, .ref wk, .ref tr, .null, .int 0, .int 0, .int 0])), (pg, .inr (6, [.ref pgc, .int 0])), (nw, .inr (2, [.ref nwf, .ref nws, .ref nwe, .int 0, .int 0, .int 0])), (nwf, .inr (8, [.ref nwfk, .ref nwfv, .ref nwfh, .ref nwft, .int 0])), (nws, .inr (8, [.ref nwsk, .ref nwsv, .ref nwsh, .ref nwst, .int 0])), (nwe, .inr (4, [.ref nwea, .ref nweb, .ref nwec, .int 0]))]) := by
  refine wk_mkCi (by decide) (Nat.le_of_ble_eq_true rfl) ?_
  intro p e s m below meth c A ls B hA hK hP hD hS hl
  obtain ⟨hx, hb, hr, hlocks, hml, hown, htb, hin⟩ := B
  have hl : lv_has ls 2 [(0, .ref x), (1, .int a)] := hl
  refine lv_iload_n hx hb dX11_count_0 rfl (lv_at hl 1 rfl) ?_
  rcases wk_sw12 a with c_1 | rfl | rfl | rfl | rfl | rfl | rfl | rfl | rfl | rfl | rfl | rfl | rfl | rfl
  · have k_1 := c_1
    refine lv_tableOut (tgt := 210) hx hb dX11_count_1 c_1 (by decide) ?_
    refine lv_bipush (v := (-102)) hx hb dX11_count_210 (by decide) ?_
    refine W.widen (k := 0) (n := 0) (by decide) (by decide) ?_
    exact wk_iret () hx hb hr hlocks (if_neg (by omega)).symm hK hP hD hS [0, 1, 2, 3, 4, 5] rfl rfl dX11_count_212
  · refine lv_tableIn (off := 67) (tgt := 68) hx hb dX11_count_1 (by decide) (by decide) (by decide) (by decide) ?_
    have hl : lv_has ls 2 [(0, .ref x), (1, .int 0)] := hl
    refine lv_aload_n hx hb dX11_count_68 rfl (lv_at hl 0 rfl) ?_
    refine va_get (D := D) (ci := 11) (v := .ref nw) (C := RX11) (T := TX11) (N := 10) hx hb htb inX11 hown hK hP 0 rfl rfl 2 (by decide) (htb _ tw_254) (fun _ h9 => h9) rfl dX11_count_69 ?_
    refine va_get (D := D) (ci := 2) (v := .ref nwf) (C := RX2) (T := TX2) (N := 6) hx hb htb inX2 hown hK hP 2 rfl rfl 0 (by decide) (htb _ tw_171) (fun _ h9 => h9) rfl dX11_count_72 ?_
    refine va_get (D := D) (ci := 8) (v := .int 0) (C := RX8) (T := TX8) (N := 5) hx hb htb inX8 hown hK hP 3 rfl rfl 4 (by decide) (htb _ tw_134) (fun _ h9 => h9) rfl dX11_count_75 ?_
    refine W.widen (k := 0) (n := 0) (by decide) (by decide) ?_
    exact wk_iret () hx hb hr hlocks (by decide) hK hP hD hS [0, 1, 2, 3, 4, 5] rfl rfl dX11_count_78
  · refine lv_tableIn (off := 78) (tgt := 79) hx hb dX11_count_1 (by decide) (by decide) (by decide) (by decide) ?_
    have hl : lv_has ls 2 [(0, .ref x), (1, .int 1)] := hl
    refine lv_aload_n hx hb dX11_count_79 rfl (lv_at hl 0 rfl) ?_
    refine va_get (D := D) (ci := 11) (v := .ref nw) (C := RX11) (T := TX11) (N := 10) hx hb htb inX11 hown hK hP 0 rfl rfl 2 (by decide) (htb _ tw_254) (fun _ h9 => h9) rfl dX11_count_80 ?_
    refine va_get (D := D) (ci := 2) (v := .ref nwf) (C := RX2) (T := TX2) (N := 6) hx hb htb inX2 hown hK hP 2 rfl rfl 0 (by decide) (htb _ tw_171) (fun _ h9 => h9) rfl dX11_count_83 ?_
    refine lv_aload_n hx hb dX11_count_86 rfl (lv_at hl 0 rfl) ?_
    refine va_get (D := D) (ci := 11) (v := .ref nw) (C := RX11) (T := TX11) (N := 10) hx hb htb inX11 hown hK hP 0 rfl rfl 2 (by decide) (htb _ tw_254) (fun _ h9 => h9) rfl dX11_count_87 ?_
    refine va_get (D := D) (ci := 2) (v := .ref nwf) (C := RX2) (T := TX2) (N := 6) hx hb htb inX2 hown hK hP 2 rfl rfl 0 (by decide) (htb _ tw_171) (fun _ h9 => h9) rfl dX11_count_90 ?_
    refine va_get (D := D) (ci := 8) (v := .ref nwfh) (C := RX8) (T := TX8) (N := 5) hx hb htb inX8 hown hK hP 3 rfl rfl 2 (by decide) (htb _ tw_125) (fun _ h9 => h9) rfl dX11_count_93 ?_
    refine wk_iV (As := [.ref nwfh]) (rest := []) (wc := [(nwf, .inr (8, [.ref nwfk, .ref nwfv, .ref nwfh, .ref nwft, .int 0]))]) (wr := [(x, .inr (11, [.ref pg, .ref wr, .ref nw, .ref kp, .ref wk, .ref tr, .null, .int 0, .int 0, .int 0])), (pg, .inr (6, [.ref pgc, .int 0])), (nw, .inr (2, [.ref nwf, .ref nws, .ref nwe, .int 0, .int 0, .int 0])), (nws, .inr (8, [.ref nwsk, .ref nwsv, .ref nwsh, .ref nwst, .int 0])), (nwe, .inr (4, [.ref nwea, .ref nweb, .ref nwec, .int 0]))]) (n := 1) (R := _) ⟨hx, hb, hml, hown, htb⟩ (c_X8_highestOf l D cy nwf nwfk nwfv nwfh nwft  ) tw_493 tw_725 tw_491 tw_492 tw_67 rfl rfl (by decide +kernel) ⟨Nat.le_of_ble_eq_true rfl, Nat.le_of_ble_eq_true rfl⟩ hK hP hD hS hA [3] [0, 1, 2, 4, 5] rfl rfl rfl rfl (by decide) 0 (ci := 8) rfl rfl rfl hl.1 rfl (Nat.le_of_ble_eq_true rfl) dX11_count_96 ⟨Nat.le_of_ble_eq_true rfl, Nat.le_of_ble_eq_true rfl⟩ (fun r_2 u_3 H locs hw_4 hP hD hS => ?_)
    refine W.widen (k := 0) (n := 0) (by decide) (by decide) ?_
    have hw_4 : r_2 = 0 := hw_4
    subst hw_4
    have hP : va_P D classes [(x, .inr (11, [.ref pg, .ref wr, .ref nw, .ref kp, .ref wk, .ref tr, .null, .int 0, .int 0, .int 0])), (pg, .inr (6, [.ref pgc, .int 0])), (nw, .inr (2, [.ref nwf, .ref nws, .ref nwe, .int 0, .int 0, .int 0])), (nws, .inr (8, [.ref nwsk, .ref nwsv, .ref nwsh, .ref nwst, .int 0])), (nwe, .inr (4, [.ref nwea, .ref nweb, .ref nwec, .int 0])), (nwf, .inr (8, [.ref nwfk, .ref nwfv, .ref nwfh, .ref nwft, .int 0]))] H := hP
    have hD : va_D A [(x, .inr (11, [.ref pg, .ref wr, .ref nw, .ref kp, .ref wk, .ref tr, .null, .int 0, .int 0, .int 0])), (pg, .inr (6, [.ref pgc, .int 0])), (nw, .inr (2, [.ref nwf, .ref nws, .ref nwe, .int 0, .int 0, .int 0])), (nws, .inr (8, [.ref nwsk, .ref nwsv, .ref nwsh, .ref nwst, .int 0])), (nwe, .inr (4, [.ref nwea, .ref nweb, .ref nwec, .int 0])), (nwf, .inr (8, [.ref nwfk, .ref nwfv, .ref nwfh, .ref nwft, .int 0]))] := hD
    refine W.widen (k := 0) (n := 0) (by decide) (by decide) ?_
    exact wk_iret () hx hb hr hlocks (by decide) hK hP hD hS [0, 1, 2, 5, 3, 4] rfl rfl dX11_count_99
  · refine lv_tableIn (off := 99) (tgt := 100) hx hb dX11_count_1 (by decide) (by decide) (by decide) (by decide) ?_
    have hl : lv_has ls 2 [(0, .ref x), (1, .int 2)] := hl
    refine lv_aload_n hx hb dX11_count_100 rfl (lv_at hl 0 rfl) ?_
    refine va_get (D := D) (ci := 11) (v := .ref nw) (C := RX11) (T := TX11) (N := 10) hx hb htb inX11 hown hK hP 0 rfl rfl 2 (by decide) (htb _ tw_254) (fun _ h9 => h9) rfl dX11_count_101 ?_
    refine va_get (D := D) (ci := 2) (v := .ref nwf) (C := RX2) (T := TX2) (N := 6) hx hb htb inX2 hown hK hP 2 rfl rfl 0 (by decide) (htb _ tw_171) (fun _ h9 => h9) rfl dX11_count_104 ?_
    refine lv_aload_n hx hb dX11_count_107 rfl (lv_at hl 0 rfl) ?_
    refine va_get (D := D) (ci := 11) (v := .ref nw) (C := RX11) (T := TX11) (N := 10) hx hb htb inX11 hown hK hP 0 rfl rfl 2 (by decide) (htb _ tw_254) (fun _ h9 => h9) rfl dX11_count_108 ?_
    refine va_get (D := D) (ci := 2) (v := .ref nwf) (C := RX2) (T := TX2) (N := 6) hx hb htb inX2 hown hK hP 2 rfl rfl 0 (by decide) (htb _ tw_171) (fun _ h9 => h9) rfl dX11_count_111 ?_
    refine va_get (D := D) (ci := 8) (v := .ref nwfh) (C := RX8) (T := TX8) (N := 5) hx hb htb inX8 hown hK hP 3 rfl rfl 2 (by decide) (htb _ tw_125) (fun _ h9 => h9) rfl dX11_count_114 ?_
    refine wk_iV (As := [.ref nwfh]) (rest := []) (wc := [(nwf, .inr (8, [.ref nwfk, .ref nwfv, .ref nwfh, .ref nwft, .int 0]))]) (wr := [(x, .inr (11, [.ref pg, .ref wr, .ref nw, .ref kp, .ref wk, .ref tr, .null, .int 0, .int 0, .int 0])), (pg, .inr (6, [.ref pgc, .int 0])), (nw, .inr (2, [.ref nwf, .ref nws, .ref nwe, .int 0, .int 0, .int 0])), (nws, .inr (8, [.ref nwsk, .ref nwsv, .ref nwsh, .ref nwst, .int 0])), (nwe, .inr (4, [.ref nwea, .ref nweb, .ref nwec, .int 0]))]) (n := 1) (R := _) ⟨hx, hb, hml, hown, htb⟩ (c_X8_linksOf l D cy nwf nwfk nwfv nwfh nwft  ) tw_649 tw_726 tw_647 tw_648 tw_67 rfl rfl (by decide +kernel) ⟨Nat.le_of_ble_eq_true rfl, Nat.le_of_ble_eq_true rfl⟩ hK hP hD hS hA [3] [0, 1, 2, 4, 5] rfl rfl rfl rfl (by decide) 0 (ci := 8) rfl rfl rfl hl.1 rfl (Nat.le_of_ble_eq_true rfl) dX11_count_117 ⟨Nat.le_of_ble_eq_true rfl, Nat.le_of_ble_eq_true rfl⟩ (fun r_5 u_6 H locs hw_7 hP hD hS => ?_)
    refine W.widen (k := 0) (n := 0) (by decide) (by decide) ?_
    have hw_7 : r_5 = 0 := hw_7
    subst hw_7
    have hP : va_P D classes [(x, .inr (11, [.ref pg, .ref wr, .ref nw, .ref kp, .ref wk, .ref tr, .null, .int 0, .int 0, .int 0])), (pg, .inr (6, [.ref pgc, .int 0])), (nw, .inr (2, [.ref nwf, .ref nws, .ref nwe, .int 0, .int 0, .int 0])), (nws, .inr (8, [.ref nwsk, .ref nwsv, .ref nwsh, .ref nwst, .int 0])), (nwe, .inr (4, [.ref nwea, .ref nweb, .ref nwec, .int 0])), (nwf, .inr (8, [.ref nwfk, .ref nwfv, .ref nwfh, .ref nwft, .int 0]))] H := hP
    have hD : va_D A [(x, .inr (11, [.ref pg, .ref wr, .ref nw, .ref kp, .ref wk, .ref tr, .null, .int 0, .int 0, .int 0])), (pg, .inr (6, [.ref pgc, .int 0])), (nw, .inr (2, [.ref nwf, .ref nws, .ref nwe, .int 0, .int 0, .int 0])), (nws, .inr (8, [.ref nwsk, .ref nwsv, .ref nwsh, .ref nwst, .int 0])), (nwe, .inr (4, [.ref nwea, .ref nweb, .ref nwec, .int 0])), (nwf, .inr (8, [.ref nwfk, .ref nwfv, .ref nwfh, .ref nwft, .int 0]))] := hD
    refine W.widen (k := 0) (n := 0) (by decide) (by decide) ?_
    exact wk_iret () hx hb hr hlocks (by decide) hK hP hD hS [0, 1, 2, 5, 3, 4] rfl rfl dX11_count_120
  · refine lv_tableIn (off := 120) (tgt := 121) hx hb dX11_count_1 (by decide) (by decide) (by decide) (by decide) ?_
    have hl : lv_has ls 2 [(0, .ref x), (1, .int 3)] := hl
    refine lv_aload_n hx hb dX11_count_121 rfl (lv_at hl 0 rfl) ?_
    refine va_get (D := D) (ci := 11) (v := .ref nw) (C := RX11) (T := TX11) (N := 10) hx hb htb inX11 hown hK hP 0 rfl rfl 2 (by decide) (htb _ tw_254) (fun _ h9 => h9) rfl dX11_count_122 ?_
    refine va_get (D := D) (ci := 2) (v := .ref nwf) (C := RX2) (T := TX2) (N := 6) hx hb htb inX2 hown hK hP 2 rfl rfl 0 (by decide) (htb _ tw_171) (fun _ h9 => h9) rfl dX11_count_125 ?_
    refine lv_iconst (v := 0) hx hb dX11_count_128 (by decide) ?_
    refine lv_bipush (v := 99) hx hb dX11_count_129 (by decide) ?_
    refine wk_iV (As := [.int 0, .int 99]) (rest := []) (wc := [(nwf, .inr (8, [.ref nwfk, .ref nwfv, .ref nwfh, .ref nwft, .int 0]))]) (wr := [(x, .inr (11, [.ref pg, .ref wr, .ref nw, .ref kp, .ref wk, .ref tr, .null, .int 0, .int 0, .int 0])), (pg, .inr (6, [.ref pgc, .int 0])), (nw, .inr (2, [.ref nwf, .ref nws, .ref nwe, .int 0, .int 0, .int 0])), (nws, .inr (8, [.ref nwsk, .ref nwsv, .ref nwsh, .ref nwst, .int 0])), (nwe, .inr (4, [.ref nwea, .ref nweb, .ref nwec, .int 0]))]) (n := 2) (R := _) ⟨hx, hb, hml, hown, htb⟩ (c_X8_valuesBetween l D cy nwf nwfk nwfv nwfh nwft 0 99 ) tw_579 tw_576 tw_577 tw_578 tw_67 rfl rfl (by decide +kernel) ⟨Nat.le_of_ble_eq_true rfl, Nat.le_of_ble_eq_true rfl⟩ hK hP hD hS hA [3] [0, 1, 2, 4, 5] rfl rfl rfl rfl (by decide) 0 (ci := 8) rfl rfl rfl hl.1 rfl (Nat.le_of_ble_eq_true rfl) dX11_count_131 ⟨Nat.le_of_ble_eq_true rfl, Nat.le_of_ble_eq_true rfl⟩ (fun r_8 u_9 H locs hw_10 hP hD hS => ?_)
    refine W.widen (k := 0) (n := 0) (by decide) (by decide) ?_
    have hw_10 : r_8 = 0 := hw_10
    subst hw_10
    have hP : va_P D classes [(x, .inr (11, [.ref pg, .ref wr, .ref nw, .ref kp, .ref wk, .ref tr, .null, .int 0, .int 0, .int 0])), (pg, .inr (6, [.ref pgc, .int 0])), (nw, .inr (2, [.ref nwf, .ref nws, .ref nwe, .int 0, .int 0, .int 0])), (nws, .inr (8, [.ref nwsk, .ref nwsv, .ref nwsh, .ref nwst, .int 0])), (nwe, .inr (4, [.ref nwea, .ref nweb, .ref nwec, .int 0])), (nwf, .inr (8, [.ref nwfk, .ref nwfv, .ref nwfh, .ref nwft, .int 0]))] H := hP
    have hD : va_D A [(x, .inr (11, [.ref pg, .ref wr, .ref nw, .ref kp, .ref wk, .ref tr, .null, .int 0, .int 0, .int 0])), (pg, .inr (6, [.ref pgc, .int 0])), (nw, .inr (2, [.ref nwf, .ref nws, .ref nwe, .int 0, .int 0, .int 0])), (nws, .inr (8, [.ref nwsk, .ref nwsv, .ref nwsh, .ref nwst, .int 0])), (nwe, .inr (4, [.ref nwea, .ref nweb, .ref nwec, .int 0])), (nwf, .inr (8, [.ref nwfk, .ref nwfv, .ref nwfh, .ref nwft, .int 0]))] := hD
    refine W.widen (k := 0) (n := 0) (by decide) (by decide) ?_
    exact wk_iret () hx hb hr hlocks (by decide) hK hP hD hS [0, 1, 2, 5, 3, 4] rfl rfl dX11_count_134
  · refine lv_tableIn (off := 134) (tgt := 135) hx hb dX11_count_1 (by decide) (by decide) (by decide) (by decide) ?_
    have hl : lv_has ls 2 [(0, .ref x), (1, .int 4)] := hl
    refine lv_aload_n hx hb dX11_count_135 rfl (lv_at hl 0 rfl) ?_
    refine va_get (D := D) (ci := 11) (v := .ref nw) (C := RX11) (T := TX11) (N := 10) hx hb htb inX11 hown hK hP 0 rfl rfl 2 (by decide) (htb _ tw_254) (fun _ h9 => h9) rfl dX11_count_136 ?_
    refine va_get (D := D) (ci := 2) (v := .ref nwf) (C := RX2) (T := TX2) (N := 6) hx hb htb inX2 hown hK hP 2 rfl rfl 0 (by decide) (htb _ tw_171) (fun _ h9 => h9) rfl dX11_count_139 ?_
    refine wk_iV (As := []) (rest := []) (wc := [(nwf, .inr (8, [.ref nwfk, .ref nwfv, .ref nwfh, .ref nwft, .int 0]))]) (wr := [(x, .inr (11, [.ref pg, .ref wr, .ref nw, .ref kp, .ref wk, .ref tr, .null, .int 0, .int 0, .int 0])), (pg, .inr (6, [.ref pgc, .int 0])), (nw, .inr (2, [.ref nwf, .ref nws, .ref nwe, .int 0, .int 0, .int 0])), (nws, .inr (8, [.ref nwsk, .ref nwsv, .ref nwsh, .ref nwst, .int 0])), (nwe, .inr (4, [.ref nwea, .ref nweb, .ref nwec, .int 0]))]) (n := 0) (R := _) ⟨hx, hb, hml, hown, htb⟩ (c_X8_allHeat l D cy nwf nwfk nwfv nwfh nwft  ) tw_730 tw_727 tw_728 tw_729 tw_67 rfl rfl (by decide +kernel) ⟨Nat.le_of_ble_eq_true rfl, Nat.le_of_ble_eq_true rfl⟩ hK hP hD hS hA [3] [0, 1, 2, 4, 5] rfl rfl rfl rfl (by decide) 0 (ci := 8) rfl rfl rfl hl.1 rfl (Nat.le_of_ble_eq_true rfl) dX11_count_142 ⟨Nat.le_of_ble_eq_true rfl, Nat.le_of_ble_eq_true rfl⟩ (fun r_11 u_12 H locs hw_13 hP hD hS => ?_)
    refine W.widen (k := 0) (n := 0) (by decide) (by decide) ?_
    have hw_13 : r_11 = 0 := hw_13
    subst hw_13
    have hP : va_P D classes [(x, .inr (11, [.ref pg, .ref wr, .ref nw, .ref kp, .ref wk, .ref tr, .null, .int 0, .int 0, .int 0])), (pg, .inr (6, [.ref pgc, .int 0])), (nw, .inr (2, [.ref nwf, .ref nws, .ref nwe, .int 0, .int 0, .int 0])), (nws, .inr (8, [.ref nwsk, .ref nwsv, .ref nwsh, .ref nwst, .int 0])), (nwe, .inr (4, [.ref nwea, .ref nweb, .ref nwec, .int 0])), (nwf, .inr (8, [.ref nwfk, .ref nwfv, .ref nwfh, .ref nwft, .int 0]))] H := hP
    have hD : va_D A [(x, .inr (11, [.ref pg, .ref wr, .ref nw, .ref kp, .ref wk, .ref tr, .null, .int 0, .int 0, .int 0])), (pg, .inr (6, [.ref pgc, .int 0])), (nw, .inr (2, [.ref nwf, .ref nws, .ref nwe, .int 0, .int 0, .int 0])), (nws, .inr (8, [.ref nwsk, .ref nwsv, .ref nwsh, .ref nwst, .int 0])), (nwe, .inr (4, [.ref nwea, .ref nweb, .ref nwec, .int 0])), (nwf, .inr (8, [.ref nwfk, .ref nwfv, .ref nwfh, .ref nwft, .int 0]))] := hD
    refine W.widen (k := 0) (n := 0) (by decide) (by decide) ?_
    exact wk_iret () hx hb hr hlocks (by decide) hK hP hD hS [0, 1, 2, 5, 3, 4] rfl rfl dX11_count_145
  · refine lv_tableIn (off := 145) (tgt := 146) hx hb dX11_count_1 (by decide) (by decide) (by decide) (by decide) ?_
    have hl : lv_has ls 2 [(0, .ref x), (1, .int 5)] := hl
    refine lv_aload_n hx hb dX11_count_146 rfl (lv_at hl 0 rfl) ?_
    refine va_get (D := D) (ci := 11) (v := .ref nw) (C := RX11) (T := TX11) (N := 10) hx hb htb inX11 hown hK hP 0 rfl rfl 2 (by decide) (htb _ tw_254) (fun _ h9 => h9) rfl dX11_count_147 ?_
    refine va_get (D := D) (ci := 2) (v := .ref nws) (C := RX2) (T := TX2) (N := 6) hx hb htb inX2 hown hK hP 2 rfl rfl 1 (by decide) (htb _ tw_173) (fun _ h9 => h9) rfl dX11_count_150 ?_
    refine va_get (D := D) (ci := 8) (v := .int 0) (C := RX8) (T := TX8) (N := 5) hx hb htb inX8 hown hK hP 4 rfl rfl 4 (by decide) (htb _ tw_134) (fun _ h9 => h9) rfl dX11_count_153 ?_
    refine W.widen (k := 0) (n := 0) (by decide) (by decide) ?_
    exact wk_iret () hx hb hr hlocks (by decide) hK hP hD hS [0, 1, 2, 3, 4, 5] rfl rfl dX11_count_156
  · refine lv_tableIn (off := 156) (tgt := 157) hx hb dX11_count_1 (by decide) (by decide) (by decide) (by decide) ?_
    have hl : lv_has ls 2 [(0, .ref x), (1, .int 6)] := hl
    refine lv_aload_n hx hb dX11_count_157 rfl (lv_at hl 0 rfl) ?_
    refine va_get (D := D) (ci := 11) (v := .ref nw) (C := RX11) (T := TX11) (N := 10) hx hb htb inX11 hown hK hP 0 rfl rfl 2 (by decide) (htb _ tw_254) (fun _ h9 => h9) rfl dX11_count_158 ?_
    refine va_get (D := D) (ci := 2) (v := .int 0) (C := RX2) (T := TX2) (N := 6) hx hb htb inX2 hown hK hP 2 rfl rfl 3 (by decide) (htb _ tw_177) (fun _ h9 => h9) rfl dX11_count_161 ?_
    refine W.widen (k := 0) (n := 0) (by decide) (by decide) ?_
    exact wk_iret () hx hb hr hlocks (by decide) hK hP hD hS [0, 1, 2, 3, 4, 5] rfl rfl dX11_count_164
  · refine lv_tableIn (off := 164) (tgt := 165) hx hb dX11_count_1 (by decide) (by decide) (by decide) (by decide) ?_
    have hl : lv_has ls 2 [(0, .ref x), (1, .int 7)] := hl
    refine lv_aload_n hx hb dX11_count_165 rfl (lv_at hl 0 rfl) ?_
    refine va_get (D := D) (ci := 11) (v := .ref nw) (C := RX11) (T := TX11) (N := 10) hx hb htb inX11 hown hK hP 0 rfl rfl 2 (by decide) (htb _ tw_254) (fun _ h9 => h9) rfl dX11_count_166 ?_
    refine va_get (D := D) (ci := 2) (v := .int 0) (C := RX2) (T := TX2) (N := 6) hx hb htb inX2 hown hK hP 2 rfl rfl 4 (by decide) (htb _ tw_179) (fun _ h9 => h9) rfl dX11_count_169 ?_
    refine W.widen (k := 0) (n := 0) (by decide) (by decide) ?_
    exact wk_iret () hx hb hr hlocks (by decide) hK hP hD hS [0, 1, 2, 3, 4, 5] rfl rfl dX11_count_172
  · refine lv_tableIn (off := 172) (tgt := 173) hx hb dX11_count_1 (by decide) (by decide) (by decide) (by decide) ?_
    have hl : lv_has ls 2 [(0, .ref x), (1, .int 8)] := hl
    refine lv_aload_n hx hb dX11_count_173 rfl (lv_at hl 0 rfl) ?_
    refine va_get (D := D) (ci := 11) (v := .ref nw) (C := RX11) (T := TX11) (N := 10) hx hb htb inX11 hown hK hP 0 rfl rfl 2 (by decide) (htb _ tw_254) (fun _ h9 => h9) rfl dX11_count_174 ?_
    refine va_get (D := D) (ci := 2) (v := .int 0) (C := RX2) (T := TX2) (N := 6) hx hb htb inX2 hown hK hP 2 rfl rfl 5 (by decide) (htb _ tw_181) (fun _ h9 => h9) rfl dX11_count_177 ?_
    refine W.widen (k := 0) (n := 0) (by decide) (by decide) ?_
    exact wk_iret () hx hb hr hlocks (by decide) hK hP hD hS [0, 1, 2, 3, 4, 5] rfl rfl dX11_count_180
  · refine lv_tableIn (off := 180) (tgt := 181) hx hb dX11_count_1 (by decide) (by decide) (by decide) (by decide) ?_
    have hl : lv_has ls 2 [(0, .ref x), (1, .int 9)] := hl
    refine lv_aload_n hx hb dX11_count_181 rfl (lv_at hl 0 rfl) ?_
    refine va_get (D := D) (ci := 11) (v := .ref nw) (C := RX11) (T := TX11) (N := 10) hx hb htb inX11 hown hK hP 0 rfl rfl 2 (by decide) (htb _ tw_254) (fun _ h9 => h9) rfl dX11_count_182 ?_
    refine va_get (D := D) (ci := 2) (v := .ref nwe) (C := RX2) (T := TX2) (N := 6) hx hb htb inX2 hown hK hP 2 rfl rfl 2 (by decide) (htb _ tw_175) (fun _ h9 => h9) rfl dX11_count_185 ?_
    refine va_get (D := D) (ci := 4) (v := .int 0) (C := RX4) (T := TX4) (N := 4) hx hb htb inX4 hown hK hP 5 rfl rfl 3 (by decide) (htb _ tw_160) (fun _ h9 => h9) rfl dX11_count_188 ?_
    refine W.widen (k := 0) (n := 0) (by decide) (by decide) ?_
    exact wk_iret () hx hb hr hlocks (by decide) hK hP hD hS [0, 1, 2, 3, 4, 5] rfl rfl dX11_count_191
  · refine lv_tableIn (off := 191) (tgt := 192) hx hb dX11_count_1 (by decide) (by decide) (by decide) (by decide) ?_
    have hl : lv_has ls 2 [(0, .ref x), (1, .int 10)] := hl
    refine lv_aload_n hx hb dX11_count_192 rfl (lv_at hl 0 rfl) ?_
    refine va_get (D := D) (ci := 11) (v := .ref pg) (C := RX11) (T := TX11) (N := 10) hx hb htb inX11 hown hK hP 0 rfl rfl 0 (by decide) (htb _ tw_252) (fun _ h9 => h9) rfl dX11_count_193 ?_
    refine va_get (D := D) (ci := 6) (v := .int 0) (C := RX6) (T := TX6) (N := 2) hx hb htb inX6 hown hK hP 1 rfl rfl 1 (by decide) (htb _ tw_95) (fun _ h9 => h9) rfl dX11_count_196 ?_
    refine W.widen (k := 0) (n := 0) (by decide) (by decide) ?_
    exact wk_iret () hx hb hr hlocks (by decide) hK hP hD hS [0, 1, 2, 3, 4, 5] rfl rfl dX11_count_199
  · refine lv_tableIn (off := 199) (tgt := 200) hx hb dX11_count_1 (by decide) (by decide) (by decide) (by decide) ?_
    have hl : lv_has ls 2 [(0, .ref x), (1, .int 11)] := hl
    refine lv_aload_n hx hb dX11_count_200 rfl (lv_at hl 0 rfl) ?_
    refine va_get (D := D) (ci := 11) (v := .int 0) (C := RX11) (T := TX11) (N := 10) hx hb htb inX11 hown hK hP 0 rfl rfl 7 (by decide) (htb _ tw_259) (fun _ h9 => h9) rfl dX11_count_201 ?_
    refine W.widen (k := 0) (n := 0) (by decide) (by decide) ?_
    exact wk_iret () hx hb hr hlocks (by decide) hK hP hD hS [0, 1, 2, 3, 4, 5] rfl rfl dX11_count_204
  · refine lv_tableIn (off := 204) (tgt := 205) hx hb dX11_count_1 (by decide) (by decide) (by decide) (by decide) ?_
    have hl : lv_has ls 2 [(0, .ref x), (1, .int 12)] := hl
    refine lv_aload_n hx hb dX11_count_205 rfl (lv_at hl 0 rfl) ?_
    refine va_get (D := D) (ci := 11) (v := .int 0) (C := RX11) (T := TX11) (N := 10) hx hb htb inX11 hown hK hP 0 rfl rfl 9 (by decide) (htb _ tw_261) (fun _ h9 => h9) rfl dX11_count_206 ?_
    refine W.widen (k := 0) (n := 0) (by decide) (by decide) ?_
    exact wk_iret () hx hb hr hlocks (by decide) hK hP hD hS [0, 1, 2, 3, 4, 5] rfl rfl dX11_count_209
theorem dX11_digest_0 : decode cX11_digest 0 = .ok (.ldc2_w 262, 3) := by decide +kernel
theorem dX11_digest_3 : decode cX11_digest 3 = .ok (.lstore_n 1, 1) := by decide +kernel
theorem dX11_digest_4 : decode cX11_digest 4 = .ok (.iconst 0, 1) := by decide +kernel
theorem dX11_digest_5 : decode cX11_digest 5 = .ok (.istore_n 3, 1) := by decide +kernel
theorem dX11_digest_6 : decode cX11_digest 6 = .ok (.iload_n 3, 1) := by decide +kernel
theorem dX11_digest_7 : decode cX11_digest 7 = .ok (.aload_n 0, 1) := by decide +kernel
theorem dX11_digest_8 : decode cX11_digest 8 = .ok (.getfield 22, 3) := by decide +kernel
theorem dX11_digest_11 : decode cX11_digest 11 = .ok (.getfield 77, 3) := by decide +kernel
theorem dX11_digest_14 : decode cX11_digest 14 = .ok (.getfield 91, 3) := by decide +kernel
theorem dX11_digest_17 : decode cX11_digest 17 = .ok (.if_icmp .ge 16, 3) := by decide +kernel
theorem dX11_digest_33 : decode cX11_digest 33 = .ok (.aload_n 0, 1) := by decide +kernel
theorem dX11_digest_34 : decode cX11_digest 34 = .ok (.getfield 71, 3) := by decide +kernel
theorem dX11_digest_37 : decode cX11_digest 37 = .ok (.ifnull 13, 3) := by decide +kernel
theorem dX11_digest_50 : decode cX11_digest 50 = .ok (.lload_n 1, 1) := by decide +kernel
theorem dX11_digest_51 : decode cX11_digest 51 = .ok (.aload_n 0, 1) := by decide +kernel
theorem dX11_digest_52 : decode cX11_digest 52 = .ok (.getfield 10, 3) := by decide +kernel
theorem dX11_digest_55 : decode cX11_digest 55 = .ok (.getfield 61, 3) := by decide +kernel
theorem dX11_digest_58 : decode cX11_digest 58 = .ok (.aload_n 0, 1) := by decide +kernel
theorem dX11_digest_59 : decode cX11_digest 59 = .ok (.getfield 10, 3) := by decide +kernel
theorem dX11_digest_62 : decode cX11_digest 62 = .ok (.getfield 43, 3) := by decide +kernel
theorem dX11_digest_65 : decode cX11_digest 65 = .ok (.invokestatic 275, 3) := by decide +kernel
theorem dX11_digest_68 : decode cX11_digest 68 = .ok (.lstore_n 1, 1) := by decide +kernel
theorem dX11_digest_69 : decode cX11_digest 69 = .ok (.iconst 0, 1) := by decide +kernel
theorem dX11_digest_70 : decode cX11_digest 70 = .ok (.istore_n 3, 1) := by decide +kernel
theorem dX11_digest_71 : decode cX11_digest 71 = .ok (.iload_n 3, 1) := by decide +kernel
theorem dX11_digest_72 : decode cX11_digest 72 = .ok (.bipush 12, 2) := by decide +kernel
theorem dX11_digest_74 : decode cX11_digest 74 = .ok (.if_icmp .gt 22, 3) := by decide +kernel
theorem dX11_digest_77 : decode cX11_digest 77 = .ok (.ldc2_w 279, 3) := by decide +kernel
theorem dX11_digest_80 : decode cX11_digest 80 = .ok (.lload_n 1, 1) := by decide +kernel
theorem dX11_digest_81 : decode cX11_digest 81 = .ok (.lmul, 1) := by decide +kernel
theorem dX11_digest_82 : decode cX11_digest 82 = .ok (.aload_n 0, 1) := by decide +kernel
theorem dX11_digest_83 : decode cX11_digest 83 = .ok (.iload_n 3, 1) := by decide +kernel
theorem dX11_digest_84 : decode cX11_digest 84 = .ok (.invokevirtual 281, 3) := by decide +kernel
theorem dX11_digest_87 : decode cX11_digest 87 = .ok (.i2l, 1) := by decide +kernel
theorem dX11_digest_88 : decode cX11_digest 88 = .ok (.ladd, 1) := by decide +kernel
theorem dX11_digest_89 : decode cX11_digest 89 = .ok (.lstore_n 1, 1) := by decide +kernel
theorem dX11_digest_90 : decode cX11_digest 90 = .ok (.iinc 3 1, 3) := by decide +kernel
theorem dX11_digest_93 : decode cX11_digest 93 = .ok (.goto (-22), 3) := by decide +kernel
theorem dX11_digest_96 : decode cX11_digest 96 = .ok (.lload_n 1, 1) := by decide +kernel
theorem dX11_digest_97 : decode cX11_digest 97 = .ok (.lreturn, 1) := by decide +kernel
set_option maxHeartbeats 4000000 in
set_option maxRecDepth 100000 in
theorem c_X11_digest (l : Launch) (D : va_G) (cy : ClassId) (x pg wr nw kp wk tr pgc nwf nws nwe nwfk nwfv nwfh nwft nwsk nwsv nwsh nwst nwea nweb nwec : Nat) : wk_Cl l yX11_digest cX11_digest 4 (some .long) { frames := 2, cells := 0, slots := 0, locals := 45 } D cy [.ref x] [(x, .inr (11, [.ref pg, .ref wr, .ref nw, .ref kp, .ref wk, .ref tr, .null, .int 0, .int 0, .int 0])), (pg, .inr (6, [.ref pgc, .int 0])), (nw, .inr (2, [.ref nwf, .ref nws, .ref nwe, .int 0, .int 0, .int 0])), (nwf, .inr (8, [.ref nwfk, .ref nwfv, .ref nwfh, .ref nwft, .int 0])), (nws, .inr (8, [.ref nwsk, .ref nwsv, .ref nwsh, .ref nwst, .int 0])), (nwe, .inr (4, [.ref nwea, .ref nweb, .ref nwec, .int 0]))] 0 0 (fun (r : Int64) (u : Unit) => r = (-8242179974112640543)) (fun u => [(x, .inr (11, [.ref pg, .ref wr, .ref nw, .ref kp, .ref wk, .ref tr, .null, .int 0, .int 0, .int 0])), (pg, .inr (6, [.ref pgc, .int 0])), (nw, .inr (2, [.ref nwf, .ref nws, .ref nwe, .int 0, .int 0, .int 0])), (nwf, .inr (8, [.ref nwfk, .ref nwfv, .ref nwfh, .ref nwft, .int 0])), (nws, .inr (8, [.ref nwsk, .ref nwsv, .ref nwsh, .ref nwst, .int 0])), (nwe, .inr (4, [.ref nwea, .ref nweb, .ref nwec, .int 0]))]) := by
  refine wk_mkCl (by decide) (Nat.le_of_ble_eq_true rfl) ?_
  intro p e s m below meth c A ls B hA hK hP hD hS hl
  obtain ⟨hx, hb, hr, hlocks, hml, hown, htb, hin⟩ := B
  have hl : lv_has ls 4 [(0, .ref x)] := hl
  refine lv_ldc2 (v := 1151) hx hb hown (htb _ tw_735) dX11_digest_0 ?_
  refine lv_lstore_n (lv' := [(1, .long 1151), (0, .ref x)]) hx hb dX11_digest_3 rfl hl (by decide) rfl (fun ls hl => ?_)
  refine lv_iconst (v := 0) hx hb dX11_digest_4 (by decide) ?_
  refine lv_istore_n (lv' := [(3, .int 0), (1, .long 1151), (0, .ref x)]) hx hb dX11_digest_5 rfl hl (by decide) rfl (fun ls hl => ?_)
  refine lv_iload_n hx hb dX11_digest_6 rfl (lv_at hl 0 rfl) ?_
  refine lv_aload_n hx hb dX11_digest_7 rfl (lv_at hl 2 rfl) ?_
  refine va_get (D := D) (ci := 11) (v := .ref nw) (C := RX11) (T := TX11) (N := 10) hx hb htb inX11 hown hK hP 0 rfl rfl 2 (by decide) (htb _ tw_254) (fun _ h9 => h9) rfl dX11_digest_8 ?_
  refine va_get (D := D) (ci := 2) (v := .ref nwf) (C := RX2) (T := TX2) (N := 6) hx hb htb inX2 hown hK hP 2 rfl rfl 0 (by decide) (htb _ tw_171) (fun _ h9 => h9) rfl dX11_digest_11 ?_
  refine va_get (D := D) (ci := 8) (v := .int 0) (C := RX8) (T := TX8) (N := 5) hx hb htb inX8 hown hK hP 3 rfl rfl 4 (by decide) (htb _ tw_134) (fun _ h9 => h9) rfl dX11_digest_14 ?_
  refine lv_icmp_ge (tgt := 33) hx hb dX11_digest_17 (by decide) (fun _ => ?_) (fun c_1 => absurd (by decide) c_1)
  refine lv_aload_n hx hb dX11_digest_33 rfl (lv_at hl 2 rfl) ?_
  refine va_get (D := D) (ci := 11) (v := .null) (C := RX11) (T := TX11) (N := 10) hx hb htb inX11 hown hK hP 0 rfl rfl 6 (by decide) (htb _ tw_258) (fun _ h9 => h9) rfl dX11_digest_34 ?_
  refine lv_ifnullN (tgt := 50) hx hb dX11_digest_37 (by decide) ?_
  refine lv_lload_n hx hb dX11_digest_50 rfl (lv_at hl 1 rfl) ?_
  refine lv_aload_n hx hb dX11_digest_51 rfl (lv_at hl 2 rfl) ?_
  refine va_get (D := D) (ci := 11) (v := .ref pg) (C := RX11) (T := TX11) (N := 10) hx hb htb inX11 hown hK hP 0 rfl rfl 0 (by decide) (htb _ tw_252) (fun _ h9 => h9) rfl dX11_digest_52 ?_
  refine va_get (D := D) (ci := 6) (v := .ref pgc) (C := RX6) (T := TX6) (N := 2) hx hb htb inX6 hown hK hP 1 rfl rfl 0 (by decide) (htb _ tw_93) (fun _ h9 => h9) rfl dX11_digest_55 ?_
  refine lv_aload_n hx hb dX11_digest_58 rfl (lv_at hl 2 rfl) ?_
  refine va_get (D := D) (ci := 11) (v := .ref pg) (C := RX11) (T := TX11) (N := 10) hx hb htb inX11 hown hK hP 0 rfl rfl 0 (by decide) (htb _ tw_252) (fun _ h9 => h9) rfl dX11_digest_59 ?_
  refine va_get (D := D) (ci := 6) (v := .int 0) (C := RX6) (T := TX6) (N := 2) hx hb htb inX6 hown hK hP 1 rfl rfl 1 (by decide) (htb _ tw_95) (fun _ h9 => h9) rfl dX11_digest_62 ?_
  refine wk_lS (As := [.long 1151, .ref pgc, .int 0]) (rest := []) (wc := []) (wr := [(x, .inr (11, [.ref pg, .ref wr, .ref nw, .ref kp, .ref wk, .ref tr, .null, .int 0, .int 0, .int 0])), (pg, .inr (6, [.ref pgc, .int 0])), (nw, .inr (2, [.ref nwf, .ref nws, .ref nwe, .int 0, .int 0, .int 0])), (nwf, .inr (8, [.ref nwfk, .ref nwfv, .ref nwfh, .ref nwft, .int 0])), (nws, .inr (8, [.ref nwsk, .ref nwsv, .ref nwsh, .ref nwst, .int 0])), (nwe, .inr (4, [.ref nwea, .ref nweb, .ref nwec, .int 0]))]) (n := 3) (R := _) ⟨hx, hb, hml, hown, htb⟩ (c_X11_withCodes l D cy pgc  1151) tw_755 tw_753 tw_754 tw_64 rfl rfl (by decide +kernel) ⟨Nat.le_of_ble_eq_true rfl, Nat.le_of_ble_eq_true rfl⟩ hK hP hD hS hA [] [0, 1, 2, 3, 4, 5] rfl rfl rfl rfl (by decide) rfl hl.1 rfl (Nat.le_of_ble_eq_true rfl) dX11_digest_65 ⟨Nat.le_of_ble_eq_true rfl, Nat.le_of_ble_eq_true rfl⟩ (fun r_2 u_3 H locs hw_4 hP hD hS => ?_)
  refine W.widen (k := 0) (n := 0) (by decide) (by decide) ?_
  have hw_4 : r_2 = 1151 := hw_4
  subst hw_4
  have hP : va_P D classes [(x, .inr (11, [.ref pg, .ref wr, .ref nw, .ref kp, .ref wk, .ref tr, .null, .int 0, .int 0, .int 0])), (pg, .inr (6, [.ref pgc, .int 0])), (nw, .inr (2, [.ref nwf, .ref nws, .ref nwe, .int 0, .int 0, .int 0])), (nwf, .inr (8, [.ref nwfk, .ref nwfv, .ref nwfh, .ref nwft, .int 0])), (nws, .inr (8, [.ref nwsk, .ref nwsv, .ref nwsh, .ref nwst, .int 0])), (nwe, .inr (4, [.ref nwea, .ref nweb, .ref nwec, .int 0]))] H := hP
  have hD : va_D A [(x, .inr (11, [.ref pg, .ref wr, .ref nw, .ref kp, .ref wk, .ref tr, .null, .int 0, .int 0, .int 0])), (pg, .inr (6, [.ref pgc, .int 0])), (nw, .inr (2, [.ref nwf, .ref nws, .ref nwe, .int 0, .int 0, .int 0])), (nwf, .inr (8, [.ref nwfk, .ref nwfv, .ref nwfh, .ref nwft, .int 0])), (nws, .inr (8, [.ref nwsk, .ref nwsv, .ref nwsh, .ref nwst, .int 0])), (nwe, .inr (4, [.ref nwea, .ref nweb, .ref nwec, .int 0]))] := hD
  refine lv_lstore_n (lv' := [(1, .long 1151), (3, .int 0), (0, .ref x)]) hx hb dX11_digest_68 rfl hl (by decide) rfl (fun ls hl => ?_)
  refine lv_iconst (v := 0) hx hb dX11_digest_69 (by decide) ?_
  refine lv_istore_n (lv' := [(3, .int 0), (1, .long 1151), (0, .ref x)]) hx hb dX11_digest_70 rfl hl (by decide) rfl (fun ls hl => ?_)
  refine lv_iload_n hx hb dX11_digest_71 rfl (lv_at hl 0 rfl) ?_
  refine lv_bipush (v := 12) hx hb dX11_digest_72 (by decide) ?_
  refine lv_icmp_gt (tgt := 96) hx hb dX11_digest_74 (by decide) (fun c_5 => absurd c_5 (by decide)) (fun _ => ?_)
  refine lv_ldc2 (v := 31) hx hb hown (htb _ tw_740) dX11_digest_77 ?_
  refine lv_lload_n hx hb dX11_digest_80 rfl (lv_at hl 1 rfl) ?_
  refine lv_lmul hx hb dX11_digest_81 ?_
  refine wk_tol (show ((31 * 1151) : Int64) = 35681 by decide) ?_
  refine lv_aload_n hx hb dX11_digest_82 rfl (lv_at hl 2 rfl) ?_
  refine lv_iload_n hx hb dX11_digest_83 rfl (lv_at hl 0 rfl) ?_
  refine wk_iV (As := [.int 0]) (rest := [.long 35681]) (wc := [(x, .inr (11, [.ref pg, .ref wr, .ref nw, .ref kp, .ref wk, .ref tr, .null, .int 0, .int 0, .int 0])), (pg, .inr (6, [.ref pgc, .int 0])), (nw, .inr (2, [.ref nwf, .ref nws, .ref nwe, .int 0, .int 0, .int 0])), (nwf, .inr (8, [.ref nwfk, .ref nwfv, .ref nwfh, .ref nwft, .int 0])), (nws, .inr (8, [.ref nwsk, .ref nwsv, .ref nwsh, .ref nwst, .int 0])), (nwe, .inr (4, [.ref nwea, .ref nweb, .ref nwec, .int 0]))]) (wr := []) (n := 1) (R := _) ⟨hx, hb, hml, hown, htb⟩ (c_X11_count l D cy x pg wr nw kp wk tr pgc nwf nws nwe nwfk nwfv nwfh nwft nwsk nwsv nwsh nwst nwea nweb nwec 0 ) tw_724 tw_756 tw_722 tw_723 tw_64 rfl rfl (by decide +kernel) ⟨Nat.le_of_ble_eq_true rfl, Nat.le_of_ble_eq_true rfl⟩ hK hP hD hS hA [0, 1, 2, 3, 4, 5] [] rfl rfl rfl rfl (by decide) 0 (ci := 11) rfl rfl rfl hl.1 rfl (Nat.le_of_ble_eq_true rfl) dX11_digest_84 ⟨Nat.le_of_ble_eq_true rfl, Nat.le_of_ble_eq_true rfl⟩ (fun r_6 u_7 H locs hw_8 hP hD hS => ?_)
  refine W.widen (k := 0) (n := 0) (by decide) (by decide) ?_
  have hw_8 : r_6 = if (0 ≤ (0 : Int32).toInt ∧ (0 : Int32).toInt ≤ 12) then 0 else (-102) := hw_8
  subst hw_8
  have hP : va_P D classes [(x, .inr (11, [.ref pg, .ref wr, .ref nw, .ref kp, .ref wk, .ref tr, .null, .int 0, .int 0, .int 0])), (pg, .inr (6, [.ref pgc, .int 0])), (nw, .inr (2, [.ref nwf, .ref nws, .ref nwe, .int 0, .int 0, .int 0])), (nwf, .inr (8, [.ref nwfk, .ref nwfv, .ref nwfh, .ref nwft, .int 0])), (nws, .inr (8, [.ref nwsk, .ref nwsv, .ref nwsh, .ref nwst, .int 0])), (nwe, .inr (4, [.ref nwea, .ref nweb, .ref nwec, .int 0]))] H := hP
  have hD : va_D A [(x, .inr (11, [.ref pg, .ref wr, .ref nw, .ref kp, .ref wk, .ref tr, .null, .int 0, .int 0, .int 0])), (pg, .inr (6, [.ref pgc, .int 0])), (nw, .inr (2, [.ref nwf, .ref nws, .ref nwe, .int 0, .int 0, .int 0])), (nwf, .inr (8, [.ref nwfk, .ref nwfv, .ref nwfh, .ref nwft, .int 0])), (nws, .inr (8, [.ref nwsk, .ref nwsv, .ref nwsh, .ref nwst, .int 0])), (nwe, .inr (4, [.ref nwea, .ref nweb, .ref nwec, .int 0]))] := hD
  refine wk_toi (show ((if (0 ≤ (0 : Int32).toInt ∧ (0 : Int32).toInt ≤ 12) then 0 else (-102)) : Int32) = 0 by decide) ?_
  refine lv_i2l (v := 0) hx hb dX11_digest_87 (by decide) ?_
  refine lv_ladd hx hb dX11_digest_88 ?_
  refine wk_tol (show ((35681 + 0) : Int64) = 35681 by decide) ?_
  refine lv_lstore_n (lv' := [(1, .long 35681), (3, .int 0), (0, .ref x)]) hx hb dX11_digest_89 rfl hl (by decide) rfl (fun ls hl => ?_)
  refine lv_iinc (v := 1) (lv' := [(3, .int 1), (1, .long 35681), (0, .ref x)]) hx hb dX11_digest_90 hl (k := 1) rfl (by decide) (by decide) rfl (fun ls hl => ?_)
  refine lv_goto (tgt := 71) hx hb dX11_digest_93 (by decide) ?_
  refine lv_iload_n hx hb dX11_digest_71 rfl (lv_at hl 0 rfl) ?_
  refine lv_bipush (v := 12) hx hb dX11_digest_72 (by decide) ?_
  refine lv_icmp_gt (tgt := 96) hx hb dX11_digest_74 (by decide) (fun c_9 => absurd c_9 (by decide)) (fun _ => ?_)
  refine lv_ldc2 (v := 31) hx hb hown (htb _ tw_740) dX11_digest_77 ?_
  refine lv_lload_n hx hb dX11_digest_80 rfl (lv_at hl 1 rfl) ?_
  refine lv_lmul hx hb dX11_digest_81 ?_
  refine wk_tol (show ((31 * 35681) : Int64) = 1106111 by decide) ?_
  refine lv_aload_n hx hb dX11_digest_82 rfl (lv_at hl 2 rfl) ?_
  refine lv_iload_n hx hb dX11_digest_83 rfl (lv_at hl 0 rfl) ?_
  refine wk_iV (As := [.int 1]) (rest := [.long 1106111]) (wc := [(x, .inr (11, [.ref pg, .ref wr, .ref nw, .ref kp, .ref wk, .ref tr, .null, .int 0, .int 0, .int 0])), (pg, .inr (6, [.ref pgc, .int 0])), (nw, .inr (2, [.ref nwf, .ref nws, .ref nwe, .int 0, .int 0, .int 0])), (nwf, .inr (8, [.ref nwfk, .ref nwfv, .ref nwfh, .ref nwft, .int 0])), (nws, .inr (8, [.ref nwsk, .ref nwsv, .ref nwsh, .ref nwst, .int 0])), (nwe, .inr (4, [.ref nwea, .ref nweb, .ref nwec, .int 0]))]) (wr := []) (n := 1) (R := _) ⟨hx, hb, hml, hown, htb⟩ (c_X11_count l D cy x pg wr nw kp wk tr pgc nwf nws nwe nwfk nwfv nwfh nwft nwsk nwsv nwsh nwst nwea nweb nwec 1 ) tw_724 tw_756 tw_722 tw_723 tw_64 rfl rfl (by decide +kernel) ⟨Nat.le_of_ble_eq_true rfl, Nat.le_of_ble_eq_true rfl⟩ hK hP hD hS hA [0, 1, 2, 3, 4, 5] [] rfl rfl rfl rfl (by decide) 0 (ci := 11) rfl rfl rfl hl.1 rfl (Nat.le_of_ble_eq_true rfl) dX11_digest_84 ⟨Nat.le_of_ble_eq_true rfl, Nat.le_of_ble_eq_true rfl⟩ (fun r_10 u_11 H locs hw_12 hP hD hS => ?_)
  refine W.widen (k := 0) (n := 0) (by decide) (by decide) ?_
  have hw_12 : r_10 = if (0 ≤ (1 : Int32).toInt ∧ (1 : Int32).toInt ≤ 12) then 0 else (-102) := hw_12
  subst hw_12
  have hP : va_P D classes [(x, .inr (11, [.ref pg, .ref wr, .ref nw, .ref kp, .ref wk, .ref tr, .null, .int 0, .int 0, .int 0])), (pg, .inr (6, [.ref pgc, .int 0])), (nw, .inr (2, [.ref nwf, .ref nws, .ref nwe, .int 0, .int 0, .int 0])), (nwf, .inr (8, [.ref nwfk, .ref nwfv, .ref nwfh, .ref nwft, .int 0])), (nws, .inr (8, [.ref nwsk, .ref nwsv, .ref nwsh, .ref nwst, .int 0])), (nwe, .inr (4, [.ref nwea, .ref nweb, .ref nwec, .int 0]))] H := hP
  have hD : va_D A [(x, .inr (11, [.ref pg, .ref wr, .ref nw, .ref kp, .ref wk, .ref tr, .null, .int 0, .int 0, .int 0])), (pg, .inr (6, [.ref pgc, .int 0])), (nw, .inr (2, [.ref nwf, .ref nws, .ref nwe, .int 0, .int 0, .int 0])), (nwf, .inr (8, [.ref nwfk, .ref nwfv, .ref nwfh, .ref nwft, .int 0])), (nws, .inr (8, [.ref nwsk, .ref nwsv, .ref nwsh, .ref nwst, .int 0])), (nwe, .inr (4, [.ref nwea, .ref nweb, .ref nwec, .int 0]))] := hD
  refine wk_toi (show ((if (0 ≤ (1 : Int32).toInt ∧ (1 : Int32).toInt ≤ 12) then 0 else (-102)) : Int32) = 0 by decide) ?_
  refine lv_i2l (v := 0) hx hb dX11_digest_87 (by decide) ?_
  refine lv_ladd hx hb dX11_digest_88 ?_
  refine wk_tol (show ((1106111 + 0) : Int64) = 1106111 by decide) ?_
  refine lv_lstore_n (lv' := [(1, .long 1106111), (3, .int 1), (0, .ref x)]) hx hb dX11_digest_89 rfl hl (by decide) rfl (fun ls hl => ?_)
  refine lv_iinc (v := 2) (lv' := [(3, .int 2), (1, .long 1106111), (0, .ref x)]) hx hb dX11_digest_90 hl (k := 1) rfl (by decide) (by decide) rfl (fun ls hl => ?_)
  refine lv_goto (tgt := 71) hx hb dX11_digest_93 (by decide) ?_
  refine lv_iload_n hx hb dX11_digest_71 rfl (lv_at hl 0 rfl) ?_
  refine lv_bipush (v := 12) hx hb dX11_digest_72 (by decide) ?_
  refine lv_icmp_gt (tgt := 96) hx hb dX11_digest_74 (by decide) (fun c_13 => absurd c_13 (by decide)) (fun _ => ?_)
  refine lv_ldc2 (v := 31) hx hb hown (htb _ tw_740) dX11_digest_77 ?_
  refine lv_lload_n hx hb dX11_digest_80 rfl (lv_at hl 1 rfl) ?_
  refine lv_lmul hx hb dX11_digest_81 ?_
  refine wk_tol (show ((31 * 1106111) : Int64) = 34289441 by decide) ?_
  refine lv_aload_n hx hb dX11_digest_82 rfl (lv_at hl 2 rfl) ?_
  refine lv_iload_n hx hb dX11_digest_83 rfl (lv_at hl 0 rfl) ?_
  refine wk_iV (As := [.int 2]) (rest := [.long 34289441]) (wc := [(x, .inr (11, [.ref pg, .ref wr, .ref nw, .ref kp, .ref wk, .ref tr, .null, .int 0, .int 0, .int 0])), (pg, .inr (6, [.ref pgc, .int 0])), (nw, .inr (2, [.ref nwf, .ref nws, .ref nwe, .int 0, .int 0, .int 0])), (nwf, .inr (8, [.ref nwfk, .ref nwfv, .ref nwfh, .ref nwft, .int 0])), (nws, .inr (8, [.ref nwsk, .ref nwsv, .ref nwsh, .ref nwst, .int 0])), (nwe, .inr (4, [.ref nwea, .ref nweb, .ref nwec, .int 0]))]) (wr := []) (n := 1) (R := _) ⟨hx, hb, hml, hown, htb⟩ (c_X11_count l D cy x pg wr nw kp wk tr pgc nwf nws nwe nwfk nwfv nwfh nwft nwsk nwsv nwsh nwst nwea nweb nwec 2 ) tw_724 tw_756 tw_722 tw_723 tw_64 rfl rfl (by decide +kernel) ⟨Nat.le_of_ble_eq_true rfl, Nat.le_of_ble_eq_true rfl⟩ hK hP hD hS hA [0, 1, 2, 3, 4, 5] [] rfl rfl rfl rfl (by decide) 0 (ci := 11) rfl rfl rfl hl.1 rfl (Nat.le_of_ble_eq_true rfl) dX11_digest_84 ⟨Nat.le_of_ble_eq_true rfl, Nat.le_of_ble_eq_true rfl⟩ (fun r_14 u_15 H locs hw_16 hP hD hS => ?_)
  refine W.widen (k := 0) (n := 0) (by decide) (by decide) ?_
  have hw_16 : r_14 = if (0 ≤ (2 : Int32).toInt ∧ (2 : Int32).toInt ≤ 12) then 0 else (-102) := hw_16
  subst hw_16
  have hP : va_P D classes [(x, .inr (11, [.ref pg, .ref wr, .ref nw, .ref kp, .ref wk, .ref tr, .null, .int 0, .int 0, .int 0])), (pg, .inr (6, [.ref pgc, .int 0])), (nw, .inr (2, [.ref nwf, .ref nws, .ref nwe, .int 0, .int 0, .int 0])), (nwf, .inr (8, [.ref nwfk, .ref nwfv, .ref nwfh, .ref nwft, .int 0])), (nws, .inr (8, [.ref nwsk, .ref nwsv, .ref nwsh, .ref nwst, .int 0])), (nwe, .inr (4, [.ref nwea, .ref nweb, .ref nwec, .int 0]))] H := hP
  have hD : va_D A [(x, .inr (11, [.ref pg, .ref wr, .ref nw, .ref kp, .ref wk, .ref tr, .null, .int 0, .int 0, .int 0])), (pg, .inr (6, [.ref pgc, .int 0])), (nw, .inr (2, [.ref nwf, .ref nws, .ref nwe, .int 0, .int 0, .int 0])), (nwf, .inr (8, [.ref nwfk, .ref nwfv, .ref nwfh, .ref nwft, .int 0])), (nws, .inr (8, [.ref nwsk, .ref nwsv, .ref nwsh, .ref nwst, .int 0])), (nwe, .inr (4, [.ref nwea, .ref nweb, .ref nwec, .int 0]))] := hD
  refine wk_toi (show ((if (0 ≤ (2 : Int32).toInt ∧ (2 : Int32).toInt ≤ 12) then 0 else (-102)) : Int32) = 0 by decide) ?_
  refine lv_i2l (v := 0) hx hb dX11_digest_87 (by decide) ?_
  refine lv_ladd hx hb dX11_digest_88 ?_
  refine wk_tol (show ((34289441 + 0) : Int64) = 34289441 by decide) ?_
  refine lv_lstore_n (lv' := [(1, .long 34289441), (3, .int 2), (0, .ref x)]) hx hb dX11_digest_89 rfl hl (by decide) rfl (fun ls hl => ?_)
  refine lv_iinc (v := 3) (lv' := [(3, .int 3), (1, .long 34289441), (0, .ref x)]) hx hb dX11_digest_90 hl (k := 1) rfl (by decide) (by decide) rfl (fun ls hl => ?_)
  refine lv_goto (tgt := 71) hx hb dX11_digest_93 (by decide) ?_
  refine lv_iload_n hx hb dX11_digest_71 rfl (lv_at hl 0 rfl) ?_
  refine lv_bipush (v := 12) hx hb dX11_digest_72 (by decide) ?_
  refine lv_icmp_gt (tgt := 96) hx hb dX11_digest_74 (by decide) (fun c_17 => absurd c_17 (by decide)) (fun _ => ?_)
  refine lv_ldc2 (v := 31) hx hb hown (htb _ tw_740) dX11_digest_77 ?_
  refine lv_lload_n hx hb dX11_digest_80 rfl (lv_at hl 1 rfl) ?_
  refine lv_lmul hx hb dX11_digest_81 ?_
  refine wk_tol (show ((31 * 34289441) : Int64) = 1062972671 by decide) ?_
  refine lv_aload_n hx hb dX11_digest_82 rfl (lv_at hl 2 rfl) ?_
  refine lv_iload_n hx hb dX11_digest_83 rfl (lv_at hl 0 rfl) ?_
  refine wk_iV (As := [.int 3]) (rest := [.long 1062972671]) (wc := [(x, .inr (11, [.ref pg, .ref wr, .ref nw, .ref kp, .ref wk, .ref tr, .null, .int 0, .int 0, .int 0])), (pg, .inr (6, [.ref pgc, .int 0])), (nw, .inr (2, [.ref nwf, .ref nws, .ref nwe, .int 0, .int 0, .int 0])), (nwf, .inr (8, [.ref nwfk, .ref nwfv, .ref nwfh, .ref nwft, .int 0])), (nws, .inr (8, [.ref nwsk, .ref nwsv, .ref nwsh, .ref nwst, .int 0])), (nwe, .inr (4, [.ref nwea, .ref nweb, .ref nwec, .int 0]))]) (wr := []) (n := 1) (R := _) ⟨hx, hb, hml, hown, htb⟩ (c_X11_count l D cy x pg wr nw kp wk tr pgc nwf nws nwe nwfk nwfv nwfh nwft nwsk nwsv nwsh nwst nwea nweb nwec 3 ) tw_724 tw_756 tw_722 tw_723 tw_64 rfl rfl (by decide +kernel) ⟨Nat.le_of_ble_eq_true rfl, Nat.le_of_ble_eq_true rfl⟩ hK hP hD hS hA [0, 1, 2, 3, 4, 5] [] rfl rfl rfl rfl (by decide) 0 (ci := 11) rfl rfl rfl hl.1 rfl (Nat.le_of_ble_eq_true rfl) dX11_digest_84 ⟨Nat.le_of_ble_eq_true rfl, Nat.le_of_ble_eq_true rfl⟩ (fun r_18 u_19 H locs hw_20 hP hD hS => ?_)
  refine W.widen (k := 0) (n := 0) (by decide) (by decide) ?_
  have hw_20 : r_18 = if (0 ≤ (3 : Int32).toInt ∧ (3 : Int32).toInt ≤ 12) then 0 else (-102) := hw_20
  subst hw_20
  have hP : va_P D classes [(x, .inr (11, [.ref pg, .ref wr, .ref nw, .ref kp, .ref wk, .ref tr, .null, .int 0, .int 0, .int 0])), (pg, .inr (6, [.ref pgc, .int 0])), (nw, .inr (2, [.ref nwf, .ref nws, .ref nwe, .int 0, .int 0, .int 0])), (nwf, .inr (8, [.ref nwfk, .ref nwfv, .ref nwfh, .ref nwft, .int 0])), (nws, .inr (8, [.ref nwsk, .ref nwsv, .ref nwsh, .ref nwst, .int 0])), (nwe, .inr (4, [.ref nwea, .ref nweb, .ref nwec, .int 0]))] H := hP
  have hD : va_D A [(x, .inr (11, [.ref pg, .ref wr, .ref nw, .ref kp, .ref wk, .ref tr, .null, .int 0, .int 0, .int 0])), (pg, .inr (6, [.ref pgc, .int 0])), (nw, .inr (2, [.ref nwf, .ref nws, .ref nwe, .int 0, .int 0, .int 0])), (nwf, .inr (8, [.ref nwfk, .ref nwfv, .ref nwfh, .ref nwft, .int 0])), (nws, .inr (8, [.ref nwsk, .ref nwsv, .ref nwsh, .ref nwst, .int 0])), (nwe, .inr (4, [.ref nwea, .ref nweb, .ref nwec, .int 0]))] := hD
  refine wk_toi (show ((if (0 ≤ (3 : Int32).toInt ∧ (3 : Int32).toInt ≤ 12) then 0 else (-102)) : Int32) = 0 by decide) ?_
  refine lv_i2l (v := 0) hx hb dX11_digest_87 (by decide) ?_
  refine lv_ladd hx hb dX11_digest_88 ?_
  refine wk_tol (show ((1062972671 + 0) : Int64) = 1062972671 by decide) ?_
  refine lv_lstore_n (lv' := [(1, .long 1062972671), (3, .int 3), (0, .ref x)]) hx hb dX11_digest_89 rfl hl (by decide) rfl (fun ls hl => ?_)
  refine lv_iinc (v := 4) (lv' := [(3, .int 4), (1, .long 1062972671), (0, .ref x)]) hx hb dX11_digest_90 hl (k := 1) rfl (by decide) (by decide) rfl (fun ls hl => ?_)
  refine lv_goto (tgt := 71) hx hb dX11_digest_93 (by decide) ?_
  refine lv_iload_n hx hb dX11_digest_71 rfl (lv_at hl 0 rfl) ?_
  refine lv_bipush (v := 12) hx hb dX11_digest_72 (by decide) ?_
  refine lv_icmp_gt (tgt := 96) hx hb dX11_digest_74 (by decide) (fun c_21 => absurd c_21 (by decide)) (fun _ => ?_)
  refine lv_ldc2 (v := 31) hx hb hown (htb _ tw_740) dX11_digest_77 ?_
  refine lv_lload_n hx hb dX11_digest_80 rfl (lv_at hl 1 rfl) ?_
  refine lv_lmul hx hb dX11_digest_81 ?_
  refine wk_tol (show ((31 * 1062972671) : Int64) = 32952152801 by decide) ?_
  refine lv_aload_n hx hb dX11_digest_82 rfl (lv_at hl 2 rfl) ?_
  refine lv_iload_n hx hb dX11_digest_83 rfl (lv_at hl 0 rfl) ?_
  refine wk_iV (As := [.int 4]) (rest := [.long 32952152801]) (wc := [(x, .inr (11, [.ref pg, .ref wr, .ref nw, .ref kp, .ref wk, .ref tr, .null, .int 0, .int 0, .int 0])), (pg, .inr (6, [.ref pgc, .int 0])), (nw, .inr (2, [.ref nwf, .ref nws, .ref nwe, .int 0, .int 0, .int 0])), (nwf, .inr (8, [.ref nwfk, .ref nwfv, .ref nwfh, .ref nwft, .int 0])), (nws, .inr (8, [.ref nwsk, .ref nwsv, .ref nwsh, .ref nwst, .int 0])), (nwe, .inr (4, [.ref nwea, .ref nweb, .ref nwec, .int 0]))]) (wr := []) (n := 1) (R := _) ⟨hx, hb, hml, hown, htb⟩ (c_X11_count l D cy x pg wr nw kp wk tr pgc nwf nws nwe nwfk nwfv nwfh nwft nwsk nwsv nwsh nwst nwea nweb nwec 4 ) tw_724 tw_756 tw_722 tw_723 tw_64 rfl rfl (by decide +kernel) ⟨Nat.le_of_ble_eq_true rfl, Nat.le_of_ble_eq_true rfl⟩ hK hP hD hS hA [0, 1, 2, 3, 4, 5] [] rfl rfl rfl rfl (by decide) 0 (ci := 11) rfl rfl rfl hl.1 rfl (Nat.le_of_ble_eq_true rfl) dX11_digest_84 ⟨Nat.le_of_ble_eq_true rfl, Nat.le_of_ble_eq_true rfl⟩ (fun r_22 u_23 H locs hw_24 hP hD hS => ?_)
  refine W.widen (k := 0) (n := 0) (by decide) (by decide) ?_
  have hw_24 : r_22 = if (0 ≤ (4 : Int32).toInt ∧ (4 : Int32).toInt ≤ 12) then 0 else (-102) := hw_24
  subst hw_24
  have hP : va_P D classes [(x, .inr (11, [.ref pg, .ref wr, .ref nw, .ref kp, .ref wk, .ref tr, .null, .int 0, .int 0, .int 0])), (pg, .inr (6, [.ref pgc, .int 0])), (nw, .inr (2, [.ref nwf, .ref nws, .ref nwe, .int 0, .int 0, .int 0])), (nwf, .inr (8, [.ref nwfk, .ref nwfv, .ref nwfh, .ref nwft, .int 0])), (nws, .inr (8, [.ref nwsk, .ref nwsv, .ref nwsh, .ref nwst, .int 0])), (nwe, .inr (4, [.ref nwea, .ref nweb, .ref nwec, .int 0]))] H := hP
  have hD : va_D A [(x, .inr (11, [.ref pg, .ref wr, .ref nw, .ref kp, .ref wk, .ref tr, .null, .int 0, .int 0, .int 0])), (pg, .inr (6, [.ref pgc, .int 0])), (nw, .inr (2, [.ref nwf, .ref nws, .ref nwe, .int 0, .int 0, .int 0])), (nwf, .inr (8, [.ref nwfk, .ref nwfv, .ref nwfh, .ref nwft, .int 0])), (nws, .inr (8, [.ref nwsk, .ref nwsv, .ref nwsh, .ref nwst, .int 0])), (nwe, .inr (4, [.ref nwea, .ref nweb, .ref nwec, .int 0]))] := hD
  refine wk_toi (show ((if (0 ≤ (4 : Int32).toInt ∧ (4 : Int32).toInt ≤ 12) then 0 else (-102)) : Int32) = 0 by decide) ?_
  refine lv_i2l (v := 0) hx hb dX11_digest_87 (by decide) ?_
  refine lv_ladd hx hb dX11_digest_88 ?_
  refine wk_tol (show ((32952152801 + 0) : Int64) = 32952152801 by decide) ?_
  refine lv_lstore_n (lv' := [(1, .long 32952152801), (3, .int 4), (0, .ref x)]) hx hb dX11_digest_89 rfl hl (by decide) rfl (fun ls hl => ?_)
  refine lv_iinc (v := 5) (lv' := [(3, .int 5), (1, .long 32952152801), (0, .ref x)]) hx hb dX11_digest_90 hl (k := 1) rfl (by decide) (by decide) rfl (fun ls hl => ?_)
  refine lv_goto (tgt := 71) hx hb dX11_digest_93 (by decide) ?_
  refine lv_iload_n hx hb dX11_digest_71 rfl (lv_at hl 0 rfl) ?_
  refine lv_bipush (v := 12) hx hb dX11_digest_72 (by decide) ?_
  refine lv_icmp_gt (tgt := 96) hx hb dX11_digest_74 (by decide) (fun c_25 => absurd c_25 (by decide)) (fun _ => ?_)
  refine lv_ldc2 (v := 31) hx hb hown (htb _ tw_740) dX11_digest_77 ?_
  refine lv_lload_n hx hb dX11_digest_80 rfl (lv_at hl 1 rfl) ?_
  refine lv_lmul hx hb dX11_digest_81 ?_
  refine wk_tol (show ((31 * 32952152801) : Int64) = 1021516736831 by decide) ?_
  refine lv_aload_n hx hb dX11_digest_82 rfl (lv_at hl 2 rfl) ?_
  refine lv_iload_n hx hb dX11_digest_83 rfl (lv_at hl 0 rfl) ?_
  refine wk_iV (As := [.int 5]) (rest := [.long 1021516736831]) (wc := [(x, .inr (11, [.ref pg, .ref wr, .ref nw, .ref kp, .ref wk, .ref tr, .null, .int 0, .int 0, .int 0])), (pg, .inr (6, [.ref pgc, .int 0])), (nw, .inr (2, [.ref nwf, .ref nws, .ref nwe, .int 0, .int 0, .int 0])), (nwf, .inr (8, [.ref nwfk, .ref nwfv, .ref nwfh, .ref nwft, .int 0])), (nws, .inr (8, [.ref nwsk, .ref nwsv, .ref nwsh, .ref nwst, .int 0])), (nwe, .inr (4, [.ref nwea, .ref nweb, .ref nwec, .int 0]))]) (wr := []) (n := 1) (R := _) ⟨hx, hb, hml, hown, htb⟩ (c_X11_count l D cy x pg wr nw kp wk tr pgc nwf nws nwe nwfk nwfv nwfh nwft nwsk nwsv nwsh nwst nwea nweb nwec 5 ) tw_724 tw_756 tw_722 tw_723 tw_64 rfl rfl (by decide +kernel) ⟨Nat.le_of_ble_eq_true rfl, Nat.le_of_ble_eq_true rfl⟩ hK hP hD hS hA [0, 1, 2, 3, 4, 5] [] rfl rfl rfl rfl (by decide) 0 (ci := 11) rfl rfl rfl hl.1 rfl (Nat.le_of_ble_eq_true rfl) dX11_digest_84 ⟨Nat.le_of_ble_eq_true rfl, Nat.le_of_ble_eq_true rfl⟩ (fun r_26 u_27 H locs hw_28 hP hD hS => ?_)
  refine W.widen (k := 0) (n := 0) (by decide) (by decide) ?_
  have hw_28 : r_26 = if (0 ≤ (5 : Int32).toInt ∧ (5 : Int32).toInt ≤ 12) then 0 else (-102) := hw_28
  subst hw_28
  have hP : va_P D classes [(x, .inr (11, [.ref pg, .ref wr, .ref nw, .ref kp, .ref wk, .ref tr, .null, .int 0, .int 0, .int 0])), (pg, .inr (6, [.ref pgc, .int 0])), (nw, .inr (2, [.ref nwf, .ref nws, .ref nwe, .int 0, .int 0, .int 0])), (nwf, .inr (8, [.ref nwfk, .ref nwfv, .ref nwfh, .ref nwft, .int 0])), (nws, .inr (8, [.ref nwsk, .ref nwsv, .ref nwsh, .ref nwst, .int 0])), (nwe, .inr (4, [.ref nwea, .ref nweb, .ref nwec, .int 0]))] H := hP
  have hD : va_D A [(x, .inr (11, [.ref pg, .ref wr, .ref nw, .ref kp, .ref wk, .ref tr, .null, .int 0, .int 0, .int 0])), (pg, .inr (6, [.ref pgc, .int 0])), (nw, .inr (2, [.ref nwf, .ref nws, .ref nwe, .int 0, .int 0, .int 0])), (nwf, .inr (8, [.ref nwfk, .ref nwfv, .ref nwfh, .ref nwft, .int 0])), (nws, .inr (8, [.ref nwsk, .ref nwsv, .ref nwsh, .ref nwst, .int 0])), (nwe, .inr (4, [.ref nwea, .ref nweb, .ref nwec, .int 0]))] := hD
  refine wk_toi (show ((if (0 ≤ (5 : Int32).toInt ∧ (5 : Int32).toInt ≤ 12) then 0 else (-102)) : Int32) = 0 by decide) ?_
  refine lv_i2l (v := 0) hx hb dX11_digest_87 (by decide) ?_
  refine lv_ladd hx hb dX11_digest_88 ?_
  refine wk_tol (show ((1021516736831 + 0) : Int64) = 1021516736831 by decide) ?_
  refine lv_lstore_n (lv' := [(1, .long 1021516736831), (3, .int 5), (0, .ref x)]) hx hb dX11_digest_89 rfl hl (by decide) rfl (fun ls hl => ?_)
  refine lv_iinc (v := 6) (lv' := [(3, .int 6), (1, .long 1021516736831), (0, .ref x)]) hx hb dX11_digest_90 hl (k := 1) rfl (by decide) (by decide) rfl (fun ls hl => ?_)
  refine lv_goto (tgt := 71) hx hb dX11_digest_93 (by decide) ?_
  refine lv_iload_n hx hb dX11_digest_71 rfl (lv_at hl 0 rfl) ?_
  refine lv_bipush (v := 12) hx hb dX11_digest_72 (by decide) ?_
  refine lv_icmp_gt (tgt := 96) hx hb dX11_digest_74 (by decide) (fun c_29 => absurd c_29 (by decide)) (fun _ => ?_)
  refine lv_ldc2 (v := 31) hx hb hown (htb _ tw_740) dX11_digest_77 ?_
  refine lv_lload_n hx hb dX11_digest_80 rfl (lv_at hl 1 rfl) ?_
  refine lv_lmul hx hb dX11_digest_81 ?_
  refine wk_tol (show ((31 * 1021516736831) : Int64) = 31667018841761 by decide) ?_
  refine lv_aload_n hx hb dX11_digest_82 rfl (lv_at hl 2 rfl) ?_
  refine lv_iload_n hx hb dX11_digest_83 rfl (lv_at hl 0 rfl) ?_
  refine wk_iV (As := [.int 6]) (rest := [.long 31667018841761]) (wc := [(x, .inr (11, [.ref pg, .ref wr, .ref nw, .ref kp, .ref wk, .ref tr, .null, .int 0, .int 0, .int 0])), (pg, .inr (6, [.ref pgc, .int 0])), (nw, .inr (2, [.ref nwf, .ref nws, .ref nwe, .int 0, .int 0, .int 0])), (nwf, .inr (8, [.ref nwfk, .ref nwfv, .ref nwfh, .ref nwft, .int 0])), (nws, .inr (8, [.ref nwsk, .ref nwsv, .ref nwsh, .ref nwst, .int 0])), (nwe, .inr (4, [.ref nwea, .ref nweb, .ref nwec, .int 0]))]) (wr := []) (n := 1) (R := _) ⟨hx, hb, hml, hown, htb⟩ (c_X11_count l D cy x pg wr nw kp wk tr pgc nwf nws nwe nwfk nwfv nwfh nwft nwsk nwsv nwsh nwst nwea nweb nwec 6 ) tw_724 tw_756 tw_722 tw_723 tw_64 rfl rfl (by decide +kernel) ⟨Nat.le_of_ble_eq_true rfl, Nat.le_of_ble_eq_true rfl⟩ hK hP hD hS hA [0, 1, 2, 3, 4, 5] [] rfl rfl rfl rfl (by decide) 0 (ci := 11) rfl rfl rfl hl.1 rfl (Nat.le_of_ble_eq_true rfl) dX11_digest_84 ⟨Nat.le_of_ble_eq_true rfl, Nat.le_of_ble_eq_true rfl⟩ (fun r_30 u_31 H locs hw_32 hP hD hS => ?_)
  refine W.widen (k := 0) (n := 0) (by decide) (by decide) ?_
  have hw_32 : r_30 = if (0 ≤ (6 : Int32).toInt ∧ (6 : Int32).toInt ≤ 12) then 0 else (-102) := hw_32
  subst hw_32
  have hP : va_P D classes [(x, .inr (11, [.ref pg, .ref wr, .ref nw, .ref kp, .ref wk, .ref tr, .null, .int 0, .int 0, .int 0])), (pg, .inr (6, [.ref pgc, .int 0])), (nw, .inr (2, [.ref nwf, .ref nws, .ref nwe, .int 0, .int 0, .int 0])), (nwf, .inr (8, [.ref nwfk, .ref nwfv, .ref nwfh, .ref nwft, .int 0])), (nws, .inr (8, [.ref nwsk, .ref nwsv, .ref nwsh, .ref nwst, .int 0])), (nwe, .inr (4, [.ref nwea, .ref nweb, .ref nwec, .int 0]))] H := hP
  have hD : va_D A [(x, .inr (11, [.ref pg, .ref wr, .ref nw, .ref kp, .ref wk, .ref tr, .null, .int 0, .int 0, .int 0])), (pg, .inr (6, [.ref pgc, .int 0])), (nw, .inr (2, [.ref nwf, .ref nws, .ref nwe, .int 0, .int 0, .int 0])), (nwf, .inr (8, [.ref nwfk, .ref nwfv, .ref nwfh, .ref nwft, .int 0])), (nws, .inr (8, [.ref nwsk, .ref nwsv, .ref nwsh, .ref nwst, .int 0])), (nwe, .inr (4, [.ref nwea, .ref nweb, .ref nwec, .int 0]))] := hD
  refine wk_toi (show ((if (0 ≤ (6 : Int32).toInt ∧ (6 : Int32).toInt ≤ 12) then 0 else (-102)) : Int32) = 0 by decide) ?_
  refine lv_i2l (v := 0) hx hb dX11_digest_87 (by decide) ?_
  refine lv_ladd hx hb dX11_digest_88 ?_
  refine wk_tol (show ((31667018841761 + 0) : Int64) = 31667018841761 by decide) ?_
  refine lv_lstore_n (lv' := [(1, .long 31667018841761), (3, .int 6), (0, .ref x)]) hx hb dX11_digest_89 rfl hl (by decide) rfl (fun ls hl => ?_)
  refine lv_iinc (v := 7) (lv' := [(3, .int 7), (1, .long 31667018841761), (0, .ref x)]) hx hb dX11_digest_90 hl (k := 1) rfl (by decide) (by decide) rfl (fun ls hl => ?_)
  refine lv_goto (tgt := 71) hx hb dX11_digest_93 (by decide) ?_
  refine lv_iload_n hx hb dX11_digest_71 rfl (lv_at hl 0 rfl) ?_
  refine lv_bipush (v := 12) hx hb dX11_digest_72 (by decide) ?_
  refine lv_icmp_gt (tgt := 96) hx hb dX11_digest_74 (by decide) (fun c_33 => absurd c_33 (by decide)) (fun _ => ?_)
  refine lv_ldc2 (v := 31) hx hb hown (htb _ tw_740) dX11_digest_77 ?_
  refine lv_lload_n hx hb dX11_digest_80 rfl (lv_at hl 1 rfl) ?_
  refine lv_lmul hx hb dX11_digest_81 ?_
  refine wk_tol (show ((31 * 31667018841761) : Int64) = 981677584094591 by decide) ?_
  refine lv_aload_n hx hb dX11_digest_82 rfl (lv_at hl 2 rfl) ?_
  refine lv_iload_n hx hb dX11_digest_83 rfl (lv_at hl 0 rfl) ?_
  refine wk_iV (As := [.int 7]) (rest := [.long 981677584094591]) (wc := [(x, .inr (11, [.ref pg, .ref wr, .ref nw, .ref kp, .ref wk, .ref tr, .null, .int 0, .int 0, .int 0])), (pg, .inr (6, [.ref pgc, .int 0])), (nw, .inr (2, [.ref nwf, .ref nws, .ref nwe, .int 0, .int 0, .int 0])), (nwf, .inr (8, [.ref nwfk, .ref nwfv, .ref nwfh, .ref nwft, .int 0])), (nws, .inr (8, [.ref nwsk, .ref nwsv, .ref nwsh, .ref nwst, .int 0])), (nwe, .inr (4, [.ref nwea, .ref nweb, .ref nwec, .int 0]))]) (wr := []) (n := 1) (R := _) ⟨hx, hb, hml, hown, htb⟩ (c_X11_count l D cy x pg wr nw kp wk tr pgc nwf nws nwe nwfk nwfv nwfh nwft nwsk nwsv nwsh nwst nwea nweb nwec 7 ) tw_724 tw_756 tw_722 tw_723 tw_64 rfl rfl (by decide +kernel) ⟨Nat.le_of_ble_eq_true rfl, Nat.le_of_ble_eq_true rfl⟩ hK hP hD hS hA [0, 1, 2, 3, 4, 5] [] rfl rfl rfl rfl (by decide) 0 (ci := 11) rfl rfl rfl hl.1 rfl (Nat.le_of_ble_eq_true rfl) dX11_digest_84 ⟨Nat.le_of_ble_eq_true rfl, Nat.le_of_ble_eq_true rfl⟩ (fun r_34 u_35 H locs hw_36 hP hD hS => ?_)
  refine W.widen (k := 0) (n := 0) (by decide) (by decide) ?_
  have hw_36 : r_34 = if (0 ≤ (7 : Int32).toInt ∧ (7 : Int32).toInt ≤ 12) then 0 else (-102) := hw_36
  subst hw_36
  have hP : va_P D classes [(x, .inr (11, [.ref pg, .ref wr, .ref nw, .ref kp, .ref wk, .ref tr, .null, .int 0, .int 0, .int 0])), (pg, .inr (6, [.ref pgc, .int 0])), (nw, .inr (2, [.ref nwf, .ref nws, .ref nwe, .int 0, .int 0, .int 0])), (nwf, .inr (8, [.ref nwfk, .ref nwfv, .ref nwfh, .ref nwft, .int 0])), (nws, .inr (8, [.ref nwsk, .ref nwsv, .ref nwsh, .ref nwst, .int 0])), (nwe, .inr (4, [.ref nwea, .ref nweb, .ref nwec, .int 0]))] H := hP
  have hD : va_D A [(x, .inr (11, [.ref pg, .ref wr, .ref nw, .ref kp, .ref wk, .ref tr, .null, .int 0, .int 0, .int 0])), (pg, .inr (6, [.ref pgc, .int 0])), (nw, .inr (2, [.ref nwf, .ref nws, .ref nwe, .int 0, .int 0, .int 0])), (nwf, .inr (8, [.ref nwfk, .ref nwfv, .ref nwfh, .ref nwft, .int 0])), (nws, .inr (8, [.ref nwsk, .ref nwsv, .ref nwsh, .ref nwst, .int 0])), (nwe, .inr (4, [.ref nwea, .ref nweb, .ref nwec, .int 0]))] := hD
  refine wk_toi (show ((if (0 ≤ (7 : Int32).toInt ∧ (7 : Int32).toInt ≤ 12) then 0 else (-102)) : Int32) = 0 by decide) ?_
  refine lv_i2l (v := 0) hx hb dX11_digest_87 (by decide) ?_
  refine lv_ladd hx hb dX11_digest_88 ?_
  refine wk_tol (show ((981677584094591 + 0) : Int64) = 981677584094591 by decide) ?_
  refine lv_lstore_n (lv' := [(1, .long 981677584094591), (3, .int 7), (0, .ref x)]) hx hb dX11_digest_89 rfl hl (by decide) rfl (fun ls hl => ?_)
  refine lv_iinc (v := 8) (lv' := [(3, .int 8), (1, .long 981677584094591), (0, .ref x)]) hx hb dX11_digest_90 hl (k := 1) rfl (by decide) (by decide) rfl (fun ls hl => ?_)
  refine lv_goto (tgt := 71) hx hb dX11_digest_93 (by decide) ?_
  refine lv_iload_n hx hb dX11_digest_71 rfl (lv_at hl 0 rfl) ?_
  refine lv_bipush (v := 12) hx hb dX11_digest_72 (by decide) ?_
  refine lv_icmp_gt (tgt := 96) hx hb dX11_digest_74 (by decide) (fun c_37 => absurd c_37 (by decide)) (fun _ => ?_)
  refine lv_ldc2 (v := 31) hx hb hown (htb _ tw_740) dX11_digest_77 ?_
  refine lv_lload_n hx hb dX11_digest_80 rfl (lv_at hl 1 rfl) ?_
  refine lv_lmul hx hb dX11_digest_81 ?_
  refine wk_tol (show ((31 * 981677584094591) : Int64) = 30432005106932321 by decide) ?_
  refine lv_aload_n hx hb dX11_digest_82 rfl (lv_at hl 2 rfl) ?_
  refine lv_iload_n hx hb dX11_digest_83 rfl (lv_at hl 0 rfl) ?_
  refine wk_iV (As := [.int 8]) (rest := [.long 30432005106932321]) (wc := [(x, .inr (11, [.ref pg, .ref wr, .ref nw, .ref kp, .ref wk, .ref tr, .null, .int 0, .int 0, .int 0])), (pg, .inr (6, [.ref pgc, .int 0])), (nw, .inr (2, [.ref nwf, .ref nws, .ref nwe, .int 0, .int 0, .int 0])), (nwf, .inr (8, [.ref nwfk, .ref nwfv, .ref nwfh, .ref nwft, .int 0])), (nws, .inr (8, [.ref nwsk, .ref nwsv, .ref nwsh, .ref nwst, .int 0])), (nwe, .inr (4, [.ref nwea, .ref nweb, .ref nwec, .int 0]))]) (wr := []) (n := 1) (R := _) ⟨hx, hb, hml, hown, htb⟩ (c_X11_count l D cy x pg wr nw kp wk tr pgc nwf nws nwe nwfk nwfv nwfh nwft nwsk nwsv nwsh nwst nwea nweb nwec 8 ) tw_724 tw_756 tw_722 tw_723 tw_64 rfl rfl (by decide +kernel) ⟨Nat.le_of_ble_eq_true rfl, Nat.le_of_ble_eq_true rfl⟩ hK hP hD hS hA [0, 1, 2, 3, 4, 5] [] rfl rfl rfl rfl (by decide) 0 (ci := 11) rfl rfl rfl hl.1 rfl (Nat.le_of_ble_eq_true rfl) dX11_digest_84 ⟨Nat.le_of_ble_eq_true rfl, Nat.le_of_ble_eq_true rfl⟩ (fun r_38 u_39 H locs hw_40 hP hD hS => ?_)
  refine W.widen (k := 0) (n := 0) (by decide) (by decide) ?_
  have hw_40 : r_38 = if (0 ≤ (8 : Int32).toInt ∧ (8 : Int32).toInt ≤ 12) then 0 else (-102) := hw_40
  subst hw_40
  have hP : va_P D classes [(x, .inr (11, [.ref pg, .ref wr, .ref nw, .ref kp, .ref wk, .ref tr, .null, .int 0, .int 0, .int 0])), (pg, .inr (6, [.ref pgc, .int 0])), (nw, .inr (2, [.ref nwf, .ref nws, .ref nwe, .int 0, .int 0, .int 0])), (nwf, .inr (8, [.ref nwfk, .ref nwfv, .ref nwfh, .ref nwft, .int 0])), (nws, .inr (8, [.ref nwsk, .ref nwsv, .ref nwsh, .ref nwst, .int 0])), (nwe, .inr (4, [.ref nwea, .ref nweb, .ref nwec, .int 0]))] H := hP
  have hD : va_D A [(x, .inr (11, [.ref pg, .ref wr, .ref nw, .ref kp, .ref wk, .ref tr, .null, .int 0, .int 0, .int 0])), (pg, .inr (6, [.ref pgc, .int 0])), (nw, .inr (2, [.ref nwf, .ref nws, .ref nwe, .int 0, .int 0, .int 0])), (nwf, .inr (8, [.ref nwfk, .ref nwfv, .ref nwfh, .ref nwft, .int 0])), (nws, .inr (8, [.ref nwsk, .ref nwsv, .ref nwsh, .ref nwst, .int 0])), (nwe, .inr (4, [.ref nwea, .ref nweb, .ref nwec, .int 0]))] := hD
  refine wk_toi (show ((if (0 ≤ (8 : Int32).toInt ∧ (8 : Int32).toInt ≤ 12) then 0 else (-102)) : Int32) = 0 by decide) ?_
  refine lv_i2l (v := 0) hx hb dX11_digest_87 (by decide) ?_
  refine lv_ladd hx hb dX11_digest_88 ?_
  refine wk_tol (show ((30432005106932321 + 0) : Int64) = 30432005106932321 by decide) ?_
  refine lv_lstore_n (lv' := [(1, .long 30432005106932321), (3, .int 8), (0, .ref x)]) hx hb dX11_digest_89 rfl hl (by decide) rfl (fun ls hl => ?_)
  refine lv_iinc (v := 9) (lv' := [(3, .int 9), (1, .long 30432005106932321), (0, .ref x)]) hx hb dX11_digest_90 hl (k := 1) rfl (by decide) (by decide) rfl (fun ls hl => ?_)
  refine lv_goto (tgt := 71) hx hb dX11_digest_93 (by decide) ?_
  refine lv_iload_n hx hb dX11_digest_71 rfl (lv_at hl 0 rfl) ?_
  refine lv_bipush (v := 12) hx hb dX11_digest_72 (by decide) ?_
  refine lv_icmp_gt (tgt := 96) hx hb dX11_digest_74 (by decide) (fun c_41 => absurd c_41 (by decide)) (fun _ => ?_)
  refine lv_ldc2 (v := 31) hx hb hown (htb _ tw_740) dX11_digest_77 ?_
  refine lv_lload_n hx hb dX11_digest_80 rfl (lv_at hl 1 rfl) ?_
  refine lv_lmul hx hb dX11_digest_81 ?_
  refine wk_tol (show ((31 * 30432005106932321) : Int64) = 943392158314901951 by decide) ?_
  refine lv_aload_n hx hb dX11_digest_82 rfl (lv_at hl 2 rfl) ?_
  refine lv_iload_n hx hb dX11_digest_83 rfl (lv_at hl 0 rfl) ?_
  refine wk_iV (As := [.int 9]) (rest := [.long 943392158314901951]) (wc := [(x, .inr (11, [.ref pg, .ref wr, .ref nw, .ref kp, .ref wk, .ref tr, .null, .int 0, .int 0, .int 0])), (pg, .inr (6, [.ref pgc, .int 0])), (nw, .inr (2, [.ref nwf, .ref nws, .ref nwe, .int 0, .int 0, .int 0])), (nwf, .inr (8, [.ref nwfk, .ref nwfv, .ref nwfh, .ref nwft, .int 0])), (nws, .inr (8, [.ref nwsk, .ref nwsv, .ref nwsh, .ref nwst, .int 0])), (nwe, .inr (4, [.ref nwea, .ref nweb, .ref nwec, .int 0]))]) (wr := []) (n := 1) (R := _) ⟨hx, hb, hml, hown, htb⟩ (c_X11_count l D cy x pg wr nw kp wk tr pgc nwf nws nwe nwfk nwfv nwfh nwft nwsk nwsv nwsh nwst nwea nweb nwec 9 ) tw_724 tw_756 tw_722 tw_723 tw_64 rfl rfl (by decide +kernel) ⟨Nat.le_of_ble_eq_true rfl, Nat.le_of_ble_eq_true rfl⟩ hK hP hD hS hA [0, 1, 2, 3, 4, 5] [] rfl rfl rfl rfl (by decide) 0 (ci := 11) rfl rfl rfl hl.1 rfl (Nat.le_of_ble_eq_true rfl) dX11_digest_84 ⟨Nat.le_of_ble_eq_true rfl, Nat.le_of_ble_eq_true rfl⟩ (fun r_42 u_43 H locs hw_44 hP hD hS => ?_)
  refine W.widen (k := 0) (n := 0) (by decide) (by decide) ?_
  have hw_44 : r_42 = if (0 ≤ (9 : Int32).toInt ∧ (9 : Int32).toInt ≤ 12) then 0 else (-102) := hw_44
  subst hw_44
  have hP : va_P D classes [(x, .inr (11, [.ref pg, .ref wr, .ref nw, .ref kp, .ref wk, .ref tr, .null, .int 0, .int 0, .int 0])), (pg, .inr (6, [.ref pgc, .int 0])), (nw, .inr (2, [.ref nwf, .ref nws, .ref nwe, .int 0, .int 0, .int 0])), (nwf, .inr (8, [.ref nwfk, .ref nwfv, .ref nwfh, .ref nwft, .int 0])), (nws, .inr (8, [.ref nwsk, .ref nwsv, .ref nwsh, .ref nwst, .int 0])), (nwe, .inr (4, [.ref nwea, .ref nweb, .ref nwec, .int 0]))] H := hP
  have hD : va_D A [(x, .inr (11, [.ref pg, .ref wr, .ref nw, .ref kp, .ref wk, .ref tr, .null, .int 0, .int 0, .int 0])), (pg, .inr (6, [.ref pgc, .int 0])), (nw, .inr (2, [.ref nwf, .ref nws, .ref nwe, .int 0, .int 0, .int 0])), (nwf, .inr (8, [.ref nwfk, .ref nwfv, .ref nwfh, .ref nwft, .int 0])), (nws, .inr (8, [.ref nwsk, .ref nwsv, .ref nwsh, .ref nwst, .int 0])), (nwe, .inr (4, [.ref nwea, .ref nweb, .ref nwec, .int 0]))] := hD
  refine wk_toi (show ((if (0 ≤ (9 : Int32).toInt ∧ (9 : Int32).toInt ≤ 12) then 0 else (-102)) : Int32) = 0 by decide) ?_
  refine lv_i2l (v := 0) hx hb dX11_digest_87 (by decide) ?_
  refine lv_ladd hx hb dX11_digest_88 ?_
  refine wk_tol (show ((943392158314901951 + 0) : Int64) = 943392158314901951 by decide) ?_
  refine lv_lstore_n (lv' := [(1, .long 943392158314901951), (3, .int 9), (0, .ref x)]) hx hb dX11_digest_89 rfl hl (by decide) rfl (fun ls hl => ?_)
  refine lv_iinc (v := 10) (lv' := [(3, .int 10), (1, .long 943392158314901951), (0, .ref x)]) hx hb dX11_digest_90 hl (k := 1) rfl (by decide) (by decide) rfl (fun ls hl => ?_)
  refine lv_goto (tgt := 71) hx hb dX11_digest_93 (by decide) ?_
  refine lv_iload_n hx hb dX11_digest_71 rfl (lv_at hl 0 rfl) ?_
  refine lv_bipush (v := 12) hx hb dX11_digest_72 (by decide) ?_
  refine lv_icmp_gt (tgt := 96) hx hb dX11_digest_74 (by decide) (fun c_45 => absurd c_45 (by decide)) (fun _ => ?_)
  refine lv_ldc2 (v := 31) hx hb hown (htb _ tw_740) dX11_digest_77 ?_
  refine lv_lload_n hx hb dX11_digest_80 rfl (lv_at hl 1 rfl) ?_
  refine lv_lmul hx hb dX11_digest_81 ?_
  refine wk_tol (show ((31 * 943392158314901951) : Int64) = (-7648331239657142751) by decide) ?_
  refine lv_aload_n hx hb dX11_digest_82 rfl (lv_at hl 2 rfl) ?_
  refine lv_iload_n hx hb dX11_digest_83 rfl (lv_at hl 0 rfl) ?_
  refine wk_iV (As := [.int 10]) (rest := [.long (-7648331239657142751)]) (wc := [(x, .inr (11, [.ref pg, .ref wr, .ref nw, .ref kp, .ref wk, .ref tr, .null, .int 0, .int 0, .int 0])), (pg, .inr (6, [.ref pgc, .int 0])), (nw, .inr (2, [.ref nwf, .ref nws, .ref nwe, .int 0, .int 0, .int 0])), (nwf, .inr (8, [.ref nwfk, .ref nwfv, .ref nwfh, .ref nwft, .int 0])), (nws, .inr (8, [.ref nwsk, .ref nwsv, .ref nwsh, .ref nwst, .int 0])), (nwe, .inr (4, [.ref nwea, .ref nweb, .ref nwec, .int 0]))]) (wr := []) (n := 1) (R := _) ⟨hx, hb, hml, hown, htb⟩ (c_X11_count l D cy x pg wr nw kp wk tr pgc nwf nws nwe nwfk nwfv nwfh nwft nwsk nwsv nwsh nwst nwea nweb nwec 10 ) tw_724 tw_756 tw_722 tw_723 tw_64 rfl rfl (by decide +kernel) ⟨Nat.le_of_ble_eq_true rfl, Nat.le_of_ble_eq_true rfl⟩ hK hP hD hS hA [0, 1, 2, 3, 4, 5] [] rfl rfl rfl rfl (by decide) 0 (ci := 11) rfl rfl rfl hl.1 rfl (Nat.le_of_ble_eq_true rfl) dX11_digest_84 ⟨Nat.le_of_ble_eq_true rfl, Nat.le_of_ble_eq_true rfl⟩ (fun r_46 u_47 H locs hw_48 hP hD hS => ?_)
  refine W.widen (k := 0) (n := 0) (by decide) (by decide) ?_
  have hw_48 : r_46 = if (0 ≤ (10 : Int32).toInt ∧ (10 : Int32).toInt ≤ 12) then 0 else (-102) := hw_48
  subst hw_48
  have hP : va_P D classes [(x, .inr (11, [.ref pg, .ref wr, .ref nw, .ref kp, .ref wk, .ref tr, .null, .int 0, .int 0, .int 0])), (pg, .inr (6, [.ref pgc, .int 0])), (nw, .inr (2, [.ref nwf, .ref nws, .ref nwe, .int 0, .int 0, .int 0])), (nwf, .inr (8, [.ref nwfk, .ref nwfv, .ref nwfh, .ref nwft, .int 0])), (nws, .inr (8, [.ref nwsk, .ref nwsv, .ref nwsh, .ref nwst, .int 0])), (nwe, .inr (4, [.ref nwea, .ref nweb, .ref nwec, .int 0]))] H := hP
  have hD : va_D A [(x, .inr (11, [.ref pg, .ref wr, .ref nw, .ref kp, .ref wk, .ref tr, .null, .int 0, .int 0, .int 0])), (pg, .inr (6, [.ref pgc, .int 0])), (nw, .inr (2, [.ref nwf, .ref nws, .ref nwe, .int 0, .int 0, .int 0])), (nwf, .inr (8, [.ref nwfk, .ref nwfv, .ref nwfh, .ref nwft, .int 0])), (nws, .inr (8, [.ref nwsk, .ref nwsv, .ref nwsh, .ref nwst, .int 0])), (nwe, .inr (4, [.ref nwea, .ref nweb, .ref nwec, .int 0]))] := hD
  refine wk_toi (show ((if (0 ≤ (10 : Int32).toInt ∧ (10 : Int32).toInt ≤ 12) then 0 else (-102)) : Int32) = 0 by decide) ?_
  refine lv_i2l (v := 0) hx hb dX11_digest_87 (by decide) ?_
  refine lv_ladd hx hb dX11_digest_88 ?_
  refine wk_tol (show (((-7648331239657142751) + 0) : Int64) = (-7648331239657142751) by decide) ?_
  refine lv_lstore_n (lv' := [(1, .long (-7648331239657142751)), (3, .int 10), (0, .ref x)]) hx hb dX11_digest_89 rfl hl (by decide) rfl (fun ls hl => ?_)
  refine lv_iinc (v := 11) (lv' := [(3, .int 11), (1, .long (-7648331239657142751)), (0, .ref x)]) hx hb dX11_digest_90 hl (k := 1) rfl (by decide) (by decide) rfl (fun ls hl => ?_)
  refine lv_goto (tgt := 71) hx hb dX11_digest_93 (by decide) ?_
  refine lv_iload_n hx hb dX11_digest_71 rfl (lv_at hl 0 rfl) ?_
  refine lv_bipush (v := 12) hx hb dX11_digest_72 (by decide) ?_
  refine lv_icmp_gt (tgt := 96) hx hb dX11_digest_74 (by decide) (fun c_49 => absurd c_49 (by decide)) (fun _ => ?_)
  refine lv_ldc2 (v := 31) hx hb hown (htb _ tw_740) dX11_digest_77 ?_
  refine lv_lload_n hx hb dX11_digest_80 rfl (lv_at hl 1 rfl) ?_
  refine lv_lmul hx hb dX11_digest_81 ?_
  refine wk_tol (show ((31 * (-7648331239657142751)) : Int64) = 2709404528852745727 by decide) ?_
  refine lv_aload_n hx hb dX11_digest_82 rfl (lv_at hl 2 rfl) ?_
  refine lv_iload_n hx hb dX11_digest_83 rfl (lv_at hl 0 rfl) ?_
  refine wk_iV (As := [.int 11]) (rest := [.long 2709404528852745727]) (wc := [(x, .inr (11, [.ref pg, .ref wr, .ref nw, .ref kp, .ref wk, .ref tr, .null, .int 0, .int 0, .int 0])), (pg, .inr (6, [.ref pgc, .int 0])), (nw, .inr (2, [.ref nwf, .ref nws, .ref nwe, .int 0, .int 0, .int 0])), (nwf, .inr (8, [.ref nwfk, .ref nwfv, .ref nwfh, .ref nwft, .int 0])), (nws, .inr (8, [.ref nwsk, .ref nwsv, .ref nwsh, .ref nwst, .int 0])), (nwe, .inr (4, [.ref nwea, .ref nweb, .ref nwec, .int 0]))]) (wr := []) (n := 1) (R := _) ⟨hx, hb, hml, hown, htb⟩ (c_X11_count l D cy x pg wr nw kp wk tr pgc nwf nws nwe nwfk nwfv nwfh nwft nwsk nwsv nwsh nwst nwea nweb nwec 11 ) tw_724 tw_756 tw_722 tw_723 tw_64 rfl rfl (by decide +kernel) ⟨Nat.le_of_ble_eq_true rfl, Nat.le_of_ble_eq_true rfl⟩ hK hP hD hS hA [0, 1, 2, 3, 4, 5] [] rfl rfl rfl rfl (by decide) 0 (ci := 11) rfl rfl rfl hl.1 rfl (Nat.le_of_ble_eq_true rfl) dX11_digest_84 ⟨Nat.le_of_ble_eq_true rfl, Nat.le_of_ble_eq_true rfl⟩ (fun r_50 u_51 H locs hw_52 hP hD hS => ?_)
  refine W.widen (k := 0) (n := 0) (by decide) (by decide) ?_
  have hw_52 : r_50 = if (0 ≤ (11 : Int32).toInt ∧ (11 : Int32).toInt ≤ 12) then 0 else (-102) := hw_52
  subst hw_52
  have hP : va_P D classes [(x, .inr (11, [.ref pg, .ref wr, .ref nw, .ref kp, .ref wk, .ref tr, .null, .int 0, .int 0, .int 0])), (pg, .inr (6, [.ref pgc, .int 0])), (nw, .inr (2, [.ref nwf, .ref nws, .ref nwe, .int 0, .int 0, .int 0])), (nwf, .inr (8, [.ref nwfk, .ref nwfv, .ref nwfh, .ref nwft, .int 0])), (nws, .inr (8, [.ref nwsk, .ref nwsv, .ref nwsh, .ref nwst, .int 0])), (nwe, .inr (4, [.ref nwea, .ref nweb, .ref nwec, .int 0]))] H := hP
  have hD : va_D A [(x, .inr (11, [.ref pg, .ref wr, .ref nw, .ref kp, .ref wk, .ref tr, .null, .int 0, .int 0, .int 0])), (pg, .inr (6, [.ref pgc, .int 0])), (nw, .inr (2, [.ref nwf, .ref nws, .ref nwe, .int 0, .int 0, .int 0])), (nwf, .inr (8, [.ref nwfk, .ref nwfv, .ref nwfh, .ref nwft, .int 0])), (nws, .inr (8, [.ref nwsk, .ref nwsv, .ref nwsh, .ref nwst, .int 0])), (nwe, .inr (4, [.ref nwea, .ref nweb, .ref nwec, .int 0]))] := hD
  refine wk_toi (show ((if (0 ≤ (11 : Int32).toInt ∧ (11 : Int32).toInt ≤ 12) then 0 else (-102)) : Int32) = 0 by decide) ?_
  refine lv_i2l (v := 0) hx hb dX11_digest_87 (by decide) ?_
  refine lv_ladd hx hb dX11_digest_88 ?_
  refine wk_tol (show ((2709404528852745727 + 0) : Int64) = 2709404528852745727 by decide) ?_
  refine lv_lstore_n (lv' := [(1, .long 2709404528852745727), (3, .int 11), (0, .ref x)]) hx hb dX11_digest_89 rfl hl (by decide) rfl (fun ls hl => ?_)
  refine lv_iinc (v := 12) (lv' := [(3, .int 12), (1, .long 2709404528852745727), (0, .ref x)]) hx hb dX11_digest_90 hl (k := 1) rfl (by decide) (by decide) rfl (fun ls hl => ?_)
  refine lv_goto (tgt := 71) hx hb dX11_digest_93 (by decide) ?_
  refine lv_iload_n hx hb dX11_digest_71 rfl (lv_at hl 0 rfl) ?_
  refine lv_bipush (v := 12) hx hb dX11_digest_72 (by decide) ?_
  refine lv_icmp_gt (tgt := 96) hx hb dX11_digest_74 (by decide) (fun c_53 => absurd c_53 (by decide)) (fun _ => ?_)
  refine lv_ldc2 (v := 31) hx hb hown (htb _ tw_740) dX11_digest_77 ?_
  refine lv_lload_n hx hb dX11_digest_80 rfl (lv_at hl 1 rfl) ?_
  refine lv_lmul hx hb dX11_digest_81 ?_
  refine wk_tol (show ((31 * 2709404528852745727) : Int64) = (-8242179974112640543) by decide) ?_
  refine lv_aload_n hx hb dX11_digest_82 rfl (lv_at hl 2 rfl) ?_
  refine lv_iload_n hx hb dX11_digest_83 rfl (lv_at hl 0 rfl) ?_
  refine wk_iV (As := [.int 12]) (rest := [.long (-8242179974112640543)]) (wc := [(x, .inr (11, [.ref pg, .ref wr, .ref nw, .ref kp, .ref wk, .ref tr, .null, .int 0, .int 0, .int 0])), (pg, .inr (6, [.ref pgc, .int 0])), (nw, .inr (2, [.ref nwf, .ref nws, .ref nwe, .int 0, .int 0, .int 0])), (nwf, .inr (8, [.ref nwfk, .ref nwfv, .ref nwfh, .ref nwft, .int 0])), (nws, .inr (8, [.ref nwsk, .ref nwsv, .ref nwsh, .ref nwst, .int 0])), (nwe, .inr (4, [.ref nwea, .ref nweb, .ref nwec, .int 0]))]) (wr := []) (n := 1) (R := _) ⟨hx, hb, hml, hown, htb⟩ (c_X11_count l D cy x pg wr nw kp wk tr pgc nwf nws nwe nwfk nwfv nwfh nwft nwsk nwsv nwsh nwst nwea nweb nwec 12 ) tw_724 tw_756 tw_722 tw_723 tw_64 rfl rfl (by decide +kernel) ⟨Nat.le_of_ble_eq_true rfl, Nat.le_of_ble_eq_true rfl⟩ hK hP hD hS hA [0, 1, 2, 3, 4, 5] [] rfl rfl rfl rfl (by decide) 0 (ci := 11) rfl rfl rfl hl.1 rfl (Nat.le_of_ble_eq_true rfl) dX11_digest_84 ⟨Nat.le_of_ble_eq_true rfl, Nat.le_of_ble_eq_true rfl⟩ (fun r_54 u_55 H locs hw_56 hP hD hS => ?_)
  refine W.widen (k := 0) (n := 0) (by decide) (by decide) ?_
  have hw_56 : r_54 = if (0 ≤ (12 : Int32).toInt ∧ (12 : Int32).toInt ≤ 12) then 0 else (-102) := hw_56
  subst hw_56
  have hP : va_P D classes [(x, .inr (11, [.ref pg, .ref wr, .ref nw, .ref kp, .ref wk, .ref tr, .null, .int 0, .int 0, .int 0])), (pg, .inr (6, [.ref pgc, .int 0])), (nw, .inr (2, [.ref nwf, .ref nws, .ref nwe, .int 0, .int 0, .int 0])), (nwf, .inr (8, [.ref nwfk, .ref nwfv, .ref nwfh, .ref nwft, .int 0])), (nws, .inr (8, [.ref nwsk, .ref nwsv, .ref nwsh, .ref nwst, .int 0])), (nwe, .inr (4, [.ref nwea, .ref nweb, .ref nwec, .int 0]))] H := hP
  have hD : va_D A [(x, .inr (11, [.ref pg, .ref wr, .ref nw, .ref kp, .ref wk, .ref tr, .null, .int 0, .int 0, .int 0])), (pg, .inr (6, [.ref pgc, .int 0])), (nw, .inr (2, [.ref nwf, .ref nws, .ref nwe, .int 0, .int 0, .int 0])), (nwf, .inr (8, [.ref nwfk, .ref nwfv, .ref nwfh, .ref nwft, .int 0])), (nws, .inr (8, [.ref nwsk, .ref nwsv, .ref nwsh, .ref nwst, .int 0])), (nwe, .inr (4, [.ref nwea, .ref nweb, .ref nwec, .int 0]))] := hD
  refine wk_toi (show ((if (0 ≤ (12 : Int32).toInt ∧ (12 : Int32).toInt ≤ 12) then 0 else (-102)) : Int32) = 0 by decide) ?_
  refine lv_i2l (v := 0) hx hb dX11_digest_87 (by decide) ?_
  refine lv_ladd hx hb dX11_digest_88 ?_
  refine wk_tol (show (((-8242179974112640543) + 0) : Int64) = (-8242179974112640543) by decide) ?_
  refine lv_lstore_n (lv' := [(1, .long (-8242179974112640543)), (3, .int 12), (0, .ref x)]) hx hb dX11_digest_89 rfl hl (by decide) rfl (fun ls hl => ?_)
  refine lv_iinc (v := 13) (lv' := [(3, .int 13), (1, .long (-8242179974112640543)), (0, .ref x)]) hx hb dX11_digest_90 hl (k := 1) rfl (by decide) (by decide) rfl (fun ls hl => ?_)
  refine lv_goto (tgt := 71) hx hb dX11_digest_93 (by decide) ?_
  refine lv_iload_n hx hb dX11_digest_71 rfl (lv_at hl 0 rfl) ?_
  refine lv_bipush (v := 12) hx hb dX11_digest_72 (by decide) ?_
  refine lv_icmp_gt (tgt := 96) hx hb dX11_digest_74 (by decide) (fun _ => ?_) (fun c_57 => absurd (by decide) c_57)
  refine lv_lload_n hx hb dX11_digest_96 rfl (lv_at hl 1 rfl) ?_
  refine W.widen (k := 0) (n := 0) (by decide) (by decide) ?_
  exact wk_lret () hx hb hr hlocks rfl hK hP hD hS [0, 1, 2, 3, 4, 5] rfl rfl dX11_digest_97
