def lp_X9_agrees_3 (trw_number : Int32) (trw_lane : Int32) (trw_looks : Int32) (tra_a : Nat → Int32) (ro_size : Int32) (rok_a : Nat → Int32) (se_size : Int32) (sea_a : Nat → Int32) (seb_a : Nat → Int32) (sec_a : Nat → Int32) (a : Int32) : Nat → Int32 → Int32 → Int32 → Int32 → Int32 × Int32 × Int32 × Int32
  | 0, _, _, _, _ => default
  | fu_3 + 1, x4_3, trw_number_3, trw_lane_3, trw_looks_3 => (if se_size ≤ x4_3 then (1, trw_number_3, trw_lane_3, trw_looks_3) else (if (sea_a x4_3.toNatClampNeg) = a then (pm2 (fn_X10_go trw_number_3 trw_lane_3 trw_looks_3 ro_size rok_a tra_a (-1) (seb_a x4_3.toNatClampNeg)) (fun o_7 t_ => (pm2 (t_) (fun o_8 o_9 => (if o_9 = (sec_a x4_3.toNatClampNeg) then (lp_X9_agrees_3 trw_number trw_lane trw_looks tra_a ro_size rok_a se_size sea_a seb_a sec_a a fu_3 (x4_3 + 1) o_7 o_8 o_9) else (0, o_7, o_8, o_9)))))) else (lp_X9_agrees_3 trw_number trw_lane trw_looks tra_a ro_size rok_a se_size sea_a seb_a sec_a a fu_3 (x4_3 + 1) trw_number_3 trw_lane_3 trw_looks_3)))
termination_by n => n
def fn_X9_agrees (trw_number : Int32) (trw_lane : Int32) (trw_looks : Int32) (tra_a : Nat → Int32) (ro_size : Int32) (rok_a : Nat → Int32) (se_size : Int32) (sea_a : Nat → Int32) (seb_a : Nat → Int32) (sec_a : Nat → Int32) (a : Int32) : Int32 × Int32 × Int32 × Int32 := (lp_X9_agrees_3 trw_number trw_lane trw_looks tra_a ro_size rok_a se_size sea_a seb_a sec_a a 8 0 trw_number trw_lane trw_looks)
theorem dX9_agrees_0 : decode cX9_agrees 0 = .ok (.iconst 0, 1) := by decide +kernel
theorem dX9_agrees_1 : decode cX9_agrees 1 = .ok (.istore 4, 2) := by decide +kernel
theorem dX9_agrees_3 : decode cX9_agrees 3 = .ok (.iload 4, 2) := by decide +kernel
theorem dX9_agrees_5 : decode cX9_agrees 5 = .ok (.aload_n 2, 1) := by decide +kernel
theorem dX9_agrees_6 : decode cX9_agrees 6 = .ok (.getfield 88, 3) := by decide +kernel
theorem dX9_agrees_9 : decode cX9_agrees 9 = .ok (.if_icmp .ge 59, 3) := by decide +kernel
theorem dX9_agrees_12 : decode cX9_agrees 12 = .ok (.aload_n 2, 1) := by decide +kernel
theorem dX9_agrees_13 : decode cX9_agrees 13 = .ok (.getfield 91, 3) := by decide +kernel
theorem dX9_agrees_16 : decode cX9_agrees 16 = .ok (.iload 4, 2) := by decide +kernel
theorem dX9_agrees_18 : decode cX9_agrees 18 = .ok (.iaload, 1) := by decide +kernel
theorem dX9_agrees_19 : decode cX9_agrees 19 = .ok (.iload_n 3, 1) := by decide +kernel
theorem dX9_agrees_20 : decode cX9_agrees 20 = .ok (.if_icmp .ne 42, 3) := by decide +kernel
theorem dX9_agrees_23 : decode cX9_agrees 23 = .ok (.aload_n 0, 1) := by decide +kernel
theorem dX9_agrees_24 : decode cX9_agrees 24 = .ok (.getfield 12, 3) := by decide +kernel
theorem dX9_agrees_27 : decode cX9_agrees 27 = .ok (.aload_n 1, 1) := by decide +kernel
theorem dX9_agrees_28 : decode cX9_agrees 28 = .ok (.aload_n 0, 1) := by decide +kernel
theorem dX9_agrees_29 : decode cX9_agrees 29 = .ok (.getfield 18, 3) := by decide +kernel
theorem dX9_agrees_32 : decode cX9_agrees 32 = .ok (.iconst (-1), 1) := by decide +kernel
theorem dX9_agrees_33 : decode cX9_agrees 33 = .ok (.aload_n 2, 1) := by decide +kernel
theorem dX9_agrees_34 : decode cX9_agrees 34 = .ok (.getfield 94, 3) := by decide +kernel
theorem dX9_agrees_37 : decode cX9_agrees 37 = .ok (.iload 4, 2) := by decide +kernel
theorem dX9_agrees_39 : decode cX9_agrees 39 = .ok (.iaload, 1) := by decide +kernel
theorem dX9_agrees_40 : decode cX9_agrees 40 = .ok (.invokevirtual 40, 3) := by decide +kernel
theorem dX9_agrees_43 : decode cX9_agrees 43 = .ok (.aload_n 0, 1) := by decide +kernel
theorem dX9_agrees_44 : decode cX9_agrees 44 = .ok (.getfield 12, 3) := by decide +kernel
theorem dX9_agrees_47 : decode cX9_agrees 47 = .ok (.getfield 44, 3) := by decide +kernel
theorem dX9_agrees_50 : decode cX9_agrees 50 = .ok (.aload_n 2, 1) := by decide +kernel
theorem dX9_agrees_51 : decode cX9_agrees 51 = .ok (.getfield 97, 3) := by decide +kernel
theorem dX9_agrees_54 : decode cX9_agrees 54 = .ok (.iload 4, 2) := by decide +kernel
theorem dX9_agrees_56 : decode cX9_agrees 56 = .ok (.iaload, 1) := by decide +kernel
theorem dX9_agrees_57 : decode cX9_agrees 57 = .ok (.if_icmp .eq 5, 3) := by decide +kernel
theorem dX9_agrees_60 : decode cX9_agrees 60 = .ok (.iconst 0, 1) := by decide +kernel
theorem dX9_agrees_61 : decode cX9_agrees 61 = .ok (.ireturn, 1) := by decide +kernel
theorem dX9_agrees_62 : decode cX9_agrees 62 = .ok (.iinc 4 1, 3) := by decide +kernel
theorem dX9_agrees_65 : decode cX9_agrees 65 = .ok (.goto (-62), 3) := by decide +kernel
theorem dX9_agrees_68 : decode cX9_agrees 68 = .ok (.iconst 1, 1) := by decide +kernel
theorem dX9_agrees_69 : decode cX9_agrees 69 = .ok (.ireturn, 1) := by decide +kernel
set_option maxHeartbeats 4000000 in
set_option maxRecDepth 100000 in
theorem c_X9_agrees (l : Launch) (D : va_G) (cy : ClassId) (tr trw tra trb trc ro rok rov roh rot se sea seb sec : Nat) (tr_least : Int32) (tr_bestLinks : Int32) (tr_changeNumber : Int32) (tr_changeHeight : Int32) (trw_number : Int32) (trw_lane : Int32) (trw_looks : Int32) (tra_a : Nat → Int32) (ro_size : Int32) (rok_a : Nat → Int32) (se_size : Int32) (sea_a : Nat → Int32) (seb_a : Nat → Int32) (sec_a : Nat → Int32) (a : Int32) (g_0 : (-1) ≤ trw_number.toInt ∧ trw_number.toInt ≤ 7) (g_1 : 0 ≤ ro_size.toInt ∧ ro_size.toInt ≤ 8) (g_2 : 0 ≤ se_size.toInt ∧ se_size.toInt ≤ 6) : wk_Ci l yX9_agrees cX9_agrees 5 (some .boolean) { frames := 3, cells := 0, slots := 0, locals := 65 } D cy [.ref tr, .ref ro, .ref se, .int a] [(tr, .inr (9, [.ref trw, .ref tra, .ref trb, .ref trc, .int tr_least, .int tr_bestLinks, .int tr_changeNumber, .int tr_changeHeight])), (trw, .inr (10, [.int trw_number, .int trw_lane, .int trw_looks])), (tra, .inl (cy, 8, .inl tra_a)), (ro, .inr (8, [.ref rok, .ref rov, .ref roh, .ref rot, .int ro_size])), (rok, .inl (cy, 8, .inl rok_a)), (se, .inr (4, [.ref sea, .ref seb, .ref sec, .int se_size])), (sea, .inl (cy, 6, .inl sea_a)), (seb, .inl (cy, 6, .inl seb_a)), (sec, .inl (cy, 6, .inl sec_a))] 0 0 (fun (r : Int32) (u : Int32 × Int32 × Int32) => (r, u) = (fn_X9_agrees trw_number trw_lane trw_looks tra_a ro_size rok_a se_size sea_a seb_a sec_a a) ∧ (r = 0 ∨ r = 1) ∧ ((-1) ≤ u.1.toInt ∧ u.1.toInt ≤ 7)) (fun u => [(tr, .inr (9, [.ref trw, .ref tra, .ref trb, .ref trc, .int tr_least, .int tr_bestLinks, .int tr_changeNumber, .int tr_changeHeight])), (trw, .inr (10, [.int u.1, .int u.2.1, .int u.2.2])), (tra, .inl (cy, 8, .inl tra_a)), (ro, .inr (8, [.ref rok, .ref rov, .ref roh, .ref rot, .int ro_size])), (rok, .inl (cy, 8, .inl rok_a)), (se, .inr (4, [.ref sea, .ref seb, .ref sec, .int se_size])), (sea, .inl (cy, 6, .inl sea_a)), (seb, .inl (cy, 6, .inl seb_a)), (sec, .inl (cy, 6, .inl sec_a))]) := by
  refine wk_mk2Cz (by decide) (Nat.le_of_ble_eq_true rfl) ?_
  intro p e s m args below meth c A ls Q B hA hK hP hD hS hl hret
  obtain ⟨hx, hb, hr, hlocks, hml, hown, htb, hin⟩ := B
  have hl : lv_has ls 5 [(0, .ref tr), (1, .ref ro), (2, .ref se), (3, .int a)] := hl
  have hF : (fn_X9_agrees trw_number trw_lane trw_looks tra_a ro_size rok_a se_size sea_a seb_a sec_a a) = (fn_X9_agrees trw_number trw_lane trw_looks tra_a ro_size rok_a se_size sea_a seb_a sec_a a) := rfl
  conv at hF => rhs; unfold fn_X9_agrees
  refine lv_iconst (v := 0) hx hb dX9_agrees_0 (by decide) ?_
  refine lv_istore (lv' := [(4, .int 0), (0, .ref tr), (1, .ref ro), (2, .ref se), (3, .int a)]) hx hb dX9_agrees_1 hl (by decide) rfl (fun ls hl => ?_)
  have hlp_3 : ∀ (fu_3 : Nat) (x4_3 : Int32) (trw_number_3 : Int32) (trw_lane_3 : Int32) (trw_looks_3 : Int32) (H : Heap) (locs : List Loc) (ls : Array Slot), (0 ≤ x4_3.toInt ∧ x4_3.toInt ≤ 6) → ((-1) ≤ trw_number_3.toInt ∧ trw_number_3.toInt ≤ 7) → 6 - x4_3.toInt < (fu_3 : Int) → ((fn_X9_agrees trw_number trw_lane trw_looks tra_a ro_size rok_a se_size sea_a seb_a sec_a a) = lp_X9_agrees_3 trw_number trw_lane trw_looks tra_a ro_size rok_a se_size sea_a seb_a sec_a a fu_3 x4_3 trw_number_3 trw_lane_3 trw_looks_3) → va_P D classes [(tr, .inr (9, [.ref trw, .ref tra, .ref trb, .ref trc, .int tr_least, .int tr_bestLinks, .int tr_changeNumber, .int tr_changeHeight])), (trw, .inr (10, [.int trw_number_3, .int trw_lane_3, .int trw_looks_3])), (tra, .inl (cy, 8, .inl tra_a)), (ro, .inr (8, [.ref rok, .ref rov, .ref roh, .ref rot, .int ro_size])), (rok, .inl (cy, 8, .inl rok_a)), (se, .inr (4, [.ref sea, .ref seb, .ref sec, .int se_size])), (sea, .inl (cy, 6, .inl sea_a)), (seb, .inl (cy, 6, .inl seb_a)), (sec, .inl (cy, 6, .inl sec_a))] H → va_D A [(tr, .inr (9, [.ref trw, .ref tra, .ref trb, .ref trc, .int tr_least, .int tr_bestLinks, .int tr_changeNumber, .int tr_changeHeight])), (trw, .inr (10, [.int trw_number_3, .int trw_lane_3, .int trw_looks_3])), (tra, .inl (cy, 8, .inl tra_a)), (ro, .inr (8, [.ref rok, .ref rov, .ref roh, .ref rot, .int ro_size])), (rok, .inl (cy, 8, .inl rok_a)), (se, .inr (4, [.ref sea, .ref seb, .ref sec, .int se_size])), (sea, .inl (cy, 6, .inl sea_a)), (seb, .inl (cy, 6, .inl seb_a)), (sec, .inl (cy, 6, .inl sec_a))] → va_S A s.heap H locs → lv_has ls 5 [(4, .int x4_3), (0, .ref tr), (1, .ref ro), (2, .ref se), (3, .int a)] → W p l e { frames := 3, cells := 0, slots := 0, locals := 65 } s m args below meth c H locs 0 0 Q (F0 m 3 ls []) := by
    intro fu_3
    induction fu_3 with
    | zero =>
      intro x4_3 trw_number_3 trw_lane_3 trw_looks_3 H locs ls hi_3_0 hi_3_1 hm hF hP hD hS hl
      exfalso; omega
    | succ fu_3 ih_3 =>
      intro x4_3 trw_number_3 trw_lane_3 trw_looks_3 H locs ls hi_3_0 hi_3_1 hm hF hP hD hS hl
      rw [lp_X9_agrees_3] at hF
      refine lv_iload hx hb dX9_agrees_3 (lv_at hl 0 rfl) ?_
      refine lv_aload_n hx hb dX9_agrees_5 rfl (lv_at hl 3 rfl) ?_
      refine va_get (D := D) (ci := 4) (v := .int se_size) (C := RX4) (T := TX4) (N := 4) hx hb htb inX4 hown hK hP 5 rfl rfl 3 (by decide) (htb _ tw_159) (fun _ h9 => h9) rfl dX9_agrees_6 ?_
      refine lv_icmp_ge (tgt := 68) hx hb dX9_agrees_9 (by decide) (fun c_1 => ?_) (fun c_1 => ?_)
      · have k_1 : se_size.toInt ≤ x4_3.toInt := wk_le c_1
        replace hF := hF.trans (if_pos c_1)
        refine lv_iconst (v := 1) hx hb dX9_agrees_68 (by decide) ?_
        refine W.widen (k := 0) (n := 0) (by decide) (by decide) ?_
        exact hret 1 (trw_number_3, trw_lane_3, trw_looks_3) _ _ _ 69 (wk_nb (by first | exact Or.inl rfl | exact Or.inr rfl | assumption)) (wk_sub9 (is := [0, 1, 2, 3, 4, 5, 6, 7, 8]) hP rfl) (hD.sub [0, 1, 2, 3, 4, 5, 6, 7, 8] rfl rfl) hS dX9_agrees_69 ⟨hF.symm, (by first | exact Or.inl rfl | exact Or.inr rfl | assumption), (show ((-1) ≤ trw_number_3.toInt ∧ trw_number_3.toInt ≤ 7) from by omega)⟩
      · have k_1 : ¬ se_size.toInt ≤ x4_3.toInt := wk_nle c_1
        replace hF := hF.trans (if_neg c_1)
        refine lv_aload_n hx hb dX9_agrees_12 rfl (lv_at hl 3 rfl) ?_
        refine va_get (D := D) (ci := 4) (v := .ref sea) (C := RX4) (T := TX4) (N := 4) hx hb htb inX4 hown hK hP 5 rfl rfl 0 (by decide) (htb _ tw_153) (fun _ h9 => h9) rfl dX9_agrees_13 ?_
        refine lv_iload hx hb dX9_agrees_16 (lv_at hl 0 rfl) ?_
        refine va_iald hx hb hK hP 6 0 rfl rfl (show vp_in x4_3 6 from vp_in_iff.mpr (show 0 ≤ x4_3.toInt ∧ x4_3.toInt < ((6 : Nat) : Int) from by omega)) dX9_agrees_18 ?_
        refine lv_iload_n hx hb dX9_agrees_19 rfl (lv_at hl 4 rfl) ?_
        refine lv_icmp_ne (tgt := 62) hx hb dX9_agrees_20 (by decide) (fun c_2 => ?_) (fun c_2 => ?_)
        · have k_2 : ¬ (sea_a x4_3.toNatClampNeg).toInt = a.toInt := wk_neq c_2
          replace hF := hF.trans (if_neg c_2)
          refine lv_iinc (v := (x4_3 + 1)) (lv' := [(4, .int (x4_3 + 1)), (0, .ref tr), (1, .ref ro), (2, .ref se), (3, .int a)]) hx hb dX9_agrees_62 hl (k := 0) rfl rfl (by decide) rfl (fun ls hl => ?_)
          have k_3 : (x4_3 + 1).toInt = x4_3.toInt + 1 := wk_add x4_3.toInt 1 rfl rfl (by omega) (by omega)
          refine lv_goto (tgt := 3) hx hb dX9_agrees_65 (by decide) ?_
          exact ih_3 (x4_3 + 1) trw_number_3 trw_lane_3 trw_looks_3 _ _ _ (show 0 ≤ (x4_3 + 1).toInt ∧ (x4_3 + 1).toInt ≤ 6 from by omega) (show (-1) ≤ trw_number_3.toInt ∧ trw_number_3.toInt ≤ 7 from by omega) (show 6 - (x4_3 + 1).toInt < ((fu_3 : Nat) : Int) from by omega) hF hP hD hS (lv_sub hl [0, 1, 2, 3, 4] rfl)
        · have k_2 : (sea_a x4_3.toNatClampNeg).toInt = a.toInt := wk_eq c_2
          replace hF := hF.trans (if_pos c_2)
          refine lv_aload_n hx hb dX9_agrees_23 rfl (lv_at hl 1 rfl) ?_
          refine va_get (D := D) (ci := 9) (v := .ref trw) (C := RX9) (T := TX9) (N := 8) hx hb htb inX9 hown hK hP 0 rfl rfl 0 (by decide) (htb _ tw_223) (fun _ h9 => h9) rfl dX9_agrees_24 ?_
          refine lv_aload_n hx hb dX9_agrees_27 rfl (lv_at hl 2 rfl) ?_
          refine lv_aload_n hx hb dX9_agrees_28 rfl (lv_at hl 1 rfl) ?_
          refine va_get (D := D) (ci := 9) (v := .ref tra) (C := RX9) (T := TX9) (N := 8) hx hb htb inX9 hown hK hP 0 rfl rfl 1 (by decide) (htb _ tw_224) (fun _ h9 => h9) rfl dX9_agrees_29 ?_
          refine lv_iconst (v := (-1)) hx hb dX9_agrees_32 (by decide) ?_
          refine lv_aload_n hx hb dX9_agrees_33 rfl (lv_at hl 3 rfl) ?_
          refine va_get (D := D) (ci := 4) (v := .ref seb) (C := RX4) (T := TX4) (N := 4) hx hb htb inX4 hown hK hP 5 rfl rfl 1 (by decide) (htb _ tw_155) (fun _ h9 => h9) rfl dX9_agrees_34 ?_
          refine lv_iload hx hb dX9_agrees_37 (lv_at hl 0 rfl) ?_
          refine va_iald hx hb hK hP 7 0 rfl rfl (show vp_in x4_3 6 from vp_in_iff.mpr (show 0 ≤ x4_3.toInt ∧ x4_3.toInt < ((6 : Nat) : Int) from by omega)) dX9_agrees_39 ?_
          refine wk_vV (As := [.ref ro, .ref tra, .int (-1), .int (seb_a x4_3.toNatClampNeg)]) (rest := []) (wc := [(trw, .inr (10, [.int trw_number_3, .int trw_lane_3, .int trw_looks_3])), (ro, .inr (8, [.ref rok, .ref rov, .ref roh, .ref rot, .int ro_size])), (rok, .inl (cy, 8, .inl rok_a)), (tra, .inl (cy, 8, .inl tra_a))]) (wr := [(tr, .inr (9, [.ref trw, .ref tra, .ref trb, .ref trc, .int tr_least, .int tr_bestLinks, .int tr_changeNumber, .int tr_changeHeight])), (se, .inr (4, [.ref sea, .ref seb, .ref sec, .int se_size])), (sea, .inl (cy, 6, .inl sea_a)), (seb, .inl (cy, 6, .inl seb_a)), (sec, .inl (cy, 6, .inl sec_a))]) (n := 4) ⟨hx, hb, hml, hown, htb⟩ (c_X10_go l D cy trw ro rok rov roh rot tra trw_number_3 trw_lane_3 trw_looks_3 ro_size rok_a tra_a (-1) (seb_a x4_3.toNatClampNeg) (show (-1) ≤ trw_number_3.toInt ∧ trw_number_3.toInt ≤ 7 from by omega) (show 0 ≤ ro_size.toInt ∧ ro_size.toInt ≤ 8 from by omega)) tw_489 tw_516 tw_487 tw_488 tw_69 rfl rfl (by decide +kernel) ⟨Nat.le_of_ble_eq_true rfl, Nat.le_of_ble_eq_true rfl⟩ hK hP hD hS hA [1, 3, 4, 2] [0, 5, 6, 7, 8] rfl rfl rfl rfl (by decide) 0 (ci := 10) rfl rfl rfl hl.1 rfl (Nat.le_of_ble_eq_true rfl) dX9_agrees_40 ⟨Nat.le_of_ble_eq_true rfl, Nat.le_of_ble_eq_true rfl⟩ (fun u_5 H locs hw_6 hP hD hS => ?_)
          refine W.widen (k := 0) (n := 0) (by decide) (by decide) ?_
          obtain ⟨o_7, o_8, o_9⟩ := u_5
          obtain ⟨hw_6, k_10⟩ := hw_6
          have hw_6 : (o_7, o_8, o_9) = (fn_X10_go trw_number_3 trw_lane_3 trw_looks_3 ro_size rok_a tra_a (-1) (seb_a x4_3.toNatClampNeg)) := hw_6
          have k_10 : ((-1) ≤ o_7.toInt ∧ o_7.toInt ≤ 7) := k_10
          rw [← hw_6] at hF
          rw [pm2_mk o_7 (o_8, o_9), pm2_mk o_8 o_9] at hF
          have hP : va_P D classes [(tr, .inr (9, [.ref trw, .ref tra, .ref trb, .ref trc, .int tr_least, .int tr_bestLinks, .int tr_changeNumber, .int tr_changeHeight])), (se, .inr (4, [.ref sea, .ref seb, .ref sec, .int se_size])), (sea, .inl (cy, 6, .inl sea_a)), (seb, .inl (cy, 6, .inl seb_a)), (sec, .inl (cy, 6, .inl sec_a)), (trw, .inr (10, [.int o_7, .int o_8, .int o_9])), (ro, .inr (8, [.ref rok, .ref rov, .ref roh, .ref rot, .int ro_size])), (rok, .inl (cy, 8, .inl rok_a)), (tra, .inl (cy, 8, .inl tra_a))] H := hP
          have hD : va_D A [(tr, .inr (9, [.ref trw, .ref tra, .ref trb, .ref trc, .int tr_least, .int tr_bestLinks, .int tr_changeNumber, .int tr_changeHeight])), (se, .inr (4, [.ref sea, .ref seb, .ref sec, .int se_size])), (sea, .inl (cy, 6, .inl sea_a)), (seb, .inl (cy, 6, .inl seb_a)), (sec, .inl (cy, 6, .inl sec_a)), (trw, .inr (10, [.int o_7, .int o_8, .int o_9])), (ro, .inr (8, [.ref rok, .ref rov, .ref roh, .ref rot, .int ro_size])), (rok, .inl (cy, 8, .inl rok_a)), (tra, .inl (cy, 8, .inl tra_a))] := hD
          refine lv_aload_n hx hb dX9_agrees_43 rfl (lv_at hl 1 rfl) ?_
          refine va_get (D := D) (ci := 9) (v := .ref trw) (C := RX9) (T := TX9) (N := 8) hx hb htb inX9 hown hK hP 0 rfl rfl 0 (by decide) (htb _ tw_223) (fun _ h9 => h9) rfl dX9_agrees_44 ?_
          refine va_get (D := D) (ci := 10) (v := .int o_9) (C := RX10) (T := TX10) (N := 3) hx hb htb inX10 hown hK hP 5 rfl rfl 2 (by decide) (htb _ tw_205) (fun _ h9 => h9) rfl dX9_agrees_47 ?_
          refine lv_aload_n hx hb dX9_agrees_50 rfl (lv_at hl 3 rfl) ?_
          refine va_get (D := D) (ci := 4) (v := .ref sec) (C := RX4) (T := TX4) (N := 4) hx hb htb inX4 hown hK hP 1 rfl rfl 2 (by decide) (htb _ tw_157) (fun _ h9 => h9) rfl dX9_agrees_51 ?_
          refine lv_iload hx hb dX9_agrees_54 (lv_at hl 0 rfl) ?_
          refine va_iald hx hb hK hP 4 0 rfl rfl (show vp_in x4_3 6 from vp_in_iff.mpr (show 0 ≤ x4_3.toInt ∧ x4_3.toInt < ((6 : Nat) : Int) from by omega)) dX9_agrees_56 ?_
          refine lv_icmp_eq (tgt := 62) hx hb dX9_agrees_57 (by decide) (fun c_11 => ?_) (fun c_11 => ?_)
          · have k_11 : o_9.toInt = (sec_a x4_3.toNatClampNeg).toInt := wk_eq c_11
            replace hF := hF.trans (if_pos c_11)
            refine lv_iinc (v := (x4_3 + 1)) (lv' := [(4, .int (x4_3 + 1)), (0, .ref tr), (1, .ref ro), (2, .ref se), (3, .int a)]) hx hb dX9_agrees_62 hl (k := 0) rfl rfl (by decide) rfl (fun ls hl => ?_)
            have k_12 : (x4_3 + 1).toInt = x4_3.toInt + 1 := wk_add x4_3.toInt 1 rfl rfl (by omega) (by omega)
            refine lv_goto (tgt := 3) hx hb dX9_agrees_65 (by decide) ?_
            exact ih_3 (x4_3 + 1) o_7 o_8 o_9 _ _ _ (show 0 ≤ (x4_3 + 1).toInt ∧ (x4_3 + 1).toInt ≤ 6 from by omega) (show (-1) ≤ o_7.toInt ∧ o_7.toInt ≤ 7 from by omega) (show 6 - (x4_3 + 1).toInt < ((fu_3 : Nat) : Int) from by omega) hF (wk_sub9 (is := [0, 5, 8, 6, 7, 1, 2, 3, 4]) hP rfl) (hD.sub [0, 5, 8, 6, 7, 1, 2, 3, 4] rfl rfl) hS (lv_sub hl [0, 1, 2, 3, 4] rfl)
          · have k_11 : ¬ o_9.toInt = (sec_a x4_3.toNatClampNeg).toInt := wk_neq c_11
            replace hF := hF.trans (if_neg c_11)
            refine lv_iconst (v := 0) hx hb dX9_agrees_60 (by decide) ?_
            refine W.widen (k := 0) (n := 0) (by decide) (by decide) ?_
            exact hret 0 (o_7, o_8, o_9) _ _ _ 61 (wk_nb (by first | exact Or.inl rfl | exact Or.inr rfl | assumption)) (wk_sub9 (is := [0, 5, 8, 6, 7, 1, 2, 3, 4]) hP rfl) (hD.sub [0, 5, 8, 6, 7, 1, 2, 3, 4] rfl rfl) hS dX9_agrees_61 ⟨hF.symm, (by first | exact Or.inl rfl | exact Or.inr rfl | assumption), (show ((-1) ≤ o_7.toInt ∧ o_7.toInt ≤ 7) from by omega)⟩
  exact hlp_3 8 0 trw_number trw_lane trw_looks _ _ _ (show 0 ≤ 0 ∧ 0 ≤ 6 from by omega) (show (-1) ≤ trw_number.toInt ∧ trw_number.toInt ≤ 7 from by omega) (show 6 - 0 < ((8 : Nat) : Int) from by omega) hF hP hD hS (lv_sub hl [0, 1, 2, 3, 4] rfl)
def lp_X9_heightsLeft_18 (trw_number : Int32) (trw_lane : Int32) (trw_looks : Int32) (tra_a : Nat → Int32) (ro_size : Int32) (rok_a : Nat → Int32) (roh_a : Nat → Int32) (se_size : Int32) (sea_a : Nat → Int32) (seb_a : Nat → Int32) (sec_a : Nat → Int32) (a : Int32) (o_4 : Nat → Int32) : Nat → Int32 → Int32 → Int32 → Int32 → Int32 → (Nat → Int32) → Int32 × Int32 × Int32 × Int32 × Int32 × (Nat → Int32)
  | 0, _, _, _, _, _, _ => default
  | fu_18 + 1, x4_18, x5_18, trw_number_18, trw_lane_18, trw_looks_18, tra_a_18 => (if (4 : Int32) < x5_18 then (x4_18, x5_18, trw_number_18, trw_lane_18, trw_looks_18, tra_a_18) else (pm2 (fn_X9_agrees trw_number_18 trw_lane_18 trw_looks_18 (upd tra_a_18 a.toNatClampNeg x5_18) ro_size rok_a se_size sea_a seb_a sec_a (rok_a a.toNatClampNeg)) (fun r_6 t_ => (pm2 (t_) (fun o_9 t_ => (pm2 (t_) (fun o_10 o_11 => (if r_6 = 0 then (lp_X9_heightsLeft_18 trw_number trw_lane trw_looks tra_a ro_size rok_a roh_a se_size sea_a seb_a sec_a a o_4 fu_18 x4_18 (x5_18 + 1) o_9 o_10 o_11 (upd tra_a_18 a.toNatClampNeg x5_18)) else (lp_X9_heightsLeft_18 trw_number trw_lane trw_looks tra_a ro_size rok_a roh_a se_size sea_a seb_a sec_a a o_4 fu_18 (x4_18 ||| (1 <<< ((x5_18 - 1) &&& 31))) (x5_18 + 1) o_9 o_10 o_11 (upd tra_a_18 a.toNatClampNeg x5_18))))))))))
termination_by n => n
def fn_X9_heightsLeft (trw_number : Int32) (trw_lane : Int32) (trw_looks : Int32) (tra_a : Nat → Int32) (ro_size : Int32) (rok_a : Nat → Int32) (roh_a : Nat → Int32) (se_size : Int32) (sea_a : Nat → Int32) (seb_a : Nat → Int32) (sec_a : Nat → Int32) (a : Int32) : Int32 × Int32 × Int32 × Int32 × (Nat → Int32) := (pm1 (fn_X9_copyHeights ro_size roh_a tra_a) (fun o_4 => (pm2 (lp_X9_heightsLeft_18 trw_number trw_lane trw_looks tra_a ro_size rok_a roh_a se_size sea_a seb_a sec_a a o_4 6 0 1 trw_number trw_lane trw_looks o_4) (fun x4_18 t_ => (pm2 (t_) (fun x5_18 t_ => (pm2 (t_) (fun trw_number_18 t_ => (pm2 (t_) (fun trw_lane_18 t_ => (pm2 (t_) (fun trw_looks_18 tra_a_18 => (x4_18, trw_number_18, trw_lane_18, trw_looks_18, tra_a_18)))))))))))))
theorem dX9_heightsLeft_0 : decode cX9_heightsLeft 0 = .ok (.aload_n 1, 1) := by decide +kernel
theorem dX9_heightsLeft_1 : decode cX9_heightsLeft 1 = .ok (.aload_n 1, 1) := by decide +kernel
theorem dX9_heightsLeft_2 : decode cX9_heightsLeft 2 = .ok (.getfield 78, 3) := by decide +kernel
theorem dX9_heightsLeft_5 : decode cX9_heightsLeft 5 = .ok (.aload_n 0, 1) := by decide +kernel
theorem dX9_heightsLeft_6 : decode cX9_heightsLeft 6 = .ok (.getfield 18, 3) := by decide +kernel
theorem dX9_heightsLeft_9 : decode cX9_heightsLeft 9 = .ok (.invokestatic 68, 3) := by decide +kernel
theorem dX9_heightsLeft_12 : decode cX9_heightsLeft 12 = .ok (.iconst 0, 1) := by decide +kernel
theorem dX9_heightsLeft_13 : decode cX9_heightsLeft 13 = .ok (.istore 4, 2) := by decide +kernel
theorem dX9_heightsLeft_15 : decode cX9_heightsLeft 15 = .ok (.iconst 1, 1) := by decide +kernel
theorem dX9_heightsLeft_16 : decode cX9_heightsLeft 16 = .ok (.istore 5, 2) := by decide +kernel
theorem dX9_heightsLeft_18 : decode cX9_heightsLeft 18 = .ok (.iload 5, 2) := by decide +kernel
theorem dX9_heightsLeft_20 : decode cX9_heightsLeft 20 = .ok (.iconst 4, 1) := by decide +kernel
theorem dX9_heightsLeft_21 : decode cX9_heightsLeft 21 = .ok (.if_icmp .gt 43, 3) := by decide +kernel
theorem dX9_heightsLeft_24 : decode cX9_heightsLeft 24 = .ok (.aload_n 0, 1) := by decide +kernel
theorem dX9_heightsLeft_25 : decode cX9_heightsLeft 25 = .ok (.getfield 18, 3) := by decide +kernel
theorem dX9_heightsLeft_28 : decode cX9_heightsLeft 28 = .ok (.iload_n 3, 1) := by decide +kernel
theorem dX9_heightsLeft_29 : decode cX9_heightsLeft 29 = .ok (.iload 5, 2) := by decide +kernel
theorem dX9_heightsLeft_31 : decode cX9_heightsLeft 31 = .ok (.iastore, 1) := by decide +kernel
theorem dX9_heightsLeft_32 : decode cX9_heightsLeft 32 = .ok (.aload_n 0, 1) := by decide +kernel
theorem dX9_heightsLeft_33 : decode cX9_heightsLeft 33 = .ok (.aload_n 1, 1) := by decide +kernel
theorem dX9_heightsLeft_34 : decode cX9_heightsLeft 34 = .ok (.aload_n 2, 1) := by decide +kernel
theorem dX9_heightsLeft_35 : decode cX9_heightsLeft 35 = .ok (.aload_n 1, 1) := by decide +kernel
theorem dX9_heightsLeft_36 : decode cX9_heightsLeft 36 = .ok (.getfield 37, 3) := by decide +kernel
theorem dX9_heightsLeft_39 : decode cX9_heightsLeft 39 = .ok (.iload_n 3, 1) := by decide +kernel
theorem dX9_heightsLeft_40 : decode cX9_heightsLeft 40 = .ok (.iaload, 1) := by decide +kernel
theorem dX9_heightsLeft_41 : decode cX9_heightsLeft 41 = .ok (.invokevirtual 84, 3) := by decide +kernel
theorem dX9_heightsLeft_44 : decode cX9_heightsLeft 44 = .ok (.ifCond .eq 14, 3) := by decide +kernel
theorem dX9_heightsLeft_47 : decode cX9_heightsLeft 47 = .ok (.iload 4, 2) := by decide +kernel
theorem dX9_heightsLeft_49 : decode cX9_heightsLeft 49 = .ok (.iconst 1, 1) := by decide +kernel
theorem dX9_heightsLeft_50 : decode cX9_heightsLeft 50 = .ok (.iload 5, 2) := by decide +kernel
theorem dX9_heightsLeft_52 : decode cX9_heightsLeft 52 = .ok (.iconst 1, 1) := by decide +kernel
theorem dX9_heightsLeft_53 : decode cX9_heightsLeft 53 = .ok (.isub, 1) := by decide +kernel
theorem dX9_heightsLeft_54 : decode cX9_heightsLeft 54 = .ok (.ishl, 1) := by decide +kernel
theorem dX9_heightsLeft_55 : decode cX9_heightsLeft 55 = .ok (.ior, 1) := by decide +kernel
theorem dX9_heightsLeft_56 : decode cX9_heightsLeft 56 = .ok (.istore 4, 2) := by decide +kernel
theorem dX9_heightsLeft_58 : decode cX9_heightsLeft 58 = .ok (.iinc 5 1, 3) := by decide +kernel
theorem dX9_heightsLeft_61 : decode cX9_heightsLeft 61 = .ok (.goto (-43), 3) := by decide +kernel
theorem dX9_heightsLeft_64 : decode cX9_heightsLeft 64 = .ok (.iload 4, 2) := by decide +kernel
theorem dX9_heightsLeft_66 : decode cX9_heightsLeft 66 = .ok (.ireturn, 1) := by decide +kernel
set_option maxHeartbeats 4000000 in
set_option maxRecDepth 100000 in
theorem c_X9_heightsLeft (l : Launch) (D : va_G) (cy : ClassId) (tr trw tra trb trc ro rok rov roh rot se sea seb sec : Nat) (tr_least : Int32) (tr_bestLinks : Int32) (tr_changeNumber : Int32) (tr_changeHeight : Int32) (trw_number : Int32) (trw_lane : Int32) (trw_looks : Int32) (tra_a : Nat → Int32) (ro_size : Int32) (rok_a : Nat → Int32) (roh_a : Nat → Int32) (se_size : Int32) (sea_a : Nat → Int32) (seb_a : Nat → Int32) (sec_a : Nat → Int32) (a : Int32) (g_0 : (-1) ≤ trw_number.toInt ∧ trw_number.toInt ≤ 7) (g_1 : 0 ≤ ro_size.toInt ∧ ro_size.toInt ≤ 8) (g_2 : 0 ≤ se_size.toInt ∧ se_size.toInt ≤ 6) (g_3 : 0 ≤ a.toInt ∧ a.toInt ≤ 7) : wk_Ci l yX9_heightsLeft cX9_heightsLeft 6 (some .int) { frames := 4, cells := 0, slots := 0, locals := 89 } D cy [.ref tr, .ref ro, .ref se, .int a] [(tr, .inr (9, [.ref trw, .ref tra, .ref trb, .ref trc, .int tr_least, .int tr_bestLinks, .int tr_changeNumber, .int tr_changeHeight])), (trw, .inr (10, [.int trw_number, .int trw_lane, .int trw_looks])), (tra, .inl (cy, 8, .inl tra_a)), (ro, .inr (8, [.ref rok, .ref rov, .ref roh, .ref rot, .int ro_size])), (rok, .inl (cy, 8, .inl rok_a)), (roh, .inl (cy, 8, .inl roh_a)), (se, .inr (4, [.ref sea, .ref seb, .ref sec, .int se_size])), (sea, .inl (cy, 6, .inl sea_a)), (seb, .inl (cy, 6, .inl seb_a)), (sec, .inl (cy, 6, .inl sec_a))] 0 0 (fun (r : Int32) (u : Int32 × Int32 × Int32 × (Nat → Int32)) => (r, u) = (fn_X9_heightsLeft trw_number trw_lane trw_looks tra_a ro_size rok_a roh_a se_size sea_a seb_a sec_a a) ∧ ((-1) ≤ u.1.toInt ∧ u.1.toInt ≤ 7)) (fun u => [(tr, .inr (9, [.ref trw, .ref tra, .ref trb, .ref trc, .int tr_least, .int tr_bestLinks, .int tr_changeNumber, .int tr_changeHeight])), (trw, .inr (10, [.int u.1, .int u.2.1, .int u.2.2.1])), (tra, .inl (cy, 8, .inl u.2.2.2)), (ro, .inr (8, [.ref rok, .ref rov, .ref roh, .ref rot, .int ro_size])), (rok, .inl (cy, 8, .inl rok_a)), (roh, .inl (cy, 8, .inl roh_a)), (se, .inr (4, [.ref sea, .ref seb, .ref sec, .int se_size])), (sea, .inl (cy, 6, .inl sea_a)), (seb, .inl (cy, 6, .inl seb_a)), (sec, .inl (cy, 6, .inl sec_a))]) := by
  refine wk_mk2Ci (by decide) (Nat.le_of_ble_eq_true rfl) ?_
  intro p e s m args below meth c A ls Q B hA hK hP hD hS hl hret
  obtain ⟨hx, hb, hr, hlocks, hml, hown, htb, hin⟩ := B
  have hl : lv_has ls 6 [(0, .ref tr), (1, .ref ro), (2, .ref se), (3, .int a)] := hl
  have hF : (fn_X9_heightsLeft trw_number trw_lane trw_looks tra_a ro_size rok_a roh_a se_size sea_a seb_a sec_a a) = (fn_X9_heightsLeft trw_number trw_lane trw_looks tra_a ro_size rok_a roh_a se_size sea_a seb_a sec_a a) := rfl
  conv at hF => rhs; unfold fn_X9_heightsLeft
  refine lv_aload_n hx hb dX9_heightsLeft_0 rfl (lv_at hl 1 rfl) ?_
  refine lv_aload_n hx hb dX9_heightsLeft_1 rfl (lv_at hl 1 rfl) ?_
  refine va_get (D := D) (ci := 8) (v := .ref roh) (C := RX8) (T := TX8) (N := 5) hx hb htb inX8 hown hK hP 3 rfl rfl 2 (by decide) (htb _ tw_124) (fun _ h9 => h9) rfl dX9_heightsLeft_2 ?_
  refine lv_aload_n hx hb dX9_heightsLeft_5 rfl (lv_at hl 0 rfl) ?_
  refine va_get (D := D) (ci := 9) (v := .ref tra) (C := RX9) (T := TX9) (N := 8) hx hb htb inX9 hown hK hP 0 rfl rfl 1 (by decide) (htb _ tw_224) (fun _ h9 => h9) rfl dX9_heightsLeft_6 ?_
  refine wk_vS (As := [.ref ro, .ref roh, .ref tra]) (rest := []) (wc := [(ro, .inr (8, [.ref rok, .ref rov, .ref roh, .ref rot, .int ro_size])), (roh, .inl (cy, 8, .inl roh_a)), (tra, .inl (cy, 8, .inl tra_a))]) (wr := [(tr, .inr (9, [.ref trw, .ref tra, .ref trb, .ref trc, .int tr_least, .int tr_bestLinks, .int tr_changeNumber, .int tr_changeHeight])), (trw, .inr (10, [.int trw_number, .int trw_lane, .int trw_looks])), (rok, .inl (cy, 8, .inl rok_a)), (se, .inr (4, [.ref sea, .ref seb, .ref sec, .int se_size])), (sea, .inl (cy, 6, .inl sea_a)), (seb, .inl (cy, 6, .inl seb_a)), (sec, .inl (cy, 6, .inl sec_a))]) (n := 3) ⟨hx, hb, hml, hown, htb⟩ (c_X9_copyHeights l D cy ro rok rov roh rot roh tra ro_size roh_a tra_a  (show 0 ≤ ro_size.toInt ∧ ro_size.toInt ≤ 8 from by omega)) tw_511 tw_509 tw_510 tw_70 rfl rfl (by decide +kernel) ⟨Nat.le_of_ble_eq_true rfl, Nat.le_of_ble_eq_true rfl⟩ hK hP hD hS hA [3, 5, 2] [0, 1, 4, 6, 7, 8, 9] rfl rfl rfl rfl (by decide) rfl hl.1 rfl (Nat.le_of_ble_eq_true rfl) dX9_heightsLeft_9 ⟨Nat.le_of_ble_eq_true rfl, Nat.le_of_ble_eq_true rfl⟩ (fun u_2 H locs hw_3 hP hD hS => ?_)
  refine W.widen (k := 0) (n := 0) (by decide) (by decide) ?_
  obtain ⟨o_4, rfl⟩ : ∃ z, z = u_2 := ⟨_, rfl⟩
  have hw_3 : o_4 = (fn_X9_copyHeights ro_size roh_a tra_a) := hw_3
  rw [← hw_3] at hF
  rw [pm1_mk o_4] at hF
  have hP : va_P D classes [(tr, .inr (9, [.ref trw, .ref tra, .ref trb, .ref trc, .int tr_least, .int tr_bestLinks, .int tr_changeNumber, .int tr_changeHeight])), (trw, .inr (10, [.int trw_number, .int trw_lane, .int trw_looks])), (rok, .inl (cy, 8, .inl rok_a)), (se, .inr (4, [.ref sea, .ref seb, .ref sec, .int se_size])), (sea, .inl (cy, 6, .inl sea_a)), (seb, .inl (cy, 6, .inl seb_a)), (sec, .inl (cy, 6, .inl sec_a)), (ro, .inr (8, [.ref rok, .ref rov, .ref roh, .ref rot, .int ro_size])), (roh, .inl (cy, 8, .inl roh_a)), (tra, .inl (cy, 8, .inl o_4))] H := hP
  have hD : va_D A [(tr, .inr (9, [.ref trw, .ref tra, .ref trb, .ref trc, .int tr_least, .int tr_bestLinks, .int tr_changeNumber, .int tr_changeHeight])), (trw, .inr (10, [.int trw_number, .int trw_lane, .int trw_looks])), (rok, .inl (cy, 8, .inl rok_a)), (se, .inr (4, [.ref sea, .ref seb, .ref sec, .int se_size])), (sea, .inl (cy, 6, .inl sea_a)), (seb, .inl (cy, 6, .inl seb_a)), (sec, .inl (cy, 6, .inl sec_a)), (ro, .inr (8, [.ref rok, .ref rov, .ref roh, .ref rot, .int ro_size])), (roh, .inl (cy, 8, .inl roh_a)), (tra, .inl (cy, 8, .inl o_4))] := hD
  refine lv_iconst (v := 0) hx hb dX9_heightsLeft_12 (by decide) ?_
  refine lv_istore (lv' := [(4, .int 0), (0, .ref tr), (1, .ref ro), (2, .ref se), (3, .int a)]) hx hb dX9_heightsLeft_13 hl (by decide) rfl (fun ls hl => ?_)
  refine lv_iconst (v := 1) hx hb dX9_heightsLeft_15 (by decide) ?_
  refine lv_istore (lv' := [(5, .int 1), (4, .int 0), (0, .ref tr), (1, .ref ro), (2, .ref se), (3, .int a)]) hx hb dX9_heightsLeft_16 hl (by decide) rfl (fun ls hl => ?_)
  have hlp_18 : ∀ (fu_18 : Nat) (x4_18 : Int32) (x5_18 : Int32) (trw_number_18 : Int32) (trw_lane_18 : Int32) (trw_looks_18 : Int32) (tra_a_18 : Nat → Int32) (H : Heap) (locs : List Loc) (ls : Array Slot), (1 ≤ x5_18.toInt ∧ x5_18.toInt ≤ 5) → ((-1) ≤ trw_number_18.toInt ∧ trw_number_18.toInt ≤ 7) → 5 - x5_18.toInt < (fu_18 : Int) → ((fn_X9_heightsLeft trw_number trw_lane trw_looks tra_a ro_size rok_a roh_a se_size sea_a seb_a sec_a a) = (pm2 (lp_X9_heightsLeft_18 trw_number trw_lane trw_looks tra_a ro_size rok_a roh_a se_size sea_a seb_a sec_a a o_4 fu_18 x4_18 x5_18 trw_number_18 trw_lane_18 trw_looks_18 tra_a_18) (fun x4_18 t_ => (pm2 (t_) (fun x5_18 t_ => (pm2 (t_) (fun trw_number_18 t_ => (pm2 (t_) (fun trw_lane_18 t_ => (pm2 (t_) (fun trw_looks_18 tra_a_18 => (x4_18, trw_number_18, trw_lane_18, trw_looks_18, tra_a_18)))))))))))) → va_P D classes [(tr, .inr (9, [.ref trw, .ref tra, .ref trb, .ref trc, .int tr_least, .int tr_bestLinks, .int tr_changeNumber, .int tr_changeHeight])), (trw, .inr (10, [.int trw_number_18, .int trw_lane_18, .int trw_looks_18])), (rok, .inl (cy, 8, .inl rok_a)), (se, .inr (4, [.ref sea, .ref seb, .ref sec, .int se_size])), (sea, .inl (cy, 6, .inl sea_a)), (seb, .inl (cy, 6, .inl seb_a)), (sec, .inl (cy, 6, .inl sec_a)), (ro, .inr (8, [.ref rok, .ref rov, .ref roh, .ref rot, .int ro_size])), (roh, .inl (cy, 8, .inl roh_a)), (tra, .inl (cy, 8, .inl tra_a_18))] H → va_D A [(tr, .inr (9, [.ref trw, .ref tra, .ref trb, .ref trc, .int tr_least, .int tr_bestLinks, .int tr_changeNumber, .int tr_changeHeight])), (trw, .inr (10, [.int trw_number_18, .int trw_lane_18, .int trw_looks_18])), (rok, .inl (cy, 8, .inl rok_a)), (se, .inr (4, [.ref sea, .ref seb, .ref sec, .int se_size])), (sea, .inl (cy, 6, .inl sea_a)), (seb, .inl (cy, 6, .inl seb_a)), (sec, .inl (cy, 6, .inl sec_a)), (ro, .inr (8, [.ref rok, .ref rov, .ref roh, .ref rot, .int ro_size])), (roh, .inl (cy, 8, .inl roh_a)), (tra, .inl (cy, 8, .inl tra_a_18))] → va_S A s.heap H locs → lv_has ls 6 [(5, .int x5_18), (4, .int x4_18), (0, .ref tr), (1, .ref ro), (2, .ref se), (3, .int a)] → W p l e { frames := 4, cells := 0, slots := 0, locals := 89 } s m args below meth c H locs 0 0 Q (F0 m 18 ls []) := by
    intro fu_18
    induction fu_18 with
    | zero =>
      intro x4_18 x5_18 trw_number_18 trw_lane_18 trw_looks_18 tra_a_18 H locs ls hi_18_0 hi_18_1 hm hF hP hD hS hl
      exfalso; omega
    | succ fu_18 ih_18 =>
      intro x4_18 x5_18 trw_number_18 trw_lane_18 trw_looks_18 tra_a_18 H locs ls hi_18_0 hi_18_1 hm hF hP hD hS hl
      rw [lp_X9_heightsLeft_18] at hF
      refine lv_iload hx hb dX9_heightsLeft_18 (lv_at hl 0 rfl) ?_
      refine lv_iconst (v := 4) hx hb dX9_heightsLeft_20 (by decide) ?_
      refine lv_icmp_gt (tgt := 64) hx hb dX9_heightsLeft_21 (by decide) (fun c_5 => ?_) (fun c_5 => ?_)
      · have k_5 : 4 < x5_18.toInt := wk_lt c_5
        replace hF := hF.trans (pm2_p1 c_5)
        rw [pm2_mk x4_18 (x5_18, trw_number_18, trw_lane_18, trw_looks_18, tra_a_18), pm2_mk x5_18 (trw_number_18, trw_lane_18, trw_looks_18, tra_a_18), pm2_mk trw_number_18 (trw_lane_18, trw_looks_18, tra_a_18), pm2_mk trw_lane_18 (trw_looks_18, tra_a_18), pm2_mk trw_looks_18 tra_a_18] at hF
        refine lv_iload hx hb dX9_heightsLeft_64 (lv_at hl 1 rfl) ?_
        refine W.widen (k := 0) (n := 0) (by decide) (by decide) ?_
        exact hret x4_18 (trw_number_18, trw_lane_18, trw_looks_18, tra_a_18) _ _ _ 66 (wk_sub9 (is := [0, 1, 9, 7, 2, 8, 3, 4, 5, 6]) hP rfl) (hD.sub [0, 1, 9, 7, 2, 8, 3, 4, 5, 6] rfl rfl) hS dX9_heightsLeft_66 ⟨hF.symm, (show ((-1) ≤ trw_number_18.toInt ∧ trw_number_18.toInt ≤ 7) from by omega)⟩
      · have k_5 : ¬ 4 < x5_18.toInt := wk_nlt c_5
        replace hF := hF.trans (pm2_n1 c_5)
        refine lv_aload_n hx hb dX9_heightsLeft_24 rfl (lv_at hl 2 rfl) ?_
        refine va_get (D := D) (ci := 9) (v := .ref tra) (C := RX9) (T := TX9) (N := 8) hx hb htb inX9 hown hK hP 0 rfl rfl 1 (by decide) (htb _ tw_224) (fun _ h9 => h9) rfl dX9_heightsLeft_25 ?_
        refine lv_iload_n hx hb dX9_heightsLeft_28 rfl (lv_at hl 5 rfl) ?_
        refine lv_iload hx hb dX9_heightsLeft_29 (lv_at hl 0 rfl) ?_
        refine va_iast hx hb hK hP hD hS 9 0 rfl rfl (show vp_in a 8 from vp_in_iff.mpr (show 0 ≤ a.toInt ∧ a.toInt < ((8 : Nat) : Int) from by omega)) dX9_heightsLeft_31 (fun H locs hP hD hS => ?_)
        have hP : va_P D classes [(tr, .inr (9, [.ref trw, .ref tra, .ref trb, .ref trc, .int tr_least, .int tr_bestLinks, .int tr_changeNumber, .int tr_changeHeight])), (trw, .inr (10, [.int trw_number_18, .int trw_lane_18, .int trw_looks_18])), (rok, .inl (cy, 8, .inl rok_a)), (se, .inr (4, [.ref sea, .ref seb, .ref sec, .int se_size])), (sea, .inl (cy, 6, .inl sea_a)), (seb, .inl (cy, 6, .inl seb_a)), (sec, .inl (cy, 6, .inl sec_a)), (ro, .inr (8, [.ref rok, .ref rov, .ref roh, .ref rot, .int ro_size])), (roh, .inl (cy, 8, .inl roh_a)), (tra, .inl (cy, 8, .inl (upd tra_a_18 a.toNatClampNeg x5_18)))] H := hP
        have hD : va_D A [(tr, .inr (9, [.ref trw, .ref tra, .ref trb, .ref trc, .int tr_least, .int tr_bestLinks, .int tr_changeNumber, .int tr_changeHeight])), (trw, .inr (10, [.int trw_number_18, .int trw_lane_18, .int trw_looks_18])), (rok, .inl (cy, 8, .inl rok_a)), (se, .inr (4, [.ref sea, .ref seb, .ref sec, .int se_size])), (sea, .inl (cy, 6, .inl sea_a)), (seb, .inl (cy, 6, .inl seb_a)), (sec, .inl (cy, 6, .inl sec_a)), (ro, .inr (8, [.ref rok, .ref rov, .ref roh, .ref rot, .int ro_size])), (roh, .inl (cy, 8, .inl roh_a)), (tra, .inl (cy, 8, .inl (upd tra_a_18 a.toNatClampNeg x5_18)))] := hD
        refine lv_aload_n hx hb dX9_heightsLeft_32 rfl (lv_at hl 2 rfl) ?_
        refine lv_aload_n hx hb dX9_heightsLeft_33 rfl (lv_at hl 3 rfl) ?_
        refine lv_aload_n hx hb dX9_heightsLeft_34 rfl (lv_at hl 4 rfl) ?_
        refine lv_aload_n hx hb dX9_heightsLeft_35 rfl (lv_at hl 3 rfl) ?_
        refine va_get (D := D) (ci := 8) (v := .ref rok) (C := RX8) (T := TX8) (N := 5) hx hb htb inX8 hown hK hP 7 rfl rfl 0 (by decide) (htb _ tw_115) (fun _ h9 => h9) rfl dX9_heightsLeft_36 ?_
        refine lv_iload_n hx hb dX9_heightsLeft_39 rfl (lv_at hl 5 rfl) ?_
        refine va_iald hx hb hK hP 2 0 rfl rfl (show vp_in a 8 from vp_in_iff.mpr (show 0 ≤ a.toInt ∧ a.toInt < ((8 : Nat) : Int) from by omega)) dX9_heightsLeft_40 ?_
        refine wk_iV (As := [.ref ro, .ref se, .int (rok_a a.toNatClampNeg)]) (rest := []) (wc := [(tr, .inr (9, [.ref trw, .ref tra, .ref trb, .ref trc, .int tr_least, .int tr_bestLinks, .int tr_changeNumber, .int tr_changeHeight])), (trw, .inr (10, [.int trw_number_18, .int trw_lane_18, .int trw_looks_18])), (tra, .inl (cy, 8, .inl (upd tra_a_18 a.toNatClampNeg x5_18))), (ro, .inr (8, [.ref rok, .ref rov, .ref roh, .ref rot, .int ro_size])), (rok, .inl (cy, 8, .inl rok_a)), (se, .inr (4, [.ref sea, .ref seb, .ref sec, .int se_size])), (sea, .inl (cy, 6, .inl sea_a)), (seb, .inl (cy, 6, .inl seb_a)), (sec, .inl (cy, 6, .inl sec_a))]) (wr := [(roh, .inl (cy, 8, .inl roh_a))]) (n := 3) ⟨hx, hb, hml, hown, htb⟩ (c_X9_agrees l D cy tr trw tra trb trc ro rok rov roh rot se sea seb sec tr_least tr_bestLinks tr_changeNumber tr_changeHeight trw_number_18 trw_lane_18 trw_looks_18 (upd tra_a_18 a.toNatClampNeg x5_18) ro_size rok_a se_size sea_a seb_a sec_a (rok_a a.toNatClampNeg) (show (-1) ≤ trw_number_18.toInt ∧ trw_number_18.toInt ≤ 7 from by omega) (show 0 ≤ ro_size.toInt ∧ ro_size.toInt ≤ 8 from by omega) (show 0 ≤ se_size.toInt ∧ se_size.toInt ≤ 6 from by omega)) tw_515 tw_512 tw_514 tw_10 tw_70 rfl rfl (by decide +kernel) ⟨Nat.le_of_ble_eq_true rfl, Nat.le_of_ble_eq_true rfl⟩ hK hP hD hS hA [0, 1, 9, 7, 2, 3, 4, 5, 6] [8] rfl rfl rfl rfl (by decide) 0 (ci := 9) rfl rfl rfl hl.1 rfl (Nat.le_of_ble_eq_true rfl) dX9_heightsLeft_41 ⟨Nat.le_of_ble_eq_true rfl, Nat.le_of_ble_eq_true rfl⟩ (fun r_6 u_7 H locs hw_8 hP hD hS => ?_)
        refine W.widen (k := 0) (n := 0) (by decide) (by decide) ?_
        obtain ⟨o_9, o_10, o_11⟩ := u_7
        obtain ⟨hw_8, k_12, k_13⟩ := hw_8
        have hw_8 : (r_6, o_9, o_10, o_11) = (fn_X9_agrees trw_number_18 trw_lane_18 trw_looks_18 (upd tra_a_18 a.toNatClampNeg x5_18) ro_size rok_a se_size sea_a seb_a sec_a (rok_a a.toNatClampNeg)) := hw_8
        have k_12 : (r_6 = 0 ∨ r_6 = 1) := k_12
        have k_13 : ((-1) ≤ o_9.toInt ∧ o_9.toInt ≤ 7) := k_13
        rw [← hw_8] at hF
        rw [pm2_mk r_6 (o_9, o_10, o_11), pm2_mk o_9 (o_10, o_11), pm2_mk o_10 o_11] at hF
        have k_14 : 0 ≤ r_6.toInt ∧ r_6.toInt ≤ 1 := wk_b01 (by assumption)
        have hP : va_P D classes [(roh, .inl (cy, 8, .inl roh_a)), (tr, .inr (9, [.ref trw, .ref tra, .ref trb, .ref trc, .int tr_least, .int tr_bestLinks, .int tr_changeNumber, .int tr_changeHeight])), (trw, .inr (10, [.int o_9, .int o_10, .int o_11])), (tra, .inl (cy, 8, .inl (upd tra_a_18 a.toNatClampNeg x5_18))), (ro, .inr (8, [.ref rok, .ref rov, .ref roh, .ref rot, .int ro_size])), (rok, .inl (cy, 8, .inl rok_a)), (se, .inr (4, [.ref sea, .ref seb, .ref sec, .int se_size])), (sea, .inl (cy, 6, .inl sea_a)), (seb, .inl (cy, 6, .inl seb_a)), (sec, .inl (cy, 6, .inl sec_a))] H := hP
        have hD : va_D A [(roh, .inl (cy, 8, .inl roh_a)), (tr, .inr (9, [.ref trw, .ref tra, .ref trb, .ref trc, .int tr_least, .int tr_bestLinks, .int tr_changeNumber, .int tr_changeHeight])), (trw, .inr (10, [.int o_9, .int o_10, .int o_11])), (tra, .inl (cy, 8, .inl (upd tra_a_18 a.toNatClampNeg x5_18))), (ro, .inr (8, [.ref rok, .ref rov, .ref roh, .ref rot, .int ro_size])), (rok, .inl (cy, 8, .inl rok_a)), (se, .inr (4, [.ref sea, .ref seb, .ref sec, .int se_size])), (sea, .inl (cy, 6, .inl sea_a)), (seb, .inl (cy, 6, .inl seb_a)), (sec, .inl (cy, 6, .inl sec_a))] := hD
        refine lv_if_eq (tgt := 58) hx hb dX9_heightsLeft_44 (by decide) (fun c_15 => ?_) (fun c_15 => ?_)
        · have k_15 : r_6.toInt = 0 := wk_eq c_15
          replace hF := hF.trans (pm2_p1 c_15)
          refine lv_iinc (v := (x5_18 + 1)) (lv' := [(5, .int (x5_18 + 1)), (4, .int x4_18), (0, .ref tr), (1, .ref ro), (2, .ref se), (3, .int a)]) hx hb dX9_heightsLeft_58 hl (k := 0) rfl rfl (by decide) rfl (fun ls hl => ?_)
          have k_16 : (x5_18 + 1).toInt = x5_18.toInt + 1 := wk_add x5_18.toInt 1 rfl rfl (by omega) (by omega)
          refine lv_goto (tgt := 18) hx hb dX9_heightsLeft_61 (by decide) ?_
          exact ih_18 x4_18 (x5_18 + 1) o_9 o_10 o_11 (upd tra_a_18 a.toNatClampNeg x5_18) _ _ _ (show 1 ≤ (x5_18 + 1).toInt ∧ (x5_18 + 1).toInt ≤ 5 from by omega) (show (-1) ≤ o_9.toInt ∧ o_9.toInt ≤ 7 from by omega) (show 5 - (x5_18 + 1).toInt < ((fu_18 : Nat) : Int) from by omega) hF (wk_sub9 (is := [1, 2, 5, 6, 7, 8, 9, 4, 0, 3]) hP rfl) (hD.sub [1, 2, 5, 6, 7, 8, 9, 4, 0, 3] rfl rfl) hS (lv_sub hl [0, 1, 2, 3, 4, 5] rfl)
        · have k_15 : ¬ r_6.toInt = 0 := wk_neq c_15
          replace hF := hF.trans (pm2_n1 c_15)
          refine lv_iload hx hb dX9_heightsLeft_47 (lv_at hl 1 rfl) ?_
          refine lv_iconst (v := 1) hx hb dX9_heightsLeft_49 (by decide) ?_
          refine lv_iload hx hb dX9_heightsLeft_50 (lv_at hl 0 rfl) ?_
          refine lv_iconst (v := 1) hx hb dX9_heightsLeft_52 (by decide) ?_
          refine lv_isub hx hb dX9_heightsLeft_53 ?_
          have k_17 : (x5_18 - 1).toInt = x5_18.toInt - 1 := wk_sub x5_18.toInt 1 rfl rfl (by omega) (by omega)
          refine lv_ishl hx hb dX9_heightsLeft_54 ?_
          refine lv_ior hx hb dX9_heightsLeft_55 ?_
          refine lv_istore (lv' := [(4, .int (x4_18 ||| (1 <<< ((x5_18 - 1) &&& 31)))), (5, .int x5_18), (0, .ref tr), (1, .ref ro), (2, .ref se), (3, .int a)]) hx hb dX9_heightsLeft_56 hl (by decide) rfl (fun ls hl => ?_)
          refine lv_iinc (v := (x5_18 + 1)) (lv' := [(5, .int (x5_18 + 1)), (4, .int (x4_18 ||| (1 <<< ((x5_18 - 1) &&& 31)))), (0, .ref tr), (1, .ref ro), (2, .ref se), (3, .int a)]) hx hb dX9_heightsLeft_58 hl (k := 1) rfl rfl (by decide) rfl (fun ls hl => ?_)
          have k_18 : (x5_18 + 1).toInt = x5_18.toInt + 1 := wk_add x5_18.toInt 1 rfl rfl (by omega) (by omega)
          refine lv_goto (tgt := 18) hx hb dX9_heightsLeft_61 (by decide) ?_
          exact ih_18 (x4_18 ||| (1 <<< ((x5_18 - 1) &&& 31))) (x5_18 + 1) o_9 o_10 o_11 (upd tra_a_18 a.toNatClampNeg x5_18) _ _ _ (show 1 ≤ (x5_18 + 1).toInt ∧ (x5_18 + 1).toInt ≤ 5 from by omega) (show (-1) ≤ o_9.toInt ∧ o_9.toInt ≤ 7 from by omega) (show 5 - (x5_18 + 1).toInt < ((fu_18 : Nat) : Int) from by omega) hF (wk_sub9 (is := [1, 2, 5, 6, 7, 8, 9, 4, 0, 3]) hP rfl) (hD.sub [1, 2, 5, 6, 7, 8, 9, 4, 0, 3] rfl rfl) hS (lv_sub hl [0, 1, 2, 3, 4, 5] rfl)
  exact hlp_18 6 0 1 trw_number trw_lane trw_looks o_4 _ _ _ (show 1 ≤ 1 ∧ 1 ≤ 5 from by omega) (show (-1) ≤ trw_number.toInt ∧ trw_number.toInt ≤ 7 from by omega) (show 5 - 1 < ((6 : Nat) : Int) from by omega) hF hP hD hS (lv_sub hl [0, 1, 2, 3, 4, 5] rfl)
