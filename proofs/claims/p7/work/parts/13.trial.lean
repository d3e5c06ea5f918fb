def lp_X9_copyHeights_2 (ro_size : Int32) (af_a : Nat → Int32) (au_a : Nat → Int32) : Nat → Int32 → (Nat → Int32) → Int32 × (Nat → Int32)
  | 0, _, _ => default
  | fu_2 + 1, x3_2, au_a_2 => (if ro_size ≤ x3_2 then (x3_2, au_a_2) else (lp_X9_copyHeights_2 ro_size af_a au_a fu_2 (x3_2 + 1) (upd au_a_2 x3_2.toNatClampNeg (af_a x3_2.toNatClampNeg))))
termination_by n => n
def fn_X9_copyHeights (ro_size : Int32) (af_a : Nat → Int32) (au_a : Nat → Int32) : (Nat → Int32) := (pm2 (lp_X9_copyHeights_2 ro_size af_a au_a 10 0 au_a) (fun x3_2 au_a_2 => au_a_2))
theorem dX9_copyHeights_0 : decode cX9_copyHeights 0 = .ok (.iconst 0, 1) := by decide +kernel
theorem dX9_copyHeights_1 : decode cX9_copyHeights 1 = .ok (.istore_n 3, 1) := by decide +kernel
theorem dX9_copyHeights_2 : decode cX9_copyHeights 2 = .ok (.iload_n 3, 1) := by decide +kernel
theorem dX9_copyHeights_3 : decode cX9_copyHeights 3 = .ok (.aload_n 0, 1) := by decide +kernel
theorem dX9_copyHeights_4 : decode cX9_copyHeights 4 = .ok (.getfield 28, 3) := by decide +kernel
theorem dX9_copyHeights_7 : decode cX9_copyHeights 7 = .ok (.if_icmp .ge 15, 3) := by decide +kernel
theorem dX9_copyHeights_10 : decode cX9_copyHeights 10 = .ok (.aload_n 2, 1) := by decide +kernel
theorem dX9_copyHeights_11 : decode cX9_copyHeights 11 = .ok (.iload_n 3, 1) := by decide +kernel
theorem dX9_copyHeights_12 : decode cX9_copyHeights 12 = .ok (.aload_n 1, 1) := by decide +kernel
theorem dX9_copyHeights_13 : decode cX9_copyHeights 13 = .ok (.iload_n 3, 1) := by decide +kernel
theorem dX9_copyHeights_14 : decode cX9_copyHeights 14 = .ok (.iaload, 1) := by decide +kernel
theorem dX9_copyHeights_15 : decode cX9_copyHeights 15 = .ok (.iastore, 1) := by decide +kernel
theorem dX9_copyHeights_16 : decode cX9_copyHeights 16 = .ok (.iinc 3 1, 3) := by decide +kernel
theorem dX9_copyHeights_19 : decode cX9_copyHeights 19 = .ok (.goto (-17), 3) := by decide +kernel
theorem dX9_copyHeights_22 : decode cX9_copyHeights 22 = .ok (.return_, 1) := by decide +kernel
set_option maxHeartbeats 4000000 in
set_option maxRecDepth 100000 in
theorem c_X9_copyHeights (l : Launch) (D : va_G) (cy : ClassId) (ro rok rov roh rot af au : Nat) (ro_size : Int32) (af_a : Nat → Int32) (au_a : Nat → Int32)  (g_0 : 0 ≤ ro_size.toInt ∧ ro_size.toInt ≤ 8) : wk_Cv l yX9_copyHeights cX9_copyHeights 4 none { frames := 0, cells := 0, slots := 0, locals := 0 } D cy [.ref ro, .ref af, .ref au] [(ro, .inr (8, [.ref rok, .ref rov, .ref roh, .ref rot, .int ro_size])), (af, .inl (cy, 8, .inl af_a)), (au, .inl (cy, 8, .inl au_a))] 0 0 (fun (u : (Nat → Int32)) => u = (fn_X9_copyHeights ro_size af_a au_a)) (fun u => [(ro, .inr (8, [.ref rok, .ref rov, .ref roh, .ref rot, .int ro_size])), (af, .inl (cy, 8, .inl af_a)), (au, .inl (cy, 8, .inl u))]) := by
  refine wk_mk2Cv (by decide) (Nat.le_of_ble_eq_true rfl) ?_
  intro p e s m args below meth c A ls Q B hA hK hP hD hS hl hret
  obtain ⟨hx, hb, hr, hlocks, hml, hown, htb, hin⟩ := B
  have hl : lv_has ls 4 [(0, .ref ro), (1, .ref af), (2, .ref au)] := hl
  have hF : (fn_X9_copyHeights ro_size af_a au_a) = (fn_X9_copyHeights ro_size af_a au_a) := rfl
  conv at hF => rhs; unfold fn_X9_copyHeights
  refine lv_iconst (v := 0) hx hb dX9_copyHeights_0 (by decide) ?_
  refine lv_istore_n (lv' := [(3, .int 0), (0, .ref ro), (1, .ref af), (2, .ref au)]) hx hb dX9_copyHeights_1 rfl hl (by decide) rfl (fun ls hl => ?_)
  have hlp_2 : ∀ (fu_2 : Nat) (x3_2 : Int32) (au_a_2 : Nat → Int32) (H : Heap) (locs : List Loc) (ls : Array Slot), (0 ≤ x3_2.toInt ∧ x3_2.toInt ≤ 8) → 8 - x3_2.toInt < (fu_2 : Int) → ((fn_X9_copyHeights ro_size af_a au_a) = (pm2 (lp_X9_copyHeights_2 ro_size af_a au_a fu_2 x3_2 au_a_2) (fun x3_2 au_a_2 => au_a_2))) → va_P D classes [(ro, .inr (8, [.ref rok, .ref rov, .ref roh, .ref rot, .int ro_size])), (af, .inl (cy, 8, .inl af_a)), (au, .inl (cy, 8, .inl au_a_2))] H → va_D A [(ro, .inr (8, [.ref rok, .ref rov, .ref roh, .ref rot, .int ro_size])), (af, .inl (cy, 8, .inl af_a)), (au, .inl (cy, 8, .inl au_a_2))] → va_S A s.heap H locs → lv_has ls 4 [(3, .int x3_2), (0, .ref ro), (1, .ref af), (2, .ref au)] → W p l e { frames := 0, cells := 0, slots := 0, locals := 0 } s m args below meth c H locs 0 0 Q (F0 m 2 ls []) := by
    intro fu_2
    induction fu_2 with
    | zero =>
      intro x3_2 au_a_2 H locs ls hi_2_0 hm hF hP hD hS hl
      exfalso; omega
    | succ fu_2 ih_2 =>
      intro x3_2 au_a_2 H locs ls hi_2_0 hm hF hP hD hS hl
      rw [lp_X9_copyHeights_2] at hF
      refine lv_iload_n hx hb dX9_copyHeights_2 rfl (lv_at hl 0 rfl) ?_
      refine lv_aload_n hx hb dX9_copyHeights_3 rfl (lv_at hl 1 rfl) ?_
      refine va_get (D := D) (ci := 8) (v := .int ro_size) (C := RX8) (T := TX8) (N := 5) hx hb htb inX8 hown hK hP 0 rfl rfl 4 (by decide) (htb _ tw_132) (fun _ h9 => h9) rfl dX9_copyHeights_4 ?_
      refine lv_icmp_ge (tgt := 22) hx hb dX9_copyHeights_7 (by decide) (fun c_1 => ?_) (fun c_1 => ?_)
      · have k_1 : ro_size.toInt ≤ x3_2.toInt := wk_le c_1
        replace hF := hF.trans (pm2_p1 c_1)
        rw [pm2_mk x3_2 au_a_2] at hF
        refine W.widen (k := 0) (n := 0) (by decide) (by decide) ?_
        exact hret au_a_2 _ _ _ 22 (wk_sub9 (is := [0, 1, 2]) hP rfl) (hD.sub [0, 1, 2] rfl rfl) hS dX9_copyHeights_22 hF.symm
      · have k_1 : ¬ ro_size.toInt ≤ x3_2.toInt := wk_nle c_1
        replace hF := hF.trans (pm2_n1 c_1)
        refine lv_aload_n hx hb dX9_copyHeights_10 rfl (lv_at hl 3 rfl) ?_
        refine lv_iload_n hx hb dX9_copyHeights_11 rfl (lv_at hl 0 rfl) ?_
        refine lv_aload_n hx hb dX9_copyHeights_12 rfl (lv_at hl 2 rfl) ?_
        refine lv_iload_n hx hb dX9_copyHeights_13 rfl (lv_at hl 0 rfl) ?_
        refine va_iald hx hb hK hP 1 0 rfl rfl (show vp_in x3_2 8 from vp_in_iff.mpr (show 0 ≤ x3_2.toInt ∧ x3_2.toInt < ((8 : Nat) : Int) from by omega)) dX9_copyHeights_14 ?_
        refine va_iast hx hb hK hP hD hS 2 0 rfl rfl (show vp_in x3_2 8 from vp_in_iff.mpr (show 0 ≤ x3_2.toInt ∧ x3_2.toInt < ((8 : Nat) : Int) from by omega)) dX9_copyHeights_15 (fun H locs hP hD hS => ?_)
        have hP : va_P D classes [(ro, .inr (8, [.ref rok, .ref rov, .ref roh, .ref rot, .int ro_size])), (af, .inl (cy, 8, .inl af_a)), (au, .inl (cy, 8, .inl (upd au_a_2 x3_2.toNatClampNeg (af_a x3_2.toNatClampNeg))))] H := hP
        have hD : va_D A [(ro, .inr (8, [.ref rok, .ref rov, .ref roh, .ref rot, .int ro_size])), (af, .inl (cy, 8, .inl af_a)), (au, .inl (cy, 8, .inl (upd au_a_2 x3_2.toNatClampNeg (af_a x3_2.toNatClampNeg))))] := hD
        refine lv_iinc (v := (x3_2 + 1)) (lv' := [(3, .int (x3_2 + 1)), (0, .ref ro), (1, .ref af), (2, .ref au)]) hx hb dX9_copyHeights_16 hl (k := 0) rfl rfl (by decide) rfl (fun ls hl => ?_)
        have k_2 : (x3_2 + 1).toInt = x3_2.toInt + 1 := wk_add x3_2.toInt 1 rfl rfl (by omega) (by omega)
        refine lv_goto (tgt := 2) hx hb dX9_copyHeights_19 (by decide) ?_
        exact ih_2 (x3_2 + 1) (upd au_a_2 x3_2.toNatClampNeg (af_a x3_2.toNatClampNeg)) _ _ _ (show 0 ≤ (x3_2 + 1).toInt ∧ (x3_2 + 1).toInt ≤ 8 from by omega) (show 8 - (x3_2 + 1).toInt < ((fu_2 : Nat) : Int) from by omega) hF hP hD hS (lv_sub hl [0, 1, 2, 3] rfl)
  exact hlp_2 10 0 au_a _ _ _ (show 0 ≤ 0 ∧ 0 ≤ 8 from by omega) (show 8 - 0 < ((10 : Nat) : Int) from by omega) hF hP hD hS (lv_sub hl [0, 1, 2, 3] rfl)
def lp_X9_costOf_5 (trw_number : Int32) (trw_lane : Int32) (trw_looks : Int32) (ro_size : Int32) (rok_a : Nat → Int32) (rot_a : Nat → Int32) (ar_a : Nat → Int32) : Nat → Int32 → Int32 → Int32 → Int32 → Int32 → Int32 × Int32 × Int32 × Int32 × Int32
  | 0, _, _, _, _, _ => default
  | fu_5 + 1, x3_5, x4_5, trw_number_5, trw_lane_5, trw_looks_5 => (if ro_size ≤ x4_5 then (x3_5, x4_5, trw_number_5, trw_lane_5, trw_looks_5) else (if (rot_a x4_5.toNatClampNeg) ≤ 0 then (lp_X9_costOf_5 trw_number trw_lane trw_looks ro_size rok_a rot_a ar_a fu_5 x3_5 (x4_5 + 1) trw_number_5 trw_lane_5 trw_looks_5) else (pm2 (fn_X10_go trw_number_5 trw_lane_5 trw_looks_5 ro_size rok_a ar_a (-1) (rok_a x4_5.toNatClampNeg)) (fun o_7 t_ => (pm2 (t_) (fun o_8 o_9 => (lp_X9_costOf_5 trw_number trw_lane trw_looks ro_size rok_a rot_a ar_a fu_5 (x3_5 + ((rot_a x4_5.toNatClampNeg) * o_9)) (x4_5 + 1) o_7 o_8 o_9)))))))
termination_by n => n
def fn_X9_costOf (trw_number : Int32) (trw_lane : Int32) (trw_looks : Int32) (ro_size : Int32) (rok_a : Nat → Int32) (rot_a : Nat → Int32) (ar_a : Nat → Int32) : Int32 × Int32 × Int32 × Int32 := (pm2 (lp_X9_costOf_5 trw_number trw_lane trw_looks ro_size rok_a rot_a ar_a 10 0 0 trw_number trw_lane trw_looks) (fun x3_5 t_ => (pm2 (t_) (fun x4_5 t_ => (pm2 (t_) (fun trw_number_5 t_ => (pm2 (t_) (fun trw_lane_5 trw_looks_5 => (x3_5, trw_number_5, trw_lane_5, trw_looks_5)))))))))
theorem dX9_costOf_0 : decode cX9_costOf 0 = .ok (.iconst 0, 1) := by decide +kernel
theorem dX9_costOf_1 : decode cX9_costOf 1 = .ok (.istore_n 3, 1) := by decide +kernel
theorem dX9_costOf_2 : decode cX9_costOf 2 = .ok (.iconst 0, 1) := by decide +kernel
theorem dX9_costOf_3 : decode cX9_costOf 3 = .ok (.istore 4, 2) := by decide +kernel
theorem dX9_costOf_5 : decode cX9_costOf 5 = .ok (.iload 4, 2) := by decide +kernel
theorem dX9_costOf_7 : decode cX9_costOf 7 = .ok (.aload_n 1, 1) := by decide +kernel
theorem dX9_costOf_8 : decode cX9_costOf 8 = .ok (.getfield 28, 3) := by decide +kernel
theorem dX9_costOf_11 : decode cX9_costOf 11 = .ok (.if_icmp .ge 54, 3) := by decide +kernel
theorem dX9_costOf_14 : decode cX9_costOf 14 = .ok (.aload_n 1, 1) := by decide +kernel
theorem dX9_costOf_15 : decode cX9_costOf 15 = .ok (.getfield 34, 3) := by decide +kernel
theorem dX9_costOf_18 : decode cX9_costOf 18 = .ok (.iload 4, 2) := by decide +kernel
theorem dX9_costOf_20 : decode cX9_costOf 20 = .ok (.iaload, 1) := by decide +kernel
theorem dX9_costOf_21 : decode cX9_costOf 21 = .ok (.ifCond .le 38, 3) := by decide +kernel
theorem dX9_costOf_24 : decode cX9_costOf 24 = .ok (.aload_n 0, 1) := by decide +kernel
theorem dX9_costOf_25 : decode cX9_costOf 25 = .ok (.getfield 12, 3) := by decide +kernel
theorem dX9_costOf_28 : decode cX9_costOf 28 = .ok (.aload_n 1, 1) := by decide +kernel
theorem dX9_costOf_29 : decode cX9_costOf 29 = .ok (.aload_n 2, 1) := by decide +kernel
theorem dX9_costOf_30 : decode cX9_costOf 30 = .ok (.iconst (-1), 1) := by decide +kernel
theorem dX9_costOf_31 : decode cX9_costOf 31 = .ok (.aload_n 1, 1) := by decide +kernel
theorem dX9_costOf_32 : decode cX9_costOf 32 = .ok (.getfield 37, 3) := by decide +kernel
theorem dX9_costOf_35 : decode cX9_costOf 35 = .ok (.iload 4, 2) := by decide +kernel
theorem dX9_costOf_37 : decode cX9_costOf 37 = .ok (.iaload, 1) := by decide +kernel
theorem dX9_costOf_38 : decode cX9_costOf 38 = .ok (.invokevirtual 40, 3) := by decide +kernel
theorem dX9_costOf_41 : decode cX9_costOf 41 = .ok (.iload_n 3, 1) := by decide +kernel
theorem dX9_costOf_42 : decode cX9_costOf 42 = .ok (.aload_n 1, 1) := by decide +kernel
theorem dX9_costOf_43 : decode cX9_costOf 43 = .ok (.getfield 34, 3) := by decide +kernel
theorem dX9_costOf_46 : decode cX9_costOf 46 = .ok (.iload 4, 2) := by decide +kernel
theorem dX9_costOf_48 : decode cX9_costOf 48 = .ok (.iaload, 1) := by decide +kernel
theorem dX9_costOf_49 : decode cX9_costOf 49 = .ok (.aload_n 0, 1) := by decide +kernel
theorem dX9_costOf_50 : decode cX9_costOf 50 = .ok (.getfield 12, 3) := by decide +kernel
theorem dX9_costOf_53 : decode cX9_costOf 53 = .ok (.getfield 44, 3) := by decide +kernel
theorem dX9_costOf_56 : decode cX9_costOf 56 = .ok (.imul, 1) := by decide +kernel
theorem dX9_costOf_57 : decode cX9_costOf 57 = .ok (.iadd, 1) := by decide +kernel
theorem dX9_costOf_58 : decode cX9_costOf 58 = .ok (.istore_n 3, 1) := by decide +kernel
theorem dX9_costOf_59 : decode cX9_costOf 59 = .ok (.iinc 4 1, 3) := by decide +kernel
theorem dX9_costOf_62 : decode cX9_costOf 62 = .ok (.goto (-57), 3) := by decide +kernel
theorem dX9_costOf_65 : decode cX9_costOf 65 = .ok (.iload_n 3, 1) := by decide +kernel
theorem dX9_costOf_66 : decode cX9_costOf 66 = .ok (.ireturn, 1) := by decide +kernel
set_option maxHeartbeats 4000000 in
set_option maxRecDepth 100000 in
theorem c_X9_costOf (l : Launch) (D : va_G) (cy : ClassId) (tr trw tra trb trc ro rok rov roh rot ar : Nat) (tr_least : Int32) (tr_bestLinks : Int32) (tr_changeNumber : Int32) (tr_changeHeight : Int32) (trw_number : Int32) (trw_lane : Int32) (trw_looks : Int32) (ro_size : Int32) (rok_a : Nat → Int32) (rot_a : Nat → Int32) (ar_a : Nat → Int32)  (g_0 : (-1) ≤ trw_number.toInt ∧ trw_number.toInt ≤ 7) (g_1 : 0 ≤ ro_size.toInt ∧ ro_size.toInt ≤ 8) : wk_Ci l yX9_costOf cX9_costOf 5 (some .int) { frames := 3, cells := 0, slots := 0, locals := 65 } D cy [.ref tr, .ref ro, .ref ar] [(tr, .inr (9, [.ref trw, .ref tra, .ref trb, .ref trc, .int tr_least, .int tr_bestLinks, .int tr_changeNumber, .int tr_changeHeight])), (trw, .inr (10, [.int trw_number, .int trw_lane, .int trw_looks])), (ro, .inr (8, [.ref rok, .ref rov, .ref roh, .ref rot, .int ro_size])), (rok, .inl (cy, 8, .inl rok_a)), (rot, .inl (cy, 8, .inl rot_a)), (ar, .inl (cy, 8, .inl ar_a))] 0 0 (fun (r : Int32) (u : Int32 × Int32 × Int32) => (r, u) = (fn_X9_costOf trw_number trw_lane trw_looks ro_size rok_a rot_a ar_a) ∧ ((-1) ≤ u.1.toInt ∧ u.1.toInt ≤ 7)) (fun u => [(tr, .inr (9, [.ref trw, .ref tra, .ref trb, .ref trc, .int tr_least, .int tr_bestLinks, .int tr_changeNumber, .int tr_changeHeight])), (trw, .inr (10, [.int u.1, .int u.2.1, .int u.2.2])), (ro, .inr (8, [.ref rok, .ref rov, .ref roh, .ref rot, .int ro_size])), (rok, .inl (cy, 8, .inl rok_a)), (rot, .inl (cy, 8, .inl rot_a)), (ar, .inl (cy, 8, .inl ar_a))]) := by
  refine wk_mk2Ci (by decide) (Nat.le_of_ble_eq_true rfl) ?_
  intro p e s m args below meth c A ls Q B hA hK hP hD hS hl hret
  obtain ⟨hx, hb, hr, hlocks, hml, hown, htb, hin⟩ := B
  have hl : lv_has ls 5 [(0, .ref tr), (1, .ref ro), (2, .ref ar)] := hl
  have hF : (fn_X9_costOf trw_number trw_lane trw_looks ro_size rok_a rot_a ar_a) = (fn_X9_costOf trw_number trw_lane trw_looks ro_size rok_a rot_a ar_a) := rfl
  conv at hF => rhs; unfold fn_X9_costOf
  refine lv_iconst (v := 0) hx hb dX9_costOf_0 (by decide) ?_
  refine lv_istore_n (lv' := [(3, .int 0), (0, .ref tr), (1, .ref ro), (2, .ref ar)]) hx hb dX9_costOf_1 rfl hl (by decide) rfl (fun ls hl => ?_)
  refine lv_iconst (v := 0) hx hb dX9_costOf_2 (by decide) ?_
  refine lv_istore (lv' := [(4, .int 0), (3, .int 0), (0, .ref tr), (1, .ref ro), (2, .ref ar)]) hx hb dX9_costOf_3 hl (by decide) rfl (fun ls hl => ?_)
  have hlp_5 : ∀ (fu_5 : Nat) (x3_5 : Int32) (x4_5 : Int32) (trw_number_5 : Int32) (trw_lane_5 : Int32) (trw_looks_5 : Int32) (H : Heap) (locs : List Loc) (ls : Array Slot), (0 ≤ x4_5.toInt ∧ x4_5.toInt ≤ 8) → ((-1) ≤ trw_number_5.toInt ∧ trw_number_5.toInt ≤ 7) → 8 - x4_5.toInt < (fu_5 : Int) → ((fn_X9_costOf trw_number trw_lane trw_looks ro_size rok_a rot_a ar_a) = (pm2 (lp_X9_costOf_5 trw_number trw_lane trw_looks ro_size rok_a rot_a ar_a fu_5 x3_5 x4_5 trw_number_5 trw_lane_5 trw_looks_5) (fun x3_5 t_ => (pm2 (t_) (fun x4_5 t_ => (pm2 (t_) (fun trw_number_5 t_ => (pm2 (t_) (fun trw_lane_5 trw_looks_5 => (x3_5, trw_number_5, trw_lane_5, trw_looks_5)))))))))) → va_P D classes [(tr, .inr (9, [.ref trw, .ref tra, .ref trb, .ref trc, .int tr_least, .int tr_bestLinks, .int tr_changeNumber, .int tr_changeHeight])), (trw, .inr (10, [.int trw_number_5, .int trw_lane_5, .int trw_looks_5])), (ro, .inr (8, [.ref rok, .ref rov, .ref roh, .ref rot, .int ro_size])), (rok, .inl (cy, 8, .inl rok_a)), (rot, .inl (cy, 8, .inl rot_a)), (ar, .inl (cy, 8, .inl ar_a))] H → va_D A [(tr, .inr (9, [.ref trw, .ref tra, .ref trb, .ref trc, .int tr_least, .int tr_bestLinks, .int tr_changeNumber, .int tr_changeHeight])), (trw, .inr (10, [.int trw_number_5, .int trw_lane_5, .int trw_looks_5])), (ro, .inr (8, [.ref rok, .ref rov, .ref roh, .ref rot, .int ro_size])), (rok, .inl (cy, 8, .inl rok_a)), (rot, .inl (cy, 8, .inl rot_a)), (ar, .inl (cy, 8, .inl ar_a))] → va_S A s.heap H locs → lv_has ls 5 [(4, .int x4_5), (3, .int x3_5), (0, .ref tr), (1, .ref ro), (2, .ref ar)] → W p l e { frames := 3, cells := 0, slots := 0, locals := 65 } s m args below meth c H locs 0 0 Q (F0 m 5 ls []) := by
    intro fu_5
    induction fu_5 with
    | zero =>
      intro x3_5 x4_5 trw_number_5 trw_lane_5 trw_looks_5 H locs ls hi_5_0 hi_5_1 hm hF hP hD hS hl
      exfalso; omega
    | succ fu_5 ih_5 =>
      intro x3_5 x4_5 trw_number_5 trw_lane_5 trw_looks_5 H locs ls hi_5_0 hi_5_1 hm hF hP hD hS hl
      rw [lp_X9_costOf_5] at hF
      refine lv_iload hx hb dX9_costOf_5 (lv_at hl 0 rfl) ?_
      refine lv_aload_n hx hb dX9_costOf_7 rfl (lv_at hl 3 rfl) ?_
      refine va_get (D := D) (ci := 8) (v := .int ro_size) (C := RX8) (T := TX8) (N := 5) hx hb htb inX8 hown hK hP 2 rfl rfl 4 (by decide) (htb _ tw_132) (fun _ h9 => h9) rfl dX9_costOf_8 ?_
      refine lv_icmp_ge (tgt := 65) hx hb dX9_costOf_11 (by decide) (fun c_1 => ?_) (fun c_1 => ?_)
      · have k_1 : ro_size.toInt ≤ x4_5.toInt := wk_le c_1
        replace hF := hF.trans (pm2_p1 c_1)
        rw [pm2_mk x3_5 (x4_5, trw_number_5, trw_lane_5, trw_looks_5), pm2_mk x4_5 (trw_number_5, trw_lane_5, trw_looks_5), pm2_mk trw_number_5 (trw_lane_5, trw_looks_5), pm2_mk trw_lane_5 trw_looks_5] at hF
        refine lv_iload_n hx hb dX9_costOf_65 rfl (lv_at hl 1 rfl) ?_
        refine W.widen (k := 0) (n := 0) (by decide) (by decide) ?_
        exact hret x3_5 (trw_number_5, trw_lane_5, trw_looks_5) _ _ _ 66 (wk_sub9 (is := [0, 1, 2, 3, 4, 5]) hP rfl) (hD.sub [0, 1, 2, 3, 4, 5] rfl rfl) hS dX9_costOf_66 ⟨hF.symm, (show ((-1) ≤ trw_number_5.toInt ∧ trw_number_5.toInt ≤ 7) from by omega)⟩
      · have k_1 : ¬ ro_size.toInt ≤ x4_5.toInt := wk_nle c_1
        replace hF := hF.trans (pm2_n1 c_1)
        refine lv_aload_n hx hb dX9_costOf_14 rfl (lv_at hl 3 rfl) ?_
        refine va_get (D := D) (ci := 8) (v := .ref rot) (C := RX8) (T := TX8) (N := 5) hx hb htb inX8 hown hK hP 2 rfl rfl 3 (by decide) (htb _ tw_127) (fun _ h9 => h9) rfl dX9_costOf_15 ?_
        refine lv_iload hx hb dX9_costOf_18 (lv_at hl 0 rfl) ?_
        refine va_iald hx hb hK hP 4 0 rfl rfl (show vp_in x4_5 8 from vp_in_iff.mpr (show 0 ≤ x4_5.toInt ∧ x4_5.toInt < ((8 : Nat) : Int) from by omega)) dX9_costOf_20 ?_
        refine lv_if_le (tgt := 59) hx hb dX9_costOf_21 (by decide) (fun c_2 => ?_) (fun c_2 => ?_)
        · have k_2 : (rot_a x4_5.toNatClampNeg).toInt ≤ 0 := wk_le c_2
          replace hF := hF.trans (pm2_p1 c_2)
          refine lv_iinc (v := (x4_5 + 1)) (lv' := [(4, .int (x4_5 + 1)), (3, .int x3_5), (0, .ref tr), (1, .ref ro), (2, .ref ar)]) hx hb dX9_costOf_59 hl (k := 0) rfl rfl (by decide) rfl (fun ls hl => ?_)
          have k_3 : (x4_5 + 1).toInt = x4_5.toInt + 1 := wk_add x4_5.toInt 1 rfl rfl (by omega) (by omega)
          refine lv_goto (tgt := 5) hx hb dX9_costOf_62 (by decide) ?_
          exact ih_5 x3_5 (x4_5 + 1) trw_number_5 trw_lane_5 trw_looks_5 _ _ _ (show 0 ≤ (x4_5 + 1).toInt ∧ (x4_5 + 1).toInt ≤ 8 from by omega) (show (-1) ≤ trw_number_5.toInt ∧ trw_number_5.toInt ≤ 7 from by omega) (show 8 - (x4_5 + 1).toInt < ((fu_5 : Nat) : Int) from by omega) hF hP hD hS (lv_sub hl [0, 1, 2, 3, 4] rfl)
        · have k_2 : ¬ (rot_a x4_5.toNatClampNeg).toInt ≤ 0 := wk_nle c_2
          replace hF := hF.trans (pm2_n1 c_2)
          refine lv_aload_n hx hb dX9_costOf_24 rfl (lv_at hl 2 rfl) ?_
          refine va_get (D := D) (ci := 9) (v := .ref trw) (C := RX9) (T := TX9) (N := 8) hx hb htb inX9 hown hK hP 0 rfl rfl 0 (by decide) (htb _ tw_223) (fun _ h9 => h9) rfl dX9_costOf_25 ?_
          refine lv_aload_n hx hb dX9_costOf_28 rfl (lv_at hl 3 rfl) ?_
          refine lv_aload_n hx hb dX9_costOf_29 rfl (lv_at hl 4 rfl) ?_
          refine lv_iconst (v := (-1)) hx hb dX9_costOf_30 (by decide) ?_
          refine lv_aload_n hx hb dX9_costOf_31 rfl (lv_at hl 3 rfl) ?_
          refine va_get (D := D) (ci := 8) (v := .ref rok) (C := RX8) (T := TX8) (N := 5) hx hb htb inX8 hown hK hP 2 rfl rfl 0 (by decide) (htb _ tw_115) (fun _ h9 => h9) rfl dX9_costOf_32 ?_
          refine lv_iload hx hb dX9_costOf_35 (lv_at hl 0 rfl) ?_
          refine va_iald hx hb hK hP 3 0 rfl rfl (show vp_in x4_5 8 from vp_in_iff.mpr (show 0 ≤ x4_5.toInt ∧ x4_5.toInt < ((8 : Nat) : Int) from by omega)) dX9_costOf_37 ?_
          refine wk_vV (As := [.ref ro, .ref ar, .int (-1), .int (rok_a x4_5.toNatClampNeg)]) (rest := []) (wc := [(trw, .inr (10, [.int trw_number_5, .int trw_lane_5, .int trw_looks_5])), (ro, .inr (8, [.ref rok, .ref rov, .ref roh, .ref rot, .int ro_size])), (rok, .inl (cy, 8, .inl rok_a)), (ar, .inl (cy, 8, .inl ar_a))]) (wr := [(tr, .inr (9, [.ref trw, .ref tra, .ref trb, .ref trc, .int tr_least, .int tr_bestLinks, .int tr_changeNumber, .int tr_changeHeight])), (rot, .inl (cy, 8, .inl rot_a))]) (n := 4) ⟨hx, hb, hml, hown, htb⟩ (c_X10_go l D cy trw ro rok rov roh rot ar trw_number_5 trw_lane_5 trw_looks_5 ro_size rok_a ar_a (-1) (rok_a x4_5.toNatClampNeg) (show (-1) ≤ trw_number_5.toInt ∧ trw_number_5.toInt ≤ 7 from by omega) (show 0 ≤ ro_size.toInt ∧ ro_size.toInt ≤ 8 from by omega)) tw_489 tw_516 tw_487 tw_488 tw_69 rfl rfl (by decide +kernel) ⟨Nat.le_of_ble_eq_true rfl, Nat.le_of_ble_eq_true rfl⟩ hK hP hD hS hA [1, 2, 3, 5] [0, 4] rfl rfl rfl rfl (by decide) 0 (ci := 10) rfl rfl rfl hl.1 rfl (Nat.le_of_ble_eq_true rfl) dX9_costOf_38 ⟨Nat.le_of_ble_eq_true rfl, Nat.le_of_ble_eq_true rfl⟩ (fun u_5 H locs hw_6 hP hD hS => ?_)
          refine W.widen (k := 0) (n := 0) (by decide) (by decide) ?_
          obtain ⟨o_7, o_8, o_9⟩ := u_5
          obtain ⟨hw_6, k_10⟩ := hw_6
          have hw_6 : (o_7, o_8, o_9) = (fn_X10_go trw_number_5 trw_lane_5 trw_looks_5 ro_size rok_a ar_a (-1) (rok_a x4_5.toNatClampNeg)) := hw_6
          have k_10 : ((-1) ≤ o_7.toInt ∧ o_7.toInt ≤ 7) := k_10
          rw [← hw_6] at hF
          rw [pm2_mk o_7 (o_8, o_9), pm2_mk o_8 o_9] at hF
          have hP : va_P D classes [(tr, .inr (9, [.ref trw, .ref tra, .ref trb, .ref trc, .int tr_least, .int tr_bestLinks, .int tr_changeNumber, .int tr_changeHeight])), (rot, .inl (cy, 8, .inl rot_a)), (trw, .inr (10, [.int o_7, .int o_8, .int o_9])), (ro, .inr (8, [.ref rok, .ref rov, .ref roh, .ref rot, .int ro_size])), (rok, .inl (cy, 8, .inl rok_a)), (ar, .inl (cy, 8, .inl ar_a))] H := hP
          have hD : va_D A [(tr, .inr (9, [.ref trw, .ref tra, .ref trb, .ref trc, .int tr_least, .int tr_bestLinks, .int tr_changeNumber, .int tr_changeHeight])), (rot, .inl (cy, 8, .inl rot_a)), (trw, .inr (10, [.int o_7, .int o_8, .int o_9])), (ro, .inr (8, [.ref rok, .ref rov, .ref roh, .ref rot, .int ro_size])), (rok, .inl (cy, 8, .inl rok_a)), (ar, .inl (cy, 8, .inl ar_a))] := hD
          refine lv_iload_n hx hb dX9_costOf_41 rfl (lv_at hl 1 rfl) ?_
          refine lv_aload_n hx hb dX9_costOf_42 rfl (lv_at hl 3 rfl) ?_
          refine va_get (D := D) (ci := 8) (v := .ref rot) (C := RX8) (T := TX8) (N := 5) hx hb htb inX8 hown hK hP 3 rfl rfl 3 (by decide) (htb _ tw_127) (fun _ h9 => h9) rfl dX9_costOf_43 ?_
          refine lv_iload hx hb dX9_costOf_46 (lv_at hl 0 rfl) ?_
          refine va_iald hx hb hK hP 1 0 rfl rfl (show vp_in x4_5 8 from vp_in_iff.mpr (show 0 ≤ x4_5.toInt ∧ x4_5.toInt < ((8 : Nat) : Int) from by omega)) dX9_costOf_48 ?_
          refine lv_aload_n hx hb dX9_costOf_49 rfl (lv_at hl 2 rfl) ?_
          refine va_get (D := D) (ci := 9) (v := .ref trw) (C := RX9) (T := TX9) (N := 8) hx hb htb inX9 hown hK hP 0 rfl rfl 0 (by decide) (htb _ tw_223) (fun _ h9 => h9) rfl dX9_costOf_50 ?_
          refine va_get (D := D) (ci := 10) (v := .int o_9) (C := RX10) (T := TX10) (N := 3) hx hb htb inX10 hown hK hP 2 rfl rfl 2 (by decide) (htb _ tw_205) (fun _ h9 => h9) rfl dX9_costOf_53 ?_
          refine lv_imul hx hb dX9_costOf_56 ?_
          refine lv_iadd hx hb dX9_costOf_57 ?_
          refine lv_istore_n (lv' := [(3, .int (x3_5 + ((rot_a x4_5.toNatClampNeg) * o_9))), (4, .int x4_5), (0, .ref tr), (1, .ref ro), (2, .ref ar)]) hx hb dX9_costOf_58 rfl hl (by decide) rfl (fun ls hl => ?_)
          refine lv_iinc (v := (x4_5 + 1)) (lv' := [(4, .int (x4_5 + 1)), (3, .int (x3_5 + ((rot_a x4_5.toNatClampNeg) * o_9))), (0, .ref tr), (1, .ref ro), (2, .ref ar)]) hx hb dX9_costOf_59 hl (k := 1) rfl rfl (by decide) rfl (fun ls hl => ?_)
          have k_11 : (x4_5 + 1).toInt = x4_5.toInt + 1 := wk_add x4_5.toInt 1 rfl rfl (by omega) (by omega)
          refine lv_goto (tgt := 5) hx hb dX9_costOf_62 (by decide) ?_
          exact ih_5 (x3_5 + ((rot_a x4_5.toNatClampNeg) * o_9)) (x4_5 + 1) o_7 o_8 o_9 _ _ _ (show 0 ≤ (x4_5 + 1).toInt ∧ (x4_5 + 1).toInt ≤ 8 from by omega) (show (-1) ≤ o_7.toInt ∧ o_7.toInt ≤ 7 from by omega) (show 8 - (x4_5 + 1).toInt < ((fu_5 : Nat) : Int) from by omega) hF (wk_sub9 (is := [0, 2, 3, 4, 1, 5]) hP rfl) (hD.sub [0, 2, 3, 4, 1, 5] rfl rfl) hS (lv_sub hl [0, 1, 2, 3, 4] rfl)
  exact hlp_5 10 0 0 trw_number trw_lane trw_looks _ _ _ (show 0 ≤ 0 ∧ 0 ≤ 8 from by omega) (show (-1) ≤ trw_number.toInt ∧ trw_number.toInt ≤ 7 from by omega) (show 8 - 0 < ((10 : Nat) : Int) from by omega) hF hP hD hS (lv_sub hl [0, 1, 2, 3, 4] rfl)
def fn_X9_weigh (tr_least : Int32) (tr_bestLinks : Int32) (trw_number : Int32) (trw_lane : Int32) (trw_looks : Int32) (tra_a : Nat → Int32) (trb_a : Nat → Int32) (ro_size : Int32) (rok_a : Nat → Int32) (rot_a : Nat → Int32) (a : Int32) : Int32 × Int32 × Int32 × Int32 × Int32 × (Nat → Int32) := (pm2 (fn_X9_costOf trw_number trw_lane trw_looks ro_size rok_a rot_a tra_a) (fun r_1 t_ => (pm2 (t_) (fun o_4 t_ => (pm2 (t_) (fun o_5 o_6 => (if tr_least = (-1) then (pm1 (fn_X9_copyHeights ro_size tra_a trb_a) (fun o_12 => (r_1, a, o_4, o_5, o_6, o_12))) else (if r_1 < tr_least then (pm1 (fn_X9_copyHeights ro_size tra_a trb_a) (fun o_17 => (r_1, a, o_4, o_5, o_6, o_17))) else (tr_least, tr_bestLinks, o_4, o_5, o_6, trb_a)))))))))
theorem dX9_weigh_0 : decode cX9_weigh 0 = .ok (.aload_n 0, 1) := by decide +kernel
theorem dX9_weigh_1 : decode cX9_weigh 1 = .ok (.aload_n 1, 1) := by decide +kernel
theorem dX9_weigh_2 : decode cX9_weigh 2 = .ok (.aload_n 0, 1) := by decide +kernel
theorem dX9_weigh_3 : decode cX9_weigh 3 = .ok (.getfield 18, 3) := by decide +kernel
theorem dX9_weigh_6 : decode cX9_weigh 6 = .ok (.invokevirtual 64, 3) := by decide +kernel
theorem dX9_weigh_9 : decode cX9_weigh 9 = .ok (.istore_n 3, 1) := by decide +kernel
theorem dX9_weigh_10 : decode cX9_weigh 10 = .ok (.aload_n 0, 1) := by decide +kernel
theorem dX9_weigh_11 : decode cX9_weigh 11 = .ok (.getfield 46, 3) := by decide +kernel
theorem dX9_weigh_14 : decode cX9_weigh 14 = .ok (.iconst (-1), 1) := by decide +kernel
theorem dX9_weigh_15 : decode cX9_weigh 15 = .ok (.if_icmp .eq 12, 3) := by decide +kernel
theorem dX9_weigh_18 : decode cX9_weigh 18 = .ok (.iload_n 3, 1) := by decide +kernel
theorem dX9_weigh_19 : decode cX9_weigh 19 = .ok (.aload_n 0, 1) := by decide +kernel
theorem dX9_weigh_20 : decode cX9_weigh 20 = .ok (.getfield 46, 3) := by decide +kernel
theorem dX9_weigh_23 : decode cX9_weigh 23 = .ok (.if_icmp .lt 4, 3) := by decide +kernel
theorem dX9_weigh_26 : decode cX9_weigh 26 = .ok (.return_, 1) := by decide +kernel
theorem dX9_weigh_27 : decode cX9_weigh 27 = .ok (.aload_n 0, 1) := by decide +kernel
theorem dX9_weigh_28 : decode cX9_weigh 28 = .ok (.iload_n 3, 1) := by decide +kernel
theorem dX9_weigh_29 : decode cX9_weigh 29 = .ok (.putfield 46, 3) := by decide +kernel
theorem dX9_weigh_32 : decode cX9_weigh 32 = .ok (.aload_n 0, 1) := by decide +kernel
theorem dX9_weigh_33 : decode cX9_weigh 33 = .ok (.iload_n 2, 1) := by decide +kernel
theorem dX9_weigh_34 : decode cX9_weigh 34 = .ok (.putfield 49, 3) := by decide +kernel
theorem dX9_weigh_37 : decode cX9_weigh 37 = .ok (.aload_n 1, 1) := by decide +kernel
theorem dX9_weigh_38 : decode cX9_weigh 38 = .ok (.aload_n 0, 1) := by decide +kernel
theorem dX9_weigh_39 : decode cX9_weigh 39 = .ok (.getfield 18, 3) := by decide +kernel
theorem dX9_weigh_42 : decode cX9_weigh 42 = .ok (.aload_n 0, 1) := by decide +kernel
theorem dX9_weigh_43 : decode cX9_weigh 43 = .ok (.getfield 22, 3) := by decide +kernel
theorem dX9_weigh_46 : decode cX9_weigh 46 = .ok (.invokestatic 68, 3) := by decide +kernel
theorem dX9_weigh_49 : decode cX9_weigh 49 = .ok (.return_, 1) := by decide +kernel
set_option maxHeartbeats 4000000 in
set_option maxRecDepth 100000 in
theorem c_X9_weigh (l : Launch) (D : va_G) (cy : ClassId) (tr trw tra trb trc ro rok rov roh rot : Nat) (tr_least : Int32) (tr_bestLinks : Int32) (tr_changeNumber : Int32) (tr_changeHeight : Int32) (trw_number : Int32) (trw_lane : Int32) (trw_looks : Int32) (tra_a : Nat → Int32) (trb_a : Nat → Int32) (ro_size : Int32) (rok_a : Nat → Int32) (rot_a : Nat → Int32) (a : Int32) (g_0 : (-1) ≤ trw_number.toInt ∧ trw_number.toInt ≤ 7) (g_1 : 0 ≤ ro_size.toInt ∧ ro_size.toInt ≤ 8) : wk_Cv l yX9_weigh cX9_weigh 4 none { frames := 4, cells := 0, slots := 0, locals := 89 } D cy [.ref tr, .ref ro, .int a] [(tr, .inr (9, [.ref trw, .ref tra, .ref trb, .ref trc, .int tr_least, .int tr_bestLinks, .int tr_changeNumber, .int tr_changeHeight])), (trw, .inr (10, [.int trw_number, .int trw_lane, .int trw_looks])), (tra, .inl (cy, 8, .inl tra_a)), (trb, .inl (cy, 8, .inl trb_a)), (ro, .inr (8, [.ref rok, .ref rov, .ref roh, .ref rot, .int ro_size])), (rok, .inl (cy, 8, .inl rok_a)), (rot, .inl (cy, 8, .inl rot_a))] 0 0 (fun (u : Int32 × Int32 × Int32 × Int32 × Int32 × (Nat → Int32)) => u = (fn_X9_weigh tr_least tr_bestLinks trw_number trw_lane trw_looks tra_a trb_a ro_size rok_a rot_a a) ∧ ((-1) ≤ u.2.2.1.toInt ∧ u.2.2.1.toInt ≤ 7)) (fun u => [(tr, .inr (9, [.ref trw, .ref tra, .ref trb, .ref trc, .int u.1, .int u.2.1, .int tr_changeNumber, .int tr_changeHeight])), (trw, .inr (10, [.int u.2.2.1, .int u.2.2.2.1, .int u.2.2.2.2.1])), (tra, .inl (cy, 8, .inl tra_a)), (trb, .inl (cy, 8, .inl u.2.2.2.2.2)), (ro, .inr (8, [.ref rok, .ref rov, .ref roh, .ref rot, .int ro_size])), (rok, .inl (cy, 8, .inl rok_a)), (rot, .inl (cy, 8, .inl rot_a))]) := by
  refine wk_mk2Cv (by decide) (Nat.le_of_ble_eq_true rfl) ?_
  intro p e s m args below meth c A ls Q B hA hK hP hD hS hl hret
  obtain ⟨hx, hb, hr, hlocks, hml, hown, htb, hin⟩ := B
  have hl : lv_has ls 4 [(0, .ref tr), (1, .ref ro), (2, .int a)] := hl
  have hF : (fn_X9_weigh tr_least tr_bestLinks trw_number trw_lane trw_looks tra_a trb_a ro_size rok_a rot_a a) = (fn_X9_weigh tr_least tr_bestLinks trw_number trw_lane trw_looks tra_a trb_a ro_size rok_a rot_a a) := rfl
  conv at hF => rhs; unfold fn_X9_weigh
  refine lv_aload_n hx hb dX9_weigh_0 rfl (lv_at hl 0 rfl) ?_
  refine lv_aload_n hx hb dX9_weigh_1 rfl (lv_at hl 1 rfl) ?_
  refine lv_aload_n hx hb dX9_weigh_2 rfl (lv_at hl 0 rfl) ?_
  refine va_get (D := D) (ci := 9) (v := .ref tra) (C := RX9) (T := TX9) (N := 8) hx hb htb inX9 hown hK hP 0 rfl rfl 1 (by decide) (htb _ tw_224) (fun _ h9 => h9) rfl dX9_weigh_3 ?_
  refine wk_iV (As := [.ref ro, .ref tra]) (rest := []) (wc := [(tr, .inr (9, [.ref trw, .ref tra, .ref trb, .ref trc, .int tr_least, .int tr_bestLinks, .int tr_changeNumber, .int tr_changeHeight])), (trw, .inr (10, [.int trw_number, .int trw_lane, .int trw_looks])), (ro, .inr (8, [.ref rok, .ref rov, .ref roh, .ref rot, .int ro_size])), (rok, .inl (cy, 8, .inl rok_a)), (rot, .inl (cy, 8, .inl rot_a)), (tra, .inl (cy, 8, .inl tra_a))]) (wr := [(trb, .inl (cy, 8, .inl trb_a))]) (n := 2) ⟨hx, hb, hml, hown, htb⟩ (c_X9_costOf l D cy tr trw tra trb trc ro rok rov roh rot tra tr_least tr_bestLinks tr_changeNumber tr_changeHeight trw_number trw_lane trw_looks ro_size rok_a rot_a tra_a  (show (-1) ≤ trw_number.toInt ∧ trw_number.toInt ≤ 7 from by omega) (show 0 ≤ ro_size.toInt ∧ ro_size.toInt ≤ 8 from by omega)) tw_637 tw_654 tw_635 tw_636 tw_70 rfl rfl (by decide +kernel) ⟨Nat.le_of_ble_eq_true rfl, Nat.le_of_ble_eq_true rfl⟩ hK hP hD hS hA [0, 1, 4, 5, 6, 2] [3] rfl rfl rfl rfl (by decide) 0 (ci := 9) rfl rfl rfl hl.1 rfl (Nat.le_of_ble_eq_true rfl) dX9_weigh_6 ⟨Nat.le_of_ble_eq_true rfl, Nat.le_of_ble_eq_true rfl⟩ (fun r_1 u_2 H locs hw_3 hP hD hS => ?_)
  refine W.widen (k := 0) (n := 0) (by decide) (by decide) ?_
  obtain ⟨o_4, o_5, o_6⟩ := u_2
  obtain ⟨hw_3, k_7⟩ := hw_3
  have hw_3 : (r_1, o_4, o_5, o_6) = (fn_X9_costOf trw_number trw_lane trw_looks ro_size rok_a rot_a tra_a) := hw_3
  have k_7 : ((-1) ≤ o_4.toInt ∧ o_4.toInt ≤ 7) := k_7
  rw [← hw_3] at hF
  rw [pm2_mk r_1 (o_4, o_5, o_6), pm2_mk o_4 (o_5, o_6), pm2_mk o_5 o_6] at hF
  have hP : va_P D classes [(trb, .inl (cy, 8, .inl trb_a)), (tr, .inr (9, [.ref trw, .ref tra, .ref trb, .ref trc, .int tr_least, .int tr_bestLinks, .int tr_changeNumber, .int tr_changeHeight])), (trw, .inr (10, [.int o_4, .int o_5, .int o_6])), (ro, .inr (8, [.ref rok, .ref rov, .ref roh, .ref rot, .int ro_size])), (rok, .inl (cy, 8, .inl rok_a)), (rot, .inl (cy, 8, .inl rot_a)), (tra, .inl (cy, 8, .inl tra_a))] H := hP
  have hD : va_D A [(trb, .inl (cy, 8, .inl trb_a)), (tr, .inr (9, [.ref trw, .ref tra, .ref trb, .ref trc, .int tr_least, .int tr_bestLinks, .int tr_changeNumber, .int tr_changeHeight])), (trw, .inr (10, [.int o_4, .int o_5, .int o_6])), (ro, .inr (8, [.ref rok, .ref rov, .ref roh, .ref rot, .int ro_size])), (rok, .inl (cy, 8, .inl rok_a)), (rot, .inl (cy, 8, .inl rot_a)), (tra, .inl (cy, 8, .inl tra_a))] := hD
  refine lv_istore_n (lv' := [(3, .int r_1), (0, .ref tr), (1, .ref ro), (2, .int a)]) hx hb dX9_weigh_9 rfl hl (by decide) rfl (fun ls hl => ?_)
  refine lv_aload_n hx hb dX9_weigh_10 rfl (lv_at hl 1 rfl) ?_
  refine va_get (D := D) (ci := 9) (v := .int tr_least) (C := RX9) (T := TX9) (N := 8) hx hb htb inX9 hown hK hP 1 rfl rfl 4 (by decide) (htb _ tw_227) (fun _ h9 => h9) rfl dX9_weigh_11 ?_
  refine lv_iconst (v := (-1)) hx hb dX9_weigh_14 (by decide) ?_
  refine lv_icmp_eq (tgt := 27) hx hb dX9_weigh_15 (by decide) (fun c_8 => ?_) (fun c_8 => ?_)
  · have k_8 : tr_least.toInt = (-1) := wk_eq c_8
    replace hF := hF.trans (if_pos c_8)
    refine lv_aload_n hx hb dX9_weigh_27 rfl (lv_at hl 1 rfl) ?_
    refine lv_iload_n hx hb dX9_weigh_28 rfl (lv_at hl 0 rfl) ?_
    refine va_put (D := D) (ci := 9) (v := .int r_1) (ty := .int) (C := RX9) (T := TX9) (N := 8) hx hb htb inX9 tyX9 tyX9_ok nmX9 hown hK hP hD hS 1 rfl rfl 4 (by decide) (htb _ tw_227) (fun _ h9 => h9) rfl (by decide +kernel) rfl rfl (Nat.le_of_ble_eq_true rfl) dX9_weigh_29 (fun H locs hP hD hS => ?_)
    have hP : va_P D classes [(trb, .inl (cy, 8, .inl trb_a)), (tr, .inr (9, [.ref trw, .ref tra, .ref trb, .ref trc, .int r_1, .int tr_bestLinks, .int tr_changeNumber, .int tr_changeHeight])), (trw, .inr (10, [.int o_4, .int o_5, .int o_6])), (ro, .inr (8, [.ref rok, .ref rov, .ref roh, .ref rot, .int ro_size])), (rok, .inl (cy, 8, .inl rok_a)), (rot, .inl (cy, 8, .inl rot_a)), (tra, .inl (cy, 8, .inl tra_a))] H := hP
    have hD : va_D A [(trb, .inl (cy, 8, .inl trb_a)), (tr, .inr (9, [.ref trw, .ref tra, .ref trb, .ref trc, .int r_1, .int tr_bestLinks, .int tr_changeNumber, .int tr_changeHeight])), (trw, .inr (10, [.int o_4, .int o_5, .int o_6])), (ro, .inr (8, [.ref rok, .ref rov, .ref roh, .ref rot, .int ro_size])), (rok, .inl (cy, 8, .inl rok_a)), (rot, .inl (cy, 8, .inl rot_a)), (tra, .inl (cy, 8, .inl tra_a))] := hD
    refine lv_aload_n hx hb dX9_weigh_32 rfl (lv_at hl 1 rfl) ?_
    refine lv_iload_n hx hb dX9_weigh_33 rfl (lv_at hl 3 rfl) ?_
    refine va_put (D := D) (ci := 9) (v := .int a) (ty := .int) (C := RX9) (T := TX9) (N := 8) hx hb htb inX9 tyX9 tyX9_ok nmX9 hown hK hP hD hS 1 rfl rfl 5 (by decide) (htb _ tw_229) (fun _ h9 => h9) rfl (by decide +kernel) rfl rfl (Nat.le_of_ble_eq_true rfl) dX9_weigh_34 (fun H locs hP hD hS => ?_)
    have hP : va_P D classes [(trb, .inl (cy, 8, .inl trb_a)), (tr, .inr (9, [.ref trw, .ref tra, .ref trb, .ref trc, .int r_1, .int a, .int tr_changeNumber, .int tr_changeHeight])), (trw, .inr (10, [.int o_4, .int o_5, .int o_6])), (ro, .inr (8, [.ref rok, .ref rov, .ref roh, .ref rot, .int ro_size])), (rok, .inl (cy, 8, .inl rok_a)), (rot, .inl (cy, 8, .inl rot_a)), (tra, .inl (cy, 8, .inl tra_a))] H := hP
    have hD : va_D A [(trb, .inl (cy, 8, .inl trb_a)), (tr, .inr (9, [.ref trw, .ref tra, .ref trb, .ref trc, .int r_1, .int a, .int tr_changeNumber, .int tr_changeHeight])), (trw, .inr (10, [.int o_4, .int o_5, .int o_6])), (ro, .inr (8, [.ref rok, .ref rov, .ref roh, .ref rot, .int ro_size])), (rok, .inl (cy, 8, .inl rok_a)), (rot, .inl (cy, 8, .inl rot_a)), (tra, .inl (cy, 8, .inl tra_a))] := hD
    refine lv_aload_n hx hb dX9_weigh_37 rfl (lv_at hl 2 rfl) ?_
    refine lv_aload_n hx hb dX9_weigh_38 rfl (lv_at hl 1 rfl) ?_
    refine va_get (D := D) (ci := 9) (v := .ref tra) (C := RX9) (T := TX9) (N := 8) hx hb htb inX9 hown hK hP 1 rfl rfl 1 (by decide) (htb _ tw_224) (fun _ h9 => h9) rfl dX9_weigh_39 ?_
    refine lv_aload_n hx hb dX9_weigh_42 rfl (lv_at hl 1 rfl) ?_
    refine va_get (D := D) (ci := 9) (v := .ref trb) (C := RX9) (T := TX9) (N := 8) hx hb htb inX9 hown hK hP 1 rfl rfl 2 (by decide) (htb _ tw_225) (fun _ h9 => h9) rfl dX9_weigh_43 ?_
    refine wk_vS (As := [.ref ro, .ref tra, .ref trb]) (rest := []) (wc := [(ro, .inr (8, [.ref rok, .ref rov, .ref roh, .ref rot, .int ro_size])), (tra, .inl (cy, 8, .inl tra_a)), (trb, .inl (cy, 8, .inl trb_a))]) (wr := [(tr, .inr (9, [.ref trw, .ref tra, .ref trb, .ref trc, .int r_1, .int a, .int tr_changeNumber, .int tr_changeHeight])), (trw, .inr (10, [.int o_4, .int o_5, .int o_6])), (rok, .inl (cy, 8, .inl rok_a)), (rot, .inl (cy, 8, .inl rot_a))]) (n := 3) ⟨hx, hb, hml, hown, htb⟩ (c_X9_copyHeights l D cy ro rok rov roh rot tra trb ro_size tra_a trb_a  (show 0 ≤ ro_size.toInt ∧ ro_size.toInt ≤ 8 from by omega)) tw_511 tw_509 tw_510 tw_70 rfl rfl (by decide +kernel) ⟨Nat.le_of_ble_eq_true rfl, Nat.le_of_ble_eq_true rfl⟩ hK hP hD hS hA [3, 6, 0] [1, 2, 4, 5] rfl rfl rfl rfl (by decide) rfl hl.1 rfl (Nat.le_of_ble_eq_true rfl) dX9_weigh_46 ⟨Nat.le_of_ble_eq_true rfl, Nat.le_of_ble_eq_true rfl⟩ (fun u_10 H locs hw_11 hP hD hS => ?_)
    refine W.widen (k := 0) (n := 0) (by decide) (by decide) ?_
    obtain ⟨o_12, rfl⟩ : ∃ z, z = u_10 := ⟨_, rfl⟩
    have hw_11 : o_12 = (fn_X9_copyHeights ro_size tra_a trb_a) := hw_11
    rw [← hw_11] at hF
    rw [pm1_mk o_12] at hF
    have hP : va_P D classes [(tr, .inr (9, [.ref trw, .ref tra, .ref trb, .ref trc, .int r_1, .int a, .int tr_changeNumber, .int tr_changeHeight])), (trw, .inr (10, [.int o_4, .int o_5, .int o_6])), (rok, .inl (cy, 8, .inl rok_a)), (rot, .inl (cy, 8, .inl rot_a)), (ro, .inr (8, [.ref rok, .ref rov, .ref roh, .ref rot, .int ro_size])), (tra, .inl (cy, 8, .inl tra_a)), (trb, .inl (cy, 8, .inl o_12))] H := hP
    have hD : va_D A [(tr, .inr (9, [.ref trw, .ref tra, .ref trb, .ref trc, .int r_1, .int a, .int tr_changeNumber, .int tr_changeHeight])), (trw, .inr (10, [.int o_4, .int o_5, .int o_6])), (rok, .inl (cy, 8, .inl rok_a)), (rot, .inl (cy, 8, .inl rot_a)), (ro, .inr (8, [.ref rok, .ref rov, .ref roh, .ref rot, .int ro_size])), (tra, .inl (cy, 8, .inl tra_a)), (trb, .inl (cy, 8, .inl o_12))] := hD
    refine W.widen (k := 0) (n := 0) (by decide) (by decide) ?_
    exact hret (r_1, a, o_4, o_5, o_6, o_12) _ _ _ 49 (wk_sub9 (is := [0, 1, 5, 6, 4, 2, 3]) hP rfl) (hD.sub [0, 1, 5, 6, 4, 2, 3] rfl rfl) hS dX9_weigh_49 ⟨hF.symm, (show ((-1) ≤ o_4.toInt ∧ o_4.toInt ≤ 7) from by omega)⟩
  · have k_8 : ¬ tr_least.toInt = (-1) := wk_neq c_8
    replace hF := hF.trans (if_neg c_8)
    refine lv_iload_n hx hb dX9_weigh_18 rfl (lv_at hl 0 rfl) ?_
    refine lv_aload_n hx hb dX9_weigh_19 rfl (lv_at hl 1 rfl) ?_
    refine va_get (D := D) (ci := 9) (v := .int tr_least) (C := RX9) (T := TX9) (N := 8) hx hb htb inX9 hown hK hP 1 rfl rfl 4 (by decide) (htb _ tw_227) (fun _ h9 => h9) rfl dX9_weigh_20 ?_
    refine lv_icmp_lt (tgt := 27) hx hb dX9_weigh_23 (by decide) (fun c_13 => ?_) (fun c_13 => ?_)
    · have k_13 : r_1.toInt < tr_least.toInt := wk_lt c_13
      replace hF := hF.trans (if_pos c_13)
      refine lv_aload_n hx hb dX9_weigh_27 rfl (lv_at hl 1 rfl) ?_
      refine lv_iload_n hx hb dX9_weigh_28 rfl (lv_at hl 0 rfl) ?_
      refine va_put (D := D) (ci := 9) (v := .int r_1) (ty := .int) (C := RX9) (T := TX9) (N := 8) hx hb htb inX9 tyX9 tyX9_ok nmX9 hown hK hP hD hS 1 rfl rfl 4 (by decide) (htb _ tw_227) (fun _ h9 => h9) rfl (by decide +kernel) rfl rfl (Nat.le_of_ble_eq_true rfl) dX9_weigh_29 (fun H locs hP hD hS => ?_)
      have hP : va_P D classes [(trb, .inl (cy, 8, .inl trb_a)), (tr, .inr (9, [.ref trw, .ref tra, .ref trb, .ref trc, .int r_1, .int tr_bestLinks, .int tr_changeNumber, .int tr_changeHeight])), (trw, .inr (10, [.int o_4, .int o_5, .int o_6])), (ro, .inr (8, [.ref rok, .ref rov, .ref roh, .ref rot, .int ro_size])), (rok, .inl (cy, 8, .inl rok_a)), (rot, .inl (cy, 8, .inl rot_a)), (tra, .inl (cy, 8, .inl tra_a))] H := hP
      have hD : va_D A [(trb, .inl (cy, 8, .inl trb_a)), (tr, .inr (9, [.ref trw, .ref tra, .ref trb, .ref trc, .int r_1, .int tr_bestLinks, .int tr_changeNumber, .int tr_changeHeight])), (trw, .inr (10, [.int o_4, .int o_5, .int o_6])), (ro, .inr (8, [.ref rok, .ref rov, .ref roh, .ref rot, .int ro_size])), (rok, .inl (cy, 8, .inl rok_a)), (rot, .inl (cy, 8, .inl rot_a)), (tra, .inl (cy, 8, .inl tra_a))] := hD
      refine lv_aload_n hx hb dX9_weigh_32 rfl (lv_at hl 1 rfl) ?_
      refine lv_iload_n hx hb dX9_weigh_33 rfl (lv_at hl 3 rfl) ?_
      refine va_put (D := D) (ci := 9) (v := .int a) (ty := .int) (C := RX9) (T := TX9) (N := 8) hx hb htb inX9 tyX9 tyX9_ok nmX9 hown hK hP hD hS 1 rfl rfl 5 (by decide) (htb _ tw_229) (fun _ h9 => h9) rfl (by decide +kernel) rfl rfl (Nat.le_of_ble_eq_true rfl) dX9_weigh_34 (fun H locs hP hD hS => ?_)
      have hP : va_P D classes [(trb, .inl (cy, 8, .inl trb_a)), (tr, .inr (9, [.ref trw, .ref tra, .ref trb, .ref trc, .int r_1, .int a, .int tr_changeNumber, .int tr_changeHeight])), (trw, .inr (10, [.int o_4, .int o_5, .int o_6])), (ro, .inr (8, [.ref rok, .ref rov, .ref roh, .ref rot, .int ro_size])), (rok, .inl (cy, 8, .inl rok_a)), (rot, .inl (cy, 8, .inl rot_a)), (tra, .inl (cy, 8, .inl tra_a))] H := hP
      have hD : va_D A [(trb, .inl (cy, 8, .inl trb_a)), (tr, .inr (9, [.ref trw, .ref tra, .ref trb, .ref trc, .int r_1, .int a, .int tr_changeNumber, .int tr_changeHeight])), (trw, .inr (10, [.int o_4, .int o_5, .int o_6])), (ro, .inr (8, [.ref rok, .ref rov, .ref roh, .ref rot, .int ro_size])), (rok, .inl (cy, 8, .inl rok_a)), (rot, .inl (cy, 8, .inl rot_a)), (tra, .inl (cy, 8, .inl tra_a))] := hD
      refine lv_aload_n hx hb dX9_weigh_37 rfl (lv_at hl 2 rfl) ?_
      refine lv_aload_n hx hb dX9_weigh_38 rfl (lv_at hl 1 rfl) ?_
      refine va_get (D := D) (ci := 9) (v := .ref tra) (C := RX9) (T := TX9) (N := 8) hx hb htb inX9 hown hK hP 1 rfl rfl 1 (by decide) (htb _ tw_224) (fun _ h9 => h9) rfl dX9_weigh_39 ?_
      refine lv_aload_n hx hb dX9_weigh_42 rfl (lv_at hl 1 rfl) ?_
      refine va_get (D := D) (ci := 9) (v := .ref trb) (C := RX9) (T := TX9) (N := 8) hx hb htb inX9 hown hK hP 1 rfl rfl 2 (by decide) (htb _ tw_225) (fun _ h9 => h9) rfl dX9_weigh_43 ?_
      refine wk_vS (As := [.ref ro, .ref tra, .ref trb]) (rest := []) (wc := [(ro, .inr (8, [.ref rok, .ref rov, .ref roh, .ref rot, .int ro_size])), (tra, .inl (cy, 8, .inl tra_a)), (trb, .inl (cy, 8, .inl trb_a))]) (wr := [(tr, .inr (9, [.ref trw, .ref tra, .ref trb, .ref trc, .int r_1, .int a, .int tr_changeNumber, .int tr_changeHeight])), (trw, .inr (10, [.int o_4, .int o_5, .int o_6])), (rok, .inl (cy, 8, .inl rok_a)), (rot, .inl (cy, 8, .inl rot_a))]) (n := 3) ⟨hx, hb, hml, hown, htb⟩ (c_X9_copyHeights l D cy ro rok rov roh rot tra trb ro_size tra_a trb_a  (show 0 ≤ ro_size.toInt ∧ ro_size.toInt ≤ 8 from by omega)) tw_511 tw_509 tw_510 tw_70 rfl rfl (by decide +kernel) ⟨Nat.le_of_ble_eq_true rfl, Nat.le_of_ble_eq_true rfl⟩ hK hP hD hS hA [3, 6, 0] [1, 2, 4, 5] rfl rfl rfl rfl (by decide) rfl hl.1 rfl (Nat.le_of_ble_eq_true rfl) dX9_weigh_46 ⟨Nat.le_of_ble_eq_true rfl, Nat.le_of_ble_eq_true rfl⟩ (fun u_15 H locs hw_16 hP hD hS => ?_)
      refine W.widen (k := 0) (n := 0) (by decide) (by decide) ?_
      obtain ⟨o_17, rfl⟩ : ∃ z, z = u_15 := ⟨_, rfl⟩
      have hw_16 : o_17 = (fn_X9_copyHeights ro_size tra_a trb_a) := hw_16
      rw [← hw_16] at hF
      rw [pm1_mk o_17] at hF
      have hP : va_P D classes [(tr, .inr (9, [.ref trw, .ref tra, .ref trb, .ref trc, .int r_1, .int a, .int tr_changeNumber, .int tr_changeHeight])), (trw, .inr (10, [.int o_4, .int o_5, .int o_6])), (rok, .inl (cy, 8, .inl rok_a)), (rot, .inl (cy, 8, .inl rot_a)), (ro, .inr (8, [.ref rok, .ref rov, .ref roh, .ref rot, .int ro_size])), (tra, .inl (cy, 8, .inl tra_a)), (trb, .inl (cy, 8, .inl o_17))] H := hP
      have hD : va_D A [(tr, .inr (9, [.ref trw, .ref tra, .ref trb, .ref trc, .int r_1, .int a, .int tr_changeNumber, .int tr_changeHeight])), (trw, .inr (10, [.int o_4, .int o_5, .int o_6])), (rok, .inl (cy, 8, .inl rok_a)), (rot, .inl (cy, 8, .inl rot_a)), (ro, .inr (8, [.ref rok, .ref rov, .ref roh, .ref rot, .int ro_size])), (tra, .inl (cy, 8, .inl tra_a)), (trb, .inl (cy, 8, .inl o_17))] := hD
      refine W.widen (k := 0) (n := 0) (by decide) (by decide) ?_
      exact hret (r_1, a, o_4, o_5, o_6, o_17) _ _ _ 49 (wk_sub9 (is := [0, 1, 5, 6, 4, 2, 3]) hP rfl) (hD.sub [0, 1, 5, 6, 4, 2, 3] rfl rfl) hS dX9_weigh_49 ⟨hF.symm, (show ((-1) ≤ o_4.toInt ∧ o_4.toInt ≤ 7) from by omega)⟩
    · have k_13 : ¬ r_1.toInt < tr_least.toInt := wk_nlt c_13
      replace hF := hF.trans (if_neg c_13)
      refine W.widen (k := 0) (n := 0) (by decide) (by decide) ?_
      exact hret (tr_least, tr_bestLinks, o_4, o_5, o_6, trb_a) _ _ _ 26 (wk_sub9 (is := [1, 2, 6, 0, 3, 4, 5]) hP rfl) (hD.sub [1, 2, 6, 0, 3, 4, 5] rfl rfl) hS dX9_weigh_26 ⟨hF.symm, (show ((-1) ≤ o_4.toInt ∧ o_4.toInt ≤ 7) from by omega)⟩
def lp_X9_nextWay_4 (tra_a : Nat → Int32) (a : Int32) : Nat → Int32 → (Nat → Int32) → Int32 × (Nat → Int32)
  | 0, _, _ => default
  | fu_4 + 1, x2_4, tra_a_4 => (if x2_4 < 0 then (0, tra_a_4) else (if (3 : Int32) ≤ (tra_a_4 x2_4.toNatClampNeg) then (lp_X9_nextWay_4 tra_a a fu_4 (x2_4 + (-1)) (upd tra_a_4 x2_4.toNatClampNeg 1)) else (1, (upd tra_a_4 x2_4.toNatClampNeg ((tra_a_4 x2_4.toNatClampNeg) + 1)))))
termination_by n => n
def fn_X9_nextWay (tra_a : Nat → Int32) (a : Int32) : Int32 × (Nat → Int32) := (lp_X9_nextWay_4 tra_a a 10 (a - 1) tra_a)
theorem dX9_nextWay_0 : decode cX9_nextWay 0 = .ok (.iload_n 1, 1) := by decide +kernel
theorem dX9_nextWay_1 : decode cX9_nextWay 1 = .ok (.iconst 1, 1) := by decide +kernel
theorem dX9_nextWay_2 : decode cX9_nextWay 2 = .ok (.isub, 1) := by decide +kernel
theorem dX9_nextWay_3 : decode cX9_nextWay 3 = .ok (.istore_n 2, 1) := by decide +kernel
theorem dX9_nextWay_4 : decode cX9_nextWay 4 = .ok (.iload_n 2, 1) := by decide +kernel
theorem dX9_nextWay_5 : decode cX9_nextWay 5 = .ok (.ifCond .lt 38, 3) := by decide +kernel
theorem dX9_nextWay_8 : decode cX9_nextWay 8 = .ok (.aload_n 0, 1) := by decide +kernel
theorem dX9_nextWay_9 : decode cX9_nextWay 9 = .ok (.getfield 18, 3) := by decide +kernel
theorem dX9_nextWay_12 : decode cX9_nextWay 12 = .ok (.iload_n 2, 1) := by decide +kernel
theorem dX9_nextWay_13 : decode cX9_nextWay 13 = .ok (.iaload, 1) := by decide +kernel
theorem dX9_nextWay_14 : decode cX9_nextWay 14 = .ok (.iconst 3, 1) := by decide +kernel
theorem dX9_nextWay_15 : decode cX9_nextWay 15 = .ok (.if_icmp .ge 15, 3) := by decide +kernel
theorem dX9_nextWay_18 : decode cX9_nextWay 18 = .ok (.aload_n 0, 1) := by decide +kernel
theorem dX9_nextWay_19 : decode cX9_nextWay 19 = .ok (.getfield 18, 3) := by decide +kernel
theorem dX9_nextWay_22 : decode cX9_nextWay 22 = .ok (.iload_n 2, 1) := by decide +kernel
theorem dX9_nextWay_23 : decode cX9_nextWay 23 = .ok (.dup2, 1) := by decide +kernel
theorem dX9_nextWay_24 : decode cX9_nextWay 24 = .ok (.iaload, 1) := by decide +kernel
theorem dX9_nextWay_25 : decode cX9_nextWay 25 = .ok (.iconst 1, 1) := by decide +kernel
theorem dX9_nextWay_26 : decode cX9_nextWay 26 = .ok (.iadd, 1) := by decide +kernel
theorem dX9_nextWay_27 : decode cX9_nextWay 27 = .ok (.iastore, 1) := by decide +kernel
theorem dX9_nextWay_28 : decode cX9_nextWay 28 = .ok (.iconst 1, 1) := by decide +kernel
theorem dX9_nextWay_29 : decode cX9_nextWay 29 = .ok (.ireturn, 1) := by decide +kernel
theorem dX9_nextWay_30 : decode cX9_nextWay 30 = .ok (.aload_n 0, 1) := by decide +kernel
theorem dX9_nextWay_31 : decode cX9_nextWay 31 = .ok (.getfield 18, 3) := by decide +kernel
theorem dX9_nextWay_34 : decode cX9_nextWay 34 = .ok (.iload_n 2, 1) := by decide +kernel
theorem dX9_nextWay_35 : decode cX9_nextWay 35 = .ok (.iconst 1, 1) := by decide +kernel
theorem dX9_nextWay_36 : decode cX9_nextWay 36 = .ok (.iastore, 1) := by decide +kernel
theorem dX9_nextWay_37 : decode cX9_nextWay 37 = .ok (.iinc 2 (-1), 3) := by decide +kernel
theorem dX9_nextWay_40 : decode cX9_nextWay 40 = .ok (.goto (-36), 3) := by decide +kernel
theorem dX9_nextWay_43 : decode cX9_nextWay 43 = .ok (.iconst 0, 1) := by decide +kernel
theorem dX9_nextWay_44 : decode cX9_nextWay 44 = .ok (.ireturn, 1) := by decide +kernel
set_option maxHeartbeats 4000000 in
set_option maxRecDepth 100000 in
theorem c_X9_nextWay (l : Launch) (D : va_G) (cy : ClassId) (tr trw tra trb trc : Nat) (tr_least : Int32) (tr_bestLinks : Int32) (tr_changeNumber : Int32) (tr_changeHeight : Int32) (tra_a : Nat → Int32) (a : Int32) (g_0 : 0 ≤ a.toInt ∧ a.toInt ≤ 8) : wk_Ci l yX9_nextWay cX9_nextWay 3 (some .boolean) { frames := 0, cells := 0, slots := 0, locals := 0 } D cy [.ref tr, .int a] [(tr, .inr (9, [.ref trw, .ref tra, .ref trb, .ref trc, .int tr_least, .int tr_bestLinks, .int tr_changeNumber, .int tr_changeHeight])), (tra, .inl (cy, 8, .inl tra_a))] 0 0 (fun (r : Int32) (u : (Nat → Int32)) => (r, u) = (fn_X9_nextWay tra_a a) ∧ (r = 0 ∨ r = 1)) (fun u => [(tr, .inr (9, [.ref trw, .ref tra, .ref trb, .ref trc, .int tr_least, .int tr_bestLinks, .int tr_changeNumber, .int tr_changeHeight])), (tra, .inl (cy, 8, .inl u))]) := by
  refine wk_mk2Cz (by decide) (Nat.le_of_ble_eq_true rfl) ?_
  intro p e s m args below meth c A ls Q B hA hK hP hD hS hl hret
  obtain ⟨hx, hb, hr, hlocks, hml, hown, htb, hin⟩ := B
  have hl : lv_has ls 3 [(0, .ref tr), (1, .int a)] := hl
  have hF : (fn_X9_nextWay tra_a a) = (fn_X9_nextWay tra_a a) := rfl
  conv at hF => rhs; unfold fn_X9_nextWay
  refine lv_iload_n hx hb dX9_nextWay_0 rfl (lv_at hl 1 rfl) ?_
  refine lv_iconst (v := 1) hx hb dX9_nextWay_1 (by decide) ?_
  refine lv_isub hx hb dX9_nextWay_2 ?_
  have k_1 : (a - 1).toInt = a.toInt - 1 := wk_sub a.toInt 1 rfl rfl (by omega) (by omega)
  refine lv_istore_n (lv' := [(2, .int (a - 1)), (0, .ref tr), (1, .int a)]) hx hb dX9_nextWay_3 rfl hl (by decide) rfl (fun ls hl => ?_)
  have hlp_4 : ∀ (fu_4 : Nat) (x2_4 : Int32) (tra_a_4 : Nat → Int32) (H : Heap) (locs : List Loc) (ls : Array Slot), ((-1) ≤ x2_4.toInt ∧ x2_4.toInt ≤ 7) → x2_4.toInt + 1 < (fu_4 : Int) → ((fn_X9_nextWay tra_a a) = lp_X9_nextWay_4 tra_a a fu_4 x2_4 tra_a_4) → va_P D classes [(tr, .inr (9, [.ref trw, .ref tra, .ref trb, .ref trc, .int tr_least, .int tr_bestLinks, .int tr_changeNumber, .int tr_changeHeight])), (tra, .inl (cy, 8, .inl tra_a_4))] H → va_D A [(tr, .inr (9, [.ref trw, .ref tra, .ref trb, .ref trc, .int tr_least, .int tr_bestLinks, .int tr_changeNumber, .int tr_changeHeight])), (tra, .inl (cy, 8, .inl tra_a_4))] → va_S A s.heap H locs → lv_has ls 3 [(2, .int x2_4), (0, .ref tr), (1, .int a)] → W p l e { frames := 0, cells := 0, slots := 0, locals := 0 } s m args below meth c H locs 0 0 Q (F0 m 4 ls []) := by
    intro fu_4
    induction fu_4 with
    | zero =>
      intro x2_4 tra_a_4 H locs ls hi_4_0 hm hF hP hD hS hl
      exfalso; omega
    | succ fu_4 ih_4 =>
      intro x2_4 tra_a_4 H locs ls hi_4_0 hm hF hP hD hS hl
      rw [lp_X9_nextWay_4] at hF
      refine lv_iload_n hx hb dX9_nextWay_4 rfl (lv_at hl 0 rfl) ?_
      refine lv_if_lt (tgt := 43) hx hb dX9_nextWay_5 (by decide) (fun c_2 => ?_) (fun c_2 => ?_)
      · have k_2 : x2_4.toInt < 0 := wk_lt c_2
        replace hF := hF.trans (if_pos c_2)
        refine lv_iconst (v := 0) hx hb dX9_nextWay_43 (by decide) ?_
        refine W.widen (k := 0) (n := 0) (by decide) (by decide) ?_
        exact hret 0 tra_a_4 _ _ _ 44 (wk_nb (by first | exact Or.inl rfl | exact Or.inr rfl | assumption)) (wk_sub9 (is := [0, 1]) hP rfl) (hD.sub [0, 1] rfl rfl) hS dX9_nextWay_44 ⟨hF.symm, (by first | exact Or.inl rfl | exact Or.inr rfl | assumption)⟩
      · have k_2 : ¬ x2_4.toInt < 0 := wk_nlt c_2
        replace hF := hF.trans (if_neg c_2)
        refine lv_aload_n hx hb dX9_nextWay_8 rfl (lv_at hl 1 rfl) ?_
        refine va_get (D := D) (ci := 9) (v := .ref tra) (C := RX9) (T := TX9) (N := 8) hx hb htb inX9 hown hK hP 0 rfl rfl 1 (by decide) (htb _ tw_224) (fun _ h9 => h9) rfl dX9_nextWay_9 ?_
        refine lv_iload_n hx hb dX9_nextWay_12 rfl (lv_at hl 0 rfl) ?_
        refine va_iald hx hb hK hP 1 0 rfl rfl (show vp_in x2_4 8 from vp_in_iff.mpr (show 0 ≤ x2_4.toInt ∧ x2_4.toInt < ((8 : Nat) : Int) from by omega)) dX9_nextWay_13 ?_
        refine lv_iconst (v := 3) hx hb dX9_nextWay_14 (by decide) ?_
        refine lv_icmp_ge (tgt := 30) hx hb dX9_nextWay_15 (by decide) (fun c_3 => ?_) (fun c_3 => ?_)
        · have k_3 : 3 ≤ (tra_a_4 x2_4.toNatClampNeg).toInt := wk_le c_3
          replace hF := hF.trans (if_pos c_3)
          refine lv_aload_n hx hb dX9_nextWay_30 rfl (lv_at hl 1 rfl) ?_
          refine va_get (D := D) (ci := 9) (v := .ref tra) (C := RX9) (T := TX9) (N := 8) hx hb htb inX9 hown hK hP 0 rfl rfl 1 (by decide) (htb _ tw_224) (fun _ h9 => h9) rfl dX9_nextWay_31 ?_
          refine lv_iload_n hx hb dX9_nextWay_34 rfl (lv_at hl 0 rfl) ?_
          refine lv_iconst (v := 1) hx hb dX9_nextWay_35 (by decide) ?_
          refine va_iast hx hb hK hP hD hS 1 0 rfl rfl (show vp_in x2_4 8 from vp_in_iff.mpr (show 0 ≤ x2_4.toInt ∧ x2_4.toInt < ((8 : Nat) : Int) from by omega)) dX9_nextWay_36 (fun H locs hP hD hS => ?_)
          have hP : va_P D classes [(tr, .inr (9, [.ref trw, .ref tra, .ref trb, .ref trc, .int tr_least, .int tr_bestLinks, .int tr_changeNumber, .int tr_changeHeight])), (tra, .inl (cy, 8, .inl (upd tra_a_4 x2_4.toNatClampNeg 1)))] H := hP
          have hD : va_D A [(tr, .inr (9, [.ref trw, .ref tra, .ref trb, .ref trc, .int tr_least, .int tr_bestLinks, .int tr_changeNumber, .int tr_changeHeight])), (tra, .inl (cy, 8, .inl (upd tra_a_4 x2_4.toNatClampNeg 1)))] := hD
          refine lv_iinc (v := (x2_4 + (-1))) (lv' := [(2, .int (x2_4 + (-1))), (0, .ref tr), (1, .int a)]) hx hb dX9_nextWay_37 hl (k := 0) rfl rfl (by decide) rfl (fun ls hl => ?_)
          have k_4 : (x2_4 + (-1)).toInt = x2_4.toInt + (-1) := wk_add x2_4.toInt (-1) rfl rfl (by omega) (by omega)
          refine lv_goto (tgt := 4) hx hb dX9_nextWay_40 (by decide) ?_
          exact ih_4 (x2_4 + (-1)) (upd tra_a_4 x2_4.toNatClampNeg 1) _ _ _ (show (-1) ≤ (x2_4 + (-1)).toInt ∧ (x2_4 + (-1)).toInt ≤ 7 from by omega) (show (x2_4 + (-1)).toInt + 1 < ((fu_4 : Nat) : Int) from by omega) hF hP hD hS (lv_sub hl [0, 1, 2] rfl)
        · have k_3 : ¬ 3 ≤ (tra_a_4 x2_4.toNatClampNeg).toInt := wk_nle c_3
          replace hF := hF.trans (if_neg c_3)
          refine lv_aload_n hx hb dX9_nextWay_18 rfl (lv_at hl 1 rfl) ?_
          refine va_get (D := D) (ci := 9) (v := .ref tra) (C := RX9) (T := TX9) (N := 8) hx hb htb inX9 hown hK hP 0 rfl rfl 1 (by decide) (htb _ tw_224) (fun _ h9 => h9) rfl dX9_nextWay_19 ?_
          refine lv_iload_n hx hb dX9_nextWay_22 rfl (lv_at hl 0 rfl) ?_
          refine lv_dup2_11 hx hb dX9_nextWay_23 rfl rfl ?_
          refine va_iald hx hb hK hP 1 0 rfl rfl (show vp_in x2_4 8 from vp_in_iff.mpr (show 0 ≤ x2_4.toInt ∧ x2_4.toInt < ((8 : Nat) : Int) from by omega)) dX9_nextWay_24 ?_
          refine lv_iconst (v := 1) hx hb dX9_nextWay_25 (by decide) ?_
          refine lv_iadd hx hb dX9_nextWay_26 ?_
          refine va_iast hx hb hK hP hD hS 1 0 rfl rfl (show vp_in x2_4 8 from vp_in_iff.mpr (show 0 ≤ x2_4.toInt ∧ x2_4.toInt < ((8 : Nat) : Int) from by omega)) dX9_nextWay_27 (fun H locs hP hD hS => ?_)
          have hP : va_P D classes [(tr, .inr (9, [.ref trw, .ref tra, .ref trb, .ref trc, .int tr_least, .int tr_bestLinks, .int tr_changeNumber, .int tr_changeHeight])), (tra, .inl (cy, 8, .inl (upd tra_a_4 x2_4.toNatClampNeg ((tra_a_4 x2_4.toNatClampNeg) + 1))))] H := hP
          have hD : va_D A [(tr, .inr (9, [.ref trw, .ref tra, .ref trb, .ref trc, .int tr_least, .int tr_bestLinks, .int tr_changeNumber, .int tr_changeHeight])), (tra, .inl (cy, 8, .inl (upd tra_a_4 x2_4.toNatClampNeg ((tra_a_4 x2_4.toNatClampNeg) + 1))))] := hD
          refine lv_iconst (v := 1) hx hb dX9_nextWay_28 (by decide) ?_
          refine W.widen (k := 0) (n := 0) (by decide) (by decide) ?_
          exact hret 1 (upd tra_a_4 x2_4.toNatClampNeg ((tra_a_4 x2_4.toNatClampNeg) + 1)) _ _ _ 29 (wk_nb (by first | exact Or.inl rfl | exact Or.inr rfl | assumption)) (wk_sub9 (is := [0, 1]) hP rfl) (hD.sub [0, 1] rfl rfl) hS dX9_nextWay_29 ⟨hF.symm, (by first | exact Or.inl rfl | exact Or.inr rfl | assumption)⟩
  exact hlp_4 10 (a - 1) tra_a _ _ _ (show (-1) ≤ (a - 1).toInt ∧ (a - 1).toInt ≤ 7 from by omega) (show (a - 1).toInt + 1 < ((10 : Nat) : Int) from by omega) hF hP hD hS (lv_sub hl [0, 1, 2] rfl)
def fn_X9_bestHeight (trb_a : Nat → Int32) (ro_size : Int32) (a : Int32) : Int32 := (if a < 0 then (-1) else (if ro_size ≤ a then (-1) else (trb_a a.toNatClampNeg)))
theorem dX9_bestHeight_0 : decode cX9_bestHeight 0 = .ok (.iload_n 2, 1) := by decide +kernel
theorem dX9_bestHeight_1 : decode cX9_bestHeight 1 = .ok (.ifCond .lt 20, 3) := by decide +kernel
theorem dX9_bestHeight_4 : decode cX9_bestHeight 4 = .ok (.iload_n 2, 1) := by decide +kernel
theorem dX9_bestHeight_5 : decode cX9_bestHeight 5 = .ok (.aload_n 1, 1) := by decide +kernel
theorem dX9_bestHeight_6 : decode cX9_bestHeight 6 = .ok (.getfield 28, 3) := by decide +kernel
theorem dX9_bestHeight_9 : decode cX9_bestHeight 9 = .ok (.if_icmp .ge 12, 3) := by decide +kernel
theorem dX9_bestHeight_12 : decode cX9_bestHeight 12 = .ok (.aload_n 0, 1) := by decide +kernel
theorem dX9_bestHeight_13 : decode cX9_bestHeight 13 = .ok (.getfield 22, 3) := by decide +kernel
theorem dX9_bestHeight_16 : decode cX9_bestHeight 16 = .ok (.iload_n 2, 1) := by decide +kernel
theorem dX9_bestHeight_17 : decode cX9_bestHeight 17 = .ok (.iaload, 1) := by decide +kernel
theorem dX9_bestHeight_18 : decode cX9_bestHeight 18 = .ok (.goto 4, 3) := by decide +kernel
theorem dX9_bestHeight_21 : decode cX9_bestHeight 21 = .ok (.iconst (-1), 1) := by decide +kernel
theorem dX9_bestHeight_22 : decode cX9_bestHeight 22 = .ok (.ireturn, 1) := by decide +kernel
set_option maxHeartbeats 4000000 in
set_option maxRecDepth 100000 in
theorem c_X9_bestHeight (l : Launch) (D : va_G) (cy : ClassId) (tr trw tra trb trc ro rok rov roh rot : Nat) (tr_least : Int32) (tr_bestLinks : Int32) (tr_changeNumber : Int32) (tr_changeHeight : Int32) (trb_a : Nat → Int32) (ro_size : Int32) (a : Int32) (g_0 : 0 ≤ ro_size.toInt ∧ ro_size.toInt ≤ 8) : wk_Ci l yX9_bestHeight cX9_bestHeight 3 (some .int) { frames := 0, cells := 0, slots := 0, locals := 0 } D cy [.ref tr, .ref ro, .int a] [(tr, .inr (9, [.ref trw, .ref tra, .ref trb, .ref trc, .int tr_least, .int tr_bestLinks, .int tr_changeNumber, .int tr_changeHeight])), (trb, .inl (cy, 8, .inl trb_a)), (ro, .inr (8, [.ref rok, .ref rov, .ref roh, .ref rot, .int ro_size]))] 0 0 (fun (r : Int32) (u : Unit) => r = (fn_X9_bestHeight trb_a ro_size a)) (fun u => [(tr, .inr (9, [.ref trw, .ref tra, .ref trb, .ref trc, .int tr_least, .int tr_bestLinks, .int tr_changeNumber, .int tr_changeHeight])), (trb, .inl (cy, 8, .inl trb_a)), (ro, .inr (8, [.ref rok, .ref rov, .ref roh, .ref rot, .int ro_size]))]) := by
  refine wk_mk2Ci (by decide) (Nat.le_of_ble_eq_true rfl) ?_
  intro p e s m args below meth c A ls Q B hA hK hP hD hS hl hret
  obtain ⟨hx, hb, hr, hlocks, hml, hown, htb, hin⟩ := B
  have hl : lv_has ls 3 [(0, .ref tr), (1, .ref ro), (2, .int a)] := hl
  have hF : (fn_X9_bestHeight trb_a ro_size a) = (fn_X9_bestHeight trb_a ro_size a) := rfl
  conv at hF => rhs; unfold fn_X9_bestHeight
  refine lv_iload_n hx hb dX9_bestHeight_0 rfl (lv_at hl 2 rfl) ?_
  refine lv_if_lt (tgt := 21) hx hb dX9_bestHeight_1 (by decide) (fun c_1 => ?_) (fun c_1 => ?_)
  · have k_1 : a.toInt < 0 := wk_lt c_1
    replace hF := hF.trans (if_pos c_1)
    refine lv_iconst (v := (-1)) hx hb dX9_bestHeight_21 (by decide) ?_
    refine W.widen (k := 0) (n := 0) (by decide) (by decide) ?_
    exact hret (-1) () _ _ _ 22 (wk_sub9 (is := [0, 1, 2]) hP rfl) (hD.sub [0, 1, 2] rfl rfl) hS dX9_bestHeight_22 hF.symm
  · have k_1 : ¬ a.toInt < 0 := wk_nlt c_1
    replace hF := hF.trans (if_neg c_1)
    refine lv_iload_n hx hb dX9_bestHeight_4 rfl (lv_at hl 2 rfl) ?_
    refine lv_aload_n hx hb dX9_bestHeight_5 rfl (lv_at hl 1 rfl) ?_
    refine va_get (D := D) (ci := 8) (v := .int ro_size) (C := RX8) (T := TX8) (N := 5) hx hb htb inX8 hown hK hP 2 rfl rfl 4 (by decide) (htb _ tw_132) (fun _ h9 => h9) rfl dX9_bestHeight_6 ?_
    refine lv_icmp_ge (tgt := 21) hx hb dX9_bestHeight_9 (by decide) (fun c_2 => ?_) (fun c_2 => ?_)
    · have k_2 : ro_size.toInt ≤ a.toInt := wk_le c_2
      replace hF := hF.trans (if_pos c_2)
      refine lv_iconst (v := (-1)) hx hb dX9_bestHeight_21 (by decide) ?_
      refine W.widen (k := 0) (n := 0) (by decide) (by decide) ?_
      exact hret (-1) () _ _ _ 22 (wk_sub9 (is := [0, 1, 2]) hP rfl) (hD.sub [0, 1, 2] rfl rfl) hS dX9_bestHeight_22 hF.symm
    · have k_2 : ¬ ro_size.toInt ≤ a.toInt := wk_nle c_2
      replace hF := hF.trans (if_neg c_2)
      refine lv_aload_n hx hb dX9_bestHeight_12 rfl (lv_at hl 0 rfl) ?_
      refine va_get (D := D) (ci := 9) (v := .ref trb) (C := RX9) (T := TX9) (N := 8) hx hb htb inX9 hown hK hP 0 rfl rfl 2 (by decide) (htb _ tw_225) (fun _ h9 => h9) rfl dX9_bestHeight_13 ?_
      refine lv_iload_n hx hb dX9_bestHeight_16 rfl (lv_at hl 2 rfl) ?_
      refine va_iald hx hb hK hP 1 0 rfl rfl (show vp_in a 8 from vp_in_iff.mpr (show 0 ≤ a.toInt ∧ a.toInt < ((8 : Nat) : Int) from by omega)) dX9_bestHeight_17 ?_
      refine lv_goto (tgt := 22) hx hb dX9_bestHeight_18 (by decide) ?_
      refine W.widen (k := 0) (n := 0) (by decide) (by decide) ?_
      exact hret (trb_a a.toNatClampNeg) () _ _ _ 22 (wk_sub9 (is := [0, 1, 2]) hP rfl) (hD.sub [0, 1, 2] rfl rfl) hS dX9_bestHeight_22 hF.symm
