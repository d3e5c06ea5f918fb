def lp_X9_seekBest_12 (tr_least : Int32) (tr_bestLinks : Int32) (trw_number : Int32) (trw_lane : Int32) (trw_looks : Int32) (tra_a : Nat → Int32) (trb_a : Nat → Int32) (ro_size : Int32) (rok_a : Nat → Int32) (rot_a : Nat → Int32) (a : Int32) : Nat → Int32 → (Nat → Int32) → Int32 × (Nat → Int32)
  | 0, _, _ => default
  | fu_12 + 1, x3_12, tra_a_12 => (if ro_size ≤ x3_12 then (x3_12, tra_a_12) else (lp_X9_seekBest_12 tr_least tr_bestLinks trw_number trw_lane trw_looks tra_a trb_a ro_size rok_a rot_a a fu_12 (x3_12 + 1) (upd tra_a_12 x3_12.toNatClampNeg 1)))
termination_by n => n
def lp_X9_seekBest_38 (tr_least : Int32) (tr_bestLinks : Int32) (trw_number : Int32) (trw_lane : Int32) (trw_looks : Int32) (tra_a : Nat → Int32) (trb_a : Nat → Int32) (ro_size : Int32) (rok_a : Nat → Int32) (rot_a : Nat → Int32) (a : Int32) (x3_12 : Int32) (tra_a_12 : Nat → Int32) : Nat → Int32 → Int32 → Int32 → Int32 → Int32 → Int32 → Int32 → (Nat → Int32) → (Nat → Int32) → Int32 × Int32 × Int32 × Int32 × Int32 × Int32 × Int32 × (Nat → Int32) × (Nat → Int32)
  | 0, _, _, _, _, _, _, _, _, _ => default
  | fu_38 + 1, x3_38, x4_38, tr_least_38, tr_bestLinks_38, trw_number_38, trw_lane_38, trw_looks_38, tra_a_38, trb_a_38 => (if (1000 : Int32) ≤ x4_38 then (x3_38, x4_38, tr_least_38, tr_bestLinks_38, trw_number_38, trw_lane_38, trw_looks_38, tra_a_38, trb_a_38) else (if x3_38 = 0 then (x3_38, x4_38, tr_least_38, tr_bestLinks_38, trw_number_38, trw_lane_38, trw_looks_38, tra_a_38, trb_a_38) else (if a < (fn_X8_linksOf ro_size tra_a_38) then (pm2 (fn_X9_nextWay tra_a_38 ro_size) (fun r_9 o_12 => (lp_X9_seekBest_38 tr_least tr_bestLinks trw_number trw_lane trw_looks tra_a trb_a ro_size rok_a rot_a a x3_12 tra_a_12 fu_38 r_9 (x4_38 + 1) tr_least_38 tr_bestLinks_38 trw_number_38 trw_lane_38 trw_looks_38 o_12 trb_a_38))) else (pm2 (fn_X9_weigh tr_least_38 tr_bestLinks_38 trw_number_38 trw_lane_38 trw_looks_38 tra_a_38 trb_a_38 ro_size rok_a rot_a (fn_X8_linksOf ro_size tra_a_38)) (fun o_19 t_ => (pm2 (t_) (fun o_20 t_ => (pm2 (t_) (fun o_21 t_ => (pm2 (t_) (fun o_22 t_ => (pm2 (t_) (fun o_23 o_24 => (pm2 (fn_X9_nextWay tra_a_38 ro_size) (fun r_26 o_29 => (lp_X9_seekBest_38 tr_least tr_bestLinks trw_number trw_lane trw_looks tra_a trb_a ro_size rok_a rot_a a x3_12 tra_a_12 fu_38 r_26 (x4_38 + 1) o_19 o_20 o_21 o_22 o_23 o_29 o_24))))))))))))))))
termination_by n => n
def fn_X9_seekBest (tr_least : Int32) (tr_bestLinks : Int32) (trw_number : Int32) (trw_lane : Int32) (trw_looks : Int32) (tra_a : Nat → Int32) (trb_a : Nat → Int32) (ro_size : Int32) (rok_a : Nat → Int32) (rot_a : Nat → Int32) (a : Int32) : Int32 × Int32 × Int32 × Int32 × Int32 × (Nat → Int32) × (Nat → Int32) := (pm2 (lp_X9_seekBest_12 tr_least tr_bestLinks trw_number trw_lane trw_looks tra_a trb_a ro_size rok_a rot_a a 10 0 tra_a) (fun x3_12 tra_a_12 => (pm2 (lp_X9_seekBest_38 tr_least tr_bestLinks trw_number trw_lane trw_looks tra_a trb_a ro_size rok_a rot_a a x3_12 tra_a_12 1002 1 0 (-1) (-1) trw_number trw_lane trw_looks tra_a_12 trb_a) (fun x3_38 t_ => (pm2 (t_) (fun x4_38 t_ => (pm2 (t_) (fun tr_least_38 t_ => (pm2 (t_) (fun tr_bestLinks_38 t_ => (pm2 (t_) (fun trw_number_38 t_ => (pm2 (t_) (fun trw_lane_38 t_ => (pm2 (t_) (fun trw_looks_38 t_ => (pm2 (t_) (fun tra_a_38 trb_a_38 => (tr_least_38, tr_bestLinks_38, trw_number_38, trw_lane_38, trw_looks_38, tra_a_38, trb_a_38)))))))))))))))))))
theorem dX9_seekBest_0 : decode cX9_seekBest 0 = .ok (.aload_n 0, 1) := by decide +kernel
theorem dX9_seekBest_1 : decode cX9_seekBest 1 = .ok (.iconst (-1), 1) := by decide +kernel
theorem dX9_seekBest_2 : decode cX9_seekBest 2 = .ok (.putfield 46, 3) := by decide +kernel
theorem dX9_seekBest_5 : decode cX9_seekBest 5 = .ok (.aload_n 0, 1) := by decide +kernel
theorem dX9_seekBest_6 : decode cX9_seekBest 6 = .ok (.iconst (-1), 1) := by decide +kernel
theorem dX9_seekBest_7 : decode cX9_seekBest 7 = .ok (.putfield 49, 3) := by decide +kernel
theorem dX9_seekBest_10 : decode cX9_seekBest 10 = .ok (.iconst 0, 1) := by decide +kernel
theorem dX9_seekBest_11 : decode cX9_seekBest 11 = .ok (.istore_n 3, 1) := by decide +kernel
theorem dX9_seekBest_12 : decode cX9_seekBest 12 = .ok (.iload_n 3, 1) := by decide +kernel
theorem dX9_seekBest_13 : decode cX9_seekBest 13 = .ok (.aload_n 1, 1) := by decide +kernel
theorem dX9_seekBest_14 : decode cX9_seekBest 14 = .ok (.getfield 28, 3) := by decide +kernel
theorem dX9_seekBest_17 : decode cX9_seekBest 17 = .ok (.if_icmp .ge 16, 3) := by decide +kernel
theorem dX9_seekBest_20 : decode cX9_seekBest 20 = .ok (.aload_n 0, 1) := by decide +kernel
theorem dX9_seekBest_21 : decode cX9_seekBest 21 = .ok (.getfield 18, 3) := by decide +kernel
theorem dX9_seekBest_24 : decode cX9_seekBest 24 = .ok (.iload_n 3, 1) := by decide +kernel
theorem dX9_seekBest_25 : decode cX9_seekBest 25 = .ok (.iconst 1, 1) := by decide +kernel
theorem dX9_seekBest_26 : decode cX9_seekBest 26 = .ok (.iastore, 1) := by decide +kernel
theorem dX9_seekBest_27 : decode cX9_seekBest 27 = .ok (.iinc 3 1, 3) := by decide +kernel
theorem dX9_seekBest_30 : decode cX9_seekBest 30 = .ok (.goto (-18), 3) := by decide +kernel
theorem dX9_seekBest_33 : decode cX9_seekBest 33 = .ok (.iconst 1, 1) := by decide +kernel
theorem dX9_seekBest_34 : decode cX9_seekBest 34 = .ok (.istore_n 3, 1) := by decide +kernel
theorem dX9_seekBest_35 : decode cX9_seekBest 35 = .ok (.iconst 0, 1) := by decide +kernel
theorem dX9_seekBest_36 : decode cX9_seekBest 36 = .ok (.istore 4, 2) := by decide +kernel
theorem dX9_seekBest_38 : decode cX9_seekBest 38 = .ok (.iload 4, 2) := by decide +kernel
theorem dX9_seekBest_40 : decode cX9_seekBest 40 = .ok (.sipush 1000, 3) := by decide +kernel
theorem dX9_seekBest_43 : decode cX9_seekBest 43 = .ok (.if_icmp .ge 45, 3) := by decide +kernel
theorem dX9_seekBest_46 : decode cX9_seekBest 46 = .ok (.iload_n 3, 1) := by decide +kernel
theorem dX9_seekBest_47 : decode cX9_seekBest 47 = .ok (.ifCond .eq 41, 3) := by decide +kernel
theorem dX9_seekBest_50 : decode cX9_seekBest 50 = .ok (.aload_n 1, 1) := by decide +kernel
theorem dX9_seekBest_51 : decode cX9_seekBest 51 = .ok (.aload_n 0, 1) := by decide +kernel
theorem dX9_seekBest_52 : decode cX9_seekBest 52 = .ok (.getfield 18, 3) := by decide +kernel
theorem dX9_seekBest_55 : decode cX9_seekBest 55 = .ok (.invokevirtual 52, 3) := by decide +kernel
theorem dX9_seekBest_58 : decode cX9_seekBest 58 = .ok (.istore 5, 2) := by decide +kernel
theorem dX9_seekBest_60 : decode cX9_seekBest 60 = .ok (.iload 5, 2) := by decide +kernel
theorem dX9_seekBest_62 : decode cX9_seekBest 62 = .ok (.iload_n 2, 1) := by decide +kernel
theorem dX9_seekBest_63 : decode cX9_seekBest 63 = .ok (.if_icmp .gt 10, 3) := by decide +kernel
theorem dX9_seekBest_66 : decode cX9_seekBest 66 = .ok (.aload_n 0, 1) := by decide +kernel
theorem dX9_seekBest_67 : decode cX9_seekBest 67 = .ok (.aload_n 1, 1) := by decide +kernel
theorem dX9_seekBest_68 : decode cX9_seekBest 68 = .ok (.iload 5, 2) := by decide +kernel
theorem dX9_seekBest_70 : decode cX9_seekBest 70 = .ok (.invokevirtual 56, 3) := by decide +kernel
theorem dX9_seekBest_73 : decode cX9_seekBest 73 = .ok (.aload_n 0, 1) := by decide +kernel
theorem dX9_seekBest_74 : decode cX9_seekBest 74 = .ok (.aload_n 1, 1) := by decide +kernel
theorem dX9_seekBest_75 : decode cX9_seekBest 75 = .ok (.getfield 28, 3) := by decide +kernel
theorem dX9_seekBest_78 : decode cX9_seekBest 78 = .ok (.invokevirtual 60, 3) := by decide +kernel
theorem dX9_seekBest_81 : decode cX9_seekBest 81 = .ok (.istore_n 3, 1) := by decide +kernel
theorem dX9_seekBest_82 : decode cX9_seekBest 82 = .ok (.iinc 4 1, 3) := by decide +kernel
theorem dX9_seekBest_85 : decode cX9_seekBest 85 = .ok (.goto (-47), 3) := by decide +kernel
theorem dX9_seekBest_88 : decode cX9_seekBest 88 = .ok (.return_, 1) := by decide +kernel
set_option maxHeartbeats 4000000 in
set_option maxRecDepth 100000 in
theorem c_X9_seekBest (l : Launch) (D : va_G) (cy : ClassId) (tr trw tra trb trc ro rok rov roh rot : Nat) (tr_least : Int32) (tr_bestLinks : Int32) (tr_changeNumber : Int32) (tr_changeHeight : Int32) (trw_number : Int32) (trw_lane : Int32) (trw_looks : Int32) (tra_a : Nat → Int32) (trb_a : Nat → Int32) (ro_size : Int32) (rok_a : Nat → Int32) (rot_a : Nat → Int32) (a : Int32) (g_0 : (-1) ≤ trw_number.toInt ∧ trw_number.toInt ≤ 7) (g_1 : 0 ≤ ro_size.toInt ∧ ro_size.toInt ≤ 8) : wk_Cv l yX9_seekBest cX9_seekBest 6 none { frames := 5, cells := 0, slots := 0, locals := 112 } D cy [.ref tr, .ref ro, .int a] [(tr, .inr (9, [.ref trw, .ref tra, .ref trb, .ref trc, .int tr_least, .int tr_bestLinks, .int tr_changeNumber, .int tr_changeHeight])), (trw, .inr (10, [.int trw_number, .int trw_lane, .int trw_looks])), (tra, .inl (cy, 8, .inl tra_a)), (trb, .inl (cy, 8, .inl trb_a)), (ro, .inr (8, [.ref rok, .ref rov, .ref roh, .ref rot, .int ro_size])), (rok, .inl (cy, 8, .inl rok_a)), (rot, .inl (cy, 8, .inl rot_a))] 0 0 (fun (u : Int32 × Int32 × Int32 × Int32 × Int32 × (Nat → Int32) × (Nat → Int32)) => u = (fn_X9_seekBest tr_least tr_bestLinks trw_number trw_lane trw_looks tra_a trb_a ro_size rok_a rot_a a) ∧ ((-1) ≤ u.2.2.1.toInt ∧ u.2.2.1.toInt ≤ 7)) (fun u => [(tr, .inr (9, [.ref trw, .ref tra, .ref trb, .ref trc, .int u.1, .int u.2.1, .int tr_changeNumber, .int tr_changeHeight])), (trw, .inr (10, [.int u.2.2.1, .int u.2.2.2.1, .int u.2.2.2.2.1])), (tra, .inl (cy, 8, .inl u.2.2.2.2.2.1)), (trb, .inl (cy, 8, .inl u.2.2.2.2.2.2)), (ro, .inr (8, [.ref rok, .ref rov, .ref roh, .ref rot, .int ro_size])), (rok, .inl (cy, 8, .inl rok_a)), (rot, .inl (cy, 8, .inl rot_a))]) := by
  refine wk_mk2Cv (by decide) (Nat.le_of_ble_eq_true rfl) ?_
  intro p e s m args below meth c A ls Q B hA hK hP hD hS hl hret
  obtain ⟨hx, hb, hr, hlocks, hml, hown, htb, hin⟩ := B
  have hl : lv_has ls 6 [(0, .ref tr), (1, .ref ro), (2, .int a)] := hl
  have hF : (fn_X9_seekBest tr_least tr_bestLinks trw_number trw_lane trw_looks tra_a trb_a ro_size rok_a rot_a a) = (fn_X9_seekBest tr_least tr_bestLinks trw_number trw_lane trw_looks tra_a trb_a ro_size rok_a rot_a a) := rfl
  conv at hF => rhs; unfold fn_X9_seekBest
  refine lv_aload_n hx hb dX9_seekBest_0 rfl (lv_at hl 0 rfl) ?_
  refine lv_iconst (v := (-1)) hx hb dX9_seekBest_1 (by decide) ?_
  refine va_put (D := D) (ci := 9) (v := .int (-1)) (ty := .int) (C := RX9) (T := TX9) (N := 8) hx hb htb inX9 tyX9 tyX9_ok nmX9 hown hK hP hD hS 0 rfl rfl 4 (by decide) (htb _ tw_227) (fun _ h9 => h9) rfl (by decide +kernel) rfl rfl (Nat.le_of_ble_eq_true rfl) dX9_seekBest_2 (fun H locs hP hD hS => ?_)
  have hP : va_P D classes [(tr, .inr (9, [.ref trw, .ref tra, .ref trb, .ref trc, .int (-1), .int tr_bestLinks, .int tr_changeNumber, .int tr_changeHeight])), (trw, .inr (10, [.int trw_number, .int trw_lane, .int trw_looks])), (tra, .inl (cy, 8, .inl tra_a)), (trb, .inl (cy, 8, .inl trb_a)), (ro, .inr (8, [.ref rok, .ref rov, .ref roh, .ref rot, .int ro_size])), (rok, .inl (cy, 8, .inl rok_a)), (rot, .inl (cy, 8, .inl rot_a))] H := hP
  have hD : va_D A [(tr, .inr (9, [.ref trw, .ref tra, .ref trb, .ref trc, .int (-1), .int tr_bestLinks, .int tr_changeNumber, .int tr_changeHeight])), (trw, .inr (10, [.int trw_number, .int trw_lane, .int trw_looks])), (tra, .inl (cy, 8, .inl tra_a)), (trb, .inl (cy, 8, .inl trb_a)), (ro, .inr (8, [.ref rok, .ref rov, .ref roh, .ref rot, .int ro_size])), (rok, .inl (cy, 8, .inl rok_a)), (rot, .inl (cy, 8, .inl rot_a))] := hD
  refine lv_aload_n hx hb dX9_seekBest_5 rfl (lv_at hl 0 rfl) ?_
  refine lv_iconst (v := (-1)) hx hb dX9_seekBest_6 (by decide) ?_
  refine va_put (D := D) (ci := 9) (v := .int (-1)) (ty := .int) (C := RX9) (T := TX9) (N := 8) hx hb htb inX9 tyX9 tyX9_ok nmX9 hown hK hP hD hS 0 rfl rfl 5 (by decide) (htb _ tw_229) (fun _ h9 => h9) rfl (by decide +kernel) rfl rfl (Nat.le_of_ble_eq_true rfl) dX9_seekBest_7 (fun H locs hP hD hS => ?_)
  have hP : va_P D classes [(tr, .inr (9, [.ref trw, .ref tra, .ref trb, .ref trc, .int (-1), .int (-1), .int tr_changeNumber, .int tr_changeHeight])), (trw, .inr (10, [.int trw_number, .int trw_lane, .int trw_looks])), (tra, .inl (cy, 8, .inl tra_a)), (trb, .inl (cy, 8, .inl trb_a)), (ro, .inr (8, [.ref rok, .ref rov, .ref roh, .ref rot, .int ro_size])), (rok, .inl (cy, 8, .inl rok_a)), (rot, .inl (cy, 8, .inl rot_a))] H := hP
  have hD : va_D A [(tr, .inr (9, [.ref trw, .ref tra, .ref trb, .ref trc, .int (-1), .int (-1), .int tr_changeNumber, .int tr_changeHeight])), (trw, .inr (10, [.int trw_number, .int trw_lane, .int trw_looks])), (tra, .inl (cy, 8, .inl tra_a)), (trb, .inl (cy, 8, .inl trb_a)), (ro, .inr (8, [.ref rok, .ref rov, .ref roh, .ref rot, .int ro_size])), (rok, .inl (cy, 8, .inl rok_a)), (rot, .inl (cy, 8, .inl rot_a))] := hD
  refine lv_iconst (v := 0) hx hb dX9_seekBest_10 (by decide) ?_
  refine lv_istore_n (lv' := [(3, .int 0), (0, .ref tr), (1, .ref ro), (2, .int a)]) hx hb dX9_seekBest_11 rfl hl (by decide) rfl (fun ls hl => ?_)
  have hlp_12 : ∀ (fu_12 : Nat) (x3_12 : Int32) (tra_a_12 : Nat → Int32) (H : Heap) (locs : List Loc) (ls : Array Slot), (0 ≤ x3_12.toInt ∧ x3_12.toInt ≤ 8) → 8 - x3_12.toInt < (fu_12 : Int) → ((fn_X9_seekBest tr_least tr_bestLinks trw_number trw_lane trw_looks tra_a trb_a ro_size rok_a rot_a a) = (pm2 (lp_X9_seekBest_12 tr_least tr_bestLinks trw_number trw_lane trw_looks tra_a trb_a ro_size rok_a rot_a a fu_12 x3_12 tra_a_12) (fun x3_12 tra_a_12 => (pm2 (lp_X9_seekBest_38 tr_least tr_bestLinks trw_number trw_lane trw_looks tra_a trb_a ro_size rok_a rot_a a x3_12 tra_a_12 1002 1 0 (-1) (-1) trw_number trw_lane trw_looks tra_a_12 trb_a) (fun x3_38 t_ => (pm2 (t_) (fun x4_38 t_ => (pm2 (t_) (fun tr_least_38 t_ => (pm2 (t_) (fun tr_bestLinks_38 t_ => (pm2 (t_) (fun trw_number_38 t_ => (pm2 (t_) (fun trw_lane_38 t_ => (pm2 (t_) (fun trw_looks_38 t_ => (pm2 (t_) (fun tra_a_38 trb_a_38 => (tr_least_38, tr_bestLinks_38, trw_number_38, trw_lane_38, trw_looks_38, tra_a_38, trb_a_38)))))))))))))))))))) → va_P D classes [(tr, .inr (9, [.ref trw, .ref tra, .ref trb, .ref trc, .int (-1), .int (-1), .int tr_changeNumber, .int tr_changeHeight])), (trw, .inr (10, [.int trw_number, .int trw_lane, .int trw_looks])), (tra, .inl (cy, 8, .inl tra_a_12)), (trb, .inl (cy, 8, .inl trb_a)), (ro, .inr (8, [.ref rok, .ref rov, .ref roh, .ref rot, .int ro_size])), (rok, .inl (cy, 8, .inl rok_a)), (rot, .inl (cy, 8, .inl rot_a))] H → va_D A [(tr, .inr (9, [.ref trw, .ref tra, .ref trb, .ref trc, .int (-1), .int (-1), .int tr_changeNumber, .int tr_changeHeight])), (trw, .inr (10, [.int trw_number, .int trw_lane, .int trw_looks])), (tra, .inl (cy, 8, .inl tra_a_12)), (trb, .inl (cy, 8, .inl trb_a)), (ro, .inr (8, [.ref rok, .ref rov, .ref roh, .ref rot, .int ro_size])), (rok, .inl (cy, 8, .inl rok_a)), (rot, .inl (cy, 8, .inl rot_a))] → va_S A s.heap H locs → lv_has ls 6 [(3, .int x3_12), (0, .ref tr), (1, .ref ro), (2, .int a)] → W p l e { frames := 5, cells := 0, slots := 0, locals := 112 } s m args below meth c H locs 0 0 Q (F0 m 12 ls []) := by
    intro fu_12
    induction fu_12 with
    | zero =>
      intro x3_12 tra_a_12 H locs ls hi_12_0 hm hF hP hD hS hl
      exfalso; omega
    | succ fu_12 ih_12 =>
      intro x3_12 tra_a_12 H locs ls hi_12_0 hm hF hP hD hS hl
      rw [lp_X9_seekBest_12] at hF
      refine lv_iload_n hx hb dX9_seekBest_12 rfl (lv_at hl 0 rfl) ?_
      refine lv_aload_n hx hb dX9_seekBest_13 rfl (lv_at hl 2 rfl) ?_
      refine va_get (D := D) (ci := 8) (v := .int ro_size) (C := RX8) (T := TX8) (N := 5) hx hb htb inX8 hown hK hP 4 rfl rfl 4 (by decide) (htb _ tw_132) (fun _ h9 => h9) rfl dX9_seekBest_14 ?_
      refine lv_icmp_ge (tgt := 33) hx hb dX9_seekBest_17 (by decide) (fun c_1 => ?_) (fun c_1 => ?_)
      · have k_1 : ro_size.toInt ≤ x3_12.toInt := wk_le c_1
        replace hF := hF.trans (pm2_p1 c_1)
        rw [pm2_mk x3_12 tra_a_12] at hF
        refine lv_iconst (v := 1) hx hb dX9_seekBest_33 (by decide) ?_
        refine lv_istore_n (lv' := [(3, .int 1), (0, .ref tr), (1, .ref ro), (2, .int a)]) hx hb dX9_seekBest_34 rfl hl (by decide) rfl (fun ls hl => ?_)
        refine lv_iconst (v := 0) hx hb dX9_seekBest_35 (by decide) ?_
        refine lv_istore (lv' := [(4, .int 0), (3, .int 1), (0, .ref tr), (1, .ref ro), (2, .int a)]) hx hb dX9_seekBest_36 hl (by decide) rfl (fun ls hl => ?_)
        have hlp_38 : ∀ (fu_38 : Nat) (x3_38 : Int32) (x4_38 : Int32) (tr_least_38 : Int32) (tr_bestLinks_38 : Int32) (trw_number_38 : Int32) (trw_lane_38 : Int32) (trw_looks_38 : Int32) (tra_a_38 : Nat → Int32) (trb_a_38 : Nat → Int32) (H : Heap) (locs : List Loc) (ls : Array Slot), (0 ≤ x3_38.toInt ∧ x3_38.toInt ≤ 1) → (0 ≤ x4_38.toInt ∧ x4_38.toInt ≤ 1000) → ((-1) ≤ trw_number_38.toInt ∧ trw_number_38.toInt ≤ 7) → 1000 - x4_38.toInt < (fu_38 : Int) → ((fn_X9_seekBest tr_least tr_bestLinks trw_number trw_lane trw_looks tra_a trb_a ro_size rok_a rot_a a) = (pm2 (lp_X9_seekBest_38 tr_least tr_bestLinks trw_number trw_lane trw_looks tra_a trb_a ro_size rok_a rot_a a x3_12 tra_a_12 fu_38 x3_38 x4_38 tr_least_38 tr_bestLinks_38 trw_number_38 trw_lane_38 trw_looks_38 tra_a_38 trb_a_38) (fun x3_38 t_ => (pm2 (t_) (fun x4_38 t_ => (pm2 (t_) (fun tr_least_38 t_ => (pm2 (t_) (fun tr_bestLinks_38 t_ => (pm2 (t_) (fun trw_number_38 t_ => (pm2 (t_) (fun trw_lane_38 t_ => (pm2 (t_) (fun trw_looks_38 t_ => (pm2 (t_) (fun tra_a_38 trb_a_38 => (tr_least_38, tr_bestLinks_38, trw_number_38, trw_lane_38, trw_looks_38, tra_a_38, trb_a_38)))))))))))))))))) → va_P D classes [(tr, .inr (9, [.ref trw, .ref tra, .ref trb, .ref trc, .int tr_least_38, .int tr_bestLinks_38, .int tr_changeNumber, .int tr_changeHeight])), (trw, .inr (10, [.int trw_number_38, .int trw_lane_38, .int trw_looks_38])), (tra, .inl (cy, 8, .inl tra_a_38)), (trb, .inl (cy, 8, .inl trb_a_38)), (ro, .inr (8, [.ref rok, .ref rov, .ref roh, .ref rot, .int ro_size])), (rok, .inl (cy, 8, .inl rok_a)), (rot, .inl (cy, 8, .inl rot_a))] H → va_D A [(tr, .inr (9, [.ref trw, .ref tra, .ref trb, .ref trc, .int tr_least_38, .int tr_bestLinks_38, .int tr_changeNumber, .int tr_changeHeight])), (trw, .inr (10, [.int trw_number_38, .int trw_lane_38, .int trw_looks_38])), (tra, .inl (cy, 8, .inl tra_a_38)), (trb, .inl (cy, 8, .inl trb_a_38)), (ro, .inr (8, [.ref rok, .ref rov, .ref roh, .ref rot, .int ro_size])), (rok, .inl (cy, 8, .inl rok_a)), (rot, .inl (cy, 8, .inl rot_a))] → va_S A s.heap H locs → lv_has ls 6 [(4, .int x4_38), (3, .int x3_38), (0, .ref tr), (1, .ref ro), (2, .int a)] → W p l e { frames := 5, cells := 0, slots := 0, locals := 112 } s m args below meth c H locs 0 0 Q (F0 m 38 ls []) := by
          intro fu_38
          induction fu_38 with
          | zero =>
            intro x3_38 x4_38 tr_least_38 tr_bestLinks_38 trw_number_38 trw_lane_38 trw_looks_38 tra_a_38 trb_a_38 H locs ls hi_38_0 hi_38_1 hi_38_2 hm hF hP hD hS hl
            exfalso; omega
          | succ fu_38 ih_38 =>
            intro x3_38 x4_38 tr_least_38 tr_bestLinks_38 trw_number_38 trw_lane_38 trw_looks_38 tra_a_38 trb_a_38 H locs ls hi_38_0 hi_38_1 hi_38_2 hm hF hP hD hS hl
            rw [lp_X9_seekBest_38] at hF
            refine lv_iload hx hb dX9_seekBest_38 (lv_at hl 0 rfl) ?_
            refine lv_sipush (v := 1000) hx hb dX9_seekBest_40 (by decide) ?_
            refine lv_icmp_ge (tgt := 88) hx hb dX9_seekBest_43 (by decide) (fun c_2 => ?_) (fun c_2 => ?_)
            · have k_2 : 1000 ≤ x4_38.toInt := wk_le c_2
              replace hF := hF.trans (pm2_p1 c_2)
              rw [pm2_mk x3_38 (x4_38, tr_least_38, tr_bestLinks_38, trw_number_38, trw_lane_38, trw_looks_38, tra_a_38, trb_a_38), pm2_mk x4_38 (tr_least_38, tr_bestLinks_38, trw_number_38, trw_lane_38, trw_looks_38, tra_a_38, trb_a_38), pm2_mk tr_least_38 (tr_bestLinks_38, trw_number_38, trw_lane_38, trw_looks_38, tra_a_38, trb_a_38), pm2_mk tr_bestLinks_38 (trw_number_38, trw_lane_38, trw_looks_38, tra_a_38, trb_a_38), pm2_mk trw_number_38 (trw_lane_38, trw_looks_38, tra_a_38, trb_a_38), pm2_mk trw_lane_38 (trw_looks_38, tra_a_38, trb_a_38), pm2_mk trw_looks_38 (tra_a_38, trb_a_38), pm2_mk tra_a_38 trb_a_38] at hF
              refine W.widen (k := 0) (n := 0) (by decide) (by decide) ?_
              exact hret (tr_least_38, tr_bestLinks_38, trw_number_38, trw_lane_38, trw_looks_38, tra_a_38, trb_a_38) _ _ _ 88 (wk_sub9 (is := [0, 1, 2, 3, 4, 5, 6]) hP rfl) (hD.sub [0, 1, 2, 3, 4, 5, 6] rfl rfl) hS dX9_seekBest_88 ⟨hF.symm, (show ((-1) ≤ trw_number_38.toInt ∧ trw_number_38.toInt ≤ 7) from by omega)⟩
            · have k_2 : ¬ 1000 ≤ x4_38.toInt := wk_nle c_2
              replace hF := hF.trans (pm2_n1 c_2)
              refine lv_iload_n hx hb dX9_seekBest_46 rfl (lv_at hl 1 rfl) ?_
              refine lv_if_eq (tgt := 88) hx hb dX9_seekBest_47 (by decide) (fun c_3 => ?_) (fun c_3 => ?_)
              · have k_3 : x3_38.toInt = 0 := wk_eq c_3
                replace hF := hF.trans (pm2_p1 c_3)
                rw [pm2_mk x3_38 (x4_38, tr_least_38, tr_bestLinks_38, trw_number_38, trw_lane_38, trw_looks_38, tra_a_38, trb_a_38), pm2_mk x4_38 (tr_least_38, tr_bestLinks_38, trw_number_38, trw_lane_38, trw_looks_38, tra_a_38, trb_a_38), pm2_mk tr_least_38 (tr_bestLinks_38, trw_number_38, trw_lane_38, trw_looks_38, tra_a_38, trb_a_38), pm2_mk tr_bestLinks_38 (trw_number_38, trw_lane_38, trw_looks_38, tra_a_38, trb_a_38), pm2_mk trw_number_38 (trw_lane_38, trw_looks_38, tra_a_38, trb_a_38), pm2_mk trw_lane_38 (trw_looks_38, tra_a_38, trb_a_38), pm2_mk trw_looks_38 (tra_a_38, trb_a_38), pm2_mk tra_a_38 trb_a_38] at hF
                refine W.widen (k := 0) (n := 0) (by decide) (by decide) ?_
                exact hret (tr_least_38, tr_bestLinks_38, trw_number_38, trw_lane_38, trw_looks_38, tra_a_38, trb_a_38) _ _ _ 88 (wk_sub9 (is := [0, 1, 2, 3, 4, 5, 6]) hP rfl) (hD.sub [0, 1, 2, 3, 4, 5, 6] rfl rfl) hS dX9_seekBest_88 ⟨hF.symm, (show ((-1) ≤ trw_number_38.toInt ∧ trw_number_38.toInt ≤ 7) from by omega)⟩
              · have k_3 : ¬ x3_38.toInt = 0 := wk_neq c_3
                replace hF := hF.trans (pm2_n1 c_3)
                refine lv_aload_n hx hb dX9_seekBest_50 rfl (lv_at hl 3 rfl) ?_
                refine lv_aload_n hx hb dX9_seekBest_51 rfl (lv_at hl 2 rfl) ?_
                refine va_get (D := D) (ci := 9) (v := .ref tra) (C := RX9) (T := TX9) (N := 8) hx hb htb inX9 hown hK hP 0 rfl rfl 1 (by decide) (htb _ tw_224) (fun _ h9 => h9) rfl dX9_seekBest_52 ?_
                refine wk_iV (As := [.ref tra]) (rest := []) (wc := [(ro, .inr (8, [.ref rok, .ref rov, .ref roh, .ref rot, .int ro_size])), (tra, .inl (cy, 8, .inl tra_a_38))]) (wr := [(tr, .inr (9, [.ref trw, .ref tra, .ref trb, .ref trc, .int tr_least_38, .int tr_bestLinks_38, .int tr_changeNumber, .int tr_changeHeight])), (trw, .inr (10, [.int trw_number_38, .int trw_lane_38, .int trw_looks_38])), (trb, .inl (cy, 8, .inl trb_a_38)), (rok, .inl (cy, 8, .inl rok_a)), (rot, .inl (cy, 8, .inl rot_a))]) (n := 1) ⟨hx, hb, hml, hown, htb⟩ (c_X8_linksOf l D cy ro rok rov roh rot tra ro_size tra_a_38  (show 0 ≤ ro_size.toInt ∧ ro_size.toInt ≤ 8 from by omega)) tw_649 tw_646 tw_647 tw_648 tw_67 rfl rfl (by decide +kernel) ⟨Nat.le_of_ble_eq_true rfl, Nat.le_of_ble_eq_true rfl⟩ hK hP hD hS hA [4, 2] [0, 1, 3, 5, 6] rfl rfl rfl rfl (by decide) 0 (ci := 8) rfl rfl rfl hl.1 rfl (Nat.le_of_ble_eq_true rfl) dX9_seekBest_55 ⟨Nat.le_of_ble_eq_true rfl, Nat.le_of_ble_eq_true rfl⟩ (fun r_4 u_5 H locs hw_6 hP hD hS => ?_)
                refine W.widen (k := 0) (n := 0) (by decide) (by decide) ?_
                have hw_6 : r_4 = (fn_X8_linksOf ro_size tra_a_38) := hw_6
                subst hw_6
                have hP : va_P D classes [(tr, .inr (9, [.ref trw, .ref tra, .ref trb, .ref trc, .int tr_least_38, .int tr_bestLinks_38, .int tr_changeNumber, .int tr_changeHeight])), (trw, .inr (10, [.int trw_number_38, .int trw_lane_38, .int trw_looks_38])), (trb, .inl (cy, 8, .inl trb_a_38)), (rok, .inl (cy, 8, .inl rok_a)), (rot, .inl (cy, 8, .inl rot_a)), (ro, .inr (8, [.ref rok, .ref rov, .ref roh, .ref rot, .int ro_size])), (tra, .inl (cy, 8, .inl tra_a_38))] H := hP
                have hD : va_D A [(tr, .inr (9, [.ref trw, .ref tra, .ref trb, .ref trc, .int tr_least_38, .int tr_bestLinks_38, .int tr_changeNumber, .int tr_changeHeight])), (trw, .inr (10, [.int trw_number_38, .int trw_lane_38, .int trw_looks_38])), (trb, .inl (cy, 8, .inl trb_a_38)), (rok, .inl (cy, 8, .inl rok_a)), (rot, .inl (cy, 8, .inl rot_a)), (ro, .inr (8, [.ref rok, .ref rov, .ref roh, .ref rot, .int ro_size])), (tra, .inl (cy, 8, .inl tra_a_38))] := hD
                refine lv_istore (lv' := [(5, .int (fn_X8_linksOf ro_size tra_a_38)), (4, .int x4_38), (3, .int x3_38), (0, .ref tr), (1, .ref ro), (2, .int a)]) hx hb dX9_seekBest_58 hl (by decide) rfl (fun ls hl => ?_)
                refine lv_iload hx hb dX9_seekBest_60 (lv_at hl 0 rfl) ?_
                refine lv_iload_n hx hb dX9_seekBest_62 rfl (lv_at hl 5 rfl) ?_
                refine lv_icmp_gt (tgt := 73) hx hb dX9_seekBest_63 (by decide) (fun c_7 => ?_) (fun c_7 => ?_)
                · have k_7 : a.toInt < (fn_X8_linksOf ro_size tra_a_38).toInt := wk_lt c_7
                  replace hF := hF.trans (pm2_p1 c_7)
                  refine lv_aload_n hx hb dX9_seekBest_73 rfl (lv_at hl 3 rfl) ?_
                  refine lv_aload_n hx hb dX9_seekBest_74 rfl (lv_at hl 4 rfl) ?_
                  refine va_get (D := D) (ci := 8) (v := .int ro_size) (C := RX8) (T := TX8) (N := 5) hx hb htb inX8 hown hK hP 5 rfl rfl 4 (by decide) (htb _ tw_132) (fun _ h9 => h9) rfl dX9_seekBest_75 ?_
                  refine wk_iV (As := [.int ro_size]) (rest := []) (wc := [(tr, .inr (9, [.ref trw, .ref tra, .ref trb, .ref trc, .int tr_least_38, .int tr_bestLinks_38, .int tr_changeNumber, .int tr_changeHeight])), (tra, .inl (cy, 8, .inl tra_a_38))]) (wr := [(trw, .inr (10, [.int trw_number_38, .int trw_lane_38, .int trw_looks_38])), (trb, .inl (cy, 8, .inl trb_a_38)), (rok, .inl (cy, 8, .inl rok_a)), (rot, .inl (cy, 8, .inl rot_a)), (ro, .inr (8, [.ref rok, .ref rov, .ref roh, .ref rot, .int ro_size]))]) (n := 1) ⟨hx, hb, hml, hown, htb⟩ (c_X9_nextWay l D cy tr trw tra trb trc tr_least_38 tr_bestLinks_38 tr_changeNumber tr_changeHeight tra_a_38 ro_size (show 0 ≤ ro_size.toInt ∧ ro_size.toInt ≤ 8 from by omega)) tw_658 tw_655 tw_657 tw_17 tw_70 rfl rfl (by decide +kernel) ⟨Nat.le_of_ble_eq_true rfl, Nat.le_of_ble_eq_true rfl⟩ hK hP hD hS hA [0, 6] [1, 2, 3, 4, 5] rfl rfl rfl rfl (by decide) 0 (ci := 9) rfl rfl rfl hl.1 rfl (Nat.le_of_ble_eq_true rfl) dX9_seekBest_78 ⟨Nat.le_of_ble_eq_true rfl, Nat.le_of_ble_eq_true rfl⟩ (fun r_8 u_9 H locs hw_10 hP hD hS => ?_)
                  refine W.widen (k := 0) (n := 0) (by decide) (by decide) ?_
                  obtain ⟨o_11, rfl⟩ : ∃ z, z = u_9 := ⟨_, rfl⟩
                  obtain ⟨hw_10, k_12⟩ := hw_10
                  have hw_10 : (r_8, o_11) = (fn_X9_nextWay tra_a_38 ro_size) := hw_10
                  have k_12 : (r_8 = 0 ∨ r_8 = 1) := k_12
                  rw [← hw_10] at hF
                  rw [pm2_mk r_8 o_11] at hF
                  have k_13 : 0 ≤ r_8.toInt ∧ r_8.toInt ≤ 1 := wk_b01 (by assumption)
                  have hP : va_P D classes [(trw, .inr (10, [.int trw_number_38, .int trw_lane_38, .int trw_looks_38])), (trb, .inl (cy, 8, .inl trb_a_38)), (rok, .inl (cy, 8, .inl rok_a)), (rot, .inl (cy, 8, .inl rot_a)), (ro, .inr (8, [.ref rok, .ref rov, .ref roh, .ref rot, .int ro_size])), (tr, .inr (9, [.ref trw, .ref tra, .ref trb, .ref trc, .int tr_least_38, .int tr_bestLinks_38, .int tr_changeNumber, .int tr_changeHeight])), (tra, .inl (cy, 8, .inl o_11))] H := hP
                  have hD : va_D A [(trw, .inr (10, [.int trw_number_38, .int trw_lane_38, .int trw_looks_38])), (trb, .inl (cy, 8, .inl trb_a_38)), (rok, .inl (cy, 8, .inl rok_a)), (rot, .inl (cy, 8, .inl rot_a)), (ro, .inr (8, [.ref rok, .ref rov, .ref roh, .ref rot, .int ro_size])), (tr, .inr (9, [.ref trw, .ref tra, .ref trb, .ref trc, .int tr_least_38, .int tr_bestLinks_38, .int tr_changeNumber, .int tr_changeHeight])), (tra, .inl (cy, 8, .inl o_11))] := hD
                  refine lv_istore_n (lv' := [(3, .int r_8), (5, .int (fn_X8_linksOf ro_size tra_a_38)), (4, .int x4_38), (0, .ref tr), (1, .ref ro), (2, .int a)]) hx hb dX9_seekBest_81 rfl hl (by decide) rfl (fun ls hl => ?_)
                  refine lv_iinc (v := (x4_38 + 1)) (lv' := [(4, .int (x4_38 + 1)), (3, .int r_8), (5, .int (fn_X8_linksOf ro_size tra_a_38)), (0, .ref tr), (1, .ref ro), (2, .int a)]) hx hb dX9_seekBest_82 hl (k := 2) rfl rfl (by decide) rfl (fun ls hl => ?_)
                  have k_14 : (x4_38 + 1).toInt = x4_38.toInt + 1 := wk_add x4_38.toInt 1 rfl rfl (by omega) (by omega)
                  refine lv_goto (tgt := 38) hx hb dX9_seekBest_85 (by decide) ?_
                  exact ih_38 r_8 (x4_38 + 1) tr_least_38 tr_bestLinks_38 trw_number_38 trw_lane_38 trw_looks_38 o_11 trb_a_38 _ _ _ (show 0 ≤ r_8.toInt ∧ r_8.toInt ≤ 1 from by omega) (show 0 ≤ (x4_38 + 1).toInt ∧ (x4_38 + 1).toInt ≤ 1000 from by omega) (show (-1) ≤ trw_number_38.toInt ∧ trw_number_38.toInt ≤ 7 from by omega) (show 1000 - (x4_38 + 1).toInt < ((fu_38 : Nat) : Int) from by omega) hF (wk_sub9 (is := [5, 0, 6, 1, 4, 2, 3]) hP rfl) (hD.sub [5, 0, 6, 1, 4, 2, 3] rfl rfl) hS (lv_sub hl [0, 1, 3, 4, 5] rfl)
                · have k_7 : ¬ a.toInt < (fn_X8_linksOf ro_size tra_a_38).toInt := wk_nlt c_7
                  replace hF := hF.trans (pm2_n1 c_7)
                  refine lv_aload_n hx hb dX9_seekBest_66 rfl (lv_at hl 3 rfl) ?_
                  refine lv_aload_n hx hb dX9_seekBest_67 rfl (lv_at hl 4 rfl) ?_
                  refine lv_iload hx hb dX9_seekBest_68 (lv_at hl 0 rfl) ?_
                  refine wk_vV (As := [.ref ro, .int (fn_X8_linksOf ro_size tra_a_38)]) (rest := []) (wc := [(tr, .inr (9, [.ref trw, .ref tra, .ref trb, .ref trc, .int tr_least_38, .int tr_bestLinks_38, .int tr_changeNumber, .int tr_changeHeight])), (trw, .inr (10, [.int trw_number_38, .int trw_lane_38, .int trw_looks_38])), (tra, .inl (cy, 8, .inl tra_a_38)), (trb, .inl (cy, 8, .inl trb_a_38)), (ro, .inr (8, [.ref rok, .ref rov, .ref roh, .ref rot, .int ro_size])), (rok, .inl (cy, 8, .inl rok_a)), (rot, .inl (cy, 8, .inl rot_a))]) (wr := []) (n := 2) ⟨hx, hb, hml, hown, htb⟩ (c_X9_weigh l D cy tr trw tra trb trc ro rok rov roh rot tr_least_38 tr_bestLinks_38 tr_changeNumber tr_changeHeight trw_number_38 trw_lane_38 trw_looks_38 tra_a_38 trb_a_38 ro_size rok_a rot_a (fn_X8_linksOf ro_size tra_a_38) (show (-1) ≤ trw_number_38.toInt ∧ trw_number_38.toInt ≤ 7 from by omega) (show 0 ≤ ro_size.toInt ∧ ro_size.toInt ≤ 8 from by omega)) tw_653 tw_650 tw_652 tw_16 tw_70 rfl rfl (by decide +kernel) ⟨Nat.le_of_ble_eq_true rfl, Nat.le_of_ble_eq_true rfl⟩ hK hP hD hS hA [0, 1, 6, 2, 5, 3, 4] [] rfl rfl rfl rfl (by decide) 0 (ci := 9) rfl rfl rfl hl.1 rfl (Nat.le_of_ble_eq_true rfl) dX9_seekBest_70 ⟨Nat.le_of_ble_eq_true rfl, Nat.le_of_ble_eq_true rfl⟩ (fun u_16 H locs hw_17 hP hD hS => ?_)
                  refine W.widen (k := 0) (n := 0) (by decide) (by decide) ?_
                  obtain ⟨o_18, o_19, o_20, o_21, o_22, o_23⟩ := u_16
                  obtain ⟨hw_17, k_24⟩ := hw_17
                  have hw_17 : (o_18, o_19, o_20, o_21, o_22, o_23) = (fn_X9_weigh tr_least_38 tr_bestLinks_38 trw_number_38 trw_lane_38 trw_looks_38 tra_a_38 trb_a_38 ro_size rok_a rot_a (fn_X8_linksOf ro_size tra_a_38)) := hw_17
                  have k_24 : ((-1) ≤ o_20.toInt ∧ o_20.toInt ≤ 7) := k_24
                  rw [← hw_17] at hF
                  rw [pm2_mk o_18 (o_19, o_20, o_21, o_22, o_23), pm2_mk o_19 (o_20, o_21, o_22, o_23), pm2_mk o_20 (o_21, o_22, o_23), pm2_mk o_21 (o_22, o_23), pm2_mk o_22 o_23] at hF
                  have hP : va_P D classes [(tr, .inr (9, [.ref trw, .ref tra, .ref trb, .ref trc, .int o_18, .int o_19, .int tr_changeNumber, .int tr_changeHeight])), (trw, .inr (10, [.int o_20, .int o_21, .int o_22])), (tra, .inl (cy, 8, .inl tra_a_38)), (trb, .inl (cy, 8, .inl o_23)), (ro, .inr (8, [.ref rok, .ref rov, .ref roh, .ref rot, .int ro_size])), (rok, .inl (cy, 8, .inl rok_a)), (rot, .inl (cy, 8, .inl rot_a))] H := hP
                  have hD : va_D A [(tr, .inr (9, [.ref trw, .ref tra, .ref trb, .ref trc, .int o_18, .int o_19, .int tr_changeNumber, .int tr_changeHeight])), (trw, .inr (10, [.int o_20, .int o_21, .int o_22])), (tra, .inl (cy, 8, .inl tra_a_38)), (trb, .inl (cy, 8, .inl o_23)), (ro, .inr (8, [.ref rok, .ref rov, .ref roh, .ref rot, .int ro_size])), (rok, .inl (cy, 8, .inl rok_a)), (rot, .inl (cy, 8, .inl rot_a))] := hD
                  refine lv_aload_n hx hb dX9_seekBest_73 rfl (lv_at hl 3 rfl) ?_
                  refine lv_aload_n hx hb dX9_seekBest_74 rfl (lv_at hl 4 rfl) ?_
                  refine va_get (D := D) (ci := 8) (v := .int ro_size) (C := RX8) (T := TX8) (N := 5) hx hb htb inX8 hown hK hP 4 rfl rfl 4 (by decide) (htb _ tw_132) (fun _ h9 => h9) rfl dX9_seekBest_75 ?_
                  refine wk_iV (As := [.int ro_size]) (rest := []) (wc := [(tr, .inr (9, [.ref trw, .ref tra, .ref trb, .ref trc, .int o_18, .int o_19, .int tr_changeNumber, .int tr_changeHeight])), (tra, .inl (cy, 8, .inl tra_a_38))]) (wr := [(trw, .inr (10, [.int o_20, .int o_21, .int o_22])), (trb, .inl (cy, 8, .inl o_23)), (ro, .inr (8, [.ref rok, .ref rov, .ref roh, .ref rot, .int ro_size])), (rok, .inl (cy, 8, .inl rok_a)), (rot, .inl (cy, 8, .inl rot_a))]) (n := 1) ⟨hx, hb, hml, hown, htb⟩ (c_X9_nextWay l D cy tr trw tra trb trc o_18 o_19 tr_changeNumber tr_changeHeight tra_a_38 ro_size (show 0 ≤ ro_size.toInt ∧ ro_size.toInt ≤ 8 from by omega)) tw_658 tw_655 tw_657 tw_17 tw_70 rfl rfl (by decide +kernel) ⟨Nat.le_of_ble_eq_true rfl, Nat.le_of_ble_eq_true rfl⟩ hK hP hD hS hA [0, 2] [1, 3, 4, 5, 6] rfl rfl rfl rfl (by decide) 0 (ci := 9) rfl rfl rfl hl.1 rfl (Nat.le_of_ble_eq_true rfl) dX9_seekBest_78 ⟨Nat.le_of_ble_eq_true rfl, Nat.le_of_ble_eq_true rfl⟩ (fun r_25 u_26 H locs hw_27 hP hD hS => ?_)
                  refine W.widen (k := 0) (n := 0) (by decide) (by decide) ?_
                  obtain ⟨o_28, rfl⟩ : ∃ z, z = u_26 := ⟨_, rfl⟩
                  obtain ⟨hw_27, k_29⟩ := hw_27
                  have hw_27 : (r_25, o_28) = (fn_X9_nextWay tra_a_38 ro_size) := hw_27
                  have k_29 : (r_25 = 0 ∨ r_25 = 1) := k_29
                  rw [← hw_27] at hF
                  rw [pm2_mk r_25 o_28] at hF
                  have k_30 : 0 ≤ r_25.toInt ∧ r_25.toInt ≤ 1 := wk_b01 (by assumption)
                  have hP : va_P D classes [(trw, .inr (10, [.int o_20, .int o_21, .int o_22])), (trb, .inl (cy, 8, .inl o_23)), (ro, .inr (8, [.ref rok, .ref rov, .ref roh, .ref rot, .int ro_size])), (rok, .inl (cy, 8, .inl rok_a)), (rot, .inl (cy, 8, .inl rot_a)), (tr, .inr (9, [.ref trw, .ref tra, .ref trb, .ref trc, .int o_18, .int o_19, .int tr_changeNumber, .int tr_changeHeight])), (tra, .inl (cy, 8, .inl o_28))] H := hP
                  have hD : va_D A [(trw, .inr (10, [.int o_20, .int o_21, .int o_22])), (trb, .inl (cy, 8, .inl o_23)), (ro, .inr (8, [.ref rok, .ref rov, .ref roh, .ref rot, .int ro_size])), (rok, .inl (cy, 8, .inl rok_a)), (rot, .inl (cy, 8, .inl rot_a)), (tr, .inr (9, [.ref trw, .ref tra, .ref trb, .ref trc, .int o_18, .int o_19, .int tr_changeNumber, .int tr_changeHeight])), (tra, .inl (cy, 8, .inl o_28))] := hD
                  refine lv_istore_n (lv' := [(3, .int r_25), (5, .int (fn_X8_linksOf ro_size tra_a_38)), (4, .int x4_38), (0, .ref tr), (1, .ref ro), (2, .int a)]) hx hb dX9_seekBest_81 rfl hl (by decide) rfl (fun ls hl => ?_)
                  refine lv_iinc (v := (x4_38 + 1)) (lv' := [(4, .int (x4_38 + 1)), (3, .int r_25), (5, .int (fn_X8_linksOf ro_size tra_a_38)), (0, .ref tr), (1, .ref ro), (2, .int a)]) hx hb dX9_seekBest_82 hl (k := 2) rfl rfl (by decide) rfl (fun ls hl => ?_)
                  have k_31 : (x4_38 + 1).toInt = x4_38.toInt + 1 := wk_add x4_38.toInt 1 rfl rfl (by omega) (by omega)
                  refine lv_goto (tgt := 38) hx hb dX9_seekBest_85 (by decide) ?_
                  exact ih_38 r_25 (x4_38 + 1) o_18 o_19 o_20 o_21 o_22 o_28 o_23 _ _ _ (show 0 ≤ r_25.toInt ∧ r_25.toInt ≤ 1 from by omega) (show 0 ≤ (x4_38 + 1).toInt ∧ (x4_38 + 1).toInt ≤ 1000 from by omega) (show (-1) ≤ o_20.toInt ∧ o_20.toInt ≤ 7 from by omega) (show 1000 - (x4_38 + 1).toInt < ((fu_38 : Nat) : Int) from by omega) hF (wk_sub9 (is := [5, 0, 6, 1, 2, 3, 4]) hP rfl) (hD.sub [5, 0, 6, 1, 2, 3, 4] rfl rfl) hS (lv_sub hl [0, 1, 3, 4, 5] rfl)
        exact hlp_38 1002 1 0 (-1) (-1) trw_number trw_lane trw_looks tra_a_12 trb_a _ _ _ (show 0 ≤ 1 ∧ 1 ≤ 1 from by omega) (show 0 ≤ 0 ∧ 0 ≤ 1000 from by omega) (show (-1) ≤ trw_number.toInt ∧ trw_number.toInt ≤ 7 from by omega) (show 1000 - 0 < ((1002 : Nat) : Int) from by omega) hF hP hD hS (lv_sub hl [0, 1, 2, 3, 4] rfl)
      · have k_1 : ¬ ro_size.toInt ≤ x3_12.toInt := wk_nle c_1
        replace hF := hF.trans (pm2_n1 c_1)
        refine lv_aload_n hx hb dX9_seekBest_20 rfl (lv_at hl 1 rfl) ?_
        refine va_get (D := D) (ci := 9) (v := .ref tra) (C := RX9) (T := TX9) (N := 8) hx hb htb inX9 hown hK hP 0 rfl rfl 1 (by decide) (htb _ tw_224) (fun _ h9 => h9) rfl dX9_seekBest_21 ?_
        refine lv_iload_n hx hb dX9_seekBest_24 rfl (lv_at hl 0 rfl) ?_
        refine lv_iconst (v := 1) hx hb dX9_seekBest_25 (by decide) ?_
        refine va_iast hx hb hK hP hD hS 2 0 rfl rfl (show vp_in x3_12 8 from vp_in_iff.mpr (show 0 ≤ x3_12.toInt ∧ x3_12.toInt < ((8 : Nat) : Int) from by omega)) dX9_seekBest_26 (fun H locs hP hD hS => ?_)
        have hP : va_P D classes [(tr, .inr (9, [.ref trw, .ref tra, .ref trb, .ref trc, .int (-1), .int (-1), .int tr_changeNumber, .int tr_changeHeight])), (trw, .inr (10, [.int trw_number, .int trw_lane, .int trw_looks])), (tra, .inl (cy, 8, .inl (upd tra_a_12 x3_12.toNatClampNeg 1))), (trb, .inl (cy, 8, .inl trb_a)), (ro, .inr (8, [.ref rok, .ref rov, .ref roh, .ref rot, .int ro_size])), (rok, .inl (cy, 8, .inl rok_a)), (rot, .inl (cy, 8, .inl rot_a))] H := hP
        have hD : va_D A [(tr, .inr (9, [.ref trw, .ref tra, .ref trb, .ref trc, .int (-1), .int (-1), .int tr_changeNumber, .int tr_changeHeight])), (trw, .inr (10, [.int trw_number, .int trw_lane, .int trw_looks])), (tra, .inl (cy, 8, .inl (upd tra_a_12 x3_12.toNatClampNeg 1))), (trb, .inl (cy, 8, .inl trb_a)), (ro, .inr (8, [.ref rok, .ref rov, .ref roh, .ref rot, .int ro_size])), (rok, .inl (cy, 8, .inl rok_a)), (rot, .inl (cy, 8, .inl rot_a))] := hD
        refine lv_iinc (v := (x3_12 + 1)) (lv' := [(3, .int (x3_12 + 1)), (0, .ref tr), (1, .ref ro), (2, .int a)]) hx hb dX9_seekBest_27 hl (k := 0) rfl rfl (by decide) rfl (fun ls hl => ?_)
        have k_32 : (x3_12 + 1).toInt = x3_12.toInt + 1 := wk_add x3_12.toInt 1 rfl rfl (by omega) (by omega)
        refine lv_goto (tgt := 12) hx hb dX9_seekBest_30 (by decide) ?_
        exact ih_12 (x3_12 + 1) (upd tra_a_12 x3_12.toNatClampNeg 1) _ _ _ (show 0 ≤ (x3_12 + 1).toInt ∧ (x3_12 + 1).toInt ≤ 8 from by omega) (show 8 - (x3_12 + 1).toInt < ((fu_12 : Nat) : Int) from by omega) hF hP hD hS (lv_sub hl [0, 1, 2, 3] rfl)
  exact hlp_12 10 0 tra_a _ _ _ (show 0 ≤ 0 ∧ 0 ≤ 8 from by omega) (show 8 - 0 < ((10 : Nat) : Int) from by omega) hF hP hD hS (lv_sub hl [0, 1, 2, 3] rfl)
