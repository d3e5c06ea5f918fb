def lp_X9_bestTry_18 (trw_number : Int32) (trw_lane : Int32) (trw_looks : Int32) (tra_a : Nat → Int32) (trc_a : Nat → Int32) (ro_size : Int32) (rok_a : Nat → Int32) (roh_a : Nat → Int32) (se_size : Int32) (sea_a : Nat → Int32) (seb_a : Nat → Int32) (sec_a : Nat → Int32) (a : Int32) (o_4 : Int32) (o_5 : Int32) (o_6 : Int32) (o_7 : Nat → Int32) (r_1 : Int32) : Nat → Int32 → Int32 → Int32 → Int32 → Int32 → Int32 → (Nat → Int32) → (Nat → Int32) → Int32 × Int32 × Int32 × Int32 × Int32 × Int32 × (Nat → Int32) × (Nat → Int32)
  | 0, _, _, _, _, _, _, _, _ => default
  | fu_18 + 1, x5_18, x6_18, x7_18, trw_number_18, trw_lane_18, trw_looks_18, tra_a_18, trc_a_18 => (if (99 : Int32) < x7_18 then (x5_18, x6_18, x7_18, trw_number_18, trw_lane_18, trw_looks_18, tra_a_18, trc_a_18) else (if r_1 = 0 then (x5_18, x6_18, x7_18, trw_number_18, trw_lane_18, trw_looks_18, tra_a_18, trc_a_18) else (pm2 (fn_X9_leftAtWorst trw_number_18 trw_lane_18 trw_looks_18 tra_a_18 trc_a_18 ro_size rok_a a r_1 x7_18) (fun r_11 t_ => (pm2 (t_) (fun o_14 t_ => (pm2 (t_) (fun o_15 t_ => (pm2 (t_) (fun o_16 t_ => (pm2 (t_) (fun o_17 o_18 => (if x6_18 ≤ r_11 then (lp_X9_bestTry_18 trw_number trw_lane trw_looks tra_a trc_a ro_size rok_a roh_a se_size sea_a seb_a sec_a a o_4 o_5 o_6 o_7 r_1 fu_18 x5_18 x6_18 (x7_18 + 1) o_14 o_15 o_16 o_17 o_18) else (lp_X9_bestTry_18 trw_number trw_lane trw_looks tra_a trc_a ro_size rok_a roh_a se_size sea_a seb_a sec_a a o_4 o_5 o_6 o_7 r_1 fu_18 x7_18 r_11 (x7_18 + 1) o_14 o_15 o_16 o_17 o_18))))))))))))))
termination_by n => n
def fn_X9_bestTry (trw_number : Int32) (trw_lane : Int32) (trw_looks : Int32) (tra_a : Nat → Int32) (trc_a : Nat → Int32) (ro_size : Int32) (rok_a : Nat → Int32) (roh_a : Nat → Int32) (se_size : Int32) (sea_a : Nat → Int32) (seb_a : Nat → Int32) (sec_a : Nat → Int32) (a : Int32) : Int32 × Int32 × Int32 × Int32 × (Nat → Int32) × (Nat → Int32) := (pm2 (fn_X9_heightsLeft trw_number trw_lane trw_looks tra_a ro_size rok_a roh_a se_size sea_a seb_a sec_a a) (fun r_1 t_ => (pm2 (t_) (fun o_4 t_ => (pm2 (t_) (fun o_5 t_ => (pm2 (t_) (fun o_6 o_7 => (pm2 (lp_X9_bestTry_18 trw_number trw_lane trw_looks tra_a trc_a ro_size rok_a roh_a se_size sea_a seb_a sec_a a o_4 o_5 o_6 o_7 r_1 102 (-1) 5 0 o_4 o_5 o_6 o_7 trc_a) (fun x5_18 t_ => (pm2 (t_) (fun x6_18 t_ => (pm2 (t_) (fun x7_18 t_ => (pm2 (t_) (fun trw_number_18 t_ => (pm2 (t_) (fun trw_lane_18 t_ => (pm2 (t_) (fun trw_looks_18 t_ => (pm2 (t_) (fun tra_a_18 trc_a_18 => (x5_18, trw_number_18, trw_lane_18, trw_looks_18, tra_a_18, trc_a_18)))))))))))))))))))))))
theorem dX9_bestTry_0 : decode cX9_bestTry 0 = .ok (.aload_n 0, 1) := by decide +kernel
theorem dX9_bestTry_1 : decode cX9_bestTry 1 = .ok (.aload_n 1, 1) := by decide +kernel
theorem dX9_bestTry_2 : decode cX9_bestTry 2 = .ok (.aload_n 2, 1) := by decide +kernel
theorem dX9_bestTry_3 : decode cX9_bestTry 3 = .ok (.iload_n 3, 1) := by decide +kernel
theorem dX9_bestTry_4 : decode cX9_bestTry 4 = .ok (.invokevirtual 98, 3) := by decide +kernel
theorem dX9_bestTry_7 : decode cX9_bestTry 7 = .ok (.istore 4, 2) := by decide +kernel
theorem dX9_bestTry_9 : decode cX9_bestTry 9 = .ok (.iconst (-1), 1) := by decide +kernel
theorem dX9_bestTry_10 : decode cX9_bestTry 10 = .ok (.istore 5, 2) := by decide +kernel
theorem dX9_bestTry_12 : decode cX9_bestTry 12 = .ok (.iconst 5, 1) := by decide +kernel
theorem dX9_bestTry_13 : decode cX9_bestTry 13 = .ok (.istore 6, 2) := by decide +kernel
theorem dX9_bestTry_15 : decode cX9_bestTry 15 = .ok (.iconst 0, 1) := by decide +kernel
theorem dX9_bestTry_16 : decode cX9_bestTry 16 = .ok (.istore 7, 2) := by decide +kernel
theorem dX9_bestTry_18 : decode cX9_bestTry 18 = .ok (.iload 7, 2) := by decide +kernel
theorem dX9_bestTry_20 : decode cX9_bestTry 20 = .ok (.bipush 99, 2) := by decide +kernel
theorem dX9_bestTry_22 : decode cX9_bestTry 22 = .ok (.if_icmp .gt 41, 3) := by decide +kernel
theorem dX9_bestTry_25 : decode cX9_bestTry 25 = .ok (.iload 4, 2) := by decide +kernel
theorem dX9_bestTry_27 : decode cX9_bestTry 27 = .ok (.ifCond .eq 36, 3) := by decide +kernel
theorem dX9_bestTry_30 : decode cX9_bestTry 30 = .ok (.aload_n 0, 1) := by decide +kernel
theorem dX9_bestTry_31 : decode cX9_bestTry 31 = .ok (.aload_n 1, 1) := by decide +kernel
theorem dX9_bestTry_32 : decode cX9_bestTry 32 = .ok (.iload_n 3, 1) := by decide +kernel
theorem dX9_bestTry_33 : decode cX9_bestTry 33 = .ok (.iload 4, 2) := by decide +kernel
theorem dX9_bestTry_35 : decode cX9_bestTry 35 = .ok (.iload 7, 2) := by decide +kernel
theorem dX9_bestTry_37 : decode cX9_bestTry 37 = .ok (.invokevirtual 102, 3) := by decide +kernel
theorem dX9_bestTry_40 : decode cX9_bestTry 40 = .ok (.istore 8, 2) := by decide +kernel
theorem dX9_bestTry_42 : decode cX9_bestTry 42 = .ok (.iload 8, 2) := by decide +kernel
theorem dX9_bestTry_44 : decode cX9_bestTry 44 = .ok (.iload 6, 2) := by decide +kernel
theorem dX9_bestTry_46 : decode cX9_bestTry 46 = .ok (.if_icmp .ge 11, 3) := by decide +kernel
theorem dX9_bestTry_49 : decode cX9_bestTry 49 = .ok (.iload 8, 2) := by decide +kernel
theorem dX9_bestTry_51 : decode cX9_bestTry 51 = .ok (.istore 6, 2) := by decide +kernel
theorem dX9_bestTry_53 : decode cX9_bestTry 53 = .ok (.iload 7, 2) := by decide +kernel
theorem dX9_bestTry_55 : decode cX9_bestTry 55 = .ok (.istore 5, 2) := by decide +kernel
theorem dX9_bestTry_57 : decode cX9_bestTry 57 = .ok (.iinc 7 1, 3) := by decide +kernel
theorem dX9_bestTry_60 : decode cX9_bestTry 60 = .ok (.goto (-42), 3) := by decide +kernel
theorem dX9_bestTry_63 : decode cX9_bestTry 63 = .ok (.iload 5, 2) := by decide +kernel
theorem dX9_bestTry_65 : decode cX9_bestTry 65 = .ok (.ireturn, 1) := by decide +kernel
set_option maxHeartbeats 4000000 in
set_option maxRecDepth 100000 in
theorem c_X9_bestTry (l : Launch) (D : va_G) (cy : ClassId) (tr trw tra trb trc ro rok rov roh rot se sea seb sec : Nat) (tr_least : Int32) (tr_bestLinks : Int32) (tr_changeNumber : Int32) (tr_changeHeight : Int32) (trw_number : Int32) (trw_lane : Int32) (trw_looks : Int32) (tra_a : Nat → Int32) (trc_a : Nat → Int32) (ro_size : Int32) (rok_a : Nat → Int32) (roh_a : Nat → Int32) (se_size : Int32) (sea_a : Nat → Int32) (seb_a : Nat → Int32) (sec_a : Nat → Int32) (a : Int32) (g_0 : (-1) ≤ trw_number.toInt ∧ trw_number.toInt ≤ 7) (g_1 : 0 ≤ ro_size.toInt ∧ ro_size.toInt ≤ 8) (g_2 : 0 ≤ se_size.toInt ∧ se_size.toInt ≤ 6) (g_3 : 0 ≤ a.toInt ∧ a.toInt ≤ 7) : wk_Ci l yX9_bestTry cX9_bestTry 9 (some .int) { frames := 5, cells := 0, slots := 0, locals := 114 } D cy [.ref tr, .ref ro, .ref se, .int a] [(tr, .inr (9, [.ref trw, .ref tra, .ref trb, .ref trc, .int tr_least, .int tr_bestLinks, .int tr_changeNumber, .int tr_changeHeight])), (trw, .inr (10, [.int trw_number, .int trw_lane, .int trw_looks])), (tra, .inl (cy, 8, .inl tra_a)), (trc, .inl (cy, 5, .inl trc_a)), (ro, .inr (8, [.ref rok, .ref rov, .ref roh, .ref rot, .int ro_size])), (rok, .inl (cy, 8, .inl rok_a)), (roh, .inl (cy, 8, .inl roh_a)), (se, .inr (4, [.ref sea, .ref seb, .ref sec, .int se_size])), (sea, .inl (cy, 6, .inl sea_a)), (seb, .inl (cy, 6, .inl seb_a)), (sec, .inl (cy, 6, .inl sec_a))] 0 0 (fun (r : Int32) (u : Int32 × Int32 × Int32 × (Nat → Int32) × (Nat → Int32)) => (r, u) = (fn_X9_bestTry trw_number trw_lane trw_looks tra_a trc_a ro_size rok_a roh_a se_size sea_a seb_a sec_a a) ∧ ((-1) ≤ u.1.toInt ∧ u.1.toInt ≤ 7)) (fun u => [(tr, .inr (9, [.ref trw, .ref tra, .ref trb, .ref trc, .int tr_least, .int tr_bestLinks, .int tr_changeNumber, .int tr_changeHeight])), (trw, .inr (10, [.int u.1, .int u.2.1, .int u.2.2.1])), (tra, .inl (cy, 8, .inl u.2.2.2.1)), (trc, .inl (cy, 5, .inl u.2.2.2.2)), (ro, .inr (8, [.ref rok, .ref rov, .ref roh, .ref rot, .int ro_size])), (rok, .inl (cy, 8, .inl rok_a)), (roh, .inl (cy, 8, .inl roh_a)), (se, .inr (4, [.ref sea, .ref seb, .ref sec, .int se_size])), (sea, .inl (cy, 6, .inl sea_a)), (seb, .inl (cy, 6, .inl seb_a)), (sec, .inl (cy, 6, .inl sec_a))]) := by
  refine wk_mk2Ci (by decide) (Nat.le_of_ble_eq_true rfl) ?_
  intro p e s m args below meth c A ls Q B hA hK hP hD hS hl hret
  obtain ⟨hx, hb, hr, hlocks, hml, hown, htb, hin⟩ := B
  have hl : lv_has ls 9 [(0, .ref tr), (1, .ref ro), (2, .ref se), (3, .int a)] := hl
  have hF : (fn_X9_bestTry trw_number trw_lane trw_looks tra_a trc_a ro_size rok_a roh_a se_size sea_a seb_a sec_a a) = (fn_X9_bestTry trw_number trw_lane trw_looks tra_a trc_a ro_size rok_a roh_a se_size sea_a seb_a sec_a a) := rfl
  conv at hF => rhs; unfold fn_X9_bestTry
  refine lv_aload_n hx hb dX9_bestTry_0 rfl (lv_at hl 0 rfl) ?_
  refine lv_aload_n hx hb dX9_bestTry_1 rfl (lv_at hl 1 rfl) ?_
  refine lv_aload_n hx hb dX9_bestTry_2 rfl (lv_at hl 2 rfl) ?_
  refine lv_iload_n hx hb dX9_bestTry_3 rfl (lv_at hl 3 rfl) ?_
  refine wk_iV (As := [.ref ro, .ref se, .int a]) (rest := []) (wc := [(tr, .inr (9, [.ref trw, .ref tra, .ref trb, .ref trc, .int tr_least, .int tr_bestLinks, .int tr_changeNumber, .int tr_changeHeight])), (trw, .inr (10, [.int trw_number, .int trw_lane, .int trw_looks])), (tra, .inl (cy, 8, .inl tra_a)), (ro, .inr (8, [.ref rok, .ref rov, .ref roh, .ref rot, .int ro_size])), (rok, .inl (cy, 8, .inl rok_a)), (roh, .inl (cy, 8, .inl roh_a)), (se, .inr (4, [.ref sea, .ref seb, .ref sec, .int se_size])), (sea, .inl (cy, 6, .inl sea_a)), (seb, .inl (cy, 6, .inl seb_a)), (sec, .inl (cy, 6, .inl sec_a))]) (wr := [(trc, .inl (cy, 5, .inl trc_a))]) (n := 3) ⟨hx, hb, hml, hown, htb⟩ (c_X9_heightsLeft l D cy tr trw tra trb trc ro rok rov roh rot se sea seb sec tr_least tr_bestLinks tr_changeNumber tr_changeHeight trw_number trw_lane trw_looks tra_a ro_size rok_a roh_a se_size sea_a seb_a sec_a a (show (-1) ≤ trw_number.toInt ∧ trw_number.toInt ≤ 7 from by omega) (show 0 ≤ ro_size.toInt ∧ ro_size.toInt ≤ 8 from by omega) (show 0 ≤ se_size.toInt ∧ se_size.toInt ≤ 6 from by omega) (show 0 ≤ a.toInt ∧ a.toInt ≤ 7 from by omega)) tw_508 tw_521 tw_506 tw_507 tw_70 rfl rfl (by decide +kernel) ⟨Nat.le_of_ble_eq_true rfl, Nat.le_of_ble_eq_true rfl⟩ hK hP hD hS hA [0, 1, 2, 4, 5, 6, 7, 8, 9, 10] [3] rfl rfl rfl rfl (by decide) 0 (ci := 9) rfl rfl rfl hl.1 rfl (Nat.le_of_ble_eq_true rfl) dX9_bestTry_4 ⟨Nat.le_of_ble_eq_true rfl, Nat.le_of_ble_eq_true rfl⟩ (fun r_1 u_2 H locs hw_3 hP hD hS => ?_)
  refine W.widen (k := 0) (n := 0) (by decide) (by decide) ?_
  obtain ⟨o_4, o_5, o_6, o_7⟩ := u_2
  obtain ⟨hw_3, k_8⟩ := hw_3
  have hw_3 : (r_1, o_4, o_5, o_6, o_7) = (fn_X9_heightsLeft trw_number trw_lane trw_looks tra_a ro_size rok_a roh_a se_size sea_a seb_a sec_a a) := hw_3
  have k_8 : ((-1) ≤ o_4.toInt ∧ o_4.toInt ≤ 7) := k_8
  rw [← hw_3] at hF
  rw [pm2_mk r_1 (o_4, o_5, o_6, o_7), pm2_mk o_4 (o_5, o_6, o_7), pm2_mk o_5 (o_6, o_7), pm2_mk o_6 o_7] at hF
  have hP : va_P D classes [(trc, .inl (cy, 5, .inl trc_a)), (tr, .inr (9, [.ref trw, .ref tra, .ref trb, .ref trc, .int tr_least, .int tr_bestLinks, .int tr_changeNumber, .int tr_changeHeight])), (trw, .inr (10, [.int o_4, .int o_5, .int o_6])), (tra, .inl (cy, 8, .inl o_7)), (ro, .inr (8, [.ref rok, .ref rov, .ref roh, .ref rot, .int ro_size])), (rok, .inl (cy, 8, .inl rok_a)), (roh, .inl (cy, 8, .inl roh_a)), (se, .inr (4, [.ref sea, .ref seb, .ref sec, .int se_size])), (sea, .inl (cy, 6, .inl sea_a)), (seb, .inl (cy, 6, .inl seb_a)), (sec, .inl (cy, 6, .inl sec_a))] H := hP
  have hD : va_D A [(trc, .inl (cy, 5, .inl trc_a)), (tr, .inr (9, [.ref trw, .ref tra, .ref trb, .ref trc, .int tr_least, .int tr_bestLinks, .int tr_changeNumber, .int tr_changeHeight])), (trw, .inr (10, [.int o_4, .int o_5, .int o_6])), (tra, .inl (cy, 8, .inl o_7)), (ro, .inr (8, [.ref rok, .ref rov, .ref roh, .ref rot, .int ro_size])), (rok, .inl (cy, 8, .inl rok_a)), (roh, .inl (cy, 8, .inl roh_a)), (se, .inr (4, [.ref sea, .ref seb, .ref sec, .int se_size])), (sea, .inl (cy, 6, .inl sea_a)), (seb, .inl (cy, 6, .inl seb_a)), (sec, .inl (cy, 6, .inl sec_a))] := hD
  refine lv_istore (lv' := [(4, .int r_1), (0, .ref tr), (1, .ref ro), (2, .ref se), (3, .int a)]) hx hb dX9_bestTry_7 hl (by decide) rfl (fun ls hl => ?_)
  refine lv_iconst (v := (-1)) hx hb dX9_bestTry_9 (by decide) ?_
  refine lv_istore (lv' := [(5, .int (-1)), (4, .int r_1), (0, .ref tr), (1, .ref ro), (2, .ref se), (3, .int a)]) hx hb dX9_bestTry_10 hl (by decide) rfl (fun ls hl => ?_)
  refine lv_iconst (v := 5) hx hb dX9_bestTry_12 (by decide) ?_
  refine lv_istore (lv' := [(6, .int 5), (5, .int (-1)), (4, .int r_1), (0, .ref tr), (1, .ref ro), (2, .ref se), (3, .int a)]) hx hb dX9_bestTry_13 hl (by decide) rfl (fun ls hl => ?_)
  refine lv_iconst (v := 0) hx hb dX9_bestTry_15 (by decide) ?_
  refine lv_istore (lv' := [(7, .int 0), (6, .int 5), (5, .int (-1)), (4, .int r_1), (0, .ref tr), (1, .ref ro), (2, .ref se), (3, .int a)]) hx hb dX9_bestTry_16 hl (by decide) rfl (fun ls hl => ?_)
  have hlp_18 : ∀ (fu_18 : Nat) (x5_18 : Int32) (x6_18 : Int32) (x7_18 : Int32) (trw_number_18 : Int32) (trw_lane_18 : Int32) (trw_looks_18 : Int32) (tra_a_18 : Nat → Int32) (trc_a_18 : Nat → Int32) (H : Heap) (locs : List Loc) (ls : Array Slot), (0 ≤ x7_18.toInt ∧ x7_18.toInt ≤ 100) → ((-1) ≤ trw_number_18.toInt ∧ trw_number_18.toInt ≤ 7) → 100 - x7_18.toInt < (fu_18 : Int) → ((fn_X9_bestTry trw_number trw_lane trw_looks tra_a trc_a ro_size rok_a roh_a se_size sea_a seb_a sec_a a) = (pm2 (lp_X9_bestTry_18 trw_number trw_lane trw_looks tra_a trc_a ro_size rok_a roh_a se_size sea_a seb_a sec_a a o_4 o_5 o_6 o_7 r_1 fu_18 x5_18 x6_18 x7_18 trw_number_18 trw_lane_18 trw_looks_18 tra_a_18 trc_a_18) (fun x5_18 t_ => (pm2 (t_) (fun x6_18 t_ => (pm2 (t_) (fun x7_18 t_ => (pm2 (t_) (fun trw_number_18 t_ => (pm2 (t_) (fun trw_lane_18 t_ => (pm2 (t_) (fun trw_looks_18 t_ => (pm2 (t_) (fun tra_a_18 trc_a_18 => (x5_18, trw_number_18, trw_lane_18, trw_looks_18, tra_a_18, trc_a_18)))))))))))))))) → va_P D classes [(trc, .inl (cy, 5, .inl trc_a_18)), (tr, .inr (9, [.ref trw, .ref tra, .ref trb, .ref trc, .int tr_least, .int tr_bestLinks, .int tr_changeNumber, .int tr_changeHeight])), (trw, .inr (10, [.int trw_number_18, .int trw_lane_18, .int trw_looks_18])), (tra, .inl (cy, 8, .inl tra_a_18)), (ro, .inr (8, [.ref rok, .ref rov, .ref roh, .ref rot, .int ro_size])), (rok, .inl (cy, 8, .inl rok_a)), (roh, .inl (cy, 8, .inl roh_a)), (se, .inr (4, [.ref sea, .ref seb, .ref sec, .int se_size])), (sea, .inl (cy, 6, .inl sea_a)), (seb, .inl (cy, 6, .inl seb_a)), (sec, .inl (cy, 6, .inl sec_a))] H → va_D A [(trc, .inl (cy, 5, .inl trc_a_18)), (tr, .inr (9, [.ref trw, .ref tra, .ref trb, .ref trc, .int tr_least, .int tr_bestLinks, .int tr_changeNumber, .int tr_changeHeight])), (trw, .inr (10, [.int trw_number_18, .int trw_lane_18, .int trw_looks_18])), (tra, .inl (cy, 8, .inl tra_a_18)), (ro, .inr (8, [.ref rok, .ref rov, .ref roh, .ref rot, .int ro_size])), (rok, .inl (cy, 8, .inl rok_a)), (roh, .inl (cy, 8, .inl roh_a)), (se, .inr (4, [.ref sea, .ref seb, .ref sec, .int se_size])), (sea, .inl (cy, 6, .inl sea_a)), (seb, .inl (cy, 6, .inl seb_a)), (sec, .inl (cy, 6, .inl sec_a))] → va_S A s.heap H locs → lv_has ls 9 [(7, .int x7_18), (6, .int x6_18), (5, .int x5_18), (4, .int r_1), (0, .ref tr), (1, .ref ro), (2, .ref se), (3, .int a)] → W p l e { frames := 5, cells := 0, slots := 0, locals := 114 } s m args below meth c H locs 0 0 Q (F0 m 18 ls []) := by
    intro fu_18
    induction fu_18 with
    | zero =>
      intro x5_18 x6_18 x7_18 trw_number_18 trw_lane_18 trw_looks_18 tra_a_18 trc_a_18 H locs ls hi_18_0 hi_18_1 hm hF hP hD hS hl
      exfalso; omega
    | succ fu_18 ih_18 =>
      intro x5_18 x6_18 x7_18 trw_number_18 trw_lane_18 trw_looks_18 tra_a_18 trc_a_18 H locs ls hi_18_0 hi_18_1 hm hF hP hD hS hl
      rw [lp_X9_bestTry_18] at hF
      refine lv_iload hx hb dX9_bestTry_18 (lv_at hl 0 rfl) ?_
      refine lv_bipush (v := 99) hx hb dX9_bestTry_20 (by decide) ?_
      refine lv_icmp_gt (tgt := 63) hx hb dX9_bestTry_22 (by decide) (fun c_9 => ?_) (fun c_9 => ?_)
      · have k_9 : 99 < x7_18.toInt := wk_lt c_9
        replace hF := hF.trans (pm2_p1 c_9)
        rw [pm2_mk x5_18 (x6_18, x7_18, trw_number_18, trw_lane_18, trw_looks_18, tra_a_18, trc_a_18), pm2_mk x6_18 (x7_18, trw_number_18, trw_lane_18, trw_looks_18, tra_a_18, trc_a_18), pm2_mk x7_18 (trw_number_18, trw_lane_18, trw_looks_18, tra_a_18, trc_a_18), pm2_mk trw_number_18 (trw_lane_18, trw_looks_18, tra_a_18, trc_a_18), pm2_mk trw_lane_18 (trw_looks_18, tra_a_18, trc_a_18), pm2_mk trw_looks_18 (tra_a_18, trc_a_18), pm2_mk tra_a_18 trc_a_18] at hF
        refine lv_iload hx hb dX9_bestTry_63 (lv_at hl 2 rfl) ?_
        refine W.widen (k := 0) (n := 0) (by decide) (by decide) ?_
        exact hret x5_18 (trw_number_18, trw_lane_18, trw_looks_18, tra_a_18, trc_a_18) _ _ _ 65 (wk_sub9 (is := [1, 2, 3, 0, 4, 5, 6, 7, 8, 9, 10]) hP rfl) (hD.sub [1, 2, 3, 0, 4, 5, 6, 7, 8, 9, 10] rfl rfl) hS dX9_bestTry_65 ⟨hF.symm, (show ((-1) ≤ trw_number_18.toInt ∧ trw_number_18.toInt ≤ 7) from by omega)⟩
      · have k_9 : ¬ 99 < x7_18.toInt := wk_nlt c_9
        replace hF := hF.trans (pm2_n1 c_9)
        refine lv_iload hx hb dX9_bestTry_25 (lv_at hl 3 rfl) ?_
        refine lv_if_eq (tgt := 63) hx hb dX9_bestTry_27 (by decide) (fun c_10 => ?_) (fun c_10 => ?_)
        · have k_10 : r_1.toInt = 0 := wk_eq c_10
          replace hF := hF.trans (pm2_p1 c_10)
          rw [pm2_mk x5_18 (x6_18, x7_18, trw_number_18, trw_lane_18, trw_looks_18, tra_a_18, trc_a_18), pm2_mk x6_18 (x7_18, trw_number_18, trw_lane_18, trw_looks_18, tra_a_18, trc_a_18), pm2_mk x7_18 (trw_number_18, trw_lane_18, trw_looks_18, tra_a_18, trc_a_18), pm2_mk trw_number_18 (trw_lane_18, trw_looks_18, tra_a_18, trc_a_18), pm2_mk trw_lane_18 (trw_looks_18, tra_a_18, trc_a_18), pm2_mk trw_looks_18 (tra_a_18, trc_a_18), pm2_mk tra_a_18 trc_a_18] at hF
          refine lv_iload hx hb dX9_bestTry_63 (lv_at hl 2 rfl) ?_
          refine W.widen (k := 0) (n := 0) (by decide) (by decide) ?_
          exact hret x5_18 (trw_number_18, trw_lane_18, trw_looks_18, tra_a_18, trc_a_18) _ _ _ 65 (wk_sub9 (is := [1, 2, 3, 0, 4, 5, 6, 7, 8, 9, 10]) hP rfl) (hD.sub [1, 2, 3, 0, 4, 5, 6, 7, 8, 9, 10] rfl rfl) hS dX9_bestTry_65 ⟨hF.symm, (show ((-1) ≤ trw_number_18.toInt ∧ trw_number_18.toInt ≤ 7) from by omega)⟩
        · have k_10 : ¬ r_1.toInt = 0 := wk_neq c_10
          replace hF := hF.trans (pm2_n1 c_10)
          refine lv_aload_n hx hb dX9_bestTry_30 rfl (lv_at hl 4 rfl) ?_
          refine lv_aload_n hx hb dX9_bestTry_31 rfl (lv_at hl 5 rfl) ?_
          refine lv_iload_n hx hb dX9_bestTry_32 rfl (lv_at hl 7 rfl) ?_
          refine lv_iload hx hb dX9_bestTry_33 (lv_at hl 3 rfl) ?_
          refine lv_iload hx hb dX9_bestTry_35 (lv_at hl 0 rfl) ?_
          refine wk_iV (As := [.ref ro, .int a, .int r_1, .int x7_18]) (rest := []) (wc := [(tr, .inr (9, [.ref trw, .ref tra, .ref trb, .ref trc, .int tr_least, .int tr_bestLinks, .int tr_changeNumber, .int tr_changeHeight])), (trw, .inr (10, [.int trw_number_18, .int trw_lane_18, .int trw_looks_18])), (tra, .inl (cy, 8, .inl tra_a_18)), (trc, .inl (cy, 5, .inl trc_a_18)), (ro, .inr (8, [.ref rok, .ref rov, .ref roh, .ref rot, .int ro_size])), (rok, .inl (cy, 8, .inl rok_a))]) (wr := [(roh, .inl (cy, 8, .inl roh_a)), (se, .inr (4, [.ref sea, .ref seb, .ref sec, .int se_size])), (sea, .inl (cy, 6, .inl sea_a)), (seb, .inl (cy, 6, .inl seb_a)), (sec, .inl (cy, 6, .inl sec_a))]) (n := 4) ⟨hx, hb, hml, hown, htb⟩ (c_X9_leftAtWorst l D cy tr trw tra trb trc ro rok rov roh rot tr_least tr_bestLinks tr_changeNumber tr_changeHeight trw_number_18 trw_lane_18 trw_looks_18 tra_a_18 trc_a_18 ro_size rok_a a r_1 x7_18 (show (-1) ≤ trw_number_18.toInt ∧ trw_number_18.toInt ≤ 7 from by omega) (show 0 ≤ ro_size.toInt ∧ ro_size.toInt ≤ 8 from by omega) (show 0 ≤ a.toInt ∧ a.toInt ≤ 7 from by omega)) tw_525 tw_522 tw_524 tw_11 tw_70 rfl rfl (by decide +kernel) ⟨Nat.le_of_ble_eq_true rfl, Nat.le_of_ble_eq_true rfl⟩ hK hP hD hS hA [1, 2, 3, 0, 4, 5] [6, 7, 8, 9, 10] rfl rfl rfl rfl (by decide) 0 (ci := 9) rfl rfl rfl hl.1 rfl (Nat.le_of_ble_eq_true rfl) dX9_bestTry_37 ⟨Nat.le_of_ble_eq_true rfl, Nat.le_of_ble_eq_true rfl⟩ (fun r_11 u_12 H locs hw_13 hP hD hS => ?_)
          refine W.widen (k := 0) (n := 0) (by decide) (by decide) ?_
          obtain ⟨o_14, o_15, o_16, o_17, o_18⟩ := u_12
          obtain ⟨hw_13, k_19⟩ := hw_13
          have hw_13 : (r_11, o_14, o_15, o_16, o_17, o_18) = (fn_X9_leftAtWorst trw_number_18 trw_lane_18 trw_looks_18 tra_a_18 trc_a_18 ro_size rok_a a r_1 x7_18) := hw_13
          have k_19 : ((-1) ≤ o_14.toInt ∧ o_14.toInt ≤ 7) := k_19
          rw [← hw_13] at hF
          rw [pm2_mk r_11 (o_14, o_15, o_16, o_17, o_18), pm2_mk o_14 (o_15, o_16, o_17, o_18), pm2_mk o_15 (o_16, o_17, o_18), pm2_mk o_16 (o_17, o_18), pm2_mk o_17 o_18] at hF
          have hP : va_P D classes [(roh, .inl (cy, 8, .inl roh_a)), (se, .inr (4, [.ref sea, .ref seb, .ref sec, .int se_size])), (sea, .inl (cy, 6, .inl sea_a)), (seb, .inl (cy, 6, .inl seb_a)), (sec, .inl (cy, 6, .inl sec_a)), (tr, .inr (9, [.ref trw, .ref tra, .ref trb, .ref trc, .int tr_least, .int tr_bestLinks, .int tr_changeNumber, .int tr_changeHeight])), (trw, .inr (10, [.int o_14, .int o_15, .int o_16])), (tra, .inl (cy, 8, .inl o_17)), (trc, .inl (cy, 5, .inl o_18)), (ro, .inr (8, [.ref rok, .ref rov, .ref roh, .ref rot, .int ro_size])), (rok, .inl (cy, 8, .inl rok_a))] H := hP
          have hD : va_D A [(roh, .inl (cy, 8, .inl roh_a)), (se, .inr (4, [.ref sea, .ref seb, .ref sec, .int se_size])), (sea, .inl (cy, 6, .inl sea_a)), (seb, .inl (cy, 6, .inl seb_a)), (sec, .inl (cy, 6, .inl sec_a)), (tr, .inr (9, [.ref trw, .ref tra, .ref trb, .ref trc, .int tr_least, .int tr_bestLinks, .int tr_changeNumber, .int tr_changeHeight])), (trw, .inr (10, [.int o_14, .int o_15, .int o_16])), (tra, .inl (cy, 8, .inl o_17)), (trc, .inl (cy, 5, .inl o_18)), (ro, .inr (8, [.ref rok, .ref rov, .ref roh, .ref rot, .int ro_size])), (rok, .inl (cy, 8, .inl rok_a))] := hD
          refine lv_istore (lv' := [(8, .int r_11), (7, .int x7_18), (6, .int x6_18), (5, .int x5_18), (4, .int r_1), (0, .ref tr), (1, .ref ro), (2, .ref se), (3, .int a)]) hx hb dX9_bestTry_40 hl (by decide) rfl (fun ls hl => ?_)
          refine lv_iload hx hb dX9_bestTry_42 (lv_at hl 0 rfl) ?_
          refine lv_iload hx hb dX9_bestTry_44 (lv_at hl 2 rfl) ?_
          refine lv_icmp_ge (tgt := 57) hx hb dX9_bestTry_46 (by decide) (fun c_20 => ?_) (fun c_20 => ?_)
          · have k_20 : x6_18.toInt ≤ r_11.toInt := wk_le c_20
            replace hF := hF.trans (pm2_p1 c_20)
            refine lv_iinc (v := (x7_18 + 1)) (lv' := [(7, .int (x7_18 + 1)), (8, .int r_11), (6, .int x6_18), (5, .int x5_18), (4, .int r_1), (0, .ref tr), (1, .ref ro), (2, .ref se), (3, .int a)]) hx hb dX9_bestTry_57 hl (k := 1) rfl rfl (by decide) rfl (fun ls hl => ?_)
            have k_21 : (x7_18 + 1).toInt = x7_18.toInt + 1 := wk_add x7_18.toInt 1 rfl rfl (by omega) (by omega)
            refine lv_goto (tgt := 18) hx hb dX9_bestTry_60 (by decide) ?_
            exact ih_18 x5_18 x6_18 (x7_18 + 1) o_14 o_15 o_16 o_17 o_18 _ _ _ (show 0 ≤ (x7_18 + 1).toInt ∧ (x7_18 + 1).toInt ≤ 100 from by omega) (show (-1) ≤ o_14.toInt ∧ o_14.toInt ≤ 7 from by omega) (show 100 - (x7_18 + 1).toInt < ((fu_18 : Nat) : Int) from by omega) hF (wk_sub9 (is := [8, 5, 6, 7, 9, 10, 0, 1, 2, 3, 4]) hP rfl) (hD.sub [8, 5, 6, 7, 9, 10, 0, 1, 2, 3, 4] rfl rfl) hS (lv_sub hl [0, 2, 3, 4, 5, 6, 7, 8] rfl)
          · have k_20 : ¬ x6_18.toInt ≤ r_11.toInt := wk_nle c_20
            replace hF := hF.trans (pm2_n1 c_20)
            refine lv_iload hx hb dX9_bestTry_49 (lv_at hl 0 rfl) ?_
            refine lv_istore (lv' := [(6, .int r_11), (8, .int r_11), (7, .int x7_18), (5, .int x5_18), (4, .int r_1), (0, .ref tr), (1, .ref ro), (2, .ref se), (3, .int a)]) hx hb dX9_bestTry_51 hl (by decide) rfl (fun ls hl => ?_)
            refine lv_iload hx hb dX9_bestTry_53 (lv_at hl 2 rfl) ?_
            refine lv_istore (lv' := [(5, .int x7_18), (6, .int r_11), (8, .int r_11), (7, .int x7_18), (4, .int r_1), (0, .ref tr), (1, .ref ro), (2, .ref se), (3, .int a)]) hx hb dX9_bestTry_55 hl (by decide) rfl (fun ls hl => ?_)
            refine lv_iinc (v := (x7_18 + 1)) (lv' := [(7, .int (x7_18 + 1)), (5, .int x7_18), (6, .int r_11), (8, .int r_11), (4, .int r_1), (0, .ref tr), (1, .ref ro), (2, .ref se), (3, .int a)]) hx hb dX9_bestTry_57 hl (k := 3) rfl rfl (by decide) rfl (fun ls hl => ?_)
            have k_22 : (x7_18 + 1).toInt = x7_18.toInt + 1 := wk_add x7_18.toInt 1 rfl rfl (by omega) (by omega)
            refine lv_goto (tgt := 18) hx hb dX9_bestTry_60 (by decide) ?_
            exact ih_18 x7_18 r_11 (x7_18 + 1) o_14 o_15 o_16 o_17 o_18 _ _ _ (show 0 ≤ (x7_18 + 1).toInt ∧ (x7_18 + 1).toInt ≤ 100 from by omega) (show (-1) ≤ o_14.toInt ∧ o_14.toInt ≤ 7 from by omega) (show 100 - (x7_18 + 1).toInt < ((fu_18 : Nat) : Int) from by omega) hF (wk_sub9 (is := [8, 5, 6, 7, 9, 10, 0, 1, 2, 3, 4]) hP rfl) (hD.sub [8, 5, 6, 7, 9, 10, 0, 1, 2, 3, 4] rfl rfl) hS (lv_sub hl [0, 2, 1, 4, 5, 6, 7, 8] rfl)
  exact hlp_18 102 (-1) 5 0 o_4 o_5 o_6 o_7 trc_a _ _ _ (show 0 ≤ 0 ∧ 0 ≤ 100 from by omega) (show (-1) ≤ o_4.toInt ∧ o_4.toInt ≤ 7 from by omega) (show 100 - 0 < ((102 : Nat) : Int) from by omega) hF hP hD hS (lv_sub hl [0, 1, 2, 3, 4, 5, 6, 7] rfl)
