def lp_X6_write_16 (lc : Nat) (tx_size : Int32) (txc_a : Nat → Int32) (tw_size : Int32) (twk_a : Nat → Int32) (twv_a : Nat → Int32) (twh_a : Nat → Int32) (o_4 : Int32) (r_1 : Int32) (o_11 : Int32) (o_12 : Nat → Int32) (r_8 : Int32) : Nat → Int32 → Int32 → (Nat → Int32) → Int32 × Int32 × (Nat → Int32)
  | 0, _, _, _ => default
  | fu_16 + 1, x3_16, tx_size_16, txc_a_16 => (if tw_size ≤ x3_16 then (x3_16, tx_size_16, txc_a_16) else (if x3_16 = 0 then (pm2 (fn_X6_add tx_size_16 txc_a_16 59) (fun r_53 t_ => (pm2 (t_) (fun o_56 o_57 => (pm2 (fn_X6_add o_56 o_57 (48 + ((twk_a x3_16.toNatClampNeg) / 10))) (fun r_59 t_ => (pm2 (t_) (fun o_62 o_63 => (pm2 (fn_X6_add o_62 o_63 (48 + ((twk_a x3_16.toNatClampNeg) - (twk_a x3_16.toNatClampNeg) / 10 * 10))) (fun r_65 t_ => (pm2 (t_) (fun o_68 o_69 => (pm2 (fn_X6_add o_68 o_69 (48 + (twv_a x3_16.toNatClampNeg))) (fun r_71 t_ => (pm2 (t_) (fun o_74 o_75 => (if (fn_law_tellsHeights lc) = 0 then (lp_X6_write_16 lc tx_size txc_a tw_size twk_a twv_a twh_a o_4 r_1 o_11 o_12 r_8 fu_16 (x3_16 + 1) o_74 o_75) else (pm2 (fn_X6_add o_74 o_75 (48 + (twh_a x3_16.toNatClampNeg))) (fun r_83 t_ => (pm2 (t_) (fun o_86 o_87 => (lp_X6_write_16 lc tx_size txc_a tw_size twk_a twv_a twh_a o_4 r_1 o_11 o_12 r_8 fu_16 (x3_16 + 1) o_86 o_87)))))))))))))))))))))) else (pm2 (fn_X6_add tx_size_16 txc_a_16 44) (fun r_16 t_ => (pm2 (t_) (fun o_19 o_20 => (pm2 (fn_X6_add o_19 o_20 (48 + ((twk_a x3_16.toNatClampNeg) / 10))) (fun r_22 t_ => (pm2 (t_) (fun o_25 o_26 => (pm2 (fn_X6_add o_25 o_26 (48 + ((twk_a x3_16.toNatClampNeg) - (twk_a x3_16.toNatClampNeg) / 10 * 10))) (fun r_28 t_ => (pm2 (t_) (fun o_31 o_32 => (pm2 (fn_X6_add o_31 o_32 (48 + (twv_a x3_16.toNatClampNeg))) (fun r_34 t_ => (pm2 (t_) (fun o_37 o_38 => (if (fn_law_tellsHeights lc) = 0 then (lp_X6_write_16 lc tx_size txc_a tw_size twk_a twv_a twh_a o_4 r_1 o_11 o_12 r_8 fu_16 (x3_16 + 1) o_37 o_38) else (pm2 (fn_X6_add o_37 o_38 (48 + (twh_a x3_16.toNatClampNeg))) (fun r_46 t_ => (pm2 (t_) (fun o_49 o_50 => (lp_X6_write_16 lc tx_size txc_a tw_size twk_a twv_a twh_a o_4 r_1 o_11 o_12 r_8 fu_16 (x3_16 + 1) o_49 o_50))))))))))))))))))))))))
termination_by n => n
def fn_X6_write (lc : Nat) (tx_size : Int32) (txc_a : Nat → Int32) (tw_size : Int32) (twk_a : Nat → Int32) (twv_a : Nat → Int32) (twh_a : Nat → Int32) : Int32 × (Nat → Int32) := (pm2 (fn_X6_clear tx_size) (fun r_1 o_4 => (pm2 (fn_X6_add o_4 txc_a (fn_law_sign lc)) (fun r_8 t_ => (pm2 (t_) (fun o_11 o_12 => (pm2 (lp_X6_write_16 lc tx_size txc_a tw_size twk_a twv_a twh_a o_4 r_1 o_11 o_12 r_8 10 0 o_11 o_12) (fun x3_16 t_ => (pm2 (t_) (fun tx_size_16 txc_a_16 => (tx_size_16, txc_a_16)))))))))))
theorem dX6_write_0 : decode cX6_write 0 = .ok (.aload_n 0, 1) := by decide +kernel
theorem dX6_write_1 : decode cX6_write 1 = .ok (.invokevirtual 19, 3) := by decide +kernel
theorem dX6_write_4 : decode cX6_write 4 = .ok (.pop, 1) := by decide +kernel
theorem dX6_write_5 : decode cX6_write 5 = .ok (.aload_n 0, 1) := by decide +kernel
theorem dX6_write_6 : decode cX6_write 6 = .ok (.aload_n 1, 1) := by decide +kernel
theorem dX6_write_7 : decode cX6_write 7 = .ok (.invokevirtual 23, 3) := by decide +kernel
theorem dX6_write_10 : decode cX6_write 10 = .ok (.invokevirtual 29, 3) := by decide +kernel
theorem dX6_write_13 : decode cX6_write 13 = .ok (.pop, 1) := by decide +kernel
theorem dX6_write_14 : decode cX6_write 14 = .ok (.iconst 0, 1) := by decide +kernel
theorem dX6_write_15 : decode cX6_write 15 = .ok (.istore_n 3, 1) := by decide +kernel
theorem dX6_write_16 : decode cX6_write 16 = .ok (.iload_n 3, 1) := by decide +kernel
theorem dX6_write_17 : decode cX6_write 17 = .ok (.aload_n 2, 1) := by decide +kernel
theorem dX6_write_18 : decode cX6_write 18 = .ok (.getfield 33, 3) := by decide +kernel
theorem dX6_write_21 : decode cX6_write 21 = .ok (.if_icmp .ge 94, 3) := by decide +kernel
theorem dX6_write_24 : decode cX6_write 24 = .ok (.aload_n 0, 1) := by decide +kernel
theorem dX6_write_25 : decode cX6_write 25 = .ok (.iload_n 3, 1) := by decide +kernel
theorem dX6_write_26 : decode cX6_write 26 = .ok (.ifCond .ne 8, 3) := by decide +kernel
theorem dX6_write_29 : decode cX6_write 29 = .ok (.bipush 59, 2) := by decide +kernel
theorem dX6_write_31 : decode cX6_write 31 = .ok (.goto 5, 3) := by decide +kernel
theorem dX6_write_34 : decode cX6_write 34 = .ok (.bipush 44, 2) := by decide +kernel
theorem dX6_write_36 : decode cX6_write 36 = .ok (.invokevirtual 29, 3) := by decide +kernel
theorem dX6_write_39 : decode cX6_write 39 = .ok (.pop, 1) := by decide +kernel
theorem dX6_write_40 : decode cX6_write 40 = .ok (.aload_n 0, 1) := by decide +kernel
theorem dX6_write_41 : decode cX6_write 41 = .ok (.bipush 48, 2) := by decide +kernel
theorem dX6_write_43 : decode cX6_write 43 = .ok (.aload_n 2, 1) := by decide +kernel
theorem dX6_write_44 : decode cX6_write 44 = .ok (.getfield 36, 3) := by decide +kernel
theorem dX6_write_47 : decode cX6_write 47 = .ok (.iload_n 3, 1) := by decide +kernel
theorem dX6_write_48 : decode cX6_write 48 = .ok (.iaload, 1) := by decide +kernel
theorem dX6_write_49 : decode cX6_write 49 = .ok (.bipush 10, 2) := by decide +kernel
theorem dX6_write_51 : decode cX6_write 51 = .ok (.idiv, 1) := by decide +kernel
theorem dX6_write_52 : decode cX6_write 52 = .ok (.iadd, 1) := by decide +kernel
theorem dX6_write_53 : decode cX6_write 53 = .ok (.invokevirtual 29, 3) := by decide +kernel
theorem dX6_write_56 : decode cX6_write 56 = .ok (.pop, 1) := by decide +kernel
theorem dX6_write_57 : decode cX6_write 57 = .ok (.aload_n 0, 1) := by decide +kernel
theorem dX6_write_58 : decode cX6_write 58 = .ok (.bipush 48, 2) := by decide +kernel
theorem dX6_write_60 : decode cX6_write 60 = .ok (.aload_n 2, 1) := by decide +kernel
theorem dX6_write_61 : decode cX6_write 61 = .ok (.getfield 36, 3) := by decide +kernel
theorem dX6_write_64 : decode cX6_write 64 = .ok (.iload_n 3, 1) := by decide +kernel
theorem dX6_write_65 : decode cX6_write 65 = .ok (.iaload, 1) := by decide +kernel
theorem dX6_write_66 : decode cX6_write 66 = .ok (.bipush 10, 2) := by decide +kernel
theorem dX6_write_68 : decode cX6_write 68 = .ok (.irem, 1) := by decide +kernel
theorem dX6_write_69 : decode cX6_write 69 = .ok (.iadd, 1) := by decide +kernel
theorem dX6_write_70 : decode cX6_write 70 = .ok (.invokevirtual 29, 3) := by decide +kernel
theorem dX6_write_73 : decode cX6_write 73 = .ok (.pop, 1) := by decide +kernel
theorem dX6_write_74 : decode cX6_write 74 = .ok (.aload_n 0, 1) := by decide +kernel
theorem dX6_write_75 : decode cX6_write 75 = .ok (.bipush 48, 2) := by decide +kernel
theorem dX6_write_77 : decode cX6_write 77 = .ok (.aload_n 2, 1) := by decide +kernel
theorem dX6_write_78 : decode cX6_write 78 = .ok (.getfield 39, 3) := by decide +kernel
theorem dX6_write_81 : decode cX6_write 81 = .ok (.iload_n 3, 1) := by decide +kernel
theorem dX6_write_82 : decode cX6_write 82 = .ok (.iaload, 1) := by decide +kernel
theorem dX6_write_83 : decode cX6_write 83 = .ok (.iadd, 1) := by decide +kernel
theorem dX6_write_84 : decode cX6_write 84 = .ok (.invokevirtual 29, 3) := by decide +kernel
theorem dX6_write_87 : decode cX6_write 87 = .ok (.pop, 1) := by decide +kernel
theorem dX6_write_88 : decode cX6_write 88 = .ok (.aload_n 1, 1) := by decide +kernel
theorem dX6_write_89 : decode cX6_write 89 = .ok (.invokevirtual 42, 3) := by decide +kernel
theorem dX6_write_92 : decode cX6_write 92 = .ok (.ifCond .eq 17, 3) := by decide +kernel
theorem dX6_write_95 : decode cX6_write 95 = .ok (.aload_n 0, 1) := by decide +kernel
theorem dX6_write_96 : decode cX6_write 96 = .ok (.bipush 48, 2) := by decide +kernel
theorem dX6_write_98 : decode cX6_write 98 = .ok (.aload_n 2, 1) := by decide +kernel
theorem dX6_write_99 : decode cX6_write 99 = .ok (.getfield 46, 3) := by decide +kernel
theorem dX6_write_102 : decode cX6_write 102 = .ok (.iload_n 3, 1) := by decide +kernel
theorem dX6_write_103 : decode cX6_write 103 = .ok (.iaload, 1) := by decide +kernel
theorem dX6_write_104 : decode cX6_write 104 = .ok (.iadd, 1) := by decide +kernel
theorem dX6_write_105 : decode cX6_write 105 = .ok (.invokevirtual 29, 3) := by decide +kernel
theorem dX6_write_108 : decode cX6_write 108 = .ok (.pop, 1) := by decide +kernel
theorem dX6_write_109 : decode cX6_write 109 = .ok (.iinc 3 1, 3) := by decide +kernel
theorem dX6_write_112 : decode cX6_write 112 = .ok (.goto (-96), 3) := by decide +kernel
theorem dX6_write_115 : decode cX6_write 115 = .ok (.return_, 1) := by decide +kernel
set_option maxHeartbeats 4000000 in
set_option maxRecDepth 100000 in
theorem c_X6_write (l : Launch) (D : va_G) (cy : ClassId) (tx txc tw twk twv twh twt lw : Nat) (lc : Nat) (hlc : wk_law lc) (tx_size : Int32) (txc_a : Nat → Int32) (tw_size : Int32) (twk_a : Nat → Int32) (twv_a : Nat → Int32) (twh_a : Nat → Int32)  (g_0 : 0 ≤ tx_size.toInt ∧ tx_size.toInt ≤ 44) (g_1 : 0 ≤ tw_size.toInt ∧ tw_size.toInt ≤ 8) : wk_Cv l yX6_write cX6_write 4 none { frames := 1, cells := 0, slots := 0, locals := 21 } D cy [.ref tx, .ref lw, .ref tw] [(tx, .inr (6, [.ref txc, .int tx_size])), (txc, .inl (cy, 44, .inl txc_a)), (tw, .inr (8, [.ref twk, .ref twv, .ref twh, .ref twt, .int tw_size])), (twk, .inl (cy, 8, .inl twk_a)), (twv, .inl (cy, 8, .inl twv_a)), (twh, .inl (cy, 8, .inl twh_a)), (lw, .inr (lc, []))] 0 0 (fun (u : Int32 × (Nat → Int32)) => u = (fn_X6_write lc tx_size txc_a tw_size twk_a twv_a twh_a) ∧ (0 ≤ u.1.toInt ∧ u.1.toInt ≤ 44)) (fun u => [(tx, .inr (6, [.ref txc, .int u.1])), (txc, .inl (cy, 44, .inl u.2)), (tw, .inr (8, [.ref twk, .ref twv, .ref twh, .ref twt, .int tw_size])), (twk, .inl (cy, 8, .inl twk_a)), (twv, .inl (cy, 8, .inl twv_a)), (twh, .inl (cy, 8, .inl twh_a)), (lw, .inr (lc, []))]) := by
  refine wk_mk2Cv (by decide) (Nat.le_of_ble_eq_true rfl) ?_
  intro p e s m args below meth c A ls Q B hA hK hP hD hS hl hret
  obtain ⟨hx, hb, hr, hlocks, hml, hown, htb, hin⟩ := B
  have hl : lv_has ls 4 [(0, .ref tx), (1, .ref lw), (2, .ref tw)] := hl
  have hF : (fn_X6_write lc tx_size txc_a tw_size twk_a twv_a twh_a) = (fn_X6_write lc tx_size txc_a tw_size twk_a twv_a twh_a) := rfl
  conv at hF => rhs; unfold fn_X6_write
  refine lv_aload_n hx hb dX6_write_0 rfl (lv_at hl 0 rfl) ?_
  refine wk_iV (As := []) (rest := []) (wc := [(tx, .inr (6, [.ref txc, .int tx_size]))]) (wr := [(txc, .inl (cy, 44, .inl txc_a)), (tw, .inr (8, [.ref twk, .ref twv, .ref twh, .ref twt, .int tw_size])), (twk, .inl (cy, 8, .inl twk_a)), (twv, .inl (cy, 8, .inl twv_a)), (twh, .inl (cy, 8, .inl twh_a)), (lw, .inr (lc, []))]) (n := 0) ⟨hx, hb, hml, hown, htb⟩ (c_X6_clear l D cy tx txc tx_size  (show 0 ≤ tx_size.toInt ∧ tx_size.toInt ≤ 44 from by omega)) tw_298 tw_428 tw_296 tw_297 tw_65 rfl rfl (by decide +kernel) ⟨Nat.le_of_ble_eq_true rfl, Nat.le_of_ble_eq_true rfl⟩ hK hP hD hS hA [0] [1, 2, 3, 4, 5, 6] rfl rfl rfl rfl (by decide) 0 (ci := 6) rfl rfl rfl hl.1 rfl (Nat.le_of_ble_eq_true rfl) dX6_write_1 ⟨Nat.le_of_ble_eq_true rfl, Nat.le_of_ble_eq_true rfl⟩ (fun r_1 u_2 H locs hw_3 hP hD hS => ?_)
  refine W.widen (k := 0) (n := 0) (by decide) (by decide) ?_
  obtain ⟨o_4, rfl⟩ : ∃ z, z = u_2 := ⟨_, rfl⟩
  obtain ⟨hw_3, k_5⟩ := hw_3
  have hw_3 : (r_1, o_4) = (fn_X6_clear tx_size) := hw_3
  have k_5 : (0 ≤ o_4.toInt ∧ o_4.toInt ≤ 44) := k_5
  rw [← hw_3] at hF
  rw [pm2_mk r_1 o_4] at hF
  have hP : va_P D classes [(txc, .inl (cy, 44, .inl txc_a)), (tw, .inr (8, [.ref twk, .ref twv, .ref twh, .ref twt, .int tw_size])), (twk, .inl (cy, 8, .inl twk_a)), (twv, .inl (cy, 8, .inl twv_a)), (twh, .inl (cy, 8, .inl twh_a)), (lw, .inr (lc, [])), (tx, .inr (6, [.ref txc, .int o_4]))] H := hP
  have hD : va_D A [(txc, .inl (cy, 44, .inl txc_a)), (tw, .inr (8, [.ref twk, .ref twv, .ref twh, .ref twt, .int tw_size])), (twk, .inl (cy, 8, .inl twk_a)), (twv, .inl (cy, 8, .inl twv_a)), (twh, .inl (cy, 8, .inl twh_a)), (lw, .inr (lc, [])), (tx, .inr (6, [.ref txc, .int o_4]))] := hD
  refine lv_pop hx hb dX6_write_4 rfl ?_
  refine lv_aload_n hx hb dX6_write_5 rfl (lv_at hl 0 rfl) ?_
  refine lv_aload_n hx hb dX6_write_6 rfl (lv_at hl 1 rfl) ?_
  refine cv_sign (rest := [.ref tx]) (wr := [(txc, .inl (cy, 44, .inl txc_a)), (tw, .inr (8, [.ref twk, .ref twv, .ref twh, .ref twt, .int tw_size])), (twk, .inl (cy, 8, .inl twk_a)), (twv, .inl (cy, 8, .inl twv_a)), (twh, .inl (cy, 8, .inl twh_a)), (tx, .inr (6, [.ref txc, .int o_4]))]) hlc ⟨hx, hb, hml, hown, htb⟩ (Nat.le_of_ble_eq_true rfl) (Nat.le_of_ble_eq_true rfl) hK hP hD hS hA [5] [0, 1, 2, 3, 4, 6] rfl rfl rfl rfl (by decide) hl.1 rfl (Nat.le_of_ble_eq_true rfl) dX6_write_7 ⟨Nat.le_of_ble_eq_true rfl, Nat.le_of_ble_eq_true rfl⟩ (fun r_6 H locs hw_7 hP hD hS => ?_)
  subst hw_7
  have hP : va_P D classes [(txc, .inl (cy, 44, .inl txc_a)), (tw, .inr (8, [.ref twk, .ref twv, .ref twh, .ref twt, .int tw_size])), (twk, .inl (cy, 8, .inl twk_a)), (twv, .inl (cy, 8, .inl twv_a)), (twh, .inl (cy, 8, .inl twh_a)), (tx, .inr (6, [.ref txc, .int o_4])), (lw, .inr (lc, []))] H := hP
  have hD : va_D A [(txc, .inl (cy, 44, .inl txc_a)), (tw, .inr (8, [.ref twk, .ref twv, .ref twh, .ref twt, .int tw_size])), (twk, .inl (cy, 8, .inl twk_a)), (twv, .inl (cy, 8, .inl twv_a)), (twh, .inl (cy, 8, .inl twh_a)), (tx, .inr (6, [.ref txc, .int o_4])), (lw, .inr (lc, []))] := hD
  refine wk_iV (As := [.int (fn_law_sign lc)]) (rest := []) (wc := [(tx, .inr (6, [.ref txc, .int o_4])), (txc, .inl (cy, 44, .inl txc_a))]) (wr := [(tw, .inr (8, [.ref twk, .ref twv, .ref twh, .ref twt, .int tw_size])), (twk, .inl (cy, 8, .inl twk_a)), (twv, .inl (cy, 8, .inl twv_a)), (twh, .inl (cy, 8, .inl twh_a)), (lw, .inr (lc, []))]) (n := 1) ⟨hx, hb, hml, hown, htb⟩ (c_X6_add l D cy tx txc o_4 txc_a (fn_law_sign lc) (show 0 ≤ o_4.toInt ∧ o_4.toInt ≤ 44 from by omega)) tw_290 tw_446 tw_288 tw_289 tw_65 rfl rfl (by decide +kernel) ⟨Nat.le_of_ble_eq_true rfl, Nat.le_of_ble_eq_true rfl⟩ hK hP hD hS hA [5, 0] [1, 2, 3, 4, 6] rfl rfl rfl rfl (by decide) 0 (ci := 6) rfl rfl rfl hl.1 rfl (Nat.le_of_ble_eq_true rfl) dX6_write_10 ⟨Nat.le_of_ble_eq_true rfl, Nat.le_of_ble_eq_true rfl⟩ (fun r_8 u_9 H locs hw_10 hP hD hS => ?_)
  refine W.widen (k := 0) (n := 0) (by decide) (by decide) ?_
  obtain ⟨o_11, o_12⟩ := u_9
  obtain ⟨hw_10, k_13⟩ := hw_10
  have hw_10 : (r_8, o_11, o_12) = (fn_X6_add o_4 txc_a (fn_law_sign lc)) := hw_10
  have k_13 : (0 ≤ o_11.toInt ∧ o_11.toInt ≤ 44) := k_13
  rw [← hw_10] at hF
  rw [pm2_mk r_8 (o_11, o_12), pm2_mk o_11 o_12] at hF
  have hP : va_P D classes [(tw, .inr (8, [.ref twk, .ref twv, .ref twh, .ref twt, .int tw_size])), (twk, .inl (cy, 8, .inl twk_a)), (twv, .inl (cy, 8, .inl twv_a)), (twh, .inl (cy, 8, .inl twh_a)), (lw, .inr (lc, [])), (tx, .inr (6, [.ref txc, .int o_11])), (txc, .inl (cy, 44, .inl o_12))] H := hP
  have hD : va_D A [(tw, .inr (8, [.ref twk, .ref twv, .ref twh, .ref twt, .int tw_size])), (twk, .inl (cy, 8, .inl twk_a)), (twv, .inl (cy, 8, .inl twv_a)), (twh, .inl (cy, 8, .inl twh_a)), (lw, .inr (lc, [])), (tx, .inr (6, [.ref txc, .int o_11])), (txc, .inl (cy, 44, .inl o_12))] := hD
  refine lv_pop hx hb dX6_write_13 rfl ?_
  refine lv_iconst (v := 0) hx hb dX6_write_14 (by decide) ?_
  refine lv_istore_n (lv' := [(3, .int 0), (0, .ref tx), (1, .ref lw), (2, .ref tw)]) hx hb dX6_write_15 rfl hl (by decide) rfl (fun ls hl => ?_)
  have hlp_16 : ∀ (fu_16 : Nat) (x3_16 : Int32) (tx_size_16 : Int32) (txc_a_16 : Nat → Int32) (H : Heap) (locs : List Loc) (ls : Array Slot), (0 ≤ x3_16.toInt ∧ x3_16.toInt ≤ 8) → (0 ≤ tx_size_16.toInt ∧ tx_size_16.toInt ≤ 44) → 8 - x3_16.toInt < (fu_16 : Int) → ((fn_X6_write lc tx_size txc_a tw_size twk_a twv_a twh_a) = (pm2 (lp_X6_write_16 lc tx_size txc_a tw_size twk_a twv_a twh_a o_4 r_1 o_11 o_12 r_8 fu_16 x3_16 tx_size_16 txc_a_16) (fun x3_16 t_ => (pm2 (t_) (fun tx_size_16 txc_a_16 => (tx_size_16, txc_a_16)))))) → va_P D classes [(tw, .inr (8, [.ref twk, .ref twv, .ref twh, .ref twt, .int tw_size])), (twk, .inl (cy, 8, .inl twk_a)), (twv, .inl (cy, 8, .inl twv_a)), (twh, .inl (cy, 8, .inl twh_a)), (lw, .inr (lc, [])), (tx, .inr (6, [.ref txc, .int tx_size_16])), (txc, .inl (cy, 44, .inl txc_a_16))] H → va_D A [(tw, .inr (8, [.ref twk, .ref twv, .ref twh, .ref twt, .int tw_size])), (twk, .inl (cy, 8, .inl twk_a)), (twv, .inl (cy, 8, .inl twv_a)), (twh, .inl (cy, 8, .inl twh_a)), (lw, .inr (lc, [])), (tx, .inr (6, [.ref txc, .int tx_size_16])), (txc, .inl (cy, 44, .inl txc_a_16))] → va_S A s.heap H locs → lv_has ls 4 [(3, .int x3_16), (0, .ref tx), (1, .ref lw), (2, .ref tw)] → W p l e { frames := 1, cells := 0, slots := 0, locals := 21 } s m args below meth c H locs 0 0 Q (F0 m 16 ls []) := by
    intro fu_16
    induction fu_16 with
    | zero =>
      intro x3_16 tx_size_16 txc_a_16 H locs ls hi_16_0 hi_16_1 hm hF hP hD hS hl
      exfalso; omega
    | succ fu_16 ih_16 =>
      intro x3_16 tx_size_16 txc_a_16 H locs ls hi_16_0 hi_16_1 hm hF hP hD hS hl
      rw [lp_X6_write_16] at hF
      refine lv_iload_n hx hb dX6_write_16 rfl (lv_at hl 0 rfl) ?_
      refine lv_aload_n hx hb dX6_write_17 rfl (lv_at hl 3 rfl) ?_
      refine va_get (D := D) (ci := 8) (v := .int tw_size) (C := RX8) (T := TX8) (N := 5) hx hb htb inX8 hown hK hP 0 rfl rfl 4 (by decide) (htb _ tw_133) (fun _ h9 => h9) rfl dX6_write_18 ?_
      refine lv_icmp_ge (tgt := 115) hx hb dX6_write_21 (by decide) (fun c_14 => ?_) (fun c_14 => ?_)
      · have k_14 : tw_size.toInt ≤ x3_16.toInt := wk_le c_14
        replace hF := hF.trans (pm2_p1 c_14)
        rw [pm2_mk x3_16 (tx_size_16, txc_a_16), pm2_mk tx_size_16 txc_a_16] at hF
        refine W.widen (k := 0) (n := 0) (by decide) (by decide) ?_
        exact hret (tx_size_16, txc_a_16) _ _ _ 115 (wk_sub9 (is := [5, 6, 0, 1, 2, 3, 4]) hP rfl) (hD.sub [5, 6, 0, 1, 2, 3, 4] rfl rfl) hS dX6_write_115 ⟨hF.symm, (show (0 ≤ tx_size_16.toInt ∧ tx_size_16.toInt ≤ 44) from by omega)⟩
      · have k_14 : ¬ tw_size.toInt ≤ x3_16.toInt := wk_nle c_14
        replace hF := hF.trans (pm2_n1 c_14)
        refine lv_aload_n hx hb dX6_write_24 rfl (lv_at hl 1 rfl) ?_
        refine lv_iload_n hx hb dX6_write_25 rfl (lv_at hl 0 rfl) ?_
        refine lv_if_ne (tgt := 34) hx hb dX6_write_26 (by decide) (fun c_15 => ?_) (fun c_15 => ?_)
        · have k_15 : ¬ x3_16.toInt = 0 := wk_neq c_15
          replace hF := hF.trans (pm2_n1 c_15)
          refine lv_bipush (v := 44) hx hb dX6_write_34 (by decide) ?_
          refine wk_iV (As := [.int 44]) (rest := []) (wc := [(tx, .inr (6, [.ref txc, .int tx_size_16])), (txc, .inl (cy, 44, .inl txc_a_16))]) (wr := [(tw, .inr (8, [.ref twk, .ref twv, .ref twh, .ref twt, .int tw_size])), (twk, .inl (cy, 8, .inl twk_a)), (twv, .inl (cy, 8, .inl twv_a)), (twh, .inl (cy, 8, .inl twh_a)), (lw, .inr (lc, []))]) (n := 1) ⟨hx, hb, hml, hown, htb⟩ (c_X6_add l D cy tx txc tx_size_16 txc_a_16 44 (show 0 ≤ tx_size_16.toInt ∧ tx_size_16.toInt ≤ 44 from by omega)) tw_290 tw_446 tw_288 tw_289 tw_65 rfl rfl (by decide +kernel) ⟨Nat.le_of_ble_eq_true rfl, Nat.le_of_ble_eq_true rfl⟩ hK hP hD hS hA [5, 6] [0, 1, 2, 3, 4] rfl rfl rfl rfl (by decide) 0 (ci := 6) rfl rfl rfl hl.1 rfl (Nat.le_of_ble_eq_true rfl) dX6_write_36 ⟨Nat.le_of_ble_eq_true rfl, Nat.le_of_ble_eq_true rfl⟩ (fun r_16 u_17 H locs hw_18 hP hD hS => ?_)
          refine W.widen (k := 0) (n := 0) (by decide) (by decide) ?_
          obtain ⟨o_19, o_20⟩ := u_17
          obtain ⟨hw_18, k_21⟩ := hw_18
          have hw_18 : (r_16, o_19, o_20) = (fn_X6_add tx_size_16 txc_a_16 44) := hw_18
          have k_21 : (0 ≤ o_19.toInt ∧ o_19.toInt ≤ 44) := k_21
          rw [← hw_18] at hF
          rw [pm2_mk r_16 (o_19, o_20), pm2_mk o_19 o_20] at hF
          have hP : va_P D classes [(tw, .inr (8, [.ref twk, .ref twv, .ref twh, .ref twt, .int tw_size])), (twk, .inl (cy, 8, .inl twk_a)), (twv, .inl (cy, 8, .inl twv_a)), (twh, .inl (cy, 8, .inl twh_a)), (lw, .inr (lc, [])), (tx, .inr (6, [.ref txc, .int o_19])), (txc, .inl (cy, 44, .inl o_20))] H := hP
          have hD : va_D A [(tw, .inr (8, [.ref twk, .ref twv, .ref twh, .ref twt, .int tw_size])), (twk, .inl (cy, 8, .inl twk_a)), (twv, .inl (cy, 8, .inl twv_a)), (twh, .inl (cy, 8, .inl twh_a)), (lw, .inr (lc, [])), (tx, .inr (6, [.ref txc, .int o_19])), (txc, .inl (cy, 44, .inl o_20))] := hD
          refine lv_pop hx hb dX6_write_39 rfl ?_
          refine lv_aload_n hx hb dX6_write_40 rfl (lv_at hl 1 rfl) ?_
          refine lv_bipush (v := 48) hx hb dX6_write_41 (by decide) ?_
          refine lv_aload_n hx hb dX6_write_43 rfl (lv_at hl 3 rfl) ?_
          refine va_get (D := D) (ci := 8) (v := .ref twk) (C := RX8) (T := TX8) (N := 5) hx hb htb inX8 hown hK hP 0 rfl rfl 0 (by decide) (htb _ tw_117) (fun _ h9 => h9) rfl dX6_write_44 ?_
          refine lv_iload_n hx hb dX6_write_47 rfl (lv_at hl 0 rfl) ?_
          refine va_iald hx hb hK hP 1 0 rfl rfl (show vp_in x3_16 8 from vp_in_iff.mpr (show 0 ≤ x3_16.toInt ∧ x3_16.toInt < ((8 : Nat) : Int) from by omega)) dX6_write_48 ?_
          refine lv_bipush (v := 10) hx hb dX6_write_49 (by decide) ?_
          refine lv_idiv hx hb dX6_write_51 (by decide) ?_
          refine lv_iadd hx hb dX6_write_52 ?_
          refine wk_iV (As := [.int (48 + ((twk_a x3_16.toNatClampNeg) / 10))]) (rest := []) (wc := [(tx, .inr (6, [.ref txc, .int o_19])), (txc, .inl (cy, 44, .inl o_20))]) (wr := [(tw, .inr (8, [.ref twk, .ref twv, .ref twh, .ref twt, .int tw_size])), (twk, .inl (cy, 8, .inl twk_a)), (twv, .inl (cy, 8, .inl twv_a)), (twh, .inl (cy, 8, .inl twh_a)), (lw, .inr (lc, []))]) (n := 1) ⟨hx, hb, hml, hown, htb⟩ (c_X6_add l D cy tx txc o_19 o_20 (48 + ((twk_a x3_16.toNatClampNeg) / 10)) (show 0 ≤ o_19.toInt ∧ o_19.toInt ≤ 44 from by omega)) tw_290 tw_446 tw_288 tw_289 tw_65 rfl rfl (by decide +kernel) ⟨Nat.le_of_ble_eq_true rfl, Nat.le_of_ble_eq_true rfl⟩ hK hP hD hS hA [5, 6] [0, 1, 2, 3, 4] rfl rfl rfl rfl (by decide) 0 (ci := 6) rfl rfl rfl hl.1 rfl (Nat.le_of_ble_eq_true rfl) dX6_write_53 ⟨Nat.le_of_ble_eq_true rfl, Nat.le_of_ble_eq_true rfl⟩ (fun r_22 u_23 H locs hw_24 hP hD hS => ?_)
          refine W.widen (k := 0) (n := 0) (by decide) (by decide) ?_
          obtain ⟨o_25, o_26⟩ := u_23
          obtain ⟨hw_24, k_27⟩ := hw_24
          have hw_24 : (r_22, o_25, o_26) = (fn_X6_add o_19 o_20 (48 + ((twk_a x3_16.toNatClampNeg) / 10))) := hw_24
          have k_27 : (0 ≤ o_25.toInt ∧ o_25.toInt ≤ 44) := k_27
          rw [← hw_24] at hF
          rw [pm2_mk r_22 (o_25, o_26), pm2_mk o_25 o_26] at hF
          have hP : va_P D classes [(tw, .inr (8, [.ref twk, .ref twv, .ref twh, .ref twt, .int tw_size])), (twk, .inl (cy, 8, .inl twk_a)), (twv, .inl (cy, 8, .inl twv_a)), (twh, .inl (cy, 8, .inl twh_a)), (lw, .inr (lc, [])), (tx, .inr (6, [.ref txc, .int o_25])), (txc, .inl (cy, 44, .inl o_26))] H := hP
          have hD : va_D A [(tw, .inr (8, [.ref twk, .ref twv, .ref twh, .ref twt, .int tw_size])), (twk, .inl (cy, 8, .inl twk_a)), (twv, .inl (cy, 8, .inl twv_a)), (twh, .inl (cy, 8, .inl twh_a)), (lw, .inr (lc, [])), (tx, .inr (6, [.ref txc, .int o_25])), (txc, .inl (cy, 44, .inl o_26))] := hD
          refine lv_pop hx hb dX6_write_56 rfl ?_
          refine lv_aload_n hx hb dX6_write_57 rfl (lv_at hl 1 rfl) ?_
          refine lv_bipush (v := 48) hx hb dX6_write_58 (by decide) ?_
          refine lv_aload_n hx hb dX6_write_60 rfl (lv_at hl 3 rfl) ?_
          refine va_get (D := D) (ci := 8) (v := .ref twk) (C := RX8) (T := TX8) (N := 5) hx hb htb inX8 hown hK hP 0 rfl rfl 0 (by decide) (htb _ tw_117) (fun _ h9 => h9) rfl dX6_write_61 ?_
          refine lv_iload_n hx hb dX6_write_64 rfl (lv_at hl 0 rfl) ?_
          refine va_iald hx hb hK hP 1 0 rfl rfl (show vp_in x3_16 8 from vp_in_iff.mpr (show 0 ≤ x3_16.toInt ∧ x3_16.toInt < ((8 : Nat) : Int) from by omega)) dX6_write_65 ?_
          refine lv_bipush (v := 10) hx hb dX6_write_66 (by decide) ?_
          refine lv_irem hx hb dX6_write_68 (by decide) ?_
          refine lv_iadd hx hb dX6_write_69 ?_
          refine wk_iV (As := [.int (48 + ((twk_a x3_16.toNatClampNeg) - (twk_a x3_16.toNatClampNeg) / 10 * 10))]) (rest := []) (wc := [(tx, .inr (6, [.ref txc, .int o_25])), (txc, .inl (cy, 44, .inl o_26))]) (wr := [(tw, .inr (8, [.ref twk, .ref twv, .ref twh, .ref twt, .int tw_size])), (twk, .inl (cy, 8, .inl twk_a)), (twv, .inl (cy, 8, .inl twv_a)), (twh, .inl (cy, 8, .inl twh_a)), (lw, .inr (lc, []))]) (n := 1) ⟨hx, hb, hml, hown, htb⟩ (c_X6_add l D cy tx txc o_25 o_26 (48 + ((twk_a x3_16.toNatClampNeg) - (twk_a x3_16.toNatClampNeg) / 10 * 10)) (show 0 ≤ o_25.toInt ∧ o_25.toInt ≤ 44 from by omega)) tw_290 tw_446 tw_288 tw_289 tw_65 rfl rfl (by decide +kernel) ⟨Nat.le_of_ble_eq_true rfl, Nat.le_of_ble_eq_true rfl⟩ hK hP hD hS hA [5, 6] [0, 1, 2, 3, 4] rfl rfl rfl rfl (by decide) 0 (ci := 6) rfl rfl rfl hl.1 rfl (Nat.le_of_ble_eq_true rfl) dX6_write_70 ⟨Nat.le_of_ble_eq_true rfl, Nat.le_of_ble_eq_true rfl⟩ (fun r_28 u_29 H locs hw_30 hP hD hS => ?_)
          refine W.widen (k := 0) (n := 0) (by decide) (by decide) ?_
          obtain ⟨o_31, o_32⟩ := u_29
          obtain ⟨hw_30, k_33⟩ := hw_30
          have hw_30 : (r_28, o_31, o_32) = (fn_X6_add o_25 o_26 (48 + ((twk_a x3_16.toNatClampNeg) - (twk_a x3_16.toNatClampNeg) / 10 * 10))) := hw_30
          have k_33 : (0 ≤ o_31.toInt ∧ o_31.toInt ≤ 44) := k_33
          rw [← hw_30] at hF
          rw [pm2_mk r_28 (o_31, o_32), pm2_mk o_31 o_32] at hF
          have hP : va_P D classes [(tw, .inr (8, [.ref twk, .ref twv, .ref twh, .ref twt, .int tw_size])), (twk, .inl (cy, 8, .inl twk_a)), (twv, .inl (cy, 8, .inl twv_a)), (twh, .inl (cy, 8, .inl twh_a)), (lw, .inr (lc, [])), (tx, .inr (6, [.ref txc, .int o_31])), (txc, .inl (cy, 44, .inl o_32))] H := hP
          have hD : va_D A [(tw, .inr (8, [.ref twk, .ref twv, .ref twh, .ref twt, .int tw_size])), (twk, .inl (cy, 8, .inl twk_a)), (twv, .inl (cy, 8, .inl twv_a)), (twh, .inl (cy, 8, .inl twh_a)), (lw, .inr (lc, [])), (tx, .inr (6, [.ref txc, .int o_31])), (txc, .inl (cy, 44, .inl o_32))] := hD
          refine lv_pop hx hb dX6_write_73 rfl ?_
          refine lv_aload_n hx hb dX6_write_74 rfl (lv_at hl 1 rfl) ?_
          refine lv_bipush (v := 48) hx hb dX6_write_75 (by decide) ?_
          refine lv_aload_n hx hb dX6_write_77 rfl (lv_at hl 3 rfl) ?_
          refine va_get (D := D) (ci := 8) (v := .ref twv) (C := RX8) (T := TX8) (N := 5) hx hb htb inX8 hown hK hP 0 rfl rfl 1 (by decide) (htb _ tw_120) (fun _ h9 => h9) rfl dX6_write_78 ?_
          refine lv_iload_n hx hb dX6_write_81 rfl (lv_at hl 0 rfl) ?_
          refine va_iald hx hb hK hP 2 0 rfl rfl (show vp_in x3_16 8 from vp_in_iff.mpr (show 0 ≤ x3_16.toInt ∧ x3_16.toInt < ((8 : Nat) : Int) from by omega)) dX6_write_82 ?_
          refine lv_iadd hx hb dX6_write_83 ?_
          refine wk_iV (As := [.int (48 + (twv_a x3_16.toNatClampNeg))]) (rest := []) (wc := [(tx, .inr (6, [.ref txc, .int o_31])), (txc, .inl (cy, 44, .inl o_32))]) (wr := [(tw, .inr (8, [.ref twk, .ref twv, .ref twh, .ref twt, .int tw_size])), (twk, .inl (cy, 8, .inl twk_a)), (twv, .inl (cy, 8, .inl twv_a)), (twh, .inl (cy, 8, .inl twh_a)), (lw, .inr (lc, []))]) (n := 1) ⟨hx, hb, hml, hown, htb⟩ (c_X6_add l D cy tx txc o_31 o_32 (48 + (twv_a x3_16.toNatClampNeg)) (show 0 ≤ o_31.toInt ∧ o_31.toInt ≤ 44 from by omega)) tw_290 tw_446 tw_288 tw_289 tw_65 rfl rfl (by decide +kernel) ⟨Nat.le_of_ble_eq_true rfl, Nat.le_of_ble_eq_true rfl⟩ hK hP hD hS hA [5, 6] [0, 1, 2, 3, 4] rfl rfl rfl rfl (by decide) 0 (ci := 6) rfl rfl rfl hl.1 rfl (Nat.le_of_ble_eq_true rfl) dX6_write_84 ⟨Nat.le_of_ble_eq_true rfl, Nat.le_of_ble_eq_true rfl⟩ (fun r_34 u_35 H locs hw_36 hP hD hS => ?_)
          refine W.widen (k := 0) (n := 0) (by decide) (by decide) ?_
          obtain ⟨o_37, o_38⟩ := u_35
          obtain ⟨hw_36, k_39⟩ := hw_36
          have hw_36 : (r_34, o_37, o_38) = (fn_X6_add o_31 o_32 (48 + (twv_a x3_16.toNatClampNeg))) := hw_36
          have k_39 : (0 ≤ o_37.toInt ∧ o_37.toInt ≤ 44) := k_39
          rw [← hw_36] at hF
          rw [pm2_mk r_34 (o_37, o_38), pm2_mk o_37 o_38] at hF
          have hP : va_P D classes [(tw, .inr (8, [.ref twk, .ref twv, .ref twh, .ref twt, .int tw_size])), (twk, .inl (cy, 8, .inl twk_a)), (twv, .inl (cy, 8, .inl twv_a)), (twh, .inl (cy, 8, .inl twh_a)), (lw, .inr (lc, [])), (tx, .inr (6, [.ref txc, .int o_37])), (txc, .inl (cy, 44, .inl o_38))] H := hP
          have hD : va_D A [(tw, .inr (8, [.ref twk, .ref twv, .ref twh, .ref twt, .int tw_size])), (twk, .inl (cy, 8, .inl twk_a)), (twv, .inl (cy, 8, .inl twv_a)), (twh, .inl (cy, 8, .inl twh_a)), (lw, .inr (lc, [])), (tx, .inr (6, [.ref txc, .int o_37])), (txc, .inl (cy, 44, .inl o_38))] := hD
          refine lv_pop hx hb dX6_write_87 rfl ?_
          refine lv_aload_n hx hb dX6_write_88 rfl (lv_at hl 2 rfl) ?_
          refine cv_tellsHeights (rest := []) (wr := [(tw, .inr (8, [.ref twk, .ref twv, .ref twh, .ref twt, .int tw_size])), (twk, .inl (cy, 8, .inl twk_a)), (twv, .inl (cy, 8, .inl twv_a)), (twh, .inl (cy, 8, .inl twh_a)), (tx, .inr (6, [.ref txc, .int o_37])), (txc, .inl (cy, 44, .inl o_38))]) hlc ⟨hx, hb, hml, hown, htb⟩ (Nat.le_of_ble_eq_true rfl) (Nat.le_of_ble_eq_true rfl) hK hP hD hS hA [4] [0, 1, 2, 3, 5, 6] rfl rfl rfl rfl (by decide) hl.1 rfl (Nat.le_of_ble_eq_true rfl) dX6_write_89 ⟨Nat.le_of_ble_eq_true rfl, Nat.le_of_ble_eq_true rfl⟩ (fun r_40 H locs hw_41 hP hD hS => ?_)
          subst hw_41
          have k_42 : (fn_law_tellsHeights lc) = 0 ∨ (fn_law_tellsHeights lc) = 1 := fn_law_tells_b lc
          have k_43 : 0 ≤ (fn_law_tellsHeights lc).toInt ∧ (fn_law_tellsHeights lc).toInt ≤ 1 := wk_b01 (by assumption)
          have hP : va_P D classes [(tw, .inr (8, [.ref twk, .ref twv, .ref twh, .ref twt, .int tw_size])), (twk, .inl (cy, 8, .inl twk_a)), (twv, .inl (cy, 8, .inl twv_a)), (twh, .inl (cy, 8, .inl twh_a)), (tx, .inr (6, [.ref txc, .int o_37])), (txc, .inl (cy, 44, .inl o_38)), (lw, .inr (lc, []))] H := hP
          have hD : va_D A [(tw, .inr (8, [.ref twk, .ref twv, .ref twh, .ref twt, .int tw_size])), (twk, .inl (cy, 8, .inl twk_a)), (twv, .inl (cy, 8, .inl twv_a)), (twh, .inl (cy, 8, .inl twh_a)), (tx, .inr (6, [.ref txc, .int o_37])), (txc, .inl (cy, 44, .inl o_38)), (lw, .inr (lc, []))] := hD
          refine lv_if_eq (tgt := 109) hx hb dX6_write_92 (by decide) (fun c_44 => ?_) (fun c_44 => ?_)
          · have k_44 : (fn_law_tellsHeights lc).toInt = 0 := wk_eq c_44
            replace hF := hF.trans (pm2_p1 c_44)
            refine lv_iinc (v := (x3_16 + 1)) (lv' := [(3, .int (x3_16 + 1)), (0, .ref tx), (1, .ref lw), (2, .ref tw)]) hx hb dX6_write_109 hl (k := 0) rfl rfl (by decide) rfl (fun ls hl => ?_)
            have k_45 : (x3_16 + 1).toInt = x3_16.toInt + 1 := wk_add x3_16.toInt 1 rfl rfl (by omega) (by omega)
            refine lv_goto (tgt := 16) hx hb dX6_write_112 (by decide) ?_
            exact ih_16 (x3_16 + 1) o_37 o_38 _ _ _ (show 0 ≤ (x3_16 + 1).toInt ∧ (x3_16 + 1).toInt ≤ 8 from by omega) (show 0 ≤ o_37.toInt ∧ o_37.toInt ≤ 44 from by omega) (show 8 - (x3_16 + 1).toInt < ((fu_16 : Nat) : Int) from by omega) hF (wk_sub9 (is := [0, 1, 2, 3, 6, 4, 5]) hP rfl) (hD.sub [0, 1, 2, 3, 6, 4, 5] rfl rfl) hS (lv_sub hl [0, 1, 2, 3] rfl)
          · have k_44 : ¬ (fn_law_tellsHeights lc).toInt = 0 := wk_neq c_44
            replace hF := hF.trans (pm2_n1 c_44)
            refine lv_aload_n hx hb dX6_write_95 rfl (lv_at hl 1 rfl) ?_
            refine lv_bipush (v := 48) hx hb dX6_write_96 (by decide) ?_
            refine lv_aload_n hx hb dX6_write_98 rfl (lv_at hl 3 rfl) ?_
            refine va_get (D := D) (ci := 8) (v := .ref twh) (C := RX8) (T := TX8) (N := 5) hx hb htb inX8 hown hK hP 0 rfl rfl 2 (by decide) (htb _ tw_123) (fun _ h9 => h9) rfl dX6_write_99 ?_
            refine lv_iload_n hx hb dX6_write_102 rfl (lv_at hl 0 rfl) ?_
            refine va_iald hx hb hK hP 3 0 rfl rfl (show vp_in x3_16 8 from vp_in_iff.mpr (show 0 ≤ x3_16.toInt ∧ x3_16.toInt < ((8 : Nat) : Int) from by omega)) dX6_write_103 ?_
            refine lv_iadd hx hb dX6_write_104 ?_
            refine wk_iV (As := [.int (48 + (twh_a x3_16.toNatClampNeg))]) (rest := []) (wc := [(tx, .inr (6, [.ref txc, .int o_37])), (txc, .inl (cy, 44, .inl o_38))]) (wr := [(tw, .inr (8, [.ref twk, .ref twv, .ref twh, .ref twt, .int tw_size])), (twk, .inl (cy, 8, .inl twk_a)), (twv, .inl (cy, 8, .inl twv_a)), (twh, .inl (cy, 8, .inl twh_a)), (lw, .inr (lc, []))]) (n := 1) ⟨hx, hb, hml, hown, htb⟩ (c_X6_add l D cy tx txc o_37 o_38 (48 + (twh_a x3_16.toNatClampNeg)) (show 0 ≤ o_37.toInt ∧ o_37.toInt ≤ 44 from by omega)) tw_290 tw_446 tw_288 tw_289 tw_65 rfl rfl (by decide +kernel) ⟨Nat.le_of_ble_eq_true rfl, Nat.le_of_ble_eq_true rfl⟩ hK hP hD hS hA [4, 5] [0, 1, 2, 3, 6] rfl rfl rfl rfl (by decide) 0 (ci := 6) rfl rfl rfl hl.1 rfl (Nat.le_of_ble_eq_true rfl) dX6_write_105 ⟨Nat.le_of_ble_eq_true rfl, Nat.le_of_ble_eq_true rfl⟩ (fun r_46 u_47 H locs hw_48 hP hD hS => ?_)
            refine W.widen (k := 0) (n := 0) (by decide) (by decide) ?_
            obtain ⟨o_49, o_50⟩ := u_47
            obtain ⟨hw_48, k_51⟩ := hw_48
            have hw_48 : (r_46, o_49, o_50) = (fn_X6_add o_37 o_38 (48 + (twh_a x3_16.toNatClampNeg))) := hw_48
            have k_51 : (0 ≤ o_49.toInt ∧ o_49.toInt ≤ 44) := k_51
            rw [← hw_48] at hF
            rw [pm2_mk r_46 (o_49, o_50), pm2_mk o_49 o_50] at hF
            have hP : va_P D classes [(tw, .inr (8, [.ref twk, .ref twv, .ref twh, .ref twt, .int tw_size])), (twk, .inl (cy, 8, .inl twk_a)), (twv, .inl (cy, 8, .inl twv_a)), (twh, .inl (cy, 8, .inl twh_a)), (lw, .inr (lc, [])), (tx, .inr (6, [.ref txc, .int o_49])), (txc, .inl (cy, 44, .inl o_50))] H := hP
            have hD : va_D A [(tw, .inr (8, [.ref twk, .ref twv, .ref twh, .ref twt, .int tw_size])), (twk, .inl (cy, 8, .inl twk_a)), (twv, .inl (cy, 8, .inl twv_a)), (twh, .inl (cy, 8, .inl twh_a)), (lw, .inr (lc, [])), (tx, .inr (6, [.ref txc, .int o_49])), (txc, .inl (cy, 44, .inl o_50))] := hD
            refine lv_pop hx hb dX6_write_108 rfl ?_
            refine lv_iinc (v := (x3_16 + 1)) (lv' := [(3, .int (x3_16 + 1)), (0, .ref tx), (1, .ref lw), (2, .ref tw)]) hx hb dX6_write_109 hl (k := 0) rfl rfl (by decide) rfl (fun ls hl => ?_)
            have k_52 : (x3_16 + 1).toInt = x3_16.toInt + 1 := wk_add x3_16.toInt 1 rfl rfl (by omega) (by omega)
            refine lv_goto (tgt := 16) hx hb dX6_write_112 (by decide) ?_
            exact ih_16 (x3_16 + 1) o_49 o_50 _ _ _ (show 0 ≤ (x3_16 + 1).toInt ∧ (x3_16 + 1).toInt ≤ 8 from by omega) (show 0 ≤ o_49.toInt ∧ o_49.toInt ≤ 44 from by omega) (show 8 - (x3_16 + 1).toInt < ((fu_16 : Nat) : Int) from by omega) hF hP hD hS (lv_sub hl [0, 1, 2, 3] rfl)
        · have k_15 : x3_16.toInt = 0 := wk_eq c_15
          replace hF := hF.trans (pm2_p1 c_15)
          refine lv_bipush (v := 59) hx hb dX6_write_29 (by decide) ?_
          refine lv_goto (tgt := 36) hx hb dX6_write_31 (by decide) ?_
          refine wk_iV (As := [.int 59]) (rest := []) (wc := [(tx, .inr (6, [.ref txc, .int tx_size_16])), (txc, .inl (cy, 44, .inl txc_a_16))]) (wr := [(tw, .inr (8, [.ref twk, .ref twv, .ref twh, .ref twt, .int tw_size])), (twk, .inl (cy, 8, .inl twk_a)), (twv, .inl (cy, 8, .inl twv_a)), (twh, .inl (cy, 8, .inl twh_a)), (lw, .inr (lc, []))]) (n := 1) ⟨hx, hb, hml, hown, htb⟩ (c_X6_add l D cy tx txc tx_size_16 txc_a_16 59 (show 0 ≤ tx_size_16.toInt ∧ tx_size_16.toInt ≤ 44 from by omega)) tw_290 tw_446 tw_288 tw_289 tw_65 rfl rfl (by decide +kernel) ⟨Nat.le_of_ble_eq_true rfl, Nat.le_of_ble_eq_true rfl⟩ hK hP hD hS hA [5, 6] [0, 1, 2, 3, 4] rfl rfl rfl rfl (by decide) 0 (ci := 6) rfl rfl rfl hl.1 rfl (Nat.le_of_ble_eq_true rfl) dX6_write_36 ⟨Nat.le_of_ble_eq_true rfl, Nat.le_of_ble_eq_true rfl⟩ (fun r_53 u_54 H locs hw_55 hP hD hS => ?_)
          refine W.widen (k := 0) (n := 0) (by decide) (by decide) ?_
          obtain ⟨o_56, o_57⟩ := u_54
          obtain ⟨hw_55, k_58⟩ := hw_55
          have hw_55 : (r_53, o_56, o_57) = (fn_X6_add tx_size_16 txc_a_16 59) := hw_55
          have k_58 : (0 ≤ o_56.toInt ∧ o_56.toInt ≤ 44) := k_58
          rw [← hw_55] at hF
          rw [pm2_mk r_53 (o_56, o_57), pm2_mk o_56 o_57] at hF
          have hP : va_P D classes [(tw, .inr (8, [.ref twk, .ref twv, .ref twh, .ref twt, .int tw_size])), (twk, .inl (cy, 8, .inl twk_a)), (twv, .inl (cy, 8, .inl twv_a)), (twh, .inl (cy, 8, .inl twh_a)), (lw, .inr (lc, [])), (tx, .inr (6, [.ref txc, .int o_56])), (txc, .inl (cy, 44, .inl o_57))] H := hP
          have hD : va_D A [(tw, .inr (8, [.ref twk, .ref twv, .ref twh, .ref twt, .int tw_size])), (twk, .inl (cy, 8, .inl twk_a)), (twv, .inl (cy, 8, .inl twv_a)), (twh, .inl (cy, 8, .inl twh_a)), (lw, .inr (lc, [])), (tx, .inr (6, [.ref txc, .int o_56])), (txc, .inl (cy, 44, .inl o_57))] := hD
          refine lv_pop hx hb dX6_write_39 rfl ?_
          refine lv_aload_n hx hb dX6_write_40 rfl (lv_at hl 1 rfl) ?_
          refine lv_bipush (v := 48) hx hb dX6_write_41 (by decide) ?_
          refine lv_aload_n hx hb dX6_write_43 rfl (lv_at hl 3 rfl) ?_
          refine va_get (D := D) (ci := 8) (v := .ref twk) (C := RX8) (T := TX8) (N := 5) hx hb htb inX8 hown hK hP 0 rfl rfl 0 (by decide) (htb _ tw_117) (fun _ h9 => h9) rfl dX6_write_44 ?_
          refine lv_iload_n hx hb dX6_write_47 rfl (lv_at hl 0 rfl) ?_
          refine va_iald hx hb hK hP 1 0 rfl rfl (show vp_in x3_16 8 from vp_in_iff.mpr (show 0 ≤ x3_16.toInt ∧ x3_16.toInt < ((8 : Nat) : Int) from by omega)) dX6_write_48 ?_
          refine lv_bipush (v := 10) hx hb dX6_write_49 (by decide) ?_
          refine lv_idiv hx hb dX6_write_51 (by decide) ?_
          refine lv_iadd hx hb dX6_write_52 ?_
          refine wk_iV (As := [.int (48 + ((twk_a x3_16.toNatClampNeg) / 10))]) (rest := []) (wc := [(tx, .inr (6, [.ref txc, .int o_56])), (txc, .inl (cy, 44, .inl o_57))]) (wr := [(tw, .inr (8, [.ref twk, .ref twv, .ref twh, .ref twt, .int tw_size])), (twk, .inl (cy, 8, .inl twk_a)), (twv, .inl (cy, 8, .inl twv_a)), (twh, .inl (cy, 8, .inl twh_a)), (lw, .inr (lc, []))]) (n := 1) ⟨hx, hb, hml, hown, htb⟩ (c_X6_add l D cy tx txc o_56 o_57 (48 + ((twk_a x3_16.toNatClampNeg) / 10)) (show 0 ≤ o_56.toInt ∧ o_56.toInt ≤ 44 from by omega)) tw_290 tw_446 tw_288 tw_289 tw_65 rfl rfl (by decide +kernel) ⟨Nat.le_of_ble_eq_true rfl, Nat.le_of_ble_eq_true rfl⟩ hK hP hD hS hA [5, 6] [0, 1, 2, 3, 4] rfl rfl rfl rfl (by decide) 0 (ci := 6) rfl rfl rfl hl.1 rfl (Nat.le_of_ble_eq_true rfl) dX6_write_53 ⟨Nat.le_of_ble_eq_true rfl, Nat.le_of_ble_eq_true rfl⟩ (fun r_59 u_60 H locs hw_61 hP hD hS => ?_)
          refine W.widen (k := 0) (n := 0) (by decide) (by decide) ?_
          obtain ⟨o_62, o_63⟩ := u_60
          obtain ⟨hw_61, k_64⟩ := hw_61
          have hw_61 : (r_59, o_62, o_63) = (fn_X6_add o_56 o_57 (48 + ((twk_a x3_16.toNatClampNeg) / 10))) := hw_61
          have k_64 : (0 ≤ o_62.toInt ∧ o_62.toInt ≤ 44) := k_64
          rw [← hw_61] at hF
          rw [pm2_mk r_59 (o_62, o_63), pm2_mk o_62 o_63] at hF
          have hP : va_P D classes [(tw, .inr (8, [.ref twk, .ref twv, .ref twh, .ref twt, .int tw_size])), (twk, .inl (cy, 8, .inl twk_a)), (twv, .inl (cy, 8, .inl twv_a)), (twh, .inl (cy, 8, .inl twh_a)), (lw, .inr (lc, [])), (tx, .inr (6, [.ref txc, .int o_62])), (txc, .inl (cy, 44, .inl o_63))] H := hP
          have hD : va_D A [(tw, .inr (8, [.ref twk, .ref twv, .ref twh, .ref twt, .int tw_size])), (twk, .inl (cy, 8, .inl twk_a)), (twv, .inl (cy, 8, .inl twv_a)), (twh, .inl (cy, 8, .inl twh_a)), (lw, .inr (lc, [])), (tx, .inr (6, [.ref txc, .int o_62])), (txc, .inl (cy, 44, .inl o_63))] := hD
          refine lv_pop hx hb dX6_write_56 rfl ?_
          refine lv_aload_n hx hb dX6_write_57 rfl (lv_at hl 1 rfl) ?_
          refine lv_bipush (v := 48) hx hb dX6_write_58 (by decide) ?_
          refine lv_aload_n hx hb dX6_write_60 rfl (lv_at hl 3 rfl) ?_
          refine va_get (D := D) (ci := 8) (v := .ref twk) (C := RX8) (T := TX8) (N := 5) hx hb htb inX8 hown hK hP 0 rfl rfl 0 (by decide) (htb _ tw_117) (fun _ h9 => h9) rfl dX6_write_61 ?_
          refine lv_iload_n hx hb dX6_write_64 rfl (lv_at hl 0 rfl) ?_
          refine va_iald hx hb hK hP 1 0 rfl rfl (show vp_in x3_16 8 from vp_in_iff.mpr (show 0 ≤ x3_16.toInt ∧ x3_16.toInt < ((8 : Nat) : Int) from by omega)) dX6_write_65 ?_
          refine lv_bipush (v := 10) hx hb dX6_write_66 (by decide) ?_
          refine lv_irem hx hb dX6_write_68 (by decide) ?_
          refine lv_iadd hx hb dX6_write_69 ?_
          refine wk_iV (As := [.int (48 + ((twk_a x3_16.toNatClampNeg) - (twk_a x3_16.toNatClampNeg) / 10 * 10))]) (rest := []) (wc := [(tx, .inr (6, [.ref txc, .int o_62])), (txc, .inl (cy, 44, .inl o_63))]) (wr := [(tw, .inr (8, [.ref twk, .ref twv, .ref twh, .ref twt, .int tw_size])), (twk, .inl (cy, 8, .inl twk_a)), (twv, .inl (cy, 8, .inl twv_a)), (twh, .inl (cy, 8, .inl twh_a)), (lw, .inr (lc, []))]) (n := 1) ⟨hx, hb, hml, hown, htb⟩ (c_X6_add l D cy tx txc o_62 o_63 (48 + ((twk_a x3_16.toNatClampNeg) - (twk_a x3_16.toNatClampNeg) / 10 * 10)) (show 0 ≤ o_62.toInt ∧ o_62.toInt ≤ 44 from by omega)) tw_290 tw_446 tw_288 tw_289 tw_65 rfl rfl (by decide +kernel) ⟨Nat.le_of_ble_eq_true rfl, Nat.le_of_ble_eq_true rfl⟩ hK hP hD hS hA [5, 6] [0, 1, 2, 3, 4] rfl rfl rfl rfl (by decide) 0 (ci := 6) rfl rfl rfl hl.1 rfl (Nat.le_of_ble_eq_true rfl) dX6_write_70 ⟨Nat.le_of_ble_eq_true rfl, Nat.le_of_ble_eq_true rfl⟩ (fun r_65 u_66 H locs hw_67 hP hD hS => ?_)
          refine W.widen (k := 0) (n := 0) (by decide) (by decide) ?_
          obtain ⟨o_68, o_69⟩ := u_66
          obtain ⟨hw_67, k_70⟩ := hw_67
          have hw_67 : (r_65, o_68, o_69) = (fn_X6_add o_62 o_63 (48 + ((twk_a x3_16.toNatClampNeg) - (twk_a x3_16.toNatClampNeg) / 10 * 10))) := hw_67
          have k_70 : (0 ≤ o_68.toInt ∧ o_68.toInt ≤ 44) := k_70
          rw [← hw_67] at hF
          rw [pm2_mk r_65 (o_68, o_69), pm2_mk o_68 o_69] at hF
          have hP : va_P D classes [(tw, .inr (8, [.ref twk, .ref twv, .ref twh, .ref twt, .int tw_size])), (twk, .inl (cy, 8, .inl twk_a)), (twv, .inl (cy, 8, .inl twv_a)), (twh, .inl (cy, 8, .inl twh_a)), (lw, .inr (lc, [])), (tx, .inr (6, [.ref txc, .int o_68])), (txc, .inl (cy, 44, .inl o_69))] H := hP
          have hD : va_D A [(tw, .inr (8, [.ref twk, .ref twv, .ref twh, .ref twt, .int tw_size])), (twk, .inl (cy, 8, .inl twk_a)), (twv, .inl (cy, 8, .inl twv_a)), (twh, .inl (cy, 8, .inl twh_a)), (lw, .inr (lc, [])), (tx, .inr (6, [.ref txc, .int o_68])), (txc, .inl (cy, 44, .inl o_69))] := hD
          refine lv_pop hx hb dX6_write_73 rfl ?_
          refine lv_aload_n hx hb dX6_write_74 rfl (lv_at hl 1 rfl) ?_
          refine lv_bipush (v := 48) hx hb dX6_write_75 (by decide) ?_
          refine lv_aload_n hx hb dX6_write_77 rfl (lv_at hl 3 rfl) ?_
          refine va_get (D := D) (ci := 8) (v := .ref twv) (C := RX8) (T := TX8) (N := 5) hx hb htb inX8 hown hK hP 0 rfl rfl 1 (by decide) (htb _ tw_120) (fun _ h9 => h9) rfl dX6_write_78 ?_
          refine lv_iload_n hx hb dX6_write_81 rfl (lv_at hl 0 rfl) ?_
          refine va_iald hx hb hK hP 2 0 rfl rfl (show vp_in x3_16 8 from vp_in_iff.mpr (show 0 ≤ x3_16.toInt ∧ x3_16.toInt < ((8 : Nat) : Int) from by omega)) dX6_write_82 ?_
          refine lv_iadd hx hb dX6_write_83 ?_
          refine wk_iV (As := [.int (48 + (twv_a x3_16.toNatClampNeg))]) (rest := []) (wc := [(tx, .inr (6, [.ref txc, .int o_68])), (txc, .inl (cy, 44, .inl o_69))]) (wr := [(tw, .inr (8, [.ref twk, .ref twv, .ref twh, .ref twt, .int tw_size])), (twk, .inl (cy, 8, .inl twk_a)), (twv, .inl (cy, 8, .inl twv_a)), (twh, .inl (cy, 8, .inl twh_a)), (lw, .inr (lc, []))]) (n := 1) ⟨hx, hb, hml, hown, htb⟩ (c_X6_add l D cy tx txc o_68 o_69 (48 + (twv_a x3_16.toNatClampNeg)) (show 0 ≤ o_68.toInt ∧ o_68.toInt ≤ 44 from by omega)) tw_290 tw_446 tw_288 tw_289 tw_65 rfl rfl (by decide +kernel) ⟨Nat.le_of_ble_eq_true rfl, Nat.le_of_ble_eq_true rfl⟩ hK hP hD hS hA [5, 6] [0, 1, 2, 3, 4] rfl rfl rfl rfl (by decide) 0 (ci := 6) rfl rfl rfl hl.1 rfl (Nat.le_of_ble_eq_true rfl) dX6_write_84 ⟨Nat.le_of_ble_eq_true rfl, Nat.le_of_ble_eq_true rfl⟩ (fun r_71 u_72 H locs hw_73 hP hD hS => ?_)
          refine W.widen (k := 0) (n := 0) (by decide) (by decide) ?_
          obtain ⟨o_74, o_75⟩ := u_72
          obtain ⟨hw_73, k_76⟩ := hw_73
          have hw_73 : (r_71, o_74, o_75) = (fn_X6_add o_68 o_69 (48 + (twv_a x3_16.toNatClampNeg))) := hw_73
          have k_76 : (0 ≤ o_74.toInt ∧ o_74.toInt ≤ 44) := k_76
          rw [← hw_73] at hF
          rw [pm2_mk r_71 (o_74, o_75), pm2_mk o_74 o_75] at hF
          have hP : va_P D classes [(tw, .inr (8, [.ref twk, .ref twv, .ref twh, .ref twt, .int tw_size])), (twk, .inl (cy, 8, .inl twk_a)), (twv, .inl (cy, 8, .inl twv_a)), (twh, .inl (cy, 8, .inl twh_a)), (lw, .inr (lc, [])), (tx, .inr (6, [.ref txc, .int o_74])), (txc, .inl (cy, 44, .inl o_75))] H := hP
          have hD : va_D A [(tw, .inr (8, [.ref twk, .ref twv, .ref twh, .ref twt, .int tw_size])), (twk, .inl (cy, 8, .inl twk_a)), (twv, .inl (cy, 8, .inl twv_a)), (twh, .inl (cy, 8, .inl twh_a)), (lw, .inr (lc, [])), (tx, .inr (6, [.ref txc, .int o_74])), (txc, .inl (cy, 44, .inl o_75))] := hD
          refine lv_pop hx hb dX6_write_87 rfl ?_
          refine lv_aload_n hx hb dX6_write_88 rfl (lv_at hl 2 rfl) ?_
          refine cv_tellsHeights (rest := []) (wr := [(tw, .inr (8, [.ref twk, .ref twv, .ref twh, .ref twt, .int tw_size])), (twk, .inl (cy, 8, .inl twk_a)), (twv, .inl (cy, 8, .inl twv_a)), (twh, .inl (cy, 8, .inl twh_a)), (tx, .inr (6, [.ref txc, .int o_74])), (txc, .inl (cy, 44, .inl o_75))]) hlc ⟨hx, hb, hml, hown, htb⟩ (Nat.le_of_ble_eq_true rfl) (Nat.le_of_ble_eq_true rfl) hK hP hD hS hA [4] [0, 1, 2, 3, 5, 6] rfl rfl rfl rfl (by decide) hl.1 rfl (Nat.le_of_ble_eq_true rfl) dX6_write_89 ⟨Nat.le_of_ble_eq_true rfl, Nat.le_of_ble_eq_true rfl⟩ (fun r_77 H locs hw_78 hP hD hS => ?_)
          subst hw_78
          have k_79 : (fn_law_tellsHeights lc) = 0 ∨ (fn_law_tellsHeights lc) = 1 := fn_law_tells_b lc
          have k_80 : 0 ≤ (fn_law_tellsHeights lc).toInt ∧ (fn_law_tellsHeights lc).toInt ≤ 1 := wk_b01 (by assumption)
          have hP : va_P D classes [(tw, .inr (8, [.ref twk, .ref twv, .ref twh, .ref twt, .int tw_size])), (twk, .inl (cy, 8, .inl twk_a)), (twv, .inl (cy, 8, .inl twv_a)), (twh, .inl (cy, 8, .inl twh_a)), (tx, .inr (6, [.ref txc, .int o_74])), (txc, .inl (cy, 44, .inl o_75)), (lw, .inr (lc, []))] H := hP
          have hD : va_D A [(tw, .inr (8, [.ref twk, .ref twv, .ref twh, .ref twt, .int tw_size])), (twk, .inl (cy, 8, .inl twk_a)), (twv, .inl (cy, 8, .inl twv_a)), (twh, .inl (cy, 8, .inl twh_a)), (tx, .inr (6, [.ref txc, .int o_74])), (txc, .inl (cy, 44, .inl o_75)), (lw, .inr (lc, []))] := hD
          refine lv_if_eq (tgt := 109) hx hb dX6_write_92 (by decide) (fun c_81 => ?_) (fun c_81 => ?_)
          · have k_81 : (fn_law_tellsHeights lc).toInt = 0 := wk_eq c_81
            replace hF := hF.trans (pm2_p1 c_81)
            refine lv_iinc (v := (x3_16 + 1)) (lv' := [(3, .int (x3_16 + 1)), (0, .ref tx), (1, .ref lw), (2, .ref tw)]) hx hb dX6_write_109 hl (k := 0) rfl rfl (by decide) rfl (fun ls hl => ?_)
            have k_82 : (x3_16 + 1).toInt = x3_16.toInt + 1 := wk_add x3_16.toInt 1 rfl rfl (by omega) (by omega)
            refine lv_goto (tgt := 16) hx hb dX6_write_112 (by decide) ?_
            exact ih_16 (x3_16 + 1) o_74 o_75 _ _ _ (show 0 ≤ (x3_16 + 1).toInt ∧ (x3_16 + 1).toInt ≤ 8 from by omega) (show 0 ≤ o_74.toInt ∧ o_74.toInt ≤ 44 from by omega) (show 8 - (x3_16 + 1).toInt < ((fu_16 : Nat) : Int) from by omega) hF (wk_sub9 (is := [0, 1, 2, 3, 6, 4, 5]) hP rfl) (hD.sub [0, 1, 2, 3, 6, 4, 5] rfl rfl) hS (lv_sub hl [0, 1, 2, 3] rfl)
          · have k_81 : ¬ (fn_law_tellsHeights lc).toInt = 0 := wk_neq c_81
            replace hF := hF.trans (pm2_n1 c_81)
            refine lv_aload_n hx hb dX6_write_95 rfl (lv_at hl 1 rfl) ?_
            refine lv_bipush (v := 48) hx hb dX6_write_96 (by decide) ?_
            refine lv_aload_n hx hb dX6_write_98 rfl (lv_at hl 3 rfl) ?_
            refine va_get (D := D) (ci := 8) (v := .ref twh) (C := RX8) (T := TX8) (N := 5) hx hb htb inX8 hown hK hP 0 rfl rfl 2 (by decide) (htb _ tw_123) (fun _ h9 => h9) rfl dX6_write_99 ?_
            refine lv_iload_n hx hb dX6_write_102 rfl (lv_at hl 0 rfl) ?_
            refine va_iald hx hb hK hP 3 0 rfl rfl (show vp_in x3_16 8 from vp_in_iff.mpr (show 0 ≤ x3_16.toInt ∧ x3_16.toInt < ((8 : Nat) : Int) from by omega)) dX6_write_103 ?_
            refine lv_iadd hx hb dX6_write_104 ?_
            refine wk_iV (As := [.int (48 + (twh_a x3_16.toNatClampNeg))]) (rest := []) (wc := [(tx, .inr (6, [.ref txc, .int o_74])), (txc, .inl (cy, 44, .inl o_75))]) (wr := [(tw, .inr (8, [.ref twk, .ref twv, .ref twh, .ref twt, .int tw_size])), (twk, .inl (cy, 8, .inl twk_a)), (twv, .inl (cy, 8, .inl twv_a)), (twh, .inl (cy, 8, .inl twh_a)), (lw, .inr (lc, []))]) (n := 1) ⟨hx, hb, hml, hown, htb⟩ (c_X6_add l D cy tx txc o_74 o_75 (48 + (twh_a x3_16.toNatClampNeg)) (show 0 ≤ o_74.toInt ∧ o_74.toInt ≤ 44 from by omega)) tw_290 tw_446 tw_288 tw_289 tw_65 rfl rfl (by decide +kernel) ⟨Nat.le_of_ble_eq_true rfl, Nat.le_of_ble_eq_true rfl⟩ hK hP hD hS hA [4, 5] [0, 1, 2, 3, 6] rfl rfl rfl rfl (by decide) 0 (ci := 6) rfl rfl rfl hl.1 rfl (Nat.le_of_ble_eq_true rfl) dX6_write_105 ⟨Nat.le_of_ble_eq_true rfl, Nat.le_of_ble_eq_true rfl⟩ (fun r_83 u_84 H locs hw_85 hP hD hS => ?_)
            refine W.widen (k := 0) (n := 0) (by decide) (by decide) ?_
            obtain ⟨o_86, o_87⟩ := u_84
            obtain ⟨hw_85, k_88⟩ := hw_85
            have hw_85 : (r_83, o_86, o_87) = (fn_X6_add o_74 o_75 (48 + (twh_a x3_16.toNatClampNeg))) := hw_85
            have k_88 : (0 ≤ o_86.toInt ∧ o_86.toInt ≤ 44) := k_88
            rw [← hw_85] at hF
            rw [pm2_mk r_83 (o_86, o_87), pm2_mk o_86 o_87] at hF
            have hP : va_P D classes [(tw, .inr (8, [.ref twk, .ref twv, .ref twh, .ref twt, .int tw_size])), (twk, .inl (cy, 8, .inl twk_a)), (twv, .inl (cy, 8, .inl twv_a)), (twh, .inl (cy, 8, .inl twh_a)), (lw, .inr (lc, [])), (tx, .inr (6, [.ref txc, .int o_86])), (txc, .inl (cy, 44, .inl o_87))] H := hP
            have hD : va_D A [(tw, .inr (8, [.ref twk, .ref twv, .ref twh, .ref twt, .int tw_size])), (twk, .inl (cy, 8, .inl twk_a)), (twv, .inl (cy, 8, .inl twv_a)), (twh, .inl (cy, 8, .inl twh_a)), (lw, .inr (lc, [])), (tx, .inr (6, [.ref txc, .int o_86])), (txc, .inl (cy, 44, .inl o_87))] := hD
            refine lv_pop hx hb dX6_write_108 rfl ?_
            refine lv_iinc (v := (x3_16 + 1)) (lv' := [(3, .int (x3_16 + 1)), (0, .ref tx), (1, .ref lw), (2, .ref tw)]) hx hb dX6_write_109 hl (k := 0) rfl rfl (by decide) rfl (fun ls hl => ?_)
            have k_89 : (x3_16 + 1).toInt = x3_16.toInt + 1 := wk_add x3_16.toInt 1 rfl rfl (by omega) (by omega)
            refine lv_goto (tgt := 16) hx hb dX6_write_112 (by decide) ?_
            exact ih_16 (x3_16 + 1) o_86 o_87 _ _ _ (show 0 ≤ (x3_16 + 1).toInt ∧ (x3_16 + 1).toInt ≤ 8 from by omega) (show 0 ≤ o_86.toInt ∧ o_86.toInt ≤ 44 from by omega) (show 8 - (x3_16 + 1).toInt < ((fu_16 : Nat) : Int) from by omega) hF hP hD hS (lv_sub hl [0, 1, 2, 3] rfl)
  exact hlp_16 10 0 o_11 o_12 _ _ _ (show 0 ≤ 0 ∧ 0 ≤ 8 from by omega) (show 0 ≤ o_11.toInt ∧ o_11.toInt ≤ 44 from by omega) (show 8 - 0 < ((10 : Nat) : Int) from by omega) hF hP hD hS (lv_sub hl [0, 1, 2, 3] rfl)
