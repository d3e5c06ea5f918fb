def lp_X6_tellTo_13 (tx_size : Int32) (txc_a : Nat → Int32) (tw_size : Int32) (twk_a : Nat → Int32) (twv_a : Nat → Int32) (twh_a : Nat → Int32) (twt_a : Nat → Int32) : Nat → Int32 → Int32 → (Nat → Int32) → (Nat → Int32) → (Nat → Int32) → (Nat → Int32) → Int32 × Int32 × (Nat → Int32) × (Nat → Int32) × (Nat → Int32) × (Nat → Int32)
  | 0, _, _, _, _, _, _ => default
  | fu_13 + 1, x4_13, tw_size_13, twk_a_13, twv_a_13, twh_a_13, twt_a_13 => (if (fn_X6_keysTold tx_size txc_a) ≤ x4_13 then (x4_13, tw_size_13, twk_a_13, twv_a_13, twh_a_13, twt_a_13) else (if (fn_X6_signsOfKey tx_size txc_a) ≤ 3 then (pm2 (fn_X8_insert tw_size_13 twk_a_13 twv_a_13 twh_a_13 twt_a_13 x4_13 (fn_X6_keyAt tx_size txc_a (2 + (x4_13 * ((fn_X6_signsOfKey tx_size txc_a) + 1)))) (fn_X6_digitAt tx_size txc_a ((2 + (x4_13 * ((fn_X6_signsOfKey tx_size txc_a) + 1))) + 2)) 1) (fun o_21 t_ => (pm2 (t_) (fun o_22 t_ => (pm2 (t_) (fun o_23 t_ => (pm2 (t_) (fun o_24 o_25 => (lp_X6_tellTo_13 tx_size txc_a tw_size twk_a twv_a twh_a twt_a fu_13 (x4_13 + 1) o_21 o_22 o_23 o_24 o_25))))))))) else (pm2 (fn_X8_insert tw_size_13 twk_a_13 twv_a_13 twh_a_13 twt_a_13 x4_13 (fn_X6_keyAt tx_size txc_a (2 + (x4_13 * ((fn_X6_signsOfKey tx_size txc_a) + 1)))) (fn_X6_digitAt tx_size txc_a ((2 + (x4_13 * ((fn_X6_signsOfKey tx_size txc_a) + 1))) + 2)) (fn_X6_digitAt tx_size txc_a ((2 + (x4_13 * ((fn_X6_signsOfKey tx_size txc_a) + 1))) + 3))) (fun o_41 t_ => (pm2 (t_) (fun o_42 t_ => (pm2 (t_) (fun o_43 t_ => (pm2 (t_) (fun o_44 o_45 => (lp_X6_tellTo_13 tx_size txc_a tw_size twk_a twv_a twh_a twt_a fu_13 (x4_13 + 1) o_41 o_42 o_43 o_44 o_45)))))))))))
termination_by n => n
def fn_X6_tellTo (tx_size : Int32) (txc_a : Nat → Int32) (tw_size : Int32) (twk_a : Nat → Int32) (twv_a : Nat → Int32) (twh_a : Nat → Int32) (twt_a : Nat → Int32) : Int32 × (Nat → Int32) × (Nat → Int32) × (Nat → Int32) × (Nat → Int32) := (pm2 (lp_X6_tellTo_13 tx_size txc_a tw_size twk_a twv_a twh_a twt_a 10 0 tw_size twk_a twv_a twh_a twt_a) (fun x4_13 t_ => (pm2 (t_) (fun tw_size_13 t_ => (pm2 (t_) (fun twk_a_13 t_ => (pm2 (t_) (fun twv_a_13 t_ => (pm2 (t_) (fun twh_a_13 twt_a_13 => (tw_size_13, twk_a_13, twv_a_13, twh_a_13, twt_a_13)))))))))))
theorem dX6_tellTo_0 : decode cX6_tellTo 0 = .ok (.aload_n 0, 1) := by decide +kernel
theorem dX6_tellTo_1 : decode cX6_tellTo 1 = .ok (.invokevirtual 59, 3) := by decide +kernel
theorem dX6_tellTo_4 : decode cX6_tellTo 4 = .ok (.istore_n 2, 1) := by decide +kernel
theorem dX6_tellTo_5 : decode cX6_tellTo 5 = .ok (.aload_n 0, 1) := by decide +kernel
theorem dX6_tellTo_6 : decode cX6_tellTo 6 = .ok (.invokevirtual 49, 3) := by decide +kernel
theorem dX6_tellTo_9 : decode cX6_tellTo 9 = .ok (.istore_n 3, 1) := by decide +kernel
theorem dX6_tellTo_10 : decode cX6_tellTo 10 = .ok (.iconst 0, 1) := by decide +kernel
theorem dX6_tellTo_11 : decode cX6_tellTo 11 = .ok (.istore 4, 2) := by decide +kernel
theorem dX6_tellTo_13 : decode cX6_tellTo 13 = .ok (.iload 4, 2) := by decide +kernel
theorem dX6_tellTo_15 : decode cX6_tellTo 15 = .ok (.iload_n 2, 1) := by decide +kernel
theorem dX6_tellTo_16 : decode cX6_tellTo 16 = .ok (.if_icmp .ge 60, 3) := by decide +kernel
theorem dX6_tellTo_19 : decode cX6_tellTo 19 = .ok (.iconst 2, 1) := by decide +kernel
theorem dX6_tellTo_20 : decode cX6_tellTo 20 = .ok (.iload 4, 2) := by decide +kernel
theorem dX6_tellTo_22 : decode cX6_tellTo 22 = .ok (.iload_n 3, 1) := by decide +kernel
theorem dX6_tellTo_23 : decode cX6_tellTo 23 = .ok (.iconst 1, 1) := by decide +kernel
theorem dX6_tellTo_24 : decode cX6_tellTo 24 = .ok (.iadd, 1) := by decide +kernel
theorem dX6_tellTo_25 : decode cX6_tellTo 25 = .ok (.imul, 1) := by decide +kernel
theorem dX6_tellTo_26 : decode cX6_tellTo 26 = .ok (.iadd, 1) := by decide +kernel
theorem dX6_tellTo_27 : decode cX6_tellTo 27 = .ok (.istore 5, 2) := by decide +kernel
theorem dX6_tellTo_29 : decode cX6_tellTo 29 = .ok (.iload_n 3, 1) := by decide +kernel
theorem dX6_tellTo_30 : decode cX6_tellTo 30 = .ok (.iconst 3, 1) := by decide +kernel
theorem dX6_tellTo_31 : decode cX6_tellTo 31 = .ok (.if_icmp .le 14, 3) := by decide +kernel
theorem dX6_tellTo_34 : decode cX6_tellTo 34 = .ok (.aload_n 0, 1) := by decide +kernel
theorem dX6_tellTo_35 : decode cX6_tellTo 35 = .ok (.iload 5, 2) := by decide +kernel
theorem dX6_tellTo_37 : decode cX6_tellTo 37 = .ok (.iconst 3, 1) := by decide +kernel
theorem dX6_tellTo_38 : decode cX6_tellTo 38 = .ok (.iadd, 1) := by decide +kernel
theorem dX6_tellTo_39 : decode cX6_tellTo 39 = .ok (.invokevirtual 62, 3) := by decide +kernel
theorem dX6_tellTo_42 : decode cX6_tellTo 42 = .ok (.goto 4, 3) := by decide +kernel
theorem dX6_tellTo_45 : decode cX6_tellTo 45 = .ok (.iconst 1, 1) := by decide +kernel
theorem dX6_tellTo_46 : decode cX6_tellTo 46 = .ok (.istore 6, 2) := by decide +kernel
theorem dX6_tellTo_48 : decode cX6_tellTo 48 = .ok (.aload_n 1, 1) := by decide +kernel
theorem dX6_tellTo_49 : decode cX6_tellTo 49 = .ok (.iload 4, 2) := by decide +kernel
theorem dX6_tellTo_51 : decode cX6_tellTo 51 = .ok (.aload_n 0, 1) := by decide +kernel
theorem dX6_tellTo_52 : decode cX6_tellTo 52 = .ok (.iload 5, 2) := by decide +kernel
theorem dX6_tellTo_54 : decode cX6_tellTo 54 = .ok (.invokevirtual 65, 3) := by decide +kernel
theorem dX6_tellTo_57 : decode cX6_tellTo 57 = .ok (.aload_n 0, 1) := by decide +kernel
theorem dX6_tellTo_58 : decode cX6_tellTo 58 = .ok (.iload 5, 2) := by decide +kernel
theorem dX6_tellTo_60 : decode cX6_tellTo 60 = .ok (.iconst 2, 1) := by decide +kernel
theorem dX6_tellTo_61 : decode cX6_tellTo 61 = .ok (.iadd, 1) := by decide +kernel
theorem dX6_tellTo_62 : decode cX6_tellTo 62 = .ok (.invokevirtual 62, 3) := by decide +kernel
theorem dX6_tellTo_65 : decode cX6_tellTo 65 = .ok (.iload 6, 2) := by decide +kernel
theorem dX6_tellTo_67 : decode cX6_tellTo 67 = .ok (.invokevirtual 68, 3) := by decide +kernel
theorem dX6_tellTo_70 : decode cX6_tellTo 70 = .ok (.iinc 4 1, 3) := by decide +kernel
theorem dX6_tellTo_73 : decode cX6_tellTo 73 = .ok (.goto (-60), 3) := by decide +kernel
theorem dX6_tellTo_76 : decode cX6_tellTo 76 = .ok (.return_, 1) := by decide +kernel
set_option maxHeartbeats 4000000 in
set_option maxRecDepth 100000 in
theorem c_X6_tellTo (l : Launch) (D : va_G) (cy : ClassId) (tx txc tw twk twv twh twt : Nat) (tx_size : Int32) (txc_a : Nat → Int32) (tw_size : Int32) (twk_a : Nat → Int32) (twv_a : Nat → Int32) (twh_a : Nat → Int32) (twt_a : Nat → Int32)  (g_0 : 0 ≤ tx_size.toInt ∧ tx_size.toInt ≤ 44) (g_1 : 0 ≤ tw_size.toInt ∧ tw_size.toInt ≤ 8) (g_2 : tw_size.toInt = 0) : wk_Cv l yX6_tellTo cX6_tellTo 7 none { frames := 5, cells := 0, slots := 0, locals := 113 } D cy [.ref tx, .ref tw] [(tx, .inr (6, [.ref txc, .int tx_size])), (txc, .inl (cy, 44, .inl txc_a)), (tw, .inr (8, [.ref twk, .ref twv, .ref twh, .ref twt, .int tw_size])), (twk, .inl (cy, 8, .inl twk_a)), (twv, .inl (cy, 8, .inl twv_a)), (twh, .inl (cy, 8, .inl twh_a)), (twt, .inl (cy, 8, .inl twt_a))] 0 0 (fun (u : Int32 × (Nat → Int32) × (Nat → Int32) × (Nat → Int32) × (Nat → Int32)) => u = (fn_X6_tellTo tx_size txc_a tw_size twk_a twv_a twh_a twt_a) ∧ (0 ≤ u.1.toInt ∧ u.1.toInt ≤ 8) ∧ (u.1.toInt = (fn_X6_keysTold tx_size txc_a).toInt ∨ (fn_X6_keysTold tx_size txc_a).toInt < 0)) (fun u => [(tx, .inr (6, [.ref txc, .int tx_size])), (txc, .inl (cy, 44, .inl txc_a)), (tw, .inr (8, [.ref twk, .ref twv, .ref twh, .ref twt, .int u.1])), (twk, .inl (cy, 8, .inl u.2.1)), (twv, .inl (cy, 8, .inl u.2.2.1)), (twh, .inl (cy, 8, .inl u.2.2.2.1)), (twt, .inl (cy, 8, .inl u.2.2.2.2))]) := by
  refine wk_mk2Cv (by decide) (Nat.le_of_ble_eq_true rfl) ?_
  intro p e s m args below meth c A ls Q B hA hK hP hD hS hl hret
  obtain ⟨hx, hb, hr, hlocks, hml, hown, htb, hin⟩ := B
  have hl : lv_has ls 7 [(0, .ref tx), (1, .ref tw)] := hl
  have hF : (fn_X6_tellTo tx_size txc_a tw_size twk_a twv_a twh_a twt_a) = (fn_X6_tellTo tx_size txc_a tw_size twk_a twv_a twh_a twt_a) := rfl
  conv at hF => rhs; unfold fn_X6_tellTo
  refine lv_aload_n hx hb dX6_tellTo_0 rfl (lv_at hl 0 rfl) ?_
  refine wk_iV (As := []) (rest := []) (wc := [(tx, .inr (6, [.ref txc, .int tx_size])), (txc, .inl (cy, 44, .inl txc_a))]) (wr := [(tw, .inr (8, [.ref twk, .ref twv, .ref twh, .ref twt, .int tw_size])), (twk, .inl (cy, 8, .inl twk_a)), (twv, .inl (cy, 8, .inl twv_a)), (twh, .inl (cy, 8, .inl twh_a)), (twt, .inl (cy, 8, .inl twt_a))]) (n := 0) ⟨hx, hb, hml, hown, htb⟩ (c_X6_keysTold l D cy tx txc tx_size txc_a  (show 0 ≤ tx_size.toInt ∧ tx_size.toInt ≤ 44 from by omega)) tw_330 tw_382 tw_328 tw_329 tw_65 rfl rfl (by decide +kernel) ⟨Nat.le_of_ble_eq_true rfl, Nat.le_of_ble_eq_true rfl⟩ hK hP hD hS hA [0, 1] [2, 3, 4, 5, 6] rfl rfl rfl rfl (by decide) 0 (ci := 6) rfl rfl rfl hl.1 rfl (Nat.le_of_ble_eq_true rfl) dX6_tellTo_1 ⟨Nat.le_of_ble_eq_true rfl, Nat.le_of_ble_eq_true rfl⟩ (fun r_1 u_2 H locs hw_3 hP hD hS => ?_)
  refine W.widen (k := 0) (n := 0) (by decide) (by decide) ?_
  obtain ⟨hw_3, k_4⟩ := hw_3
  have hw_3 : r_1 = (fn_X6_keysTold tx_size txc_a) := hw_3
  subst hw_3
  have k_4 : ((-1) ≤ (fn_X6_keysTold tx_size txc_a).toInt ∧ (fn_X6_keysTold tx_size txc_a).toInt ≤ 8) := k_4
  have hP : va_P D classes [(tw, .inr (8, [.ref twk, .ref twv, .ref twh, .ref twt, .int tw_size])), (twk, .inl (cy, 8, .inl twk_a)), (twv, .inl (cy, 8, .inl twv_a)), (twh, .inl (cy, 8, .inl twh_a)), (twt, .inl (cy, 8, .inl twt_a)), (tx, .inr (6, [.ref txc, .int tx_size])), (txc, .inl (cy, 44, .inl txc_a))] H := hP
  have hD : va_D A [(tw, .inr (8, [.ref twk, .ref twv, .ref twh, .ref twt, .int tw_size])), (twk, .inl (cy, 8, .inl twk_a)), (twv, .inl (cy, 8, .inl twv_a)), (twh, .inl (cy, 8, .inl twh_a)), (twt, .inl (cy, 8, .inl twt_a)), (tx, .inr (6, [.ref txc, .int tx_size])), (txc, .inl (cy, 44, .inl txc_a))] := hD
  refine lv_istore_n (lv' := [(2, .int (fn_X6_keysTold tx_size txc_a)), (0, .ref tx), (1, .ref tw)]) hx hb dX6_tellTo_4 rfl hl (by decide) rfl (fun ls hl => ?_)
  refine lv_aload_n hx hb dX6_tellTo_5 rfl (lv_at hl 1 rfl) ?_
  refine wk_iV (As := []) (rest := []) (wc := [(tx, .inr (6, [.ref txc, .int tx_size])), (txc, .inl (cy, 44, .inl txc_a))]) (wr := [(tw, .inr (8, [.ref twk, .ref twv, .ref twh, .ref twt, .int tw_size])), (twk, .inl (cy, 8, .inl twk_a)), (twv, .inl (cy, 8, .inl twv_a)), (twh, .inl (cy, 8, .inl twh_a)), (twt, .inl (cy, 8, .inl twt_a))]) (n := 0) ⟨hx, hb, hml, hown, htb⟩ (c_X6_signsOfKey l D cy tx txc tx_size txc_a  (show 0 ≤ tx_size.toInt ∧ tx_size.toInt ≤ 44 from by omega)) tw_310 tw_307 tw_309 tw_0 tw_65 rfl rfl (by decide +kernel) ⟨Nat.le_of_ble_eq_true rfl, Nat.le_of_ble_eq_true rfl⟩ hK hP hD hS hA [5, 6] [0, 1, 2, 3, 4] rfl rfl rfl rfl (by decide) 0 (ci := 6) rfl rfl rfl hl.1 rfl (Nat.le_of_ble_eq_true rfl) dX6_tellTo_6 ⟨Nat.le_of_ble_eq_true rfl, Nat.le_of_ble_eq_true rfl⟩ (fun r_5 u_6 H locs hw_7 hP hD hS => ?_)
  refine W.widen (k := 0) (n := 0) (by decide) (by decide) ?_
  obtain ⟨hw_7, k_8⟩ := hw_7
  have hw_7 : r_5 = (fn_X6_signsOfKey tx_size txc_a) := hw_7
  subst hw_7
  have k_8 : ((-1) ≤ (fn_X6_signsOfKey tx_size txc_a).toInt ∧ (fn_X6_signsOfKey tx_size txc_a).toInt ≤ 4) := k_8
  have hP : va_P D classes [(tw, .inr (8, [.ref twk, .ref twv, .ref twh, .ref twt, .int tw_size])), (twk, .inl (cy, 8, .inl twk_a)), (twv, .inl (cy, 8, .inl twv_a)), (twh, .inl (cy, 8, .inl twh_a)), (twt, .inl (cy, 8, .inl twt_a)), (tx, .inr (6, [.ref txc, .int tx_size])), (txc, .inl (cy, 44, .inl txc_a))] H := hP
  have hD : va_D A [(tw, .inr (8, [.ref twk, .ref twv, .ref twh, .ref twt, .int tw_size])), (twk, .inl (cy, 8, .inl twk_a)), (twv, .inl (cy, 8, .inl twv_a)), (twh, .inl (cy, 8, .inl twh_a)), (twt, .inl (cy, 8, .inl twt_a)), (tx, .inr (6, [.ref txc, .int tx_size])), (txc, .inl (cy, 44, .inl txc_a))] := hD
  refine lv_istore_n (lv' := [(3, .int (fn_X6_signsOfKey tx_size txc_a)), (2, .int (fn_X6_keysTold tx_size txc_a)), (0, .ref tx), (1, .ref tw)]) hx hb dX6_tellTo_9 rfl hl (by decide) rfl (fun ls hl => ?_)
  refine lv_iconst (v := 0) hx hb dX6_tellTo_10 (by decide) ?_
  refine lv_istore (lv' := [(4, .int 0), (3, .int (fn_X6_signsOfKey tx_size txc_a)), (2, .int (fn_X6_keysTold tx_size txc_a)), (0, .ref tx), (1, .ref tw)]) hx hb dX6_tellTo_11 hl (by decide) rfl (fun ls hl => ?_)
  have hlp_13 : ∀ (fu_13 : Nat) (x4_13 : Int32) (tw_size_13 : Int32) (twk_a_13 : Nat → Int32) (twv_a_13 : Nat → Int32) (twh_a_13 : Nat → Int32) (twt_a_13 : Nat → Int32) (H : Heap) (locs : List Loc) (ls : Array Slot), (0 ≤ x4_13.toInt ∧ x4_13.toInt ≤ 8) → (0 ≤ tw_size_13.toInt ∧ tw_size_13.toInt ≤ 8) → (tw_size_13.toInt = x4_13.toInt) → (x4_13.toInt ≤ (fn_X6_keysTold tx_size txc_a).toInt ∨ x4_13.toInt = 0) → 8 - x4_13.toInt < (fu_13 : Int) → ((fn_X6_tellTo tx_size txc_a tw_size twk_a twv_a twh_a twt_a) = (pm2 (lp_X6_tellTo_13 tx_size txc_a tw_size twk_a twv_a twh_a twt_a fu_13 x4_13 tw_size_13 twk_a_13 twv_a_13 twh_a_13 twt_a_13) (fun x4_13 t_ => (pm2 (t_) (fun tw_size_13 t_ => (pm2 (t_) (fun twk_a_13 t_ => (pm2 (t_) (fun twv_a_13 t_ => (pm2 (t_) (fun twh_a_13 twt_a_13 => (tw_size_13, twk_a_13, twv_a_13, twh_a_13, twt_a_13)))))))))))) → va_P D classes [(tw, .inr (8, [.ref twk, .ref twv, .ref twh, .ref twt, .int tw_size_13])), (twk, .inl (cy, 8, .inl twk_a_13)), (twv, .inl (cy, 8, .inl twv_a_13)), (twh, .inl (cy, 8, .inl twh_a_13)), (twt, .inl (cy, 8, .inl twt_a_13)), (tx, .inr (6, [.ref txc, .int tx_size])), (txc, .inl (cy, 44, .inl txc_a))] H → va_D A [(tw, .inr (8, [.ref twk, .ref twv, .ref twh, .ref twt, .int tw_size_13])), (twk, .inl (cy, 8, .inl twk_a_13)), (twv, .inl (cy, 8, .inl twv_a_13)), (twh, .inl (cy, 8, .inl twh_a_13)), (twt, .inl (cy, 8, .inl twt_a_13)), (tx, .inr (6, [.ref txc, .int tx_size])), (txc, .inl (cy, 44, .inl txc_a))] → va_S A s.heap H locs → lv_has ls 7 [(4, .int x4_13), (3, .int (fn_X6_signsOfKey tx_size txc_a)), (2, .int (fn_X6_keysTold tx_size txc_a)), (0, .ref tx), (1, .ref tw)] → W p l e { frames := 5, cells := 0, slots := 0, locals := 113 } s m args below meth c H locs 0 0 Q (F0 m 13 ls []) := by
    intro fu_13
    induction fu_13 with
    | zero =>
      intro x4_13 tw_size_13 twk_a_13 twv_a_13 twh_a_13 twt_a_13 H locs ls hi_13_0 hi_13_1 hi_13_2 hi_13_3 hm hF hP hD hS hl
      exfalso; omega
    | succ fu_13 ih_13 =>
      intro x4_13 tw_size_13 twk_a_13 twv_a_13 twh_a_13 twt_a_13 H locs ls hi_13_0 hi_13_1 hi_13_2 hi_13_3 hm hF hP hD hS hl
      rw [lp_X6_tellTo_13] at hF
      refine lv_iload hx hb dX6_tellTo_13 (lv_at hl 0 rfl) ?_
      refine lv_iload_n hx hb dX6_tellTo_15 rfl (lv_at hl 2 rfl) ?_
      refine lv_icmp_ge (tgt := 76) hx hb dX6_tellTo_16 (by decide) (fun c_9 => ?_) (fun c_9 => ?_)
      · have k_9 : (fn_X6_keysTold tx_size txc_a).toInt ≤ x4_13.toInt := wk_le c_9
        replace hF := hF.trans (pm2_p1 c_9)
        rw [pm2_mk x4_13 (tw_size_13, twk_a_13, twv_a_13, twh_a_13, twt_a_13), pm2_mk tw_size_13 (twk_a_13, twv_a_13, twh_a_13, twt_a_13), pm2_mk twk_a_13 (twv_a_13, twh_a_13, twt_a_13), pm2_mk twv_a_13 (twh_a_13, twt_a_13), pm2_mk twh_a_13 twt_a_13] at hF
        refine W.widen (k := 0) (n := 0) (by decide) (by decide) ?_
        exact hret (tw_size_13, twk_a_13, twv_a_13, twh_a_13, twt_a_13) _ _ _ 76 (wk_sub9 (is := [5, 6, 0, 1, 2, 3, 4]) hP rfl) (hD.sub [5, 6, 0, 1, 2, 3, 4] rfl rfl) hS dX6_tellTo_76 ⟨hF.symm, (show (0 ≤ tw_size_13.toInt ∧ tw_size_13.toInt ≤ 8) from by omega), (show (tw_size_13.toInt = (fn_X6_keysTold tx_size txc_a).toInt ∨ (fn_X6_keysTold tx_size txc_a).toInt < 0) from by omega)⟩
      · have k_9 : ¬ (fn_X6_keysTold tx_size txc_a).toInt ≤ x4_13.toInt := wk_nle c_9
        replace hF := hF.trans (pm2_n1 c_9)
        refine lv_iconst (v := 2) hx hb dX6_tellTo_19 (by decide) ?_
        refine lv_iload hx hb dX6_tellTo_20 (lv_at hl 0 rfl) ?_
        refine lv_iload_n hx hb dX6_tellTo_22 rfl (lv_at hl 1 rfl) ?_
        refine lv_iconst (v := 1) hx hb dX6_tellTo_23 (by decide) ?_
        refine lv_iadd hx hb dX6_tellTo_24 ?_
        have k_10 : ((fn_X6_signsOfKey tx_size txc_a) + 1).toInt = (fn_X6_signsOfKey tx_size txc_a).toInt + 1 := wk_add (fn_X6_signsOfKey tx_size txc_a).toInt 1 rfl rfl (by omega) (by omega)
        refine lv_imul hx hb dX6_tellTo_25 ?_
        refine lv_iadd hx hb dX6_tellTo_26 ?_
        refine lv_istore (lv' := [(5, .int (2 + (x4_13 * ((fn_X6_signsOfKey tx_size txc_a) + 1)))), (4, .int x4_13), (3, .int (fn_X6_signsOfKey tx_size txc_a)), (2, .int (fn_X6_keysTold tx_size txc_a)), (0, .ref tx), (1, .ref tw)]) hx hb dX6_tellTo_27 hl (by decide) rfl (fun ls hl => ?_)
        refine lv_iload_n hx hb dX6_tellTo_29 rfl (lv_at hl 2 rfl) ?_
        refine lv_iconst (v := 3) hx hb dX6_tellTo_30 (by decide) ?_
        refine lv_icmp_le (tgt := 45) hx hb dX6_tellTo_31 (by decide) (fun c_11 => ?_) (fun c_11 => ?_)
        · have k_11 : (fn_X6_signsOfKey tx_size txc_a).toInt ≤ 3 := wk_le c_11
          replace hF := hF.trans (pm2_p1 c_11)
          refine lv_iconst (v := 1) hx hb dX6_tellTo_45 (by decide) ?_
          refine lv_istore (lv' := [(6, .int 1), (5, .int (2 + (x4_13 * ((fn_X6_signsOfKey tx_size txc_a) + 1)))), (4, .int x4_13), (3, .int (fn_X6_signsOfKey tx_size txc_a)), (2, .int (fn_X6_keysTold tx_size txc_a)), (0, .ref tx), (1, .ref tw)]) hx hb dX6_tellTo_46 hl (by decide) rfl (fun ls hl => ?_)
          refine lv_aload_n hx hb dX6_tellTo_48 rfl (lv_at hl 6 rfl) ?_
          refine lv_iload hx hb dX6_tellTo_49 (lv_at hl 2 rfl) ?_
          refine lv_aload_n hx hb dX6_tellTo_51 rfl (lv_at hl 5 rfl) ?_
          refine lv_iload hx hb dX6_tellTo_52 (lv_at hl 1 rfl) ?_
          refine wk_iV (As := [.int (2 + (x4_13 * ((fn_X6_signsOfKey tx_size txc_a) + 1)))]) (rest := [.int x4_13, .ref tw]) (wc := [(tx, .inr (6, [.ref txc, .int tx_size])), (txc, .inl (cy, 44, .inl txc_a))]) (wr := [(tw, .inr (8, [.ref twk, .ref twv, .ref twh, .ref twt, .int tw_size_13])), (twk, .inl (cy, 8, .inl twk_a_13)), (twv, .inl (cy, 8, .inl twv_a_13)), (twh, .inl (cy, 8, .inl twh_a_13)), (twt, .inl (cy, 8, .inl twt_a_13))]) (n := 1) ⟨hx, hb, hml, hown, htb⟩ (c_X6_keyAt l D cy tx txc tx_size txc_a (2 + (x4_13 * ((fn_X6_signsOfKey tx_size txc_a) + 1))) (show 0 ≤ tx_size.toInt ∧ tx_size.toInt ≤ 44 from by omega)) tw_318 tw_315 tw_317 tw_2 tw_65 rfl rfl (by decide +kernel) ⟨Nat.le_of_ble_eq_true rfl, Nat.le_of_ble_eq_true rfl⟩ hK hP hD hS hA [5, 6] [0, 1, 2, 3, 4] rfl rfl rfl rfl (by decide) 0 (ci := 6) rfl rfl rfl hl.1 rfl (Nat.le_of_ble_eq_true rfl) dX6_tellTo_54 ⟨Nat.le_of_ble_eq_true rfl, Nat.le_of_ble_eq_true rfl⟩ (fun r_12 u_13 H locs hw_14 hP hD hS => ?_)
          refine W.widen (k := 0) (n := 0) (by decide) (by decide) ?_
          have hw_14 : r_12 = (fn_X6_keyAt tx_size txc_a (2 + (x4_13 * ((fn_X6_signsOfKey tx_size txc_a) + 1)))) := hw_14
          subst hw_14
          have hP : va_P D classes [(tw, .inr (8, [.ref twk, .ref twv, .ref twh, .ref twt, .int tw_size_13])), (twk, .inl (cy, 8, .inl twk_a_13)), (twv, .inl (cy, 8, .inl twv_a_13)), (twh, .inl (cy, 8, .inl twh_a_13)), (twt, .inl (cy, 8, .inl twt_a_13)), (tx, .inr (6, [.ref txc, .int tx_size])), (txc, .inl (cy, 44, .inl txc_a))] H := hP
          have hD : va_D A [(tw, .inr (8, [.ref twk, .ref twv, .ref twh, .ref twt, .int tw_size_13])), (twk, .inl (cy, 8, .inl twk_a_13)), (twv, .inl (cy, 8, .inl twv_a_13)), (twh, .inl (cy, 8, .inl twh_a_13)), (twt, .inl (cy, 8, .inl twt_a_13)), (tx, .inr (6, [.ref txc, .int tx_size])), (txc, .inl (cy, 44, .inl txc_a))] := hD
          refine lv_aload_n hx hb dX6_tellTo_57 rfl (lv_at hl 5 rfl) ?_
          refine lv_iload hx hb dX6_tellTo_58 (lv_at hl 1 rfl) ?_
          refine lv_iconst (v := 2) hx hb dX6_tellTo_60 (by decide) ?_
          refine lv_iadd hx hb dX6_tellTo_61 ?_
          refine wk_iV (As := [.int ((2 + (x4_13 * ((fn_X6_signsOfKey tx_size txc_a) + 1))) + 2)]) (rest := [.int (fn_X6_keyAt tx_size txc_a (2 + (x4_13 * ((fn_X6_signsOfKey tx_size txc_a) + 1)))), .int x4_13, .ref tw]) (wc := [(tx, .inr (6, [.ref txc, .int tx_size])), (txc, .inl (cy, 44, .inl txc_a))]) (wr := [(tw, .inr (8, [.ref twk, .ref twv, .ref twh, .ref twt, .int tw_size_13])), (twk, .inl (cy, 8, .inl twk_a_13)), (twv, .inl (cy, 8, .inl twv_a_13)), (twh, .inl (cy, 8, .inl twh_a_13)), (twt, .inl (cy, 8, .inl twt_a_13))]) (n := 1) ⟨hx, hb, hml, hown, htb⟩ (c_X6_digitAt l D cy tx txc tx_size txc_a ((2 + (x4_13 * ((fn_X6_signsOfKey tx_size txc_a) + 1))) + 2) (show 0 ≤ tx_size.toInt ∧ tx_size.toInt ≤ 44 from by omega)) tw_322 tw_319 tw_321 tw_3 tw_65 rfl rfl (by decide +kernel) ⟨Nat.le_of_ble_eq_true rfl, Nat.le_of_ble_eq_true rfl⟩ hK hP hD hS hA [5, 6] [0, 1, 2, 3, 4] rfl rfl rfl rfl (by decide) 0 (ci := 6) rfl rfl rfl hl.1 rfl (Nat.le_of_ble_eq_true rfl) dX6_tellTo_62 ⟨Nat.le_of_ble_eq_true rfl, Nat.le_of_ble_eq_true rfl⟩ (fun r_15 u_16 H locs hw_17 hP hD hS => ?_)
          refine W.widen (k := 0) (n := 0) (by decide) (by decide) ?_
          have hw_17 : r_15 = (fn_X6_digitAt tx_size txc_a ((2 + (x4_13 * ((fn_X6_signsOfKey tx_size txc_a) + 1))) + 2)) := hw_17
          subst hw_17
          have hP : va_P D classes [(tw, .inr (8, [.ref twk, .ref twv, .ref twh, .ref twt, .int tw_size_13])), (twk, .inl (cy, 8, .inl twk_a_13)), (twv, .inl (cy, 8, .inl twv_a_13)), (twh, .inl (cy, 8, .inl twh_a_13)), (twt, .inl (cy, 8, .inl twt_a_13)), (tx, .inr (6, [.ref txc, .int tx_size])), (txc, .inl (cy, 44, .inl txc_a))] H := hP
          have hD : va_D A [(tw, .inr (8, [.ref twk, .ref twv, .ref twh, .ref twt, .int tw_size_13])), (twk, .inl (cy, 8, .inl twk_a_13)), (twv, .inl (cy, 8, .inl twv_a_13)), (twh, .inl (cy, 8, .inl twh_a_13)), (twt, .inl (cy, 8, .inl twt_a_13)), (tx, .inr (6, [.ref txc, .int tx_size])), (txc, .inl (cy, 44, .inl txc_a))] := hD
          refine lv_iload hx hb dX6_tellTo_65 (lv_at hl 0 rfl) ?_
          refine wk_vV (As := [.int x4_13, .int (fn_X6_keyAt tx_size txc_a (2 + (x4_13 * ((fn_X6_signsOfKey tx_size txc_a) + 1)))), .int (fn_X6_digitAt tx_size txc_a ((2 + (x4_13 * ((fn_X6_signsOfKey tx_size txc_a) + 1))) + 2)), .int 1]) (rest := []) (wc := [(tw, .inr (8, [.ref twk, .ref twv, .ref twh, .ref twt, .int tw_size_13])), (twk, .inl (cy, 8, .inl twk_a_13)), (twv, .inl (cy, 8, .inl twv_a_13)), (twh, .inl (cy, 8, .inl twh_a_13)), (twt, .inl (cy, 8, .inl twt_a_13))]) (wr := [(tx, .inr (6, [.ref txc, .int tx_size])), (txc, .inl (cy, 44, .inl txc_a))]) (n := 4) ⟨hx, hb, hml, hown, htb⟩ (c_X8_insert l D cy tw twk twv twh twt tw_size_13 twk_a_13 twv_a_13 twh_a_13 twt_a_13 x4_13 (fn_X6_keyAt tx_size txc_a (2 + (x4_13 * ((fn_X6_signsOfKey tx_size txc_a) + 1)))) (fn_X6_digitAt tx_size txc_a ((2 + (x4_13 * ((fn_X6_signsOfKey tx_size txc_a) + 1))) + 2)) 1 (show 0 ≤ tw_size_13.toInt ∧ tw_size_13.toInt ≤ 8 from by omega)) tw_386 tw_383 tw_384 tw_385 tw_67 rfl rfl (by decide +kernel) ⟨Nat.le_of_ble_eq_true rfl, Nat.le_of_ble_eq_true rfl⟩ hK hP hD hS hA [0, 1, 2, 3, 4] [5, 6] rfl rfl rfl rfl (by decide) 0 (ci := 8) rfl rfl rfl hl.1 rfl (Nat.le_of_ble_eq_true rfl) dX6_tellTo_67 ⟨Nat.le_of_ble_eq_true rfl, Nat.le_of_ble_eq_true rfl⟩ (fun u_19 H locs hw_20 hP hD hS => ?_)
          refine W.widen (k := 0) (n := 0) (by decide) (by decide) ?_
          obtain ⟨o_21, o_22, o_23, o_24, o_25⟩ := u_19
          obtain ⟨hw_20, k_26, k_27⟩ := hw_20
          have hw_20 : (o_21, o_22, o_23, o_24, o_25) = (fn_X8_insert tw_size_13 twk_a_13 twv_a_13 twh_a_13 twt_a_13 x4_13 (fn_X6_keyAt tx_size txc_a (2 + (x4_13 * ((fn_X6_signsOfKey tx_size txc_a) + 1)))) (fn_X6_digitAt tx_size txc_a ((2 + (x4_13 * ((fn_X6_signsOfKey tx_size txc_a) + 1))) + 2)) 1) := hw_20
          have k_26 : (0 ≤ o_21.toInt ∧ o_21.toInt ≤ 8) := k_26
          have k_27 : (¬ (x4_13.toInt = tw_size_13.toInt ∧ tw_size_13.toInt ≤ 7) ∨ o_21.toInt = tw_size_13.toInt + 1) := k_27
          rw [← hw_20] at hF
          rw [pm2_mk o_21 (o_22, o_23, o_24, o_25), pm2_mk o_22 (o_23, o_24, o_25), pm2_mk o_23 (o_24, o_25), pm2_mk o_24 o_25] at hF
          have hP : va_P D classes [(tx, .inr (6, [.ref txc, .int tx_size])), (txc, .inl (cy, 44, .inl txc_a)), (tw, .inr (8, [.ref twk, .ref twv, .ref twh, .ref twt, .int o_21])), (twk, .inl (cy, 8, .inl o_22)), (twv, .inl (cy, 8, .inl o_23)), (twh, .inl (cy, 8, .inl o_24)), (twt, .inl (cy, 8, .inl o_25))] H := hP
          have hD : va_D A [(tx, .inr (6, [.ref txc, .int tx_size])), (txc, .inl (cy, 44, .inl txc_a)), (tw, .inr (8, [.ref twk, .ref twv, .ref twh, .ref twt, .int o_21])), (twk, .inl (cy, 8, .inl o_22)), (twv, .inl (cy, 8, .inl o_23)), (twh, .inl (cy, 8, .inl o_24)), (twt, .inl (cy, 8, .inl o_25))] := hD
          refine lv_iinc (v := (x4_13 + 1)) (lv' := [(4, .int (x4_13 + 1)), (6, .int 1), (5, .int (2 + (x4_13 * ((fn_X6_signsOfKey tx_size txc_a) + 1)))), (3, .int (fn_X6_signsOfKey tx_size txc_a)), (2, .int (fn_X6_keysTold tx_size txc_a)), (0, .ref tx), (1, .ref tw)]) hx hb dX6_tellTo_70 hl (k := 2) rfl rfl (by decide) rfl (fun ls hl => ?_)
          have k_28 : (x4_13 + 1).toInt = x4_13.toInt + 1 := wk_add x4_13.toInt 1 rfl rfl (by omega) (by omega)
          refine lv_goto (tgt := 13) hx hb dX6_tellTo_73 (by decide) ?_
          exact ih_13 (x4_13 + 1) o_21 o_22 o_23 o_24 o_25 _ _ _ (show 0 ≤ (x4_13 + 1).toInt ∧ (x4_13 + 1).toInt ≤ 8 from by omega) (show 0 ≤ o_21.toInt ∧ o_21.toInt ≤ 8 from by omega) (show o_21.toInt = (x4_13 + 1).toInt from by omega) (show (x4_13 + 1).toInt ≤ (fn_X6_keysTold tx_size txc_a).toInt ∨ (x4_13 + 1).toInt = 0 from by omega) (show 8 - (x4_13 + 1).toInt < ((fu_13 : Nat) : Int) from by omega) hF (wk_sub9 (is := [2, 3, 4, 5, 6, 0, 1]) hP rfl) (hD.sub [2, 3, 4, 5, 6, 0, 1] rfl rfl) hS (lv_sub hl [0, 3, 4, 5, 6] rfl)
        · have k_11 : ¬ (fn_X6_signsOfKey tx_size txc_a).toInt ≤ 3 := wk_nle c_11
          replace hF := hF.trans (pm2_n1 c_11)
          refine lv_aload_n hx hb dX6_tellTo_34 rfl (lv_at hl 4 rfl) ?_
          refine lv_iload hx hb dX6_tellTo_35 (lv_at hl 0 rfl) ?_
          refine lv_iconst (v := 3) hx hb dX6_tellTo_37 (by decide) ?_
          refine lv_iadd hx hb dX6_tellTo_38 ?_
          refine wk_iV (As := [.int ((2 + (x4_13 * ((fn_X6_signsOfKey tx_size txc_a) + 1))) + 3)]) (rest := []) (wc := [(tx, .inr (6, [.ref txc, .int tx_size])), (txc, .inl (cy, 44, .inl txc_a))]) (wr := [(tw, .inr (8, [.ref twk, .ref twv, .ref twh, .ref twt, .int tw_size_13])), (twk, .inl (cy, 8, .inl twk_a_13)), (twv, .inl (cy, 8, .inl twv_a_13)), (twh, .inl (cy, 8, .inl twh_a_13)), (twt, .inl (cy, 8, .inl twt_a_13))]) (n := 1) ⟨hx, hb, hml, hown, htb⟩ (c_X6_digitAt l D cy tx txc tx_size txc_a ((2 + (x4_13 * ((fn_X6_signsOfKey tx_size txc_a) + 1))) + 3) (show 0 ≤ tx_size.toInt ∧ tx_size.toInt ≤ 44 from by omega)) tw_322 tw_319 tw_321 tw_3 tw_65 rfl rfl (by decide +kernel) ⟨Nat.le_of_ble_eq_true rfl, Nat.le_of_ble_eq_true rfl⟩ hK hP hD hS hA [5, 6] [0, 1, 2, 3, 4] rfl rfl rfl rfl (by decide) 0 (ci := 6) rfl rfl rfl hl.1 rfl (Nat.le_of_ble_eq_true rfl) dX6_tellTo_39 ⟨Nat.le_of_ble_eq_true rfl, Nat.le_of_ble_eq_true rfl⟩ (fun r_29 u_30 H locs hw_31 hP hD hS => ?_)
          refine W.widen (k := 0) (n := 0) (by decide) (by decide) ?_
          have hw_31 : r_29 = (fn_X6_digitAt tx_size txc_a ((2 + (x4_13 * ((fn_X6_signsOfKey tx_size txc_a) + 1))) + 3)) := hw_31
          subst hw_31
          have hP : va_P D classes [(tw, .inr (8, [.ref twk, .ref twv, .ref twh, .ref twt, .int tw_size_13])), (twk, .inl (cy, 8, .inl twk_a_13)), (twv, .inl (cy, 8, .inl twv_a_13)), (twh, .inl (cy, 8, .inl twh_a_13)), (twt, .inl (cy, 8, .inl twt_a_13)), (tx, .inr (6, [.ref txc, .int tx_size])), (txc, .inl (cy, 44, .inl txc_a))] H := hP
          have hD : va_D A [(tw, .inr (8, [.ref twk, .ref twv, .ref twh, .ref twt, .int tw_size_13])), (twk, .inl (cy, 8, .inl twk_a_13)), (twv, .inl (cy, 8, .inl twv_a_13)), (twh, .inl (cy, 8, .inl twh_a_13)), (twt, .inl (cy, 8, .inl twt_a_13)), (tx, .inr (6, [.ref txc, .int tx_size])), (txc, .inl (cy, 44, .inl txc_a))] := hD
          refine lv_goto (tgt := 46) hx hb dX6_tellTo_42 (by decide) ?_
          refine lv_istore (lv' := [(6, .int (fn_X6_digitAt tx_size txc_a ((2 + (x4_13 * ((fn_X6_signsOfKey tx_size txc_a) + 1))) + 3))), (5, .int (2 + (x4_13 * ((fn_X6_signsOfKey tx_size txc_a) + 1)))), (4, .int x4_13), (3, .int (fn_X6_signsOfKey tx_size txc_a)), (2, .int (fn_X6_keysTold tx_size txc_a)), (0, .ref tx), (1, .ref tw)]) hx hb dX6_tellTo_46 hl (by decide) rfl (fun ls hl => ?_)
          refine lv_aload_n hx hb dX6_tellTo_48 rfl (lv_at hl 6 rfl) ?_
          refine lv_iload hx hb dX6_tellTo_49 (lv_at hl 2 rfl) ?_
          refine lv_aload_n hx hb dX6_tellTo_51 rfl (lv_at hl 5 rfl) ?_
          refine lv_iload hx hb dX6_tellTo_52 (lv_at hl 1 rfl) ?_
          refine wk_iV (As := [.int (2 + (x4_13 * ((fn_X6_signsOfKey tx_size txc_a) + 1)))]) (rest := [.int x4_13, .ref tw]) (wc := [(tx, .inr (6, [.ref txc, .int tx_size])), (txc, .inl (cy, 44, .inl txc_a))]) (wr := [(tw, .inr (8, [.ref twk, .ref twv, .ref twh, .ref twt, .int tw_size_13])), (twk, .inl (cy, 8, .inl twk_a_13)), (twv, .inl (cy, 8, .inl twv_a_13)), (twh, .inl (cy, 8, .inl twh_a_13)), (twt, .inl (cy, 8, .inl twt_a_13))]) (n := 1) ⟨hx, hb, hml, hown, htb⟩ (c_X6_keyAt l D cy tx txc tx_size txc_a (2 + (x4_13 * ((fn_X6_signsOfKey tx_size txc_a) + 1))) (show 0 ≤ tx_size.toInt ∧ tx_size.toInt ≤ 44 from by omega)) tw_318 tw_315 tw_317 tw_2 tw_65 rfl rfl (by decide +kernel) ⟨Nat.le_of_ble_eq_true rfl, Nat.le_of_ble_eq_true rfl⟩ hK hP hD hS hA [5, 6] [0, 1, 2, 3, 4] rfl rfl rfl rfl (by decide) 0 (ci := 6) rfl rfl rfl hl.1 rfl (Nat.le_of_ble_eq_true rfl) dX6_tellTo_54 ⟨Nat.le_of_ble_eq_true rfl, Nat.le_of_ble_eq_true rfl⟩ (fun r_32 u_33 H locs hw_34 hP hD hS => ?_)
          refine W.widen (k := 0) (n := 0) (by decide) (by decide) ?_
          have hw_34 : r_32 = (fn_X6_keyAt tx_size txc_a (2 + (x4_13 * ((fn_X6_signsOfKey tx_size txc_a) + 1)))) := hw_34
          subst hw_34
          have hP : va_P D classes [(tw, .inr (8, [.ref twk, .ref twv, .ref twh, .ref twt, .int tw_size_13])), (twk, .inl (cy, 8, .inl twk_a_13)), (twv, .inl (cy, 8, .inl twv_a_13)), (twh, .inl (cy, 8, .inl twh_a_13)), (twt, .inl (cy, 8, .inl twt_a_13)), (tx, .inr (6, [.ref txc, .int tx_size])), (txc, .inl (cy, 44, .inl txc_a))] H := hP
          have hD : va_D A [(tw, .inr (8, [.ref twk, .ref twv, .ref twh, .ref twt, .int tw_size_13])), (twk, .inl (cy, 8, .inl twk_a_13)), (twv, .inl (cy, 8, .inl twv_a_13)), (twh, .inl (cy, 8, .inl twh_a_13)), (twt, .inl (cy, 8, .inl twt_a_13)), (tx, .inr (6, [.ref txc, .int tx_size])), (txc, .inl (cy, 44, .inl txc_a))] := hD
          refine lv_aload_n hx hb dX6_tellTo_57 rfl (lv_at hl 5 rfl) ?_
          refine lv_iload hx hb dX6_tellTo_58 (lv_at hl 1 rfl) ?_
          refine lv_iconst (v := 2) hx hb dX6_tellTo_60 (by decide) ?_
          refine lv_iadd hx hb dX6_tellTo_61 ?_
          refine wk_iV (As := [.int ((2 + (x4_13 * ((fn_X6_signsOfKey tx_size txc_a) + 1))) + 2)]) (rest := [.int (fn_X6_keyAt tx_size txc_a (2 + (x4_13 * ((fn_X6_signsOfKey tx_size txc_a) + 1)))), .int x4_13, .ref tw]) (wc := [(tx, .inr (6, [.ref txc, .int tx_size])), (txc, .inl (cy, 44, .inl txc_a))]) (wr := [(tw, .inr (8, [.ref twk, .ref twv, .ref twh, .ref twt, .int tw_size_13])), (twk, .inl (cy, 8, .inl twk_a_13)), (twv, .inl (cy, 8, .inl twv_a_13)), (twh, .inl (cy, 8, .inl twh_a_13)), (twt, .inl (cy, 8, .inl twt_a_13))]) (n := 1) ⟨hx, hb, hml, hown, htb⟩ (c_X6_digitAt l D cy tx txc tx_size txc_a ((2 + (x4_13 * ((fn_X6_signsOfKey tx_size txc_a) + 1))) + 2) (show 0 ≤ tx_size.toInt ∧ tx_size.toInt ≤ 44 from by omega)) tw_322 tw_319 tw_321 tw_3 tw_65 rfl rfl (by decide +kernel) ⟨Nat.le_of_ble_eq_true rfl, Nat.le_of_ble_eq_true rfl⟩ hK hP hD hS hA [5, 6] [0, 1, 2, 3, 4] rfl rfl rfl rfl (by decide) 0 (ci := 6) rfl rfl rfl hl.1 rfl (Nat.le_of_ble_eq_true rfl) dX6_tellTo_62 ⟨Nat.le_of_ble_eq_true rfl, Nat.le_of_ble_eq_true rfl⟩ (fun r_35 u_36 H locs hw_37 hP hD hS => ?_)
          refine W.widen (k := 0) (n := 0) (by decide) (by decide) ?_
          have hw_37 : r_35 = (fn_X6_digitAt tx_size txc_a ((2 + (x4_13 * ((fn_X6_signsOfKey tx_size txc_a) + 1))) + 2)) := hw_37
          subst hw_37
          have hP : va_P D classes [(tw, .inr (8, [.ref twk, .ref twv, .ref twh, .ref twt, .int tw_size_13])), (twk, .inl (cy, 8, .inl twk_a_13)), (twv, .inl (cy, 8, .inl twv_a_13)), (twh, .inl (cy, 8, .inl twh_a_13)), (twt, .inl (cy, 8, .inl twt_a_13)), (tx, .inr (6, [.ref txc, .int tx_size])), (txc, .inl (cy, 44, .inl txc_a))] H := hP
          have hD : va_D A [(tw, .inr (8, [.ref twk, .ref twv, .ref twh, .ref twt, .int tw_size_13])), (twk, .inl (cy, 8, .inl twk_a_13)), (twv, .inl (cy, 8, .inl twv_a_13)), (twh, .inl (cy, 8, .inl twh_a_13)), (twt, .inl (cy, 8, .inl twt_a_13)), (tx, .inr (6, [.ref txc, .int tx_size])), (txc, .inl (cy, 44, .inl txc_a))] := hD
          refine lv_iload hx hb dX6_tellTo_65 (lv_at hl 0 rfl) ?_
          refine wk_vV (As := [.int x4_13, .int (fn_X6_keyAt tx_size txc_a (2 + (x4_13 * ((fn_X6_signsOfKey tx_size txc_a) + 1)))), .int (fn_X6_digitAt tx_size txc_a ((2 + (x4_13 * ((fn_X6_signsOfKey tx_size txc_a) + 1))) + 2)), .int (fn_X6_digitAt tx_size txc_a ((2 + (x4_13 * ((fn_X6_signsOfKey tx_size txc_a) + 1))) + 3))]) (rest := []) (wc := [(tw, .inr (8, [.ref twk, .ref twv, .ref twh, .ref twt, .int tw_size_13])), (twk, .inl (cy, 8, .inl twk_a_13)), (twv, .inl (cy, 8, .inl twv_a_13)), (twh, .inl (cy, 8, .inl twh_a_13)), (twt, .inl (cy, 8, .inl twt_a_13))]) (wr := [(tx, .inr (6, [.ref txc, .int tx_size])), (txc, .inl (cy, 44, .inl txc_a))]) (n := 4) ⟨hx, hb, hml, hown, htb⟩ (c_X8_insert l D cy tw twk twv twh twt tw_size_13 twk_a_13 twv_a_13 twh_a_13 twt_a_13 x4_13 (fn_X6_keyAt tx_size txc_a (2 + (x4_13 * ((fn_X6_signsOfKey tx_size txc_a) + 1)))) (fn_X6_digitAt tx_size txc_a ((2 + (x4_13 * ((fn_X6_signsOfKey tx_size txc_a) + 1))) + 2)) (fn_X6_digitAt tx_size txc_a ((2 + (x4_13 * ((fn_X6_signsOfKey tx_size txc_a) + 1))) + 3)) (show 0 ≤ tw_size_13.toInt ∧ tw_size_13.toInt ≤ 8 from by omega)) tw_386 tw_383 tw_384 tw_385 tw_67 rfl rfl (by decide +kernel) ⟨Nat.le_of_ble_eq_true rfl, Nat.le_of_ble_eq_true rfl⟩ hK hP hD hS hA [0, 1, 2, 3, 4] [5, 6] rfl rfl rfl rfl (by decide) 0 (ci := 8) rfl rfl rfl hl.1 rfl (Nat.le_of_ble_eq_true rfl) dX6_tellTo_67 ⟨Nat.le_of_ble_eq_true rfl, Nat.le_of_ble_eq_true rfl⟩ (fun u_39 H locs hw_40 hP hD hS => ?_)
          refine W.widen (k := 0) (n := 0) (by decide) (by decide) ?_
          obtain ⟨o_41, o_42, o_43, o_44, o_45⟩ := u_39
          obtain ⟨hw_40, k_46, k_47⟩ := hw_40
          have hw_40 : (o_41, o_42, o_43, o_44, o_45) = (fn_X8_insert tw_size_13 twk_a_13 twv_a_13 twh_a_13 twt_a_13 x4_13 (fn_X6_keyAt tx_size txc_a (2 + (x4_13 * ((fn_X6_signsOfKey tx_size txc_a) + 1)))) (fn_X6_digitAt tx_size txc_a ((2 + (x4_13 * ((fn_X6_signsOfKey tx_size txc_a) + 1))) + 2)) (fn_X6_digitAt tx_size txc_a ((2 + (x4_13 * ((fn_X6_signsOfKey tx_size txc_a) + 1))) + 3))) := hw_40
          have k_46 : (0 ≤ o_41.toInt ∧ o_41.toInt ≤ 8) := k_46
          have k_47 : (¬ (x4_13.toInt = tw_size_13.toInt ∧ tw_size_13.toInt ≤ 7) ∨ o_41.toInt = tw_size_13.toInt + 1) := k_47
          rw [← hw_40] at hF
          rw [pm2_mk o_41 (o_42, o_43, o_44, o_45), pm2_mk o_42 (o_43, o_44, o_45), pm2_mk o_43 (o_44, o_45), pm2_mk o_44 o_45] at hF
          have hP : va_P D classes [(tx, .inr (6, [.ref txc, .int tx_size])), (txc, .inl (cy, 44, .inl txc_a)), (tw, .inr (8, [.ref twk, .ref twv, .ref twh, .ref twt, .int o_41])), (twk, .inl (cy, 8, .inl o_42)), (twv, .inl (cy, 8, .inl o_43)), (twh, .inl (cy, 8, .inl o_44)), (twt, .inl (cy, 8, .inl o_45))] H := hP
          have hD : va_D A [(tx, .inr (6, [.ref txc, .int tx_size])), (txc, .inl (cy, 44, .inl txc_a)), (tw, .inr (8, [.ref twk, .ref twv, .ref twh, .ref twt, .int o_41])), (twk, .inl (cy, 8, .inl o_42)), (twv, .inl (cy, 8, .inl o_43)), (twh, .inl (cy, 8, .inl o_44)), (twt, .inl (cy, 8, .inl o_45))] := hD
          refine lv_iinc (v := (x4_13 + 1)) (lv' := [(4, .int (x4_13 + 1)), (6, .int (fn_X6_digitAt tx_size txc_a ((2 + (x4_13 * ((fn_X6_signsOfKey tx_size txc_a) + 1))) + 3))), (5, .int (2 + (x4_13 * ((fn_X6_signsOfKey tx_size txc_a) + 1)))), (3, .int (fn_X6_signsOfKey tx_size txc_a)), (2, .int (fn_X6_keysTold tx_size txc_a)), (0, .ref tx), (1, .ref tw)]) hx hb dX6_tellTo_70 hl (k := 2) rfl rfl (by decide) rfl (fun ls hl => ?_)
          have k_48 : (x4_13 + 1).toInt = x4_13.toInt + 1 := wk_add x4_13.toInt 1 rfl rfl (by omega) (by omega)
          refine lv_goto (tgt := 13) hx hb dX6_tellTo_73 (by decide) ?_
          exact ih_13 (x4_13 + 1) o_41 o_42 o_43 o_44 o_45 _ _ _ (show 0 ≤ (x4_13 + 1).toInt ∧ (x4_13 + 1).toInt ≤ 8 from by omega) (show 0 ≤ o_41.toInt ∧ o_41.toInt ≤ 8 from by omega) (show o_41.toInt = (x4_13 + 1).toInt from by omega) (show (x4_13 + 1).toInt ≤ (fn_X6_keysTold tx_size txc_a).toInt ∨ (x4_13 + 1).toInt = 0 from by omega) (show 8 - (x4_13 + 1).toInt < ((fu_13 : Nat) : Int) from by omega) hF (wk_sub9 (is := [2, 3, 4, 5, 6, 0, 1]) hP rfl) (hD.sub [2, 3, 4, 5, 6, 0, 1] rfl rfl) hS (lv_sub hl [0, 3, 4, 5, 6] rfl)
  exact hlp_13 10 0 tw_size twk_a twv_a twh_a twt_a _ _ _ (show 0 ≤ 0 ∧ 0 ≤ 8 from by omega) (show 0 ≤ tw_size.toInt ∧ tw_size.toInt ≤ 8 from by omega) (show tw_size.toInt = 0 from by omega) (show 0 ≤ (fn_X6_keysTold tx_size txc_a).toInt ∨ 0 = 0 from by omega) (show 8 - 0 < ((10 : Nat) : Int) from by omega) hF hP hD hS (lv_sub hl [0, 1, 2, 3, 4] rfl)
def fn_X4_add (se_size : Int32) (sea_a : Nat → Int32) (seb_a : Nat → Int32) (sec_a : Nat → Int32) (a : Int32) (b : Int32) (d : Int32) : Int32 × Int32 × (Nat → Int32) × (Nat → Int32) × (Nat → Int32) := (if (6 : Int32) ≤ se_size then (se_size, se_size, sea_a, seb_a, sec_a) else ((se_size + 1), (se_size + 1), (upd sea_a se_size.toNatClampNeg a), (upd seb_a se_size.toNatClampNeg b), (upd sec_a se_size.toNatClampNeg d)))
theorem dX4_add_0 : decode cX4_add 0 = .ok (.aload_n 0, 1) := by decide +kernel
theorem dX4_add_1 : decode cX4_add 1 = .ok (.getfield 21, 3) := by decide +kernel
theorem dX4_add_4 : decode cX4_add 4 = .ok (.bipush 6, 2) := by decide +kernel
theorem dX4_add_6 : decode cX4_add 6 = .ok (.if_icmp .ge 43, 3) := by decide +kernel
theorem dX4_add_9 : decode cX4_add 9 = .ok (.aload_n 0, 1) := by decide +kernel
theorem dX4_add_10 : decode cX4_add 10 = .ok (.getfield 9, 3) := by decide +kernel
theorem dX4_add_13 : decode cX4_add 13 = .ok (.aload_n 0, 1) := by decide +kernel
theorem dX4_add_14 : decode cX4_add 14 = .ok (.getfield 21, 3) := by decide +kernel
theorem dX4_add_17 : decode cX4_add 17 = .ok (.iload_n 1, 1) := by decide +kernel
theorem dX4_add_18 : decode cX4_add 18 = .ok (.iastore, 1) := by decide +kernel
theorem dX4_add_19 : decode cX4_add 19 = .ok (.aload_n 0, 1) := by decide +kernel
theorem dX4_add_20 : decode cX4_add 20 = .ok (.getfield 15, 3) := by decide +kernel
theorem dX4_add_23 : decode cX4_add 23 = .ok (.aload_n 0, 1) := by decide +kernel
theorem dX4_add_24 : decode cX4_add 24 = .ok (.getfield 21, 3) := by decide +kernel
theorem dX4_add_27 : decode cX4_add 27 = .ok (.iload_n 2, 1) := by decide +kernel
theorem dX4_add_28 : decode cX4_add 28 = .ok (.iastore, 1) := by decide +kernel
theorem dX4_add_29 : decode cX4_add 29 = .ok (.aload_n 0, 1) := by decide +kernel
theorem dX4_add_30 : decode cX4_add 30 = .ok (.getfield 18, 3) := by decide +kernel
theorem dX4_add_33 : decode cX4_add 33 = .ok (.aload_n 0, 1) := by decide +kernel
theorem dX4_add_34 : decode cX4_add 34 = .ok (.getfield 21, 3) := by decide +kernel
theorem dX4_add_37 : decode cX4_add 37 = .ok (.iload_n 3, 1) := by decide +kernel
theorem dX4_add_38 : decode cX4_add 38 = .ok (.iastore, 1) := by decide +kernel
theorem dX4_add_39 : decode cX4_add 39 = .ok (.aload_n 0, 1) := by decide +kernel
theorem dX4_add_40 : decode cX4_add 40 = .ok (.dup, 1) := by decide +kernel
theorem dX4_add_41 : decode cX4_add 41 = .ok (.getfield 21, 3) := by decide +kernel
theorem dX4_add_44 : decode cX4_add 44 = .ok (.iconst 1, 1) := by decide +kernel
theorem dX4_add_45 : decode cX4_add 45 = .ok (.iadd, 1) := by decide +kernel
theorem dX4_add_46 : decode cX4_add 46 = .ok (.putfield 21, 3) := by decide +kernel
theorem dX4_add_49 : decode cX4_add 49 = .ok (.aload_n 0, 1) := by decide +kernel
theorem dX4_add_50 : decode cX4_add 50 = .ok (.getfield 21, 3) := by decide +kernel
theorem dX4_add_53 : decode cX4_add 53 = .ok (.ireturn, 1) := by decide +kernel
set_option maxHeartbeats 4000000 in
set_option maxRecDepth 100000 in
theorem c_X4_add (l : Launch) (D : va_G) (cy : ClassId) (se sea seb sec : Nat) (se_size : Int32) (sea_a : Nat → Int32) (seb_a : Nat → Int32) (sec_a : Nat → Int32) (a : Int32) (b : Int32) (d : Int32) (g_0 : 0 ≤ se_size.toInt ∧ se_size.toInt ≤ 6) : wk_Ci l yX4_add cX4_add 4 (some .int) { frames := 0, cells := 0, slots := 0, locals := 0 } D cy [.ref se, .int a, .int b, .int d] [(se, .inr (4, [.ref sea, .ref seb, .ref sec, .int se_size])), (sea, .inl (cy, 6, .inl sea_a)), (seb, .inl (cy, 6, .inl seb_a)), (sec, .inl (cy, 6, .inl sec_a))] 0 0 (fun (r : Int32) (u : Int32 × (Nat → Int32) × (Nat → Int32) × (Nat → Int32)) => (r, u) = (fn_X4_add se_size sea_a seb_a sec_a a b d) ∧ (0 ≤ u.1.toInt ∧ u.1.toInt ≤ 6)) (fun u => [(se, .inr (4, [.ref sea, .ref seb, .ref sec, .int u.1])), (sea, .inl (cy, 6, .inl u.2.1)), (seb, .inl (cy, 6, .inl u.2.2.1)), (sec, .inl (cy, 6, .inl u.2.2.2))]) := by
  refine wk_mk2Ci (by decide) (Nat.le_of_ble_eq_true rfl) ?_
  intro p e s m args below meth c A ls Q B hA hK hP hD hS hl hret
  obtain ⟨hx, hb, hr, hlocks, hml, hown, htb, hin⟩ := B
  have hl : lv_has ls 4 [(0, .ref se), (1, .int a), (2, .int b), (3, .int d)] := hl
  have hF : (fn_X4_add se_size sea_a seb_a sec_a a b d) = (fn_X4_add se_size sea_a seb_a sec_a a b d) := rfl
  conv at hF => rhs; unfold fn_X4_add
  refine lv_aload_n hx hb dX4_add_0 rfl (lv_at hl 0 rfl) ?_
  refine va_get (D := D) (ci := 4) (v := .int se_size) (C := RX4) (T := TX4) (N := 4) hx hb htb inX4 hown hK hP 0 rfl rfl 3 (by decide) (htb _ tw_158) (fun _ h9 => h9) rfl dX4_add_1 ?_
  refine lv_bipush (v := 6) hx hb dX4_add_4 (by decide) ?_
  refine lv_icmp_ge (tgt := 49) hx hb dX4_add_6 (by decide) (fun c_1 => ?_) (fun c_1 => ?_)
  · have k_1 : 6 ≤ se_size.toInt := wk_le c_1
    replace hF := hF.trans (if_pos c_1)
    refine lv_aload_n hx hb dX4_add_49 rfl (lv_at hl 0 rfl) ?_
    refine va_get (D := D) (ci := 4) (v := .int se_size) (C := RX4) (T := TX4) (N := 4) hx hb htb inX4 hown hK hP 0 rfl rfl 3 (by decide) (htb _ tw_158) (fun _ h9 => h9) rfl dX4_add_50 ?_
    refine W.widen (k := 0) (n := 0) (by decide) (by decide) ?_
    exact hret se_size (se_size, sea_a, seb_a, sec_a) _ _ _ 53 (wk_sub9 (is := [0, 1, 2, 3]) hP rfl) (hD.sub [0, 1, 2, 3] rfl rfl) hS dX4_add_53 ⟨hF.symm, (show (0 ≤ se_size.toInt ∧ se_size.toInt ≤ 6) from by omega)⟩
  · have k_1 : ¬ 6 ≤ se_size.toInt := wk_nle c_1
    replace hF := hF.trans (if_neg c_1)
    refine lv_aload_n hx hb dX4_add_9 rfl (lv_at hl 0 rfl) ?_
    refine va_get (D := D) (ci := 4) (v := .ref sea) (C := RX4) (T := TX4) (N := 4) hx hb htb inX4 hown hK hP 0 rfl rfl 0 (by decide) (htb _ tw_152) (fun _ h9 => h9) rfl dX4_add_10 ?_
    refine lv_aload_n hx hb dX4_add_13 rfl (lv_at hl 0 rfl) ?_
    refine va_get (D := D) (ci := 4) (v := .int se_size) (C := RX4) (T := TX4) (N := 4) hx hb htb inX4 hown hK hP 0 rfl rfl 3 (by decide) (htb _ tw_158) (fun _ h9 => h9) rfl dX4_add_14 ?_
    refine lv_iload_n hx hb dX4_add_17 rfl (lv_at hl 1 rfl) ?_
    refine va_iast hx hb hK hP hD hS 1 0 rfl rfl (show vp_in se_size 6 from vp_in_iff.mpr (show 0 ≤ se_size.toInt ∧ se_size.toInt < ((6 : Nat) : Int) from by omega)) dX4_add_18 (fun H locs hP hD hS => ?_)
    have hP : va_P D classes [(se, .inr (4, [.ref sea, .ref seb, .ref sec, .int se_size])), (sea, .inl (cy, 6, .inl (upd sea_a se_size.toNatClampNeg a))), (seb, .inl (cy, 6, .inl seb_a)), (sec, .inl (cy, 6, .inl sec_a))] H := hP
    have hD : va_D A [(se, .inr (4, [.ref sea, .ref seb, .ref sec, .int se_size])), (sea, .inl (cy, 6, .inl (upd sea_a se_size.toNatClampNeg a))), (seb, .inl (cy, 6, .inl seb_a)), (sec, .inl (cy, 6, .inl sec_a))] := hD
    refine lv_aload_n hx hb dX4_add_19 rfl (lv_at hl 0 rfl) ?_
    refine va_get (D := D) (ci := 4) (v := .ref seb) (C := RX4) (T := TX4) (N := 4) hx hb htb inX4 hown hK hP 0 rfl rfl 1 (by decide) (htb _ tw_154) (fun _ h9 => h9) rfl dX4_add_20 ?_
    refine lv_aload_n hx hb dX4_add_23 rfl (lv_at hl 0 rfl) ?_
    refine va_get (D := D) (ci := 4) (v := .int se_size) (C := RX4) (T := TX4) (N := 4) hx hb htb inX4 hown hK hP 0 rfl rfl 3 (by decide) (htb _ tw_158) (fun _ h9 => h9) rfl dX4_add_24 ?_
    refine lv_iload_n hx hb dX4_add_27 rfl (lv_at hl 2 rfl) ?_
    refine va_iast hx hb hK hP hD hS 2 0 rfl rfl (show vp_in se_size 6 from vp_in_iff.mpr (show 0 ≤ se_size.toInt ∧ se_size.toInt < ((6 : Nat) : Int) from by omega)) dX4_add_28 (fun H locs hP hD hS => ?_)
    have hP : va_P D classes [(se, .inr (4, [.ref sea, .ref seb, .ref sec, .int se_size])), (sea, .inl (cy, 6, .inl (upd sea_a se_size.toNatClampNeg a))), (seb, .inl (cy, 6, .inl (upd seb_a se_size.toNatClampNeg b))), (sec, .inl (cy, 6, .inl sec_a))] H := hP
    have hD : va_D A [(se, .inr (4, [.ref sea, .ref seb, .ref sec, .int se_size])), (sea, .inl (cy, 6, .inl (upd sea_a se_size.toNatClampNeg a))), (seb, .inl (cy, 6, .inl (upd seb_a se_size.toNatClampNeg b))), (sec, .inl (cy, 6, .inl sec_a))] := hD
    refine lv_aload_n hx hb dX4_add_29 rfl (lv_at hl 0 rfl) ?_
    refine va_get (D := D) (ci := 4) (v := .ref sec) (C := RX4) (T := TX4) (N := 4) hx hb htb inX4 hown hK hP 0 rfl rfl 2 (by decide) (htb _ tw_156) (fun _ h9 => h9) rfl dX4_add_30 ?_
    refine lv_aload_n hx hb dX4_add_33 rfl (lv_at hl 0 rfl) ?_
    refine va_get (D := D) (ci := 4) (v := .int se_size) (C := RX4) (T := TX4) (N := 4) hx hb htb inX4 hown hK hP 0 rfl rfl 3 (by decide) (htb _ tw_158) (fun _ h9 => h9) rfl dX4_add_34 ?_
    refine lv_iload_n hx hb dX4_add_37 rfl (lv_at hl 3 rfl) ?_
    refine va_iast hx hb hK hP hD hS 3 0 rfl rfl (show vp_in se_size 6 from vp_in_iff.mpr (show 0 ≤ se_size.toInt ∧ se_size.toInt < ((6 : Nat) : Int) from by omega)) dX4_add_38 (fun H locs hP hD hS => ?_)
    have hP : va_P D classes [(se, .inr (4, [.ref sea, .ref seb, .ref sec, .int se_size])), (sea, .inl (cy, 6, .inl (upd sea_a se_size.toNatClampNeg a))), (seb, .inl (cy, 6, .inl (upd seb_a se_size.toNatClampNeg b))), (sec, .inl (cy, 6, .inl (upd sec_a se_size.toNatClampNeg d)))] H := hP
    have hD : va_D A [(se, .inr (4, [.ref sea, .ref seb, .ref sec, .int se_size])), (sea, .inl (cy, 6, .inl (upd sea_a se_size.toNatClampNeg a))), (seb, .inl (cy, 6, .inl (upd seb_a se_size.toNatClampNeg b))), (sec, .inl (cy, 6, .inl (upd sec_a se_size.toNatClampNeg d)))] := hD
    refine lv_aload_n hx hb dX4_add_39 rfl (lv_at hl 0 rfl) ?_
    refine lv_dup hx hb dX4_add_40 rfl ?_
    refine va_get (D := D) (ci := 4) (v := .int se_size) (C := RX4) (T := TX4) (N := 4) hx hb htb inX4 hown hK hP 0 rfl rfl 3 (by decide) (htb _ tw_158) (fun _ h9 => h9) rfl dX4_add_41 ?_
    refine lv_iconst (v := 1) hx hb dX4_add_44 (by decide) ?_
    refine lv_iadd hx hb dX4_add_45 ?_
    have k_2 : (se_size + 1).toInt = se_size.toInt + 1 := wk_add se_size.toInt 1 rfl rfl (by omega) (by omega)
    refine va_put (D := D) (ci := 4) (v := .int (se_size + 1)) (ty := .int) (C := RX4) (T := TX4) (N := 4) hx hb htb inX4 tyX4 tyX4_ok nmX4 hown hK hP hD hS 0 rfl rfl 3 (by decide) (htb _ tw_158) (fun _ h9 => h9) rfl (by decide +kernel) rfl rfl (Nat.le_of_ble_eq_true rfl) dX4_add_46 (fun H locs hP hD hS => ?_)
    have hP : va_P D classes [(se, .inr (4, [.ref sea, .ref seb, .ref sec, .int (se_size + 1)])), (sea, .inl (cy, 6, .inl (upd sea_a se_size.toNatClampNeg a))), (seb, .inl (cy, 6, .inl (upd seb_a se_size.toNatClampNeg b))), (sec, .inl (cy, 6, .inl (upd sec_a se_size.toNatClampNeg d)))] H := hP
    have hD : va_D A [(se, .inr (4, [.ref sea, .ref seb, .ref sec, .int (se_size + 1)])), (sea, .inl (cy, 6, .inl (upd sea_a se_size.toNatClampNeg a))), (seb, .inl (cy, 6, .inl (upd seb_a se_size.toNatClampNeg b))), (sec, .inl (cy, 6, .inl (upd sec_a se_size.toNatClampNeg d)))] := hD
    refine lv_aload_n hx hb dX4_add_49 rfl (lv_at hl 0 rfl) ?_
    refine va_get (D := D) (ci := 4) (v := .int (se_size + 1)) (C := RX4) (T := TX4) (N := 4) hx hb htb inX4 hown hK hP 0 rfl rfl 3 (by decide) (htb _ tw_158) (fun _ h9 => h9) rfl dX4_add_50 ?_
    refine W.widen (k := 0) (n := 0) (by decide) (by decide) ?_
    exact hret (se_size + 1) ((se_size + 1), (upd sea_a se_size.toNatClampNeg a), (upd seb_a se_size.toNatClampNeg b), (upd sec_a se_size.toNatClampNeg d)) _ _ _ 53 (wk_sub9 (is := [0, 1, 2, 3]) hP rfl) (hD.sub [0, 1, 2, 3] rfl rfl) hS dX4_add_53 ⟨hF.symm, (show (0 ≤ (se_size + 1).toInt ∧ (se_size + 1).toInt ≤ 6) from by omega)⟩
def fn_X4_clear (se_size : Int32) : Int32 × Int32 := (se_size, 0)
theorem dX4_clear_0 : decode cX4_clear 0 = .ok (.aload_n 0, 1) := by decide +kernel
theorem dX4_clear_1 : decode cX4_clear 1 = .ok (.getfield 21, 3) := by decide +kernel
theorem dX4_clear_4 : decode cX4_clear 4 = .ok (.istore_n 1, 1) := by decide +kernel
theorem dX4_clear_5 : decode cX4_clear 5 = .ok (.aload_n 0, 1) := by decide +kernel
theorem dX4_clear_6 : decode cX4_clear 6 = .ok (.iconst 0, 1) := by decide +kernel
theorem dX4_clear_7 : decode cX4_clear 7 = .ok (.putfield 21, 3) := by decide +kernel
theorem dX4_clear_10 : decode cX4_clear 10 = .ok (.iload_n 1, 1) := by decide +kernel
theorem dX4_clear_11 : decode cX4_clear 11 = .ok (.ireturn, 1) := by decide +kernel
set_option maxHeartbeats 4000000 in
set_option maxRecDepth 100000 in
theorem c_X4_clear (l : Launch) (D : va_G) (cy : ClassId) (se sea seb sec : Nat) (se_size : Int32)  (g_0 : 0 ≤ se_size.toInt ∧ se_size.toInt ≤ 6) : wk_Ci l yX4_clear cX4_clear 2 (some .int) { frames := 0, cells := 0, slots := 0, locals := 0 } D cy [.ref se] [(se, .inr (4, [.ref sea, .ref seb, .ref sec, .int se_size]))] 0 0 (fun (r : Int32) (u : Int32) => (r, u) = (fn_X4_clear se_size) ∧ (0 ≤ u.toInt ∧ u.toInt ≤ 6)) (fun u => [(se, .inr (4, [.ref sea, .ref seb, .ref sec, .int u]))]) := by
  refine wk_mk2Ci (by decide) (Nat.le_of_ble_eq_true rfl) ?_
  intro p e s m args below meth c A ls Q B hA hK hP hD hS hl hret
  obtain ⟨hx, hb, hr, hlocks, hml, hown, htb, hin⟩ := B
  have hl : lv_has ls 2 [(0, .ref se)] := hl
  have hF : (fn_X4_clear se_size) = (fn_X4_clear se_size) := rfl
  conv at hF => rhs; unfold fn_X4_clear
  refine lv_aload_n hx hb dX4_clear_0 rfl (lv_at hl 0 rfl) ?_
  refine va_get (D := D) (ci := 4) (v := .int se_size) (C := RX4) (T := TX4) (N := 4) hx hb htb inX4 hown hK hP 0 rfl rfl 3 (by decide) (htb _ tw_158) (fun _ h9 => h9) rfl dX4_clear_1 ?_
  refine lv_istore_n (lv' := [(1, .int se_size), (0, .ref se)]) hx hb dX4_clear_4 rfl hl (by decide) rfl (fun ls hl => ?_)
  refine lv_aload_n hx hb dX4_clear_5 rfl (lv_at hl 1 rfl) ?_
  refine lv_iconst (v := 0) hx hb dX4_clear_6 (by decide) ?_
  refine va_put (D := D) (ci := 4) (v := .int 0) (ty := .int) (C := RX4) (T := TX4) (N := 4) hx hb htb inX4 tyX4 tyX4_ok nmX4 hown hK hP hD hS 0 rfl rfl 3 (by decide) (htb _ tw_158) (fun _ h9 => h9) rfl (by decide +kernel) rfl rfl (Nat.le_of_ble_eq_true rfl) dX4_clear_7 (fun H locs hP hD hS => ?_)
  have hP : va_P D classes [(se, .inr (4, [.ref sea, .ref seb, .ref sec, .int 0]))] H := hP
  have hD : va_D A [(se, .inr (4, [.ref sea, .ref seb, .ref sec, .int 0]))] := hD
  refine lv_iload_n hx hb dX4_clear_10 rfl (lv_at hl 0 rfl) ?_
  refine W.widen (k := 0) (n := 0) (by decide) (by decide) ?_
  exact hret se_size 0 _ _ _ 11 (wk_sub9 (is := [0]) hP rfl) (hD.sub [0] rfl rfl) hS dX4_clear_11 ⟨hF.symm, (show (0 ≤ 0 ∧ 0 ≤ 6) from by omega)⟩
def lp_X4_copyFrom_7 (se_size : Int32) (sea_a : Nat → Int32) (seb_a : Nat → Int32) (sec_a : Nat → Int32) (so_size : Int32) (soa_a : Nat → Int32) (sob_a : Nat → Int32) (soc_a : Nat → Int32) : Nat → Int32 → Int32 → (Nat → Int32) → (Nat → Int32) → (Nat → Int32) → Int32 × Int32 × (Nat → Int32) × (Nat → Int32) × (Nat → Int32)
  | 0, _, _, _, _, _ => default
  | fu_7 + 1, x2_7, se_size_7, sea_a_7, seb_a_7, sec_a_7 => (if so_size ≤ x2_7 then (x2_7, se_size_7, sea_a_7, seb_a_7, sec_a_7) else (pm2 (fn_X4_add se_size_7 sea_a_7 seb_a_7 sec_a_7 (soa_a x2_7.toNatClampNeg) (sob_a x2_7.toNatClampNeg) (soc_a x2_7.toNatClampNeg)) (fun r_2 t_ => (pm2 (t_) (fun o_5 t_ => (pm2 (t_) (fun o_6 t_ => (pm2 (t_) (fun o_7 o_8 => (lp_X4_copyFrom_7 se_size sea_a seb_a sec_a so_size soa_a sob_a soc_a fu_7 (x2_7 + 1) o_5 o_6 o_7 o_8))))))))))
termination_by n => n
def fn_X4_copyFrom (se_size : Int32) (sea_a : Nat → Int32) (seb_a : Nat → Int32) (sec_a : Nat → Int32) (so_size : Int32) (soa_a : Nat → Int32) (sob_a : Nat → Int32) (soc_a : Nat → Int32) : Int32 × (Nat → Int32) × (Nat → Int32) × (Nat → Int32) := (pm2 (lp_X4_copyFrom_7 se_size sea_a seb_a sec_a so_size soa_a sob_a soc_a 8 0 0 sea_a seb_a sec_a) (fun x2_7 t_ => (pm2 (t_) (fun se_size_7 t_ => (pm2 (t_) (fun sea_a_7 t_ => (pm2 (t_) (fun seb_a_7 sec_a_7 => (se_size_7, sea_a_7, seb_a_7, sec_a_7)))))))))
theorem dX4_copyFrom_0 : decode cX4_copyFrom 0 = .ok (.aload_n 0, 1) := by decide +kernel
theorem dX4_copyFrom_1 : decode cX4_copyFrom 1 = .ok (.iconst 0, 1) := by decide +kernel
theorem dX4_copyFrom_2 : decode cX4_copyFrom 2 = .ok (.putfield 21, 3) := by decide +kernel
theorem dX4_copyFrom_5 : decode cX4_copyFrom 5 = .ok (.iconst 0, 1) := by decide +kernel
theorem dX4_copyFrom_6 : decode cX4_copyFrom 6 = .ok (.istore_n 2, 1) := by decide +kernel
theorem dX4_copyFrom_7 : decode cX4_copyFrom 7 = .ok (.iload_n 2, 1) := by decide +kernel
theorem dX4_copyFrom_8 : decode cX4_copyFrom 8 = .ok (.aload_n 1, 1) := by decide +kernel
theorem dX4_copyFrom_9 : decode cX4_copyFrom 9 = .ok (.getfield 21, 3) := by decide +kernel
theorem dX4_copyFrom_12 : decode cX4_copyFrom 12 = .ok (.if_icmp .ge 32, 3) := by decide +kernel
theorem dX4_copyFrom_15 : decode cX4_copyFrom 15 = .ok (.aload_n 0, 1) := by decide +kernel
theorem dX4_copyFrom_16 : decode cX4_copyFrom 16 = .ok (.aload_n 1, 1) := by decide +kernel
theorem dX4_copyFrom_17 : decode cX4_copyFrom 17 = .ok (.getfield 9, 3) := by decide +kernel
theorem dX4_copyFrom_20 : decode cX4_copyFrom 20 = .ok (.iload_n 2, 1) := by decide +kernel
theorem dX4_copyFrom_21 : decode cX4_copyFrom 21 = .ok (.iaload, 1) := by decide +kernel
theorem dX4_copyFrom_22 : decode cX4_copyFrom 22 = .ok (.aload_n 1, 1) := by decide +kernel
theorem dX4_copyFrom_23 : decode cX4_copyFrom 23 = .ok (.getfield 15, 3) := by decide +kernel
theorem dX4_copyFrom_26 : decode cX4_copyFrom 26 = .ok (.iload_n 2, 1) := by decide +kernel
theorem dX4_copyFrom_27 : decode cX4_copyFrom 27 = .ok (.iaload, 1) := by decide +kernel
theorem dX4_copyFrom_28 : decode cX4_copyFrom 28 = .ok (.aload_n 1, 1) := by decide +kernel
theorem dX4_copyFrom_29 : decode cX4_copyFrom 29 = .ok (.getfield 18, 3) := by decide +kernel
theorem dX4_copyFrom_32 : decode cX4_copyFrom 32 = .ok (.iload_n 2, 1) := by decide +kernel
theorem dX4_copyFrom_33 : decode cX4_copyFrom 33 = .ok (.iaload, 1) := by decide +kernel
theorem dX4_copyFrom_34 : decode cX4_copyFrom 34 = .ok (.invokevirtual 25, 3) := by decide +kernel
theorem dX4_copyFrom_37 : decode cX4_copyFrom 37 = .ok (.pop, 1) := by decide +kernel
theorem dX4_copyFrom_38 : decode cX4_copyFrom 38 = .ok (.iinc 2 1, 3) := by decide +kernel
theorem dX4_copyFrom_41 : decode cX4_copyFrom 41 = .ok (.goto (-34), 3) := by decide +kernel
theorem dX4_copyFrom_44 : decode cX4_copyFrom 44 = .ok (.return_, 1) := by decide +kernel
set_option maxHeartbeats 4000000 in
set_option maxRecDepth 100000 in
theorem c_X4_copyFrom (l : Launch) (D : va_G) (cy : ClassId) (se sea seb sec so soa sob soc : Nat) (se_size : Int32) (sea_a : Nat → Int32) (seb_a : Nat → Int32) (sec_a : Nat → Int32) (so_size : Int32) (soa_a : Nat → Int32) (sob_a : Nat → Int32) (soc_a : Nat → Int32)  (g_0 : 0 ≤ se_size.toInt ∧ se_size.toInt ≤ 6) (g_1 : 0 ≤ so_size.toInt ∧ so_size.toInt ≤ 6) : wk_Cv l yX4_copyFrom cX4_copyFrom 3 none { frames := 1, cells := 0, slots := 0, locals := 23 } D cy [.ref se, .ref so] [(se, .inr (4, [.ref sea, .ref seb, .ref sec, .int se_size])), (sea, .inl (cy, 6, .inl sea_a)), (seb, .inl (cy, 6, .inl seb_a)), (sec, .inl (cy, 6, .inl sec_a)), (so, .inr (4, [.ref soa, .ref sob, .ref soc, .int so_size])), (soa, .inl (cy, 6, .inl soa_a)), (sob, .inl (cy, 6, .inl sob_a)), (soc, .inl (cy, 6, .inl soc_a))] 0 0 (fun (u : Int32 × (Nat → Int32) × (Nat → Int32) × (Nat → Int32)) => u = (fn_X4_copyFrom se_size sea_a seb_a sec_a so_size soa_a sob_a soc_a) ∧ (0 ≤ u.1.toInt ∧ u.1.toInt ≤ 6)) (fun u => [(se, .inr (4, [.ref sea, .ref seb, .ref sec, .int u.1])), (sea, .inl (cy, 6, .inl u.2.1)), (seb, .inl (cy, 6, .inl u.2.2.1)), (sec, .inl (cy, 6, .inl u.2.2.2)), (so, .inr (4, [.ref soa, .ref sob, .ref soc, .int so_size])), (soa, .inl (cy, 6, .inl soa_a)), (sob, .inl (cy, 6, .inl sob_a)), (soc, .inl (cy, 6, .inl soc_a))]) := by
  refine wk_mk2Cv (by decide) (Nat.le_of_ble_eq_true rfl) ?_
  intro p e s m args below meth c A ls Q B hA hK hP hD hS hl hret
  obtain ⟨hx, hb, hr, hlocks, hml, hown, htb, hin⟩ := B
  have hl : lv_has ls 3 [(0, .ref se), (1, .ref so)] := hl
  have hF : (fn_X4_copyFrom se_size sea_a seb_a sec_a so_size soa_a sob_a soc_a) = (fn_X4_copyFrom se_size sea_a seb_a sec_a so_size soa_a sob_a soc_a) := rfl
  conv at hF => rhs; unfold fn_X4_copyFrom
  refine lv_aload_n hx hb dX4_copyFrom_0 rfl (lv_at hl 0 rfl) ?_
  refine lv_iconst (v := 0) hx hb dX4_copyFrom_1 (by decide) ?_
  refine va_put (D := D) (ci := 4) (v := .int 0) (ty := .int) (C := RX4) (T := TX4) (N := 4) hx hb htb inX4 tyX4 tyX4_ok nmX4 hown hK hP hD hS 0 rfl rfl 3 (by decide) (htb _ tw_158) (fun _ h9 => h9) rfl (by decide +kernel) rfl rfl (Nat.le_of_ble_eq_true rfl) dX4_copyFrom_2 (fun H locs hP hD hS => ?_)
  have hP : va_P D classes [(se, .inr (4, [.ref sea, .ref seb, .ref sec, .int 0])), (sea, .inl (cy, 6, .inl sea_a)), (seb, .inl (cy, 6, .inl seb_a)), (sec, .inl (cy, 6, .inl sec_a)), (so, .inr (4, [.ref soa, .ref sob, .ref soc, .int so_size])), (soa, .inl (cy, 6, .inl soa_a)), (sob, .inl (cy, 6, .inl sob_a)), (soc, .inl (cy, 6, .inl soc_a))] H := hP
  have hD : va_D A [(se, .inr (4, [.ref sea, .ref seb, .ref sec, .int 0])), (sea, .inl (cy, 6, .inl sea_a)), (seb, .inl (cy, 6, .inl seb_a)), (sec, .inl (cy, 6, .inl sec_a)), (so, .inr (4, [.ref soa, .ref sob, .ref soc, .int so_size])), (soa, .inl (cy, 6, .inl soa_a)), (sob, .inl (cy, 6, .inl sob_a)), (soc, .inl (cy, 6, .inl soc_a))] := hD
  refine lv_iconst (v := 0) hx hb dX4_copyFrom_5 (by decide) ?_
  refine lv_istore_n (lv' := [(2, .int 0), (0, .ref se), (1, .ref so)]) hx hb dX4_copyFrom_6 rfl hl (by decide) rfl (fun ls hl => ?_)
  have hlp_7 : ∀ (fu_7 : Nat) (x2_7 : Int32) (se_size_7 : Int32) (sea_a_7 : Nat → Int32) (seb_a_7 : Nat → Int32) (sec_a_7 : Nat → Int32) (H : Heap) (locs : List Loc) (ls : Array Slot), (0 ≤ x2_7.toInt ∧ x2_7.toInt ≤ 6) → (0 ≤ se_size_7.toInt ∧ se_size_7.toInt ≤ 6) → 6 - x2_7.toInt < (fu_7 : Int) → ((fn_X4_copyFrom se_size sea_a seb_a sec_a so_size soa_a sob_a soc_a) = (pm2 (lp_X4_copyFrom_7 se_size sea_a seb_a sec_a so_size soa_a sob_a soc_a fu_7 x2_7 se_size_7 sea_a_7 seb_a_7 sec_a_7) (fun x2_7 t_ => (pm2 (t_) (fun se_size_7 t_ => (pm2 (t_) (fun sea_a_7 t_ => (pm2 (t_) (fun seb_a_7 sec_a_7 => (se_size_7, sea_a_7, seb_a_7, sec_a_7)))))))))) → va_P D classes [(se, .inr (4, [.ref sea, .ref seb, .ref sec, .int se_size_7])), (sea, .inl (cy, 6, .inl sea_a_7)), (seb, .inl (cy, 6, .inl seb_a_7)), (sec, .inl (cy, 6, .inl sec_a_7)), (so, .inr (4, [.ref soa, .ref sob, .ref soc, .int so_size])), (soa, .inl (cy, 6, .inl soa_a)), (sob, .inl (cy, 6, .inl sob_a)), (soc, .inl (cy, 6, .inl soc_a))] H → va_D A [(se, .inr (4, [.ref sea, .ref seb, .ref sec, .int se_size_7])), (sea, .inl (cy, 6, .inl sea_a_7)), (seb, .inl (cy, 6, .inl seb_a_7)), (sec, .inl (cy, 6, .inl sec_a_7)), (so, .inr (4, [.ref soa, .ref sob, .ref soc, .int so_size])), (soa, .inl (cy, 6, .inl soa_a)), (sob, .inl (cy, 6, .inl sob_a)), (soc, .inl (cy, 6, .inl soc_a))] → va_S A s.heap H locs → lv_has ls 3 [(2, .int x2_7), (0, .ref se), (1, .ref so)] → W p l e { frames := 1, cells := 0, slots := 0, locals := 23 } s m args below meth c H locs 0 0 Q (F0 m 7 ls []) := by
    intro fu_7
    induction fu_7 with
    | zero =>
      intro x2_7 se_size_7 sea_a_7 seb_a_7 sec_a_7 H locs ls hi_7_0 hi_7_1 hm hF hP hD hS hl
      exfalso; omega
    | succ fu_7 ih_7 =>
      intro x2_7 se_size_7 sea_a_7 seb_a_7 sec_a_7 H locs ls hi_7_0 hi_7_1 hm hF hP hD hS hl
      rw [lp_X4_copyFrom_7] at hF
      refine lv_iload_n hx hb dX4_copyFrom_7 rfl (lv_at hl 0 rfl) ?_
      refine lv_aload_n hx hb dX4_copyFrom_8 rfl (lv_at hl 2 rfl) ?_
      refine va_get (D := D) (ci := 4) (v := .int so_size) (C := RX4) (T := TX4) (N := 4) hx hb htb inX4 hown hK hP 4 rfl rfl 3 (by decide) (htb _ tw_158) (fun _ h9 => h9) rfl dX4_copyFrom_9 ?_
      refine lv_icmp_ge (tgt := 44) hx hb dX4_copyFrom_12 (by decide) (fun c_1 => ?_) (fun c_1 => ?_)
      · have k_1 : so_size.toInt ≤ x2_7.toInt := wk_le c_1
        replace hF := hF.trans (pm2_p1 c_1)
        rw [pm2_mk x2_7 (se_size_7, sea_a_7, seb_a_7, sec_a_7), pm2_mk se_size_7 (sea_a_7, seb_a_7, sec_a_7), pm2_mk sea_a_7 (seb_a_7, sec_a_7), pm2_mk seb_a_7 sec_a_7] at hF
        refine W.widen (k := 0) (n := 0) (by decide) (by decide) ?_
        exact hret (se_size_7, sea_a_7, seb_a_7, sec_a_7) _ _ _ 44 (wk_sub9 (is := [0, 1, 2, 3, 4, 5, 6, 7]) hP rfl) (hD.sub [0, 1, 2, 3, 4, 5, 6, 7] rfl rfl) hS dX4_copyFrom_44 ⟨hF.symm, (show (0 ≤ se_size_7.toInt ∧ se_size_7.toInt ≤ 6) from by omega)⟩
      · have k_1 : ¬ so_size.toInt ≤ x2_7.toInt := wk_nle c_1
        replace hF := hF.trans (pm2_n1 c_1)
        refine lv_aload_n hx hb dX4_copyFrom_15 rfl (lv_at hl 1 rfl) ?_
        refine lv_aload_n hx hb dX4_copyFrom_16 rfl (lv_at hl 2 rfl) ?_
        refine va_get (D := D) (ci := 4) (v := .ref soa) (C := RX4) (T := TX4) (N := 4) hx hb htb inX4 hown hK hP 4 rfl rfl 0 (by decide) (htb _ tw_152) (fun _ h9 => h9) rfl dX4_copyFrom_17 ?_
        refine lv_iload_n hx hb dX4_copyFrom_20 rfl (lv_at hl 0 rfl) ?_
        refine va_iald hx hb hK hP 5 0 rfl rfl (show vp_in x2_7 6 from vp_in_iff.mpr (show 0 ≤ x2_7.toInt ∧ x2_7.toInt < ((6 : Nat) : Int) from by omega)) dX4_copyFrom_21 ?_
        refine lv_aload_n hx hb dX4_copyFrom_22 rfl (lv_at hl 2 rfl) ?_
        refine va_get (D := D) (ci := 4) (v := .ref sob) (C := RX4) (T := TX4) (N := 4) hx hb htb inX4 hown hK hP 4 rfl rfl 1 (by decide) (htb _ tw_154) (fun _ h9 => h9) rfl dX4_copyFrom_23 ?_
        refine lv_iload_n hx hb dX4_copyFrom_26 rfl (lv_at hl 0 rfl) ?_
        refine va_iald hx hb hK hP 6 0 rfl rfl (show vp_in x2_7 6 from vp_in_iff.mpr (show 0 ≤ x2_7.toInt ∧ x2_7.toInt < ((6 : Nat) : Int) from by omega)) dX4_copyFrom_27 ?_
        refine lv_aload_n hx hb dX4_copyFrom_28 rfl (lv_at hl 2 rfl) ?_
        refine va_get (D := D) (ci := 4) (v := .ref soc) (C := RX4) (T := TX4) (N := 4) hx hb htb inX4 hown hK hP 4 rfl rfl 2 (by decide) (htb _ tw_156) (fun _ h9 => h9) rfl dX4_copyFrom_29 ?_
        refine lv_iload_n hx hb dX4_copyFrom_32 rfl (lv_at hl 0 rfl) ?_
        refine va_iald hx hb hK hP 7 0 rfl rfl (show vp_in x2_7 6 from vp_in_iff.mpr (show 0 ≤ x2_7.toInt ∧ x2_7.toInt < ((6 : Nat) : Int) from by omega)) dX4_copyFrom_33 ?_
        refine wk_iV (As := [.int (soa_a x2_7.toNatClampNeg), .int (sob_a x2_7.toNatClampNeg), .int (soc_a x2_7.toNatClampNeg)]) (rest := []) (wc := [(se, .inr (4, [.ref sea, .ref seb, .ref sec, .int se_size_7])), (sea, .inl (cy, 6, .inl sea_a_7)), (seb, .inl (cy, 6, .inl seb_a_7)), (sec, .inl (cy, 6, .inl sec_a_7))]) (wr := [(so, .inr (4, [.ref soa, .ref sob, .ref soc, .int so_size])), (soa, .inl (cy, 6, .inl soa_a)), (sob, .inl (cy, 6, .inl sob_a)), (soc, .inl (cy, 6, .inl soc_a))]) (n := 3) ⟨hx, hb, hml, hown, htb⟩ (c_X4_add l D cy se sea seb sec se_size_7 sea_a_7 seb_a_7 sec_a_7 (soa_a x2_7.toNatClampNeg) (sob_a x2_7.toNatClampNeg) (soc_a x2_7.toNatClampNeg) (show 0 ≤ se_size_7.toInt ∧ se_size_7.toInt ≤ 6 from by omega)) tw_682 tw_716 tw_680 tw_681 tw_68 rfl rfl (by decide +kernel) ⟨Nat.le_of_ble_eq_true rfl, Nat.le_of_ble_eq_true rfl⟩ hK hP hD hS hA [0, 1, 2, 3] [4, 5, 6, 7] rfl rfl rfl rfl (by decide) 0 (ci := 4) rfl rfl rfl hl.1 rfl (Nat.le_of_ble_eq_true rfl) dX4_copyFrom_34 ⟨Nat.le_of_ble_eq_true rfl, Nat.le_of_ble_eq_true rfl⟩ (fun r_2 u_3 H locs hw_4 hP hD hS => ?_)
        refine W.widen (k := 0) (n := 0) (by decide) (by decide) ?_
        obtain ⟨o_5, o_6, o_7, o_8⟩ := u_3
        obtain ⟨hw_4, k_9⟩ := hw_4
        have hw_4 : (r_2, o_5, o_6, o_7, o_8) = (fn_X4_add se_size_7 sea_a_7 seb_a_7 sec_a_7 (soa_a x2_7.toNatClampNeg) (sob_a x2_7.toNatClampNeg) (soc_a x2_7.toNatClampNeg)) := hw_4
        have k_9 : (0 ≤ o_5.toInt ∧ o_5.toInt ≤ 6) := k_9
        rw [← hw_4] at hF
        rw [pm2_mk r_2 (o_5, o_6, o_7, o_8), pm2_mk o_5 (o_6, o_7, o_8), pm2_mk o_6 (o_7, o_8), pm2_mk o_7 o_8] at hF
        have hP : va_P D classes [(so, .inr (4, [.ref soa, .ref sob, .ref soc, .int so_size])), (soa, .inl (cy, 6, .inl soa_a)), (sob, .inl (cy, 6, .inl sob_a)), (soc, .inl (cy, 6, .inl soc_a)), (se, .inr (4, [.ref sea, .ref seb, .ref sec, .int o_5])), (sea, .inl (cy, 6, .inl o_6)), (seb, .inl (cy, 6, .inl o_7)), (sec, .inl (cy, 6, .inl o_8))] H := hP
        have hD : va_D A [(so, .inr (4, [.ref soa, .ref sob, .ref soc, .int so_size])), (soa, .inl (cy, 6, .inl soa_a)), (sob, .inl (cy, 6, .inl sob_a)), (soc, .inl (cy, 6, .inl soc_a)), (se, .inr (4, [.ref sea, .ref seb, .ref sec, .int o_5])), (sea, .inl (cy, 6, .inl o_6)), (seb, .inl (cy, 6, .inl o_7)), (sec, .inl (cy, 6, .inl o_8))] := hD
        refine lv_pop hx hb dX4_copyFrom_37 rfl ?_
        refine lv_iinc (v := (x2_7 + 1)) (lv' := [(2, .int (x2_7 + 1)), (0, .ref se), (1, .ref so)]) hx hb dX4_copyFrom_38 hl (k := 0) rfl rfl (by decide) rfl (fun ls hl => ?_)
        have k_10 : (x2_7 + 1).toInt = x2_7.toInt + 1 := wk_add x2_7.toInt 1 rfl rfl (by omega) (by omega)
        refine lv_goto (tgt := 7) hx hb dX4_copyFrom_41 (by decide) ?_
        exact ih_7 (x2_7 + 1) o_5 o_6 o_7 o_8 _ _ _ (show 0 ≤ (x2_7 + 1).toInt ∧ (x2_7 + 1).toInt ≤ 6 from by omega) (show 0 ≤ o_5.toInt ∧ o_5.toInt ≤ 6 from by omega) (show 6 - (x2_7 + 1).toInt < ((fu_7 : Nat) : Int) from by omega) hF (wk_sub9 (is := [4, 5, 6, 7, 0, 1, 2, 3]) hP rfl) (hD.sub [4, 5, 6, 7, 0, 1, 2, 3] rfl rfl) hS (lv_sub hl [0, 1, 2] rfl)
  exact hlp_7 8 0 0 sea_a seb_a sec_a _ _ _ (show 0 ≤ 0 ∧ 0 ≤ 6 from by omega) (show 0 ≤ 0 ∧ 0 ≤ 6 from by omega) (show 6 - 0 < ((8 : Nat) : Int) from by omega) hF hP hD hS (lv_sub hl [0, 1, 2] rfl)
def lp_X10_go_91 (wk_number : Int32) (wk_lane : Int32) (wk_looks : Int32) (ro_size : Int32) (rok_a : Nat → Int32) (ar_a : Nat → Int32) (a : Int32) (b : Int32) : Nat → Int32 → Int32 → Int32 → Int32 → Int32 → Int32 → Int32 × Int32 × Int32
  | 0, _, _, _, _, _, _ => default
  | fu_91 + 1, x6_91, x7_91, x8_91, wk_number_91, wk_lane_91, wk_looks_91 => (if (100 : Int32) ≤ x8_91 then (wk_number_91, wk_lane_91, wk_looks_91) else (if x7_91 < 0 then (wk_number_91, wk_lane_91, wk_looks_91) else (if (fn_X8_nextInLane ro_size ar_a x6_91 x7_91) = (-1) then (if (fn_X8_nextInLane ro_size ar_a x6_91 x7_91) = (-1) then (lp_X10_go_91 wk_number wk_lane wk_looks ro_size rok_a ar_a a b fu_91 x6_91 (x7_91 + (-1)) (x8_91 + 1) wk_number_91 wk_lane_91 (wk_looks_91 + 0)) else default) else (if (fn_X8_nextInLane ro_size ar_a x6_91 x7_91) = (-1) then default else (if (rok_a (fn_X8_nextInLane ro_size ar_a x6_91 x7_91).toNatClampNeg) ≤ b then (if (rok_a (fn_X8_nextInLane ro_size ar_a x6_91 x7_91).toNatClampNeg) = b then ((fn_X8_nextInLane ro_size ar_a x6_91 x7_91), x7_91, (wk_looks_91 + 1)) else (lp_X10_go_91 wk_number wk_lane wk_looks ro_size rok_a ar_a a b fu_91 (fn_X8_nextInLane ro_size ar_a x6_91 x7_91) x7_91 (x8_91 + 1) wk_number_91 wk_lane_91 (wk_looks_91 + 1))) else (lp_X10_go_91 wk_number wk_lane wk_looks ro_size rok_a ar_a a b fu_91 x6_91 (x7_91 + (-1)) (x8_91 + 1) wk_number_91 wk_lane_91 (wk_looks_91 + 1)))))))
termination_by n => n
def lp_X10_go_91v1 (wk_number : Int32) (wk_lane : Int32) (wk_looks : Int32) (ro_size : Int32) (rok_a : Nat → Int32) (ar_a : Nat → Int32) (a : Int32) (b : Int32) : Nat → Int32 → Int32 → Int32 → Int32 → Int32 → Int32 → Int32 × Int32 × Int32
  | 0, _, _, _, _, _, _ => default
  | fu_91 + 1, x6_91, x7_91, x8_91, wk_number_91, wk_lane_91, wk_looks_91 => (if (100 : Int32) ≤ x8_91 then (wk_number_91, wk_lane_91, wk_looks_91) else (if x7_91 < 0 then (wk_number_91, wk_lane_91, wk_looks_91) else (if (fn_X8_nextInLane ro_size ar_a x6_91 x7_91) = (-1) then (if (fn_X8_nextInLane ro_size ar_a x6_91 x7_91) = (-1) then (lp_X10_go_91v1 wk_number wk_lane wk_looks ro_size rok_a ar_a a b fu_91 x6_91 (x7_91 + (-1)) (x8_91 + 1) wk_number_91 wk_lane_91 (wk_looks_91 + 0)) else default) else (if (fn_X8_nextInLane ro_size ar_a x6_91 x7_91) = (-1) then default else (if (rok_a (fn_X8_nextInLane ro_size ar_a x6_91 x7_91).toNatClampNeg) ≤ b then (if (rok_a (fn_X8_nextInLane ro_size ar_a x6_91 x7_91).toNatClampNeg) = b then ((fn_X8_nextInLane ro_size ar_a x6_91 x7_91), x7_91, (wk_looks_91 + 1)) else (lp_X10_go_91v1 wk_number wk_lane wk_looks ro_size rok_a ar_a a b fu_91 (fn_X8_nextInLane ro_size ar_a x6_91 x7_91) ((ar_a (fn_X8_nextInLane ro_size ar_a x6_91 x7_91).toNatClampNeg) - 1) (x8_91 + 1) wk_number_91 wk_lane_91 (wk_looks_91 + 1))) else (lp_X10_go_91v1 wk_number wk_lane wk_looks ro_size rok_a ar_a a b fu_91 x6_91 (x7_91 + (-1)) (x8_91 + 1) wk_number_91 wk_lane_91 (wk_looks_91 + 1)))))))
termination_by n => n
def fn_X10_go (wk_number : Int32) (wk_lane : Int32) (wk_looks : Int32) (ro_size : Int32) (rok_a : Nat → Int32) (ar_a : Nat → Int32) (a : Int32) (b : Int32) : Int32 × Int32 × Int32 := (if a < 0 then (lp_X10_go_91 wk_number wk_lane wk_looks ro_size rok_a ar_a a b 102 (-1) ((fn_X8_highestOf ro_size ar_a) - 1) 0 (-1) (-1) 0) else (if ro_size ≤ a then (lp_X10_go_91 wk_number wk_lane wk_looks ro_size rok_a ar_a a b 102 (-1) ((fn_X8_highestOf ro_size ar_a) - 1) 0 (-1) (-1) 0) else (if (rok_a a.toNatClampNeg) = b then (a, (-1), 0) else (lp_X10_go_91v1 wk_number wk_lane wk_looks ro_size rok_a ar_a a b 102 a ((ar_a a.toNatClampNeg) - 1) 0 (-1) (-1) 0))))
theorem dX10_go_0 : decode cX10_go 0 = .ok (.iload_n 3, 1) := by decide +kernel
theorem dX10_go_1 : decode cX10_go 1 = .ok (.ifCond .lt 15, 3) := by decide +kernel
theorem dX10_go_4 : decode cX10_go 4 = .ok (.iload_n 3, 1) := by decide +kernel
theorem dX10_go_5 : decode cX10_go 5 = .ok (.aload_n 1, 1) := by decide +kernel
theorem dX10_go_6 : decode cX10_go 6 = .ok (.getfield 9, 3) := by decide +kernel
theorem dX10_go_9 : decode cX10_go 9 = .ok (.if_icmp .ge 7, 3) := by decide +kernel
theorem dX10_go_12 : decode cX10_go 12 = .ok (.iconst 1, 1) := by decide +kernel
theorem dX10_go_13 : decode cX10_go 13 = .ok (.goto 4, 3) := by decide +kernel
theorem dX10_go_16 : decode cX10_go 16 = .ok (.iconst 0, 1) := by decide +kernel
theorem dX10_go_17 : decode cX10_go 17 = .ok (.istore 5, 2) := by decide +kernel
theorem dX10_go_19 : decode cX10_go 19 = .ok (.iload 5, 2) := by decide +kernel
theorem dX10_go_21 : decode cX10_go 21 = .ok (.ifCond .eq 7, 3) := by decide +kernel
theorem dX10_go_24 : decode cX10_go 24 = .ok (.iload_n 3, 1) := by decide +kernel
theorem dX10_go_25 : decode cX10_go 25 = .ok (.goto 4, 3) := by decide +kernel
theorem dX10_go_28 : decode cX10_go 28 = .ok (.iconst (-1), 1) := by decide +kernel
theorem dX10_go_29 : decode cX10_go 29 = .ok (.istore 6, 2) := by decide +kernel
theorem dX10_go_31 : decode cX10_go 31 = .ok (.iload 5, 2) := by decide +kernel
theorem dX10_go_33 : decode cX10_go 33 = .ok (.ifCond .eq 9, 3) := by decide +kernel
theorem dX10_go_36 : decode cX10_go 36 = .ok (.aload_n 2, 1) := by decide +kernel
theorem dX10_go_37 : decode cX10_go 37 = .ok (.iload_n 3, 1) := by decide +kernel
theorem dX10_go_38 : decode cX10_go 38 = .ok (.iaload, 1) := by decide +kernel
theorem dX10_go_39 : decode cX10_go 39 = .ok (.goto 8, 3) := by decide +kernel
theorem dX10_go_42 : decode cX10_go 42 = .ok (.aload_n 1, 1) := by decide +kernel
theorem dX10_go_43 : decode cX10_go 43 = .ok (.aload_n 2, 1) := by decide +kernel
theorem dX10_go_44 : decode cX10_go 44 = .ok (.invokevirtual 15, 3) := by decide +kernel
theorem dX10_go_47 : decode cX10_go 47 = .ok (.iconst 1, 1) := by decide +kernel
theorem dX10_go_48 : decode cX10_go 48 = .ok (.isub, 1) := by decide +kernel
theorem dX10_go_49 : decode cX10_go 49 = .ok (.istore 7, 2) := by decide +kernel
theorem dX10_go_51 : decode cX10_go 51 = .ok (.aload_n 0, 1) := by decide +kernel
theorem dX10_go_52 : decode cX10_go 52 = .ok (.iconst (-1), 1) := by decide +kernel
theorem dX10_go_53 : decode cX10_go 53 = .ok (.putfield 19, 3) := by decide +kernel
theorem dX10_go_56 : decode cX10_go 56 = .ok (.aload_n 0, 1) := by decide +kernel
theorem dX10_go_57 : decode cX10_go 57 = .ok (.iconst (-1), 1) := by decide +kernel
theorem dX10_go_58 : decode cX10_go 58 = .ok (.putfield 24, 3) := by decide +kernel
theorem dX10_go_61 : decode cX10_go 61 = .ok (.aload_n 0, 1) := by decide +kernel
theorem dX10_go_62 : decode cX10_go 62 = .ok (.iconst 0, 1) := by decide +kernel
theorem dX10_go_63 : decode cX10_go 63 = .ok (.putfield 27, 3) := by decide +kernel
theorem dX10_go_66 : decode cX10_go 66 = .ok (.iload 5, 2) := by decide +kernel
theorem dX10_go_68 : decode cX10_go 68 = .ok (.ifCond .eq 20, 3) := by decide +kernel
theorem dX10_go_71 : decode cX10_go 71 = .ok (.aload_n 1, 1) := by decide +kernel
theorem dX10_go_72 : decode cX10_go 72 = .ok (.getfield 30, 3) := by decide +kernel
theorem dX10_go_75 : decode cX10_go 75 = .ok (.iload_n 3, 1) := by decide +kernel
theorem dX10_go_76 : decode cX10_go 76 = .ok (.iaload, 1) := by decide +kernel
theorem dX10_go_77 : decode cX10_go 77 = .ok (.iload 4, 2) := by decide +kernel
theorem dX10_go_79 : decode cX10_go 79 = .ok (.if_icmp .ne 9, 3) := by decide +kernel
theorem dX10_go_82 : decode cX10_go 82 = .ok (.aload_n 0, 1) := by decide +kernel
theorem dX10_go_83 : decode cX10_go 83 = .ok (.iload_n 3, 1) := by decide +kernel
theorem dX10_go_84 : decode cX10_go 84 = .ok (.putfield 19, 3) := by decide +kernel
theorem dX10_go_87 : decode cX10_go 87 = .ok (.return_, 1) := by decide +kernel
theorem dX10_go_88 : decode cX10_go 88 = .ok (.iconst 0, 1) := by decide +kernel
theorem dX10_go_89 : decode cX10_go 89 = .ok (.istore 8, 2) := by decide +kernel
theorem dX10_go_91 : decode cX10_go 91 = .ok (.iload 8, 2) := by decide +kernel
theorem dX10_go_93 : decode cX10_go 93 = .ok (.bipush 100, 2) := by decide +kernel
theorem dX10_go_95 : decode cX10_go 95 = .ok (.if_icmp .ge 116, 3) := by decide +kernel
theorem dX10_go_98 : decode cX10_go 98 = .ok (.iload 7, 2) := by decide +kernel
theorem dX10_go_100 : decode cX10_go 100 = .ok (.ifCond .lt 111, 3) := by decide +kernel
theorem dX10_go_103 : decode cX10_go 103 = .ok (.aload_n 1, 1) := by decide +kernel
theorem dX10_go_104 : decode cX10_go 104 = .ok (.aload_n 2, 1) := by decide +kernel
theorem dX10_go_105 : decode cX10_go 105 = .ok (.iload 6, 2) := by decide +kernel
theorem dX10_go_107 : decode cX10_go 107 = .ok (.iload 7, 2) := by decide +kernel
theorem dX10_go_109 : decode cX10_go 109 = .ok (.invokevirtual 34, 3) := by decide +kernel
theorem dX10_go_112 : decode cX10_go 112 = .ok (.istore 9, 2) := by decide +kernel
theorem dX10_go_114 : decode cX10_go 114 = .ok (.aload_n 0, 1) := by decide +kernel
theorem dX10_go_115 : decode cX10_go 115 = .ok (.dup, 1) := by decide +kernel
theorem dX10_go_116 : decode cX10_go 116 = .ok (.getfield 27, 3) := by decide +kernel
theorem dX10_go_119 : decode cX10_go 119 = .ok (.iload 9, 2) := by decide +kernel
theorem dX10_go_121 : decode cX10_go 121 = .ok (.iconst (-1), 1) := by decide +kernel
theorem dX10_go_122 : decode cX10_go 122 = .ok (.if_icmp .ne 7, 3) := by decide +kernel
theorem dX10_go_125 : decode cX10_go 125 = .ok (.iconst 0, 1) := by decide +kernel
theorem dX10_go_126 : decode cX10_go 126 = .ok (.goto 4, 3) := by decide +kernel
theorem dX10_go_129 : decode cX10_go 129 = .ok (.iconst 1, 1) := by decide +kernel
theorem dX10_go_130 : decode cX10_go 130 = .ok (.iadd, 1) := by decide +kernel
theorem dX10_go_131 : decode cX10_go 131 = .ok (.putfield 27, 3) := by decide +kernel
theorem dX10_go_134 : decode cX10_go 134 = .ok (.iload 9, 2) := by decide +kernel
theorem dX10_go_136 : decode cX10_go 136 = .ok (.iconst (-1), 1) := by decide +kernel
theorem dX10_go_137 : decode cX10_go 137 = .ok (.if_icmp .eq 15, 3) := by decide +kernel
theorem dX10_go_140 : decode cX10_go 140 = .ok (.aload_n 1, 1) := by decide +kernel
theorem dX10_go_141 : decode cX10_go 141 = .ok (.getfield 30, 3) := by decide +kernel
theorem dX10_go_144 : decode cX10_go 144 = .ok (.iload 9, 2) := by decide +kernel
theorem dX10_go_146 : decode cX10_go 146 = .ok (.iaload, 1) := by decide +kernel
theorem dX10_go_147 : decode cX10_go 147 = .ok (.iload 4, 2) := by decide +kernel
theorem dX10_go_149 : decode cX10_go 149 = .ok (.if_icmp .le 9, 3) := by decide +kernel
theorem dX10_go_152 : decode cX10_go 152 = .ok (.iinc 7 (-1), 3) := by decide +kernel
theorem dX10_go_155 : decode cX10_go 155 = .ok (.goto 50, 3) := by decide +kernel
theorem dX10_go_158 : decode cX10_go 158 = .ok (.aload_n 1, 1) := by decide +kernel
theorem dX10_go_159 : decode cX10_go 159 = .ok (.getfield 30, 3) := by decide +kernel
theorem dX10_go_162 : decode cX10_go 162 = .ok (.iload 9, 2) := by decide +kernel
theorem dX10_go_164 : decode cX10_go 164 = .ok (.iaload, 1) := by decide +kernel
theorem dX10_go_165 : decode cX10_go 165 = .ok (.iload 4, 2) := by decide +kernel
theorem dX10_go_167 : decode cX10_go 167 = .ok (.if_icmp .ne 16, 3) := by decide +kernel
theorem dX10_go_170 : decode cX10_go 170 = .ok (.aload_n 0, 1) := by decide +kernel
theorem dX10_go_171 : decode cX10_go 171 = .ok (.iload 9, 2) := by decide +kernel
theorem dX10_go_173 : decode cX10_go 173 = .ok (.putfield 19, 3) := by decide +kernel
theorem dX10_go_176 : decode cX10_go 176 = .ok (.aload_n 0, 1) := by decide +kernel
theorem dX10_go_177 : decode cX10_go 177 = .ok (.iload 7, 2) := by decide +kernel
theorem dX10_go_179 : decode cX10_go 179 = .ok (.putfield 24, 3) := by decide +kernel
theorem dX10_go_182 : decode cX10_go 182 = .ok (.return_, 1) := by decide +kernel
theorem dX10_go_183 : decode cX10_go 183 = .ok (.iload 9, 2) := by decide +kernel
theorem dX10_go_185 : decode cX10_go 185 = .ok (.istore 6, 2) := by decide +kernel
theorem dX10_go_187 : decode cX10_go 187 = .ok (.iload 5, 2) := by decide +kernel
theorem dX10_go_189 : decode cX10_go 189 = .ok (.ifCond .eq 12, 3) := by decide +kernel
theorem dX10_go_192 : decode cX10_go 192 = .ok (.aload_n 2, 1) := by decide +kernel
theorem dX10_go_193 : decode cX10_go 193 = .ok (.iload 9, 2) := by decide +kernel
theorem dX10_go_195 : decode cX10_go 195 = .ok (.iaload, 1) := by decide +kernel
theorem dX10_go_196 : decode cX10_go 196 = .ok (.iconst 1, 1) := by decide +kernel
theorem dX10_go_197 : decode cX10_go 197 = .ok (.isub, 1) := by decide +kernel
theorem dX10_go_198 : decode cX10_go 198 = .ok (.goto 5, 3) := by decide +kernel
theorem dX10_go_201 : decode cX10_go 201 = .ok (.iload 7, 2) := by decide +kernel
theorem dX10_go_203 : decode cX10_go 203 = .ok (.istore 7, 2) := by decide +kernel
theorem dX10_go_205 : decode cX10_go 205 = .ok (.iinc 8 1, 3) := by decide +kernel
theorem dX10_go_208 : decode cX10_go 208 = .ok (.goto (-117), 3) := by decide +kernel
theorem dX10_go_211 : decode cX10_go 211 = .ok (.return_, 1) := by decide +kernel
set_option maxHeartbeats 4000000 in
set_option maxRecDepth 100000 in
theorem c_X10_go (l : Launch) (D : va_G) (cy : ClassId) (wk ro rok rov roh rot ar : Nat) (wk_number : Int32) (wk_lane : Int32) (wk_looks : Int32) (ro_size : Int32) (rok_a : Nat → Int32) (ar_a : Nat → Int32) (a : Int32) (b : Int32) (g_0 : (-1) ≤ wk_number.toInt ∧ wk_number.toInt ≤ 7) (g_1 : 0 ≤ ro_size.toInt ∧ ro_size.toInt ≤ 8) : wk_Cv l yX10_go cX10_go 10 none { frames := 2, cells := 0, slots := 0, locals := 36 } D cy [.ref wk, .ref ro, .ref ar, .int a, .int b] [(wk, .inr (10, [.int wk_number, .int wk_lane, .int wk_looks])), (ro, .inr (8, [.ref rok, .ref rov, .ref roh, .ref rot, .int ro_size])), (rok, .inl (cy, 8, .inl rok_a)), (ar, .inl (cy, 8, .inl ar_a))] 0 0 (fun (u : Int32 × Int32 × Int32) => u = (fn_X10_go wk_number wk_lane wk_looks ro_size rok_a ar_a a b) ∧ ((-1) ≤ u.1.toInt ∧ u.1.toInt ≤ 7)) (fun u => [(wk, .inr (10, [.int u.1, .int u.2.1, .int u.2.2])), (ro, .inr (8, [.ref rok, .ref rov, .ref roh, .ref rot, .int ro_size])), (rok, .inl (cy, 8, .inl rok_a)), (ar, .inl (cy, 8, .inl ar_a))]) := by
  refine wk_mk2Cv (by decide) (Nat.le_of_ble_eq_true rfl) ?_
  intro p e s m args below meth c A ls Q B hA hK hP hD hS hl hret
  obtain ⟨hx, hb, hr, hlocks, hml, hown, htb, hin⟩ := B
  have hl : lv_has ls 10 [(0, .ref wk), (1, .ref ro), (2, .ref ar), (3, .int a), (4, .int b)] := hl
  have hF : (fn_X10_go wk_number wk_lane wk_looks ro_size rok_a ar_a a b) = (fn_X10_go wk_number wk_lane wk_looks ro_size rok_a ar_a a b) := rfl
  conv at hF => rhs; unfold fn_X10_go
  refine lv_iload_n hx hb dX10_go_0 rfl (lv_at hl 3 rfl) ?_
  refine lv_if_lt (tgt := 16) hx hb dX10_go_1 (by decide) (fun c_1 => ?_) (fun c_1 => ?_)
  · have k_1 : a.toInt < 0 := wk_lt c_1
    replace hF := hF.trans (if_pos c_1)
    refine lv_iconst (v := 0) hx hb dX10_go_16 (by decide) ?_
    refine lv_istore (lv' := [(5, .int 0), (0, .ref wk), (1, .ref ro), (2, .ref ar), (3, .int a), (4, .int b)]) hx hb dX10_go_17 hl (by decide) rfl (fun ls hl => ?_)
    refine lv_iload hx hb dX10_go_19 (lv_at hl 0 rfl) ?_
    refine lv_if_eq (tgt := 28) hx hb dX10_go_21 (by decide) (fun _ => ?_) (fun c_2 => absurd (by decide) c_2)
    refine lv_iconst (v := (-1)) hx hb dX10_go_28 (by decide) ?_
    refine lv_istore (lv' := [(6, .int (-1)), (5, .int 0), (0, .ref wk), (1, .ref ro), (2, .ref ar), (3, .int a), (4, .int b)]) hx hb dX10_go_29 hl (by decide) rfl (fun ls hl => ?_)
    refine lv_iload hx hb dX10_go_31 (lv_at hl 1 rfl) ?_
    refine lv_if_eq (tgt := 42) hx hb dX10_go_33 (by decide) (fun _ => ?_) (fun c_3 => absurd (by decide) c_3)
    refine lv_aload_n hx hb dX10_go_42 rfl (lv_at hl 3 rfl) ?_
    refine lv_aload_n hx hb dX10_go_43 rfl (lv_at hl 4 rfl) ?_
    refine wk_iV (As := [.ref ar]) (rest := []) (wc := [(ro, .inr (8, [.ref rok, .ref rov, .ref roh, .ref rot, .int ro_size])), (ar, .inl (cy, 8, .inl ar_a))]) (wr := [(wk, .inr (10, [.int wk_number, .int wk_lane, .int wk_looks])), (rok, .inl (cy, 8, .inl rok_a))]) (n := 1) ⟨hx, hb, hml, hown, htb⟩ (c_X8_highestOf l D cy ro rok rov roh rot ar ro_size ar_a  (show 0 ≤ ro_size.toInt ∧ ro_size.toInt ≤ 8 from by omega)) tw_493 tw_490 tw_491 tw_492 tw_67 rfl rfl (by decide +kernel) ⟨Nat.le_of_ble_eq_true rfl, Nat.le_of_ble_eq_true rfl⟩ hK hP hD hS hA [1, 3] [0, 2] rfl rfl rfl rfl (by decide) 0 (ci := 8) rfl rfl rfl hl.1 rfl (Nat.le_of_ble_eq_true rfl) dX10_go_44 ⟨Nat.le_of_ble_eq_true rfl, Nat.le_of_ble_eq_true rfl⟩ (fun r_4 u_5 H locs hw_6 hP hD hS => ?_)
    refine W.widen (k := 0) (n := 0) (by decide) (by decide) ?_
    have hw_6 : r_4 = (fn_X8_highestOf ro_size ar_a) := hw_6
    subst hw_6
    have hP : va_P D classes [(wk, .inr (10, [.int wk_number, .int wk_lane, .int wk_looks])), (rok, .inl (cy, 8, .inl rok_a)), (ro, .inr (8, [.ref rok, .ref rov, .ref roh, .ref rot, .int ro_size])), (ar, .inl (cy, 8, .inl ar_a))] H := hP
    have hD : va_D A [(wk, .inr (10, [.int wk_number, .int wk_lane, .int wk_looks])), (rok, .inl (cy, 8, .inl rok_a)), (ro, .inr (8, [.ref rok, .ref rov, .ref roh, .ref rot, .int ro_size])), (ar, .inl (cy, 8, .inl ar_a))] := hD
    refine lv_iconst (v := 1) hx hb dX10_go_47 (by decide) ?_
    refine lv_isub hx hb dX10_go_48 ?_
    refine lv_istore (lv' := [(7, .int ((fn_X8_highestOf ro_size ar_a) - 1)), (6, .int (-1)), (5, .int 0), (0, .ref wk), (1, .ref ro), (2, .ref ar), (3, .int a), (4, .int b)]) hx hb dX10_go_49 hl (by decide) rfl (fun ls hl => ?_)
    refine lv_aload_n hx hb dX10_go_51 rfl (lv_at hl 3 rfl) ?_
    refine lv_iconst (v := (-1)) hx hb dX10_go_52 (by decide) ?_
    refine va_put (D := D) (ci := 10) (v := .int (-1)) (ty := .int) (C := RX10) (T := TX10) (N := 3) hx hb htb inX10 tyX10 tyX10_ok nmX10 hown hK hP hD hS 0 rfl rfl 0 (by decide) (htb _ tw_201) (fun _ h9 => h9) rfl (by decide +kernel) rfl rfl (Nat.le_of_ble_eq_true rfl) dX10_go_53 (fun H locs hP hD hS => ?_)
    have hP : va_P D classes [(wk, .inr (10, [.int (-1), .int wk_lane, .int wk_looks])), (rok, .inl (cy, 8, .inl rok_a)), (ro, .inr (8, [.ref rok, .ref rov, .ref roh, .ref rot, .int ro_size])), (ar, .inl (cy, 8, .inl ar_a))] H := hP
    have hD : va_D A [(wk, .inr (10, [.int (-1), .int wk_lane, .int wk_looks])), (rok, .inl (cy, 8, .inl rok_a)), (ro, .inr (8, [.ref rok, .ref rov, .ref roh, .ref rot, .int ro_size])), (ar, .inl (cy, 8, .inl ar_a))] := hD
    refine lv_aload_n hx hb dX10_go_56 rfl (lv_at hl 3 rfl) ?_
    refine lv_iconst (v := (-1)) hx hb dX10_go_57 (by decide) ?_
    refine va_put (D := D) (ci := 10) (v := .int (-1)) (ty := .int) (C := RX10) (T := TX10) (N := 3) hx hb htb inX10 tyX10 tyX10_ok nmX10 hown hK hP hD hS 0 rfl rfl 1 (by decide) (htb _ tw_203) (fun _ h9 => h9) rfl (by decide +kernel) rfl rfl (Nat.le_of_ble_eq_true rfl) dX10_go_58 (fun H locs hP hD hS => ?_)
    have hP : va_P D classes [(wk, .inr (10, [.int (-1), .int (-1), .int wk_looks])), (rok, .inl (cy, 8, .inl rok_a)), (ro, .inr (8, [.ref rok, .ref rov, .ref roh, .ref rot, .int ro_size])), (ar, .inl (cy, 8, .inl ar_a))] H := hP
    have hD : va_D A [(wk, .inr (10, [.int (-1), .int (-1), .int wk_looks])), (rok, .inl (cy, 8, .inl rok_a)), (ro, .inr (8, [.ref rok, .ref rov, .ref roh, .ref rot, .int ro_size])), (ar, .inl (cy, 8, .inl ar_a))] := hD
    refine lv_aload_n hx hb dX10_go_61 rfl (lv_at hl 3 rfl) ?_
    refine lv_iconst (v := 0) hx hb dX10_go_62 (by decide) ?_
    refine va_put (D := D) (ci := 10) (v := .int 0) (ty := .int) (C := RX10) (T := TX10) (N := 3) hx hb htb inX10 tyX10 tyX10_ok nmX10 hown hK hP hD hS 0 rfl rfl 2 (by decide) (htb _ tw_206) (fun _ h9 => h9) rfl (by decide +kernel) rfl rfl (Nat.le_of_ble_eq_true rfl) dX10_go_63 (fun H locs hP hD hS => ?_)
    have hP : va_P D classes [(wk, .inr (10, [.int (-1), .int (-1), .int 0])), (rok, .inl (cy, 8, .inl rok_a)), (ro, .inr (8, [.ref rok, .ref rov, .ref roh, .ref rot, .int ro_size])), (ar, .inl (cy, 8, .inl ar_a))] H := hP
    have hD : va_D A [(wk, .inr (10, [.int (-1), .int (-1), .int 0])), (rok, .inl (cy, 8, .inl rok_a)), (ro, .inr (8, [.ref rok, .ref rov, .ref roh, .ref rot, .int ro_size])), (ar, .inl (cy, 8, .inl ar_a))] := hD
    refine lv_iload hx hb dX10_go_66 (lv_at hl 2 rfl) ?_
    refine lv_if_eq (tgt := 88) hx hb dX10_go_68 (by decide) (fun _ => ?_) (fun c_7 => absurd (by decide) c_7)
    refine lv_iconst (v := 0) hx hb dX10_go_88 (by decide) ?_
    refine lv_istore (lv' := [(8, .int 0), (7, .int ((fn_X8_highestOf ro_size ar_a) - 1)), (6, .int (-1)), (5, .int 0), (0, .ref wk), (1, .ref ro), (2, .ref ar), (3, .int a), (4, .int b)]) hx hb dX10_go_89 hl (by decide) rfl (fun ls hl => ?_)
    have hlp_91 : ∀ (fu_91 : Nat) (x6_91 : Int32) (x7_91 : Int32) (x8_91 : Int32) (wk_number_91 : Int32) (wk_lane_91 : Int32) (wk_looks_91 : Int32) (H : Heap) (locs : List Loc) (ls : Array Slot), ((-1) ≤ x6_91.toInt ∧ x6_91.toInt ≤ 7) → (0 ≤ x8_91.toInt ∧ x8_91.toInt ≤ 100) → ((-1) ≤ wk_number_91.toInt ∧ wk_number_91.toInt ≤ 7) → 100 - x8_91.toInt < (fu_91 : Int) → ((fn_X10_go wk_number wk_lane wk_looks ro_size rok_a ar_a a b) = lp_X10_go_91 wk_number wk_lane wk_looks ro_size rok_a ar_a a b fu_91 x6_91 x7_91 x8_91 wk_number_91 wk_lane_91 wk_looks_91) → va_P D classes [(wk, .inr (10, [.int wk_number_91, .int wk_lane_91, .int wk_looks_91])), (rok, .inl (cy, 8, .inl rok_a)), (ro, .inr (8, [.ref rok, .ref rov, .ref roh, .ref rot, .int ro_size])), (ar, .inl (cy, 8, .inl ar_a))] H → va_D A [(wk, .inr (10, [.int wk_number_91, .int wk_lane_91, .int wk_looks_91])), (rok, .inl (cy, 8, .inl rok_a)), (ro, .inr (8, [.ref rok, .ref rov, .ref roh, .ref rot, .int ro_size])), (ar, .inl (cy, 8, .inl ar_a))] → va_S A s.heap H locs → lv_has ls 10 [(8, .int x8_91), (7, .int x7_91), (6, .int x6_91), (5, .int 0), (0, .ref wk), (1, .ref ro), (2, .ref ar), (3, .int a), (4, .int b)] → W p l e { frames := 2, cells := 0, slots := 0, locals := 36 } s m args below meth c H locs 0 0 Q (F0 m 91 ls []) := by
      intro fu_91
      induction fu_91 with
      | zero =>
        intro x6_91 x7_91 x8_91 wk_number_91 wk_lane_91 wk_looks_91 H locs ls hi_91_0 hi_91_1 hi_91_2 hm hF hP hD hS hl
        exfalso; omega
      | succ fu_91 ih_91 =>
        intro x6_91 x7_91 x8_91 wk_number_91 wk_lane_91 wk_looks_91 H locs ls hi_91_0 hi_91_1 hi_91_2 hm hF hP hD hS hl
        rw [lp_X10_go_91] at hF
        refine lv_iload hx hb dX10_go_91 (lv_at hl 0 rfl) ?_
        refine lv_bipush (v := 100) hx hb dX10_go_93 (by decide) ?_
        refine lv_icmp_ge (tgt := 211) hx hb dX10_go_95 (by decide) (fun c_8 => ?_) (fun c_8 => ?_)
        · have k_8 : 100 ≤ x8_91.toInt := wk_le c_8
          replace hF := hF.trans (if_pos c_8)
          refine W.widen (k := 0) (n := 0) (by decide) (by decide) ?_
          exact hret (wk_number_91, wk_lane_91, wk_looks_91) _ _ _ 211 (wk_sub9 (is := [0, 2, 1, 3]) hP rfl) (hD.sub [0, 2, 1, 3] rfl rfl) hS dX10_go_211 ⟨hF.symm, (show ((-1) ≤ wk_number_91.toInt ∧ wk_number_91.toInt ≤ 7) from by omega)⟩
        · have k_8 : ¬ 100 ≤ x8_91.toInt := wk_nle c_8
          replace hF := hF.trans (if_neg c_8)
          refine lv_iload hx hb dX10_go_98 (lv_at hl 1 rfl) ?_
          refine lv_if_lt (tgt := 211) hx hb dX10_go_100 (by decide) (fun c_9 => ?_) (fun c_9 => ?_)
          · have k_9 : x7_91.toInt < 0 := wk_lt c_9
            replace hF := hF.trans (if_pos c_9)
            refine W.widen (k := 0) (n := 0) (by decide) (by decide) ?_
            exact hret (wk_number_91, wk_lane_91, wk_looks_91) _ _ _ 211 (wk_sub9 (is := [0, 2, 1, 3]) hP rfl) (hD.sub [0, 2, 1, 3] rfl rfl) hS dX10_go_211 ⟨hF.symm, (show ((-1) ≤ wk_number_91.toInt ∧ wk_number_91.toInt ≤ 7) from by omega)⟩
          · have k_9 : ¬ x7_91.toInt < 0 := wk_nlt c_9
            replace hF := hF.trans (if_neg c_9)
            refine lv_aload_n hx hb dX10_go_103 rfl (lv_at hl 5 rfl) ?_
            refine lv_aload_n hx hb dX10_go_104 rfl (lv_at hl 6 rfl) ?_
            refine lv_iload hx hb dX10_go_105 (lv_at hl 2 rfl) ?_
            refine lv_iload hx hb dX10_go_107 (lv_at hl 1 rfl) ?_
            refine wk_iV (As := [.ref ar, .int x6_91, .int x7_91]) (rest := []) (wc := [(ro, .inr (8, [.ref rok, .ref rov, .ref roh, .ref rot, .int ro_size])), (ar, .inl (cy, 8, .inl ar_a))]) (wr := [(wk, .inr (10, [.int wk_number_91, .int wk_lane_91, .int wk_looks_91])), (rok, .inl (cy, 8, .inl rok_a))]) (n := 3) ⟨hx, hb, hml, hown, htb⟩ (c_X8_nextInLane l D cy ro rok rov roh rot ar ro_size ar_a x6_91 x7_91 (show 0 ≤ ro_size.toInt ∧ ro_size.toInt ≤ 8 from by omega) (show (-1) ≤ x6_91.toInt ∧ x6_91.toInt ≤ 7 from by omega)) tw_500 tw_497 tw_498 tw_499 tw_67 rfl rfl (by decide +kernel) ⟨Nat.le_of_ble_eq_true rfl, Nat.le_of_ble_eq_true rfl⟩ hK hP hD hS hA [2, 3] [0, 1] rfl rfl rfl rfl (by decide) 0 (ci := 8) rfl rfl rfl hl.1 rfl (Nat.le_of_ble_eq_true rfl) dX10_go_109 ⟨Nat.le_of_ble_eq_true rfl, Nat.le_of_ble_eq_true rfl⟩ (fun r_10 u_11 H locs hw_12 hP hD hS => ?_)
            refine W.widen (k := 0) (n := 0) (by decide) (by decide) ?_
            obtain ⟨hw_12, k_13, k_14⟩ := hw_12
            have hw_12 : r_10 = (fn_X8_nextInLane ro_size ar_a x6_91 x7_91) := hw_12
            subst hw_12
            have k_13 : ((-1) ≤ (fn_X8_nextInLane ro_size ar_a x6_91 x7_91).toInt ∧ (fn_X8_nextInLane ro_size ar_a x6_91 x7_91).toInt ≤ 7) := k_13
            have k_14 : ((fn_X8_nextInLane ro_size ar_a x6_91 x7_91).toInt < ro_size.toInt) := k_14
            have hP : va_P D classes [(wk, .inr (10, [.int wk_number_91, .int wk_lane_91, .int wk_looks_91])), (rok, .inl (cy, 8, .inl rok_a)), (ro, .inr (8, [.ref rok, .ref rov, .ref roh, .ref rot, .int ro_size])), (ar, .inl (cy, 8, .inl ar_a))] H := hP
            have hD : va_D A [(wk, .inr (10, [.int wk_number_91, .int wk_lane_91, .int wk_looks_91])), (rok, .inl (cy, 8, .inl rok_a)), (ro, .inr (8, [.ref rok, .ref rov, .ref roh, .ref rot, .int ro_size])), (ar, .inl (cy, 8, .inl ar_a))] := hD
            refine lv_istore (lv' := [(9, .int (fn_X8_nextInLane ro_size ar_a x6_91 x7_91)), (8, .int x8_91), (7, .int x7_91), (6, .int x6_91), (5, .int 0), (0, .ref wk), (1, .ref ro), (2, .ref ar), (3, .int a), (4, .int b)]) hx hb dX10_go_112 hl (by decide) rfl (fun ls hl => ?_)
            refine lv_aload_n hx hb dX10_go_114 rfl (lv_at hl 5 rfl) ?_
            refine lv_dup hx hb dX10_go_115 rfl ?_
            refine va_get (D := D) (ci := 10) (v := .int wk_looks_91) (C := RX10) (T := TX10) (N := 3) hx hb htb inX10 hown hK hP 0 rfl rfl 2 (by decide) (htb _ tw_206) (fun _ h9 => h9) rfl dX10_go_116 ?_
            refine lv_iload hx hb dX10_go_119 (lv_at hl 0 rfl) ?_
            refine lv_iconst (v := (-1)) hx hb dX10_go_121 (by decide) ?_
            refine lv_icmp_ne (tgt := 129) hx hb dX10_go_122 (by decide) (fun c_15 => ?_) (fun c_15 => ?_)
            · have k_15 : ¬ (fn_X8_nextInLane ro_size ar_a x6_91 x7_91).toInt = (-1) := wk_neq c_15
              replace hF := hF.trans (if_neg c_15)
              refine lv_iconst (v := 1) hx hb dX10_go_129 (by decide) ?_
              refine lv_iadd hx hb dX10_go_130 ?_
              refine va_put (D := D) (ci := 10) (v := .int (wk_looks_91 + 1)) (ty := .int) (C := RX10) (T := TX10) (N := 3) hx hb htb inX10 tyX10 tyX10_ok nmX10 hown hK hP hD hS 0 rfl rfl 2 (by decide) (htb _ tw_206) (fun _ h9 => h9) rfl (by decide +kernel) rfl rfl (Nat.le_of_ble_eq_true rfl) dX10_go_131 (fun H locs hP hD hS => ?_)
              have hP : va_P D classes [(wk, .inr (10, [.int wk_number_91, .int wk_lane_91, .int (wk_looks_91 + 1)])), (rok, .inl (cy, 8, .inl rok_a)), (ro, .inr (8, [.ref rok, .ref rov, .ref roh, .ref rot, .int ro_size])), (ar, .inl (cy, 8, .inl ar_a))] H := hP
              have hD : va_D A [(wk, .inr (10, [.int wk_number_91, .int wk_lane_91, .int (wk_looks_91 + 1)])), (rok, .inl (cy, 8, .inl rok_a)), (ro, .inr (8, [.ref rok, .ref rov, .ref roh, .ref rot, .int ro_size])), (ar, .inl (cy, 8, .inl ar_a))] := hD
              refine lv_iload hx hb dX10_go_134 (lv_at hl 0 rfl) ?_
              refine lv_iconst (v := (-1)) hx hb dX10_go_136 (by decide) ?_
              refine lv_icmp_eq (tgt := 152) hx hb dX10_go_137 (by decide) (fun c_16 => ?_) (fun c_16 => ?_)
              · have k_16 : (fn_X8_nextInLane ro_size ar_a x6_91 x7_91).toInt = (-1) := wk_eq c_16
                replace hF := hF.trans (if_pos c_16)
                exfalso; omega
              · have k_16 : ¬ (fn_X8_nextInLane ro_size ar_a x6_91 x7_91).toInt = (-1) := wk_neq c_16
                replace hF := hF.trans (if_neg c_16)
                refine lv_aload_n hx hb dX10_go_140 rfl (lv_at hl 6 rfl) ?_
                refine va_get (D := D) (ci := 8) (v := .ref rok) (C := RX8) (T := TX8) (N := 5) hx hb htb inX8 hown hK hP 2 rfl rfl 0 (by decide) (htb _ tw_116) (fun _ h9 => h9) rfl dX10_go_141 ?_
                refine lv_iload hx hb dX10_go_144 (lv_at hl 0 rfl) ?_
                refine va_iald hx hb hK hP 1 0 rfl rfl (show vp_in (fn_X8_nextInLane ro_size ar_a x6_91 x7_91) 8 from vp_in_iff.mpr (show 0 ≤ (fn_X8_nextInLane ro_size ar_a x6_91 x7_91).toInt ∧ (fn_X8_nextInLane ro_size ar_a x6_91 x7_91).toInt < ((8 : Nat) : Int) from by omega)) dX10_go_146 ?_
                refine lv_iload hx hb dX10_go_147 (lv_at hl 9 rfl) ?_
                refine lv_icmp_le (tgt := 158) hx hb dX10_go_149 (by decide) (fun c_17 => ?_) (fun c_17 => ?_)
                · have k_17 : (rok_a (fn_X8_nextInLane ro_size ar_a x6_91 x7_91).toNatClampNeg).toInt ≤ b.toInt := wk_le c_17
                  replace hF := hF.trans (if_pos c_17)
                  refine lv_aload_n hx hb dX10_go_158 rfl (lv_at hl 6 rfl) ?_
                  refine va_get (D := D) (ci := 8) (v := .ref rok) (C := RX8) (T := TX8) (N := 5) hx hb htb inX8 hown hK hP 2 rfl rfl 0 (by decide) (htb _ tw_116) (fun _ h9 => h9) rfl dX10_go_159 ?_
                  refine lv_iload hx hb dX10_go_162 (lv_at hl 0 rfl) ?_
                  refine va_iald hx hb hK hP 1 0 rfl rfl (show vp_in (fn_X8_nextInLane ro_size ar_a x6_91 x7_91) 8 from vp_in_iff.mpr (show 0 ≤ (fn_X8_nextInLane ro_size ar_a x6_91 x7_91).toInt ∧ (fn_X8_nextInLane ro_size ar_a x6_91 x7_91).toInt < ((8 : Nat) : Int) from by omega)) dX10_go_164 ?_
                  refine lv_iload hx hb dX10_go_165 (lv_at hl 9 rfl) ?_
                  refine lv_icmp_ne (tgt := 183) hx hb dX10_go_167 (by decide) (fun c_18 => ?_) (fun c_18 => ?_)
                  · have k_18 : ¬ (rok_a (fn_X8_nextInLane ro_size ar_a x6_91 x7_91).toNatClampNeg).toInt = b.toInt := wk_neq c_18
                    replace hF := hF.trans (if_neg c_18)
                    refine lv_iload hx hb dX10_go_183 (lv_at hl 0 rfl) ?_
                    refine lv_istore (lv' := [(6, .int (fn_X8_nextInLane ro_size ar_a x6_91 x7_91)), (9, .int (fn_X8_nextInLane ro_size ar_a x6_91 x7_91)), (8, .int x8_91), (7, .int x7_91), (5, .int 0), (0, .ref wk), (1, .ref ro), (2, .ref ar), (3, .int a), (4, .int b)]) hx hb dX10_go_185 hl (by decide) rfl (fun ls hl => ?_)
                    refine lv_iload hx hb dX10_go_187 (lv_at hl 4 rfl) ?_
                    refine lv_if_eq (tgt := 201) hx hb dX10_go_189 (by decide) (fun _ => ?_) (fun c_19 => absurd (by decide) c_19)
                    refine lv_iload hx hb dX10_go_201 (lv_at hl 3 rfl) ?_
                    refine lv_istore (lv' := [(7, .int x7_91), (6, .int (fn_X8_nextInLane ro_size ar_a x6_91 x7_91)), (9, .int (fn_X8_nextInLane ro_size ar_a x6_91 x7_91)), (8, .int x8_91), (5, .int 0), (0, .ref wk), (1, .ref ro), (2, .ref ar), (3, .int a), (4, .int b)]) hx hb dX10_go_203 hl (by decide) rfl (fun ls hl => ?_)
                    refine lv_iinc (v := (x8_91 + 1)) (lv' := [(8, .int (x8_91 + 1)), (7, .int x7_91), (6, .int (fn_X8_nextInLane ro_size ar_a x6_91 x7_91)), (9, .int (fn_X8_nextInLane ro_size ar_a x6_91 x7_91)), (5, .int 0), (0, .ref wk), (1, .ref ro), (2, .ref ar), (3, .int a), (4, .int b)]) hx hb dX10_go_205 hl (k := 3) rfl rfl (by decide) rfl (fun ls hl => ?_)
                    have k_20 : (x8_91 + 1).toInt = x8_91.toInt + 1 := wk_add x8_91.toInt 1 rfl rfl (by omega) (by omega)
                    refine lv_goto (tgt := 91) hx hb dX10_go_208 (by decide) ?_
                    exact ih_91 (fn_X8_nextInLane ro_size ar_a x6_91 x7_91) x7_91 (x8_91 + 1) wk_number_91 wk_lane_91 (wk_looks_91 + 1) _ _ _ (show (-1) ≤ (fn_X8_nextInLane ro_size ar_a x6_91 x7_91).toInt ∧ (fn_X8_nextInLane ro_size ar_a x6_91 x7_91).toInt ≤ 7 from by omega) (show 0 ≤ (x8_91 + 1).toInt ∧ (x8_91 + 1).toInt ≤ 100 from by omega) (show (-1) ≤ wk_number_91.toInt ∧ wk_number_91.toInt ≤ 7 from by omega) (show 100 - (x8_91 + 1).toInt < ((fu_91 : Nat) : Int) from by omega) hF hP hD hS (lv_sub hl [0, 1, 2, 4, 5, 6, 7, 8, 9] rfl)
                  · have k_18 : (rok_a (fn_X8_nextInLane ro_size ar_a x6_91 x7_91).toNatClampNeg).toInt = b.toInt := wk_eq c_18
                    replace hF := hF.trans (if_pos c_18)
                    refine lv_aload_n hx hb dX10_go_170 rfl (lv_at hl 5 rfl) ?_
                    refine lv_iload hx hb dX10_go_171 (lv_at hl 0 rfl) ?_
                    refine va_put (D := D) (ci := 10) (v := .int (fn_X8_nextInLane ro_size ar_a x6_91 x7_91)) (ty := .int) (C := RX10) (T := TX10) (N := 3) hx hb htb inX10 tyX10 tyX10_ok nmX10 hown hK hP hD hS 0 rfl rfl 0 (by decide) (htb _ tw_201) (fun _ h9 => h9) rfl (by decide +kernel) rfl rfl (Nat.le_of_ble_eq_true rfl) dX10_go_173 (fun H locs hP hD hS => ?_)
                    have hP : va_P D classes [(wk, .inr (10, [.int (fn_X8_nextInLane ro_size ar_a x6_91 x7_91), .int wk_lane_91, .int (wk_looks_91 + 1)])), (rok, .inl (cy, 8, .inl rok_a)), (ro, .inr (8, [.ref rok, .ref rov, .ref roh, .ref rot, .int ro_size])), (ar, .inl (cy, 8, .inl ar_a))] H := hP
                    have hD : va_D A [(wk, .inr (10, [.int (fn_X8_nextInLane ro_size ar_a x6_91 x7_91), .int wk_lane_91, .int (wk_looks_91 + 1)])), (rok, .inl (cy, 8, .inl rok_a)), (ro, .inr (8, [.ref rok, .ref rov, .ref roh, .ref rot, .int ro_size])), (ar, .inl (cy, 8, .inl ar_a))] := hD
                    refine lv_aload_n hx hb dX10_go_176 rfl (lv_at hl 5 rfl) ?_
                    refine lv_iload hx hb dX10_go_177 (lv_at hl 2 rfl) ?_
                    refine va_put (D := D) (ci := 10) (v := .int x7_91) (ty := .int) (C := RX10) (T := TX10) (N := 3) hx hb htb inX10 tyX10 tyX10_ok nmX10 hown hK hP hD hS 0 rfl rfl 1 (by decide) (htb _ tw_203) (fun _ h9 => h9) rfl (by decide +kernel) rfl rfl (Nat.le_of_ble_eq_true rfl) dX10_go_179 (fun H locs hP hD hS => ?_)
                    have hP : va_P D classes [(wk, .inr (10, [.int (fn_X8_nextInLane ro_size ar_a x6_91 x7_91), .int x7_91, .int (wk_looks_91 + 1)])), (rok, .inl (cy, 8, .inl rok_a)), (ro, .inr (8, [.ref rok, .ref rov, .ref roh, .ref rot, .int ro_size])), (ar, .inl (cy, 8, .inl ar_a))] H := hP
                    have hD : va_D A [(wk, .inr (10, [.int (fn_X8_nextInLane ro_size ar_a x6_91 x7_91), .int x7_91, .int (wk_looks_91 + 1)])), (rok, .inl (cy, 8, .inl rok_a)), (ro, .inr (8, [.ref rok, .ref rov, .ref roh, .ref rot, .int ro_size])), (ar, .inl (cy, 8, .inl ar_a))] := hD
                    refine W.widen (k := 0) (n := 0) (by decide) (by decide) ?_
                    exact hret ((fn_X8_nextInLane ro_size ar_a x6_91 x7_91), x7_91, (wk_looks_91 + 1)) _ _ _ 182 (wk_sub9 (is := [0, 2, 1, 3]) hP rfl) (hD.sub [0, 2, 1, 3] rfl rfl) hS dX10_go_182 ⟨hF.symm, (show ((-1) ≤ (fn_X8_nextInLane ro_size ar_a x6_91 x7_91).toInt ∧ (fn_X8_nextInLane ro_size ar_a x6_91 x7_91).toInt ≤ 7) from by omega)⟩
                · have k_17 : ¬ (rok_a (fn_X8_nextInLane ro_size ar_a x6_91 x7_91).toNatClampNeg).toInt ≤ b.toInt := wk_nle c_17
                  replace hF := hF.trans (if_neg c_17)
                  refine lv_iinc (v := (x7_91 + (-1))) (lv' := [(7, .int (x7_91 + (-1))), (9, .int (fn_X8_nextInLane ro_size ar_a x6_91 x7_91)), (8, .int x8_91), (6, .int x6_91), (5, .int 0), (0, .ref wk), (1, .ref ro), (2, .ref ar), (3, .int a), (4, .int b)]) hx hb dX10_go_152 hl (k := 2) rfl rfl (by decide) rfl (fun ls hl => ?_)
                  refine lv_goto (tgt := 205) hx hb dX10_go_155 (by decide) ?_
                  refine lv_iinc (v := (x8_91 + 1)) (lv' := [(8, .int (x8_91 + 1)), (7, .int (x7_91 + (-1))), (9, .int (fn_X8_nextInLane ro_size ar_a x6_91 x7_91)), (6, .int x6_91), (5, .int 0), (0, .ref wk), (1, .ref ro), (2, .ref ar), (3, .int a), (4, .int b)]) hx hb dX10_go_205 hl (k := 2) rfl rfl (by decide) rfl (fun ls hl => ?_)
                  have k_21 : (x8_91 + 1).toInt = x8_91.toInt + 1 := wk_add x8_91.toInt 1 rfl rfl (by omega) (by omega)
                  refine lv_goto (tgt := 91) hx hb dX10_go_208 (by decide) ?_
                  exact ih_91 x6_91 (x7_91 + (-1)) (x8_91 + 1) wk_number_91 wk_lane_91 (wk_looks_91 + 1) _ _ _ (show (-1) ≤ x6_91.toInt ∧ x6_91.toInt ≤ 7 from by omega) (show 0 ≤ (x8_91 + 1).toInt ∧ (x8_91 + 1).toInt ≤ 100 from by omega) (show (-1) ≤ wk_number_91.toInt ∧ wk_number_91.toInt ≤ 7 from by omega) (show 100 - (x8_91 + 1).toInt < ((fu_91 : Nat) : Int) from by omega) hF hP hD hS (lv_sub hl [0, 1, 3, 4, 5, 6, 7, 8, 9] rfl)
            · have k_15 : (fn_X8_nextInLane ro_size ar_a x6_91 x7_91).toInt = (-1) := wk_eq c_15
              replace hF := hF.trans (if_pos c_15)
              refine lv_iconst (v := 0) hx hb dX10_go_125 (by decide) ?_
              refine lv_goto (tgt := 130) hx hb dX10_go_126 (by decide) ?_
              refine lv_iadd hx hb dX10_go_130 ?_
              refine va_put (D := D) (ci := 10) (v := .int (wk_looks_91 + 0)) (ty := .int) (C := RX10) (T := TX10) (N := 3) hx hb htb inX10 tyX10 tyX10_ok nmX10 hown hK hP hD hS 0 rfl rfl 2 (by decide) (htb _ tw_206) (fun _ h9 => h9) rfl (by decide +kernel) rfl rfl (Nat.le_of_ble_eq_true rfl) dX10_go_131 (fun H locs hP hD hS => ?_)
              have hP : va_P D classes [(wk, .inr (10, [.int wk_number_91, .int wk_lane_91, .int (wk_looks_91 + 0)])), (rok, .inl (cy, 8, .inl rok_a)), (ro, .inr (8, [.ref rok, .ref rov, .ref roh, .ref rot, .int ro_size])), (ar, .inl (cy, 8, .inl ar_a))] H := hP
              have hD : va_D A [(wk, .inr (10, [.int wk_number_91, .int wk_lane_91, .int (wk_looks_91 + 0)])), (rok, .inl (cy, 8, .inl rok_a)), (ro, .inr (8, [.ref rok, .ref rov, .ref roh, .ref rot, .int ro_size])), (ar, .inl (cy, 8, .inl ar_a))] := hD
              refine lv_iload hx hb dX10_go_134 (lv_at hl 0 rfl) ?_
              refine lv_iconst (v := (-1)) hx hb dX10_go_136 (by decide) ?_
              refine lv_icmp_eq (tgt := 152) hx hb dX10_go_137 (by decide) (fun c_22 => ?_) (fun c_22 => ?_)
              · have k_22 : (fn_X8_nextInLane ro_size ar_a x6_91 x7_91).toInt = (-1) := wk_eq c_22
                replace hF := hF.trans (if_pos c_22)
                refine lv_iinc (v := (x7_91 + (-1))) (lv' := [(7, .int (x7_91 + (-1))), (9, .int (fn_X8_nextInLane ro_size ar_a x6_91 x7_91)), (8, .int x8_91), (6, .int x6_91), (5, .int 0), (0, .ref wk), (1, .ref ro), (2, .ref ar), (3, .int a), (4, .int b)]) hx hb dX10_go_152 hl (k := 2) rfl rfl (by decide) rfl (fun ls hl => ?_)
                refine lv_goto (tgt := 205) hx hb dX10_go_155 (by decide) ?_
                refine lv_iinc (v := (x8_91 + 1)) (lv' := [(8, .int (x8_91 + 1)), (7, .int (x7_91 + (-1))), (9, .int (fn_X8_nextInLane ro_size ar_a x6_91 x7_91)), (6, .int x6_91), (5, .int 0), (0, .ref wk), (1, .ref ro), (2, .ref ar), (3, .int a), (4, .int b)]) hx hb dX10_go_205 hl (k := 2) rfl rfl (by decide) rfl (fun ls hl => ?_)
                have k_23 : (x8_91 + 1).toInt = x8_91.toInt + 1 := wk_add x8_91.toInt 1 rfl rfl (by omega) (by omega)
                refine lv_goto (tgt := 91) hx hb dX10_go_208 (by decide) ?_
                exact ih_91 x6_91 (x7_91 + (-1)) (x8_91 + 1) wk_number_91 wk_lane_91 (wk_looks_91 + 0) _ _ _ (show (-1) ≤ x6_91.toInt ∧ x6_91.toInt ≤ 7 from by omega) (show 0 ≤ (x8_91 + 1).toInt ∧ (x8_91 + 1).toInt ≤ 100 from by omega) (show (-1) ≤ wk_number_91.toInt ∧ wk_number_91.toInt ≤ 7 from by omega) (show 100 - (x8_91 + 1).toInt < ((fu_91 : Nat) : Int) from by omega) hF hP hD hS (lv_sub hl [0, 1, 3, 4, 5, 6, 7, 8, 9] rfl)
              · have k_22 : ¬ (fn_X8_nextInLane ro_size ar_a x6_91 x7_91).toInt = (-1) := wk_neq c_22
                replace hF := hF.trans (if_neg c_22)
                exfalso; omega
    exact hlp_91 102 (-1) ((fn_X8_highestOf ro_size ar_a) - 1) 0 (-1) (-1) 0 _ _ _ (show (-1) ≤ (-1) ∧ (-1) ≤ 7 from by omega) (show 0 ≤ 0 ∧ 0 ≤ 100 from by omega) (show (-1) ≤ (-1) ∧ (-1) ≤ 7 from by omega) (show 100 - 0 < ((102 : Nat) : Int) from by omega) hF hP hD hS (lv_sub hl [0, 1, 2, 3, 4, 5, 6, 7, 8] rfl)
  · have k_1 : ¬ a.toInt < 0 := wk_nlt c_1
    replace hF := hF.trans (if_neg c_1)
    refine lv_iload_n hx hb dX10_go_4 rfl (lv_at hl 3 rfl) ?_
    refine lv_aload_n hx hb dX10_go_5 rfl (lv_at hl 1 rfl) ?_
    refine va_get (D := D) (ci := 8) (v := .int ro_size) (C := RX8) (T := TX8) (N := 5) hx hb htb inX8 hown hK hP 1 rfl rfl 4 (by decide) (htb _ tw_131) (fun _ h9 => h9) rfl dX10_go_6 ?_
    refine lv_icmp_ge (tgt := 16) hx hb dX10_go_9 (by decide) (fun c_24 => ?_) (fun c_24 => ?_)
    · have k_24 : ro_size.toInt ≤ a.toInt := wk_le c_24
      replace hF := hF.trans (if_pos c_24)
      refine lv_iconst (v := 0) hx hb dX10_go_16 (by decide) ?_
      refine lv_istore (lv' := [(5, .int 0), (0, .ref wk), (1, .ref ro), (2, .ref ar), (3, .int a), (4, .int b)]) hx hb dX10_go_17 hl (by decide) rfl (fun ls hl => ?_)
      refine lv_iload hx hb dX10_go_19 (lv_at hl 0 rfl) ?_
      refine lv_if_eq (tgt := 28) hx hb dX10_go_21 (by decide) (fun _ => ?_) (fun c_25 => absurd (by decide) c_25)
      refine lv_iconst (v := (-1)) hx hb dX10_go_28 (by decide) ?_
      refine lv_istore (lv' := [(6, .int (-1)), (5, .int 0), (0, .ref wk), (1, .ref ro), (2, .ref ar), (3, .int a), (4, .int b)]) hx hb dX10_go_29 hl (by decide) rfl (fun ls hl => ?_)
      refine lv_iload hx hb dX10_go_31 (lv_at hl 1 rfl) ?_
      refine lv_if_eq (tgt := 42) hx hb dX10_go_33 (by decide) (fun _ => ?_) (fun c_26 => absurd (by decide) c_26)
      refine lv_aload_n hx hb dX10_go_42 rfl (lv_at hl 3 rfl) ?_
      refine lv_aload_n hx hb dX10_go_43 rfl (lv_at hl 4 rfl) ?_
      refine wk_iV (As := [.ref ar]) (rest := []) (wc := [(ro, .inr (8, [.ref rok, .ref rov, .ref roh, .ref rot, .int ro_size])), (ar, .inl (cy, 8, .inl ar_a))]) (wr := [(wk, .inr (10, [.int wk_number, .int wk_lane, .int wk_looks])), (rok, .inl (cy, 8, .inl rok_a))]) (n := 1) ⟨hx, hb, hml, hown, htb⟩ (c_X8_highestOf l D cy ro rok rov roh rot ar ro_size ar_a  (show 0 ≤ ro_size.toInt ∧ ro_size.toInt ≤ 8 from by omega)) tw_493 tw_490 tw_491 tw_492 tw_67 rfl rfl (by decide +kernel) ⟨Nat.le_of_ble_eq_true rfl, Nat.le_of_ble_eq_true rfl⟩ hK hP hD hS hA [1, 3] [0, 2] rfl rfl rfl rfl (by decide) 0 (ci := 8) rfl rfl rfl hl.1 rfl (Nat.le_of_ble_eq_true rfl) dX10_go_44 ⟨Nat.le_of_ble_eq_true rfl, Nat.le_of_ble_eq_true rfl⟩ (fun r_27 u_28 H locs hw_29 hP hD hS => ?_)
      refine W.widen (k := 0) (n := 0) (by decide) (by decide) ?_
      have hw_29 : r_27 = (fn_X8_highestOf ro_size ar_a) := hw_29
      subst hw_29
      have hP : va_P D classes [(wk, .inr (10, [.int wk_number, .int wk_lane, .int wk_looks])), (rok, .inl (cy, 8, .inl rok_a)), (ro, .inr (8, [.ref rok, .ref rov, .ref roh, .ref rot, .int ro_size])), (ar, .inl (cy, 8, .inl ar_a))] H := hP
      have hD : va_D A [(wk, .inr (10, [.int wk_number, .int wk_lane, .int wk_looks])), (rok, .inl (cy, 8, .inl rok_a)), (ro, .inr (8, [.ref rok, .ref rov, .ref roh, .ref rot, .int ro_size])), (ar, .inl (cy, 8, .inl ar_a))] := hD
      refine lv_iconst (v := 1) hx hb dX10_go_47 (by decide) ?_
      refine lv_isub hx hb dX10_go_48 ?_
      refine lv_istore (lv' := [(7, .int ((fn_X8_highestOf ro_size ar_a) - 1)), (6, .int (-1)), (5, .int 0), (0, .ref wk), (1, .ref ro), (2, .ref ar), (3, .int a), (4, .int b)]) hx hb dX10_go_49 hl (by decide) rfl (fun ls hl => ?_)
      refine lv_aload_n hx hb dX10_go_51 rfl (lv_at hl 3 rfl) ?_
      refine lv_iconst (v := (-1)) hx hb dX10_go_52 (by decide) ?_
      refine va_put (D := D) (ci := 10) (v := .int (-1)) (ty := .int) (C := RX10) (T := TX10) (N := 3) hx hb htb inX10 tyX10 tyX10_ok nmX10 hown hK hP hD hS 0 rfl rfl 0 (by decide) (htb _ tw_201) (fun _ h9 => h9) rfl (by decide +kernel) rfl rfl (Nat.le_of_ble_eq_true rfl) dX10_go_53 (fun H locs hP hD hS => ?_)
      have hP : va_P D classes [(wk, .inr (10, [.int (-1), .int wk_lane, .int wk_looks])), (rok, .inl (cy, 8, .inl rok_a)), (ro, .inr (8, [.ref rok, .ref rov, .ref roh, .ref rot, .int ro_size])), (ar, .inl (cy, 8, .inl ar_a))] H := hP
      have hD : va_D A [(wk, .inr (10, [.int (-1), .int wk_lane, .int wk_looks])), (rok, .inl (cy, 8, .inl rok_a)), (ro, .inr (8, [.ref rok, .ref rov, .ref roh, .ref rot, .int ro_size])), (ar, .inl (cy, 8, .inl ar_a))] := hD
      refine lv_aload_n hx hb dX10_go_56 rfl (lv_at hl 3 rfl) ?_
      refine lv_iconst (v := (-1)) hx hb dX10_go_57 (by decide) ?_
      refine va_put (D := D) (ci := 10) (v := .int (-1)) (ty := .int) (C := RX10) (T := TX10) (N := 3) hx hb htb inX10 tyX10 tyX10_ok nmX10 hown hK hP hD hS 0 rfl rfl 1 (by decide) (htb _ tw_203) (fun _ h9 => h9) rfl (by decide +kernel) rfl rfl (Nat.le_of_ble_eq_true rfl) dX10_go_58 (fun H locs hP hD hS => ?_)
      have hP : va_P D classes [(wk, .inr (10, [.int (-1), .int (-1), .int wk_looks])), (rok, .inl (cy, 8, .inl rok_a)), (ro, .inr (8, [.ref rok, .ref rov, .ref roh, .ref rot, .int ro_size])), (ar, .inl (cy, 8, .inl ar_a))] H := hP
      have hD : va_D A [(wk, .inr (10, [.int (-1), .int (-1), .int wk_looks])), (rok, .inl (cy, 8, .inl rok_a)), (ro, .inr (8, [.ref rok, .ref rov, .ref roh, .ref rot, .int ro_size])), (ar, .inl (cy, 8, .inl ar_a))] := hD
      refine lv_aload_n hx hb dX10_go_61 rfl (lv_at hl 3 rfl) ?_
      refine lv_iconst (v := 0) hx hb dX10_go_62 (by decide) ?_
      refine va_put (D := D) (ci := 10) (v := .int 0) (ty := .int) (C := RX10) (T := TX10) (N := 3) hx hb htb inX10 tyX10 tyX10_ok nmX10 hown hK hP hD hS 0 rfl rfl 2 (by decide) (htb _ tw_206) (fun _ h9 => h9) rfl (by decide +kernel) rfl rfl (Nat.le_of_ble_eq_true rfl) dX10_go_63 (fun H locs hP hD hS => ?_)
      have hP : va_P D classes [(wk, .inr (10, [.int (-1), .int (-1), .int 0])), (rok, .inl (cy, 8, .inl rok_a)), (ro, .inr (8, [.ref rok, .ref rov, .ref roh, .ref rot, .int ro_size])), (ar, .inl (cy, 8, .inl ar_a))] H := hP
      have hD : va_D A [(wk, .inr (10, [.int (-1), .int (-1), .int 0])), (rok, .inl (cy, 8, .inl rok_a)), (ro, .inr (8, [.ref rok, .ref rov, .ref roh, .ref rot, .int ro_size])), (ar, .inl (cy, 8, .inl ar_a))] := hD
      refine lv_iload hx hb dX10_go_66 (lv_at hl 2 rfl) ?_
      refine lv_if_eq (tgt := 88) hx hb dX10_go_68 (by decide) (fun _ => ?_) (fun c_30 => absurd (by decide) c_30)
      refine lv_iconst (v := 0) hx hb dX10_go_88 (by decide) ?_
      refine lv_istore (lv' := [(8, .int 0), (7, .int ((fn_X8_highestOf ro_size ar_a) - 1)), (6, .int (-1)), (5, .int 0), (0, .ref wk), (1, .ref ro), (2, .ref ar), (3, .int a), (4, .int b)]) hx hb dX10_go_89 hl (by decide) rfl (fun ls hl => ?_)
      have hlp_91 : ∀ (fu_91 : Nat) (x6_91 : Int32) (x7_91 : Int32) (x8_91 : Int32) (wk_number_91 : Int32) (wk_lane_91 : Int32) (wk_looks_91 : Int32) (H : Heap) (locs : List Loc) (ls : Array Slot), ((-1) ≤ x6_91.toInt ∧ x6_91.toInt ≤ 7) → (0 ≤ x8_91.toInt ∧ x8_91.toInt ≤ 100) → ((-1) ≤ wk_number_91.toInt ∧ wk_number_91.toInt ≤ 7) → 100 - x8_91.toInt < (fu_91 : Int) → ((fn_X10_go wk_number wk_lane wk_looks ro_size rok_a ar_a a b) = lp_X10_go_91 wk_number wk_lane wk_looks ro_size rok_a ar_a a b fu_91 x6_91 x7_91 x8_91 wk_number_91 wk_lane_91 wk_looks_91) → va_P D classes [(wk, .inr (10, [.int wk_number_91, .int wk_lane_91, .int wk_looks_91])), (rok, .inl (cy, 8, .inl rok_a)), (ro, .inr (8, [.ref rok, .ref rov, .ref roh, .ref rot, .int ro_size])), (ar, .inl (cy, 8, .inl ar_a))] H → va_D A [(wk, .inr (10, [.int wk_number_91, .int wk_lane_91, .int wk_looks_91])), (rok, .inl (cy, 8, .inl rok_a)), (ro, .inr (8, [.ref rok, .ref rov, .ref roh, .ref rot, .int ro_size])), (ar, .inl (cy, 8, .inl ar_a))] → va_S A s.heap H locs → lv_has ls 10 [(8, .int x8_91), (7, .int x7_91), (6, .int x6_91), (5, .int 0), (0, .ref wk), (1, .ref ro), (2, .ref ar), (3, .int a), (4, .int b)] → W p l e { frames := 2, cells := 0, slots := 0, locals := 36 } s m args below meth c H locs 0 0 Q (F0 m 91 ls []) := by
        intro fu_91
        induction fu_91 with
        | zero =>
          intro x6_91 x7_91 x8_91 wk_number_91 wk_lane_91 wk_looks_91 H locs ls hi_91_0 hi_91_1 hi_91_2 hm hF hP hD hS hl
          exfalso; omega
        | succ fu_91 ih_91 =>
          intro x6_91 x7_91 x8_91 wk_number_91 wk_lane_91 wk_looks_91 H locs ls hi_91_0 hi_91_1 hi_91_2 hm hF hP hD hS hl
          rw [lp_X10_go_91] at hF
          refine lv_iload hx hb dX10_go_91 (lv_at hl 0 rfl) ?_
          refine lv_bipush (v := 100) hx hb dX10_go_93 (by decide) ?_
          refine lv_icmp_ge (tgt := 211) hx hb dX10_go_95 (by decide) (fun c_31 => ?_) (fun c_31 => ?_)
          · have k_31 : 100 ≤ x8_91.toInt := wk_le c_31
            replace hF := hF.trans (if_pos c_31)
            refine W.widen (k := 0) (n := 0) (by decide) (by decide) ?_
            exact hret (wk_number_91, wk_lane_91, wk_looks_91) _ _ _ 211 (wk_sub9 (is := [0, 2, 1, 3]) hP rfl) (hD.sub [0, 2, 1, 3] rfl rfl) hS dX10_go_211 ⟨hF.symm, (show ((-1) ≤ wk_number_91.toInt ∧ wk_number_91.toInt ≤ 7) from by omega)⟩
          · have k_31 : ¬ 100 ≤ x8_91.toInt := wk_nle c_31
            replace hF := hF.trans (if_neg c_31)
            refine lv_iload hx hb dX10_go_98 (lv_at hl 1 rfl) ?_
            refine lv_if_lt (tgt := 211) hx hb dX10_go_100 (by decide) (fun c_32 => ?_) (fun c_32 => ?_)
            · have k_32 : x7_91.toInt < 0 := wk_lt c_32
              replace hF := hF.trans (if_pos c_32)
              refine W.widen (k := 0) (n := 0) (by decide) (by decide) ?_
              exact hret (wk_number_91, wk_lane_91, wk_looks_91) _ _ _ 211 (wk_sub9 (is := [0, 2, 1, 3]) hP rfl) (hD.sub [0, 2, 1, 3] rfl rfl) hS dX10_go_211 ⟨hF.symm, (show ((-1) ≤ wk_number_91.toInt ∧ wk_number_91.toInt ≤ 7) from by omega)⟩
            · have k_32 : ¬ x7_91.toInt < 0 := wk_nlt c_32
              replace hF := hF.trans (if_neg c_32)
              refine lv_aload_n hx hb dX10_go_103 rfl (lv_at hl 5 rfl) ?_
              refine lv_aload_n hx hb dX10_go_104 rfl (lv_at hl 6 rfl) ?_
              refine lv_iload hx hb dX10_go_105 (lv_at hl 2 rfl) ?_
              refine lv_iload hx hb dX10_go_107 (lv_at hl 1 rfl) ?_
              refine wk_iV (As := [.ref ar, .int x6_91, .int x7_91]) (rest := []) (wc := [(ro, .inr (8, [.ref rok, .ref rov, .ref roh, .ref rot, .int ro_size])), (ar, .inl (cy, 8, .inl ar_a))]) (wr := [(wk, .inr (10, [.int wk_number_91, .int wk_lane_91, .int wk_looks_91])), (rok, .inl (cy, 8, .inl rok_a))]) (n := 3) ⟨hx, hb, hml, hown, htb⟩ (c_X8_nextInLane l D cy ro rok rov roh rot ar ro_size ar_a x6_91 x7_91 (show 0 ≤ ro_size.toInt ∧ ro_size.toInt ≤ 8 from by omega) (show (-1) ≤ x6_91.toInt ∧ x6_91.toInt ≤ 7 from by omega)) tw_500 tw_497 tw_498 tw_499 tw_67 rfl rfl (by decide +kernel) ⟨Nat.le_of_ble_eq_true rfl, Nat.le_of_ble_eq_true rfl⟩ hK hP hD hS hA [2, 3] [0, 1] rfl rfl rfl rfl (by decide) 0 (ci := 8) rfl rfl rfl hl.1 rfl (Nat.le_of_ble_eq_true rfl) dX10_go_109 ⟨Nat.le_of_ble_eq_true rfl, Nat.le_of_ble_eq_true rfl⟩ (fun r_33 u_34 H locs hw_35 hP hD hS => ?_)
              refine W.widen (k := 0) (n := 0) (by decide) (by decide) ?_
              obtain ⟨hw_35, k_36, k_37⟩ := hw_35
              have hw_35 : r_33 = (fn_X8_nextInLane ro_size ar_a x6_91 x7_91) := hw_35
              subst hw_35
              have k_36 : ((-1) ≤ (fn_X8_nextInLane ro_size ar_a x6_91 x7_91).toInt ∧ (fn_X8_nextInLane ro_size ar_a x6_91 x7_91).toInt ≤ 7) := k_36
              have k_37 : ((fn_X8_nextInLane ro_size ar_a x6_91 x7_91).toInt < ro_size.toInt) := k_37
              have hP : va_P D classes [(wk, .inr (10, [.int wk_number_91, .int wk_lane_91, .int wk_looks_91])), (rok, .inl (cy, 8, .inl rok_a)), (ro, .inr (8, [.ref rok, .ref rov, .ref roh, .ref rot, .int ro_size])), (ar, .inl (cy, 8, .inl ar_a))] H := hP
              have hD : va_D A [(wk, .inr (10, [.int wk_number_91, .int wk_lane_91, .int wk_looks_91])), (rok, .inl (cy, 8, .inl rok_a)), (ro, .inr (8, [.ref rok, .ref rov, .ref roh, .ref rot, .int ro_size])), (ar, .inl (cy, 8, .inl ar_a))] := hD
              refine lv_istore (lv' := [(9, .int (fn_X8_nextInLane ro_size ar_a x6_91 x7_91)), (8, .int x8_91), (7, .int x7_91), (6, .int x6_91), (5, .int 0), (0, .ref wk), (1, .ref ro), (2, .ref ar), (3, .int a), (4, .int b)]) hx hb dX10_go_112 hl (by decide) rfl (fun ls hl => ?_)
              refine lv_aload_n hx hb dX10_go_114 rfl (lv_at hl 5 rfl) ?_
              refine lv_dup hx hb dX10_go_115 rfl ?_
              refine va_get (D := D) (ci := 10) (v := .int wk_looks_91) (C := RX10) (T := TX10) (N := 3) hx hb htb inX10 hown hK hP 0 rfl rfl 2 (by decide) (htb _ tw_206) (fun _ h9 => h9) rfl dX10_go_116 ?_
              refine lv_iload hx hb dX10_go_119 (lv_at hl 0 rfl) ?_
              refine lv_iconst (v := (-1)) hx hb dX10_go_121 (by decide) ?_
              refine lv_icmp_ne (tgt := 129) hx hb dX10_go_122 (by decide) (fun c_38 => ?_) (fun c_38 => ?_)
              · have k_38 : ¬ (fn_X8_nextInLane ro_size ar_a x6_91 x7_91).toInt = (-1) := wk_neq c_38
                replace hF := hF.trans (if_neg c_38)
                refine lv_iconst (v := 1) hx hb dX10_go_129 (by decide) ?_
                refine lv_iadd hx hb dX10_go_130 ?_
                refine va_put (D := D) (ci := 10) (v := .int (wk_looks_91 + 1)) (ty := .int) (C := RX10) (T := TX10) (N := 3) hx hb htb inX10 tyX10 tyX10_ok nmX10 hown hK hP hD hS 0 rfl rfl 2 (by decide) (htb _ tw_206) (fun _ h9 => h9) rfl (by decide +kernel) rfl rfl (Nat.le_of_ble_eq_true rfl) dX10_go_131 (fun H locs hP hD hS => ?_)
                have hP : va_P D classes [(wk, .inr (10, [.int wk_number_91, .int wk_lane_91, .int (wk_looks_91 + 1)])), (rok, .inl (cy, 8, .inl rok_a)), (ro, .inr (8, [.ref rok, .ref rov, .ref roh, .ref rot, .int ro_size])), (ar, .inl (cy, 8, .inl ar_a))] H := hP
                have hD : va_D A [(wk, .inr (10, [.int wk_number_91, .int wk_lane_91, .int (wk_looks_91 + 1)])), (rok, .inl (cy, 8, .inl rok_a)), (ro, .inr (8, [.ref rok, .ref rov, .ref roh, .ref rot, .int ro_size])), (ar, .inl (cy, 8, .inl ar_a))] := hD
                refine lv_iload hx hb dX10_go_134 (lv_at hl 0 rfl) ?_
                refine lv_iconst (v := (-1)) hx hb dX10_go_136 (by decide) ?_
                refine lv_icmp_eq (tgt := 152) hx hb dX10_go_137 (by decide) (fun c_39 => ?_) (fun c_39 => ?_)
                · have k_39 : (fn_X8_nextInLane ro_size ar_a x6_91 x7_91).toInt = (-1) := wk_eq c_39
                  replace hF := hF.trans (if_pos c_39)
                  exfalso; omega
                · have k_39 : ¬ (fn_X8_nextInLane ro_size ar_a x6_91 x7_91).toInt = (-1) := wk_neq c_39
                  replace hF := hF.trans (if_neg c_39)
                  refine lv_aload_n hx hb dX10_go_140 rfl (lv_at hl 6 rfl) ?_
                  refine va_get (D := D) (ci := 8) (v := .ref rok) (C := RX8) (T := TX8) (N := 5) hx hb htb inX8 hown hK hP 2 rfl rfl 0 (by decide) (htb _ tw_116) (fun _ h9 => h9) rfl dX10_go_141 ?_
                  refine lv_iload hx hb dX10_go_144 (lv_at hl 0 rfl) ?_
                  refine va_iald hx hb hK hP 1 0 rfl rfl (show vp_in (fn_X8_nextInLane ro_size ar_a x6_91 x7_91) 8 from vp_in_iff.mpr (show 0 ≤ (fn_X8_nextInLane ro_size ar_a x6_91 x7_91).toInt ∧ (fn_X8_nextInLane ro_size ar_a x6_91 x7_91).toInt < ((8 : Nat) : Int) from by omega)) dX10_go_146 ?_
                  refine lv_iload hx hb dX10_go_147 (lv_at hl 9 rfl) ?_
                  refine lv_icmp_le (tgt := 158) hx hb dX10_go_149 (by decide) (fun c_40 => ?_) (fun c_40 => ?_)
                  · have k_40 : (rok_a (fn_X8_nextInLane ro_size ar_a x6_91 x7_91).toNatClampNeg).toInt ≤ b.toInt := wk_le c_40
                    replace hF := hF.trans (if_pos c_40)
                    refine lv_aload_n hx hb dX10_go_158 rfl (lv_at hl 6 rfl) ?_
                    refine va_get (D := D) (ci := 8) (v := .ref rok) (C := RX8) (T := TX8) (N := 5) hx hb htb inX8 hown hK hP 2 rfl rfl 0 (by decide) (htb _ tw_116) (fun _ h9 => h9) rfl dX10_go_159 ?_
                    refine lv_iload hx hb dX10_go_162 (lv_at hl 0 rfl) ?_
                    refine va_iald hx hb hK hP 1 0 rfl rfl (show vp_in (fn_X8_nextInLane ro_size ar_a x6_91 x7_91) 8 from vp_in_iff.mpr (show 0 ≤ (fn_X8_nextInLane ro_size ar_a x6_91 x7_91).toInt ∧ (fn_X8_nextInLane ro_size ar_a x6_91 x7_91).toInt < ((8 : Nat) : Int) from by omega)) dX10_go_164 ?_
                    refine lv_iload hx hb dX10_go_165 (lv_at hl 9 rfl) ?_
                    refine lv_icmp_ne (tgt := 183) hx hb dX10_go_167 (by decide) (fun c_41 => ?_) (fun c_41 => ?_)
                    · have k_41 : ¬ (rok_a (fn_X8_nextInLane ro_size ar_a x6_91 x7_91).toNatClampNeg).toInt = b.toInt := wk_neq c_41
                      replace hF := hF.trans (if_neg c_41)
                      refine lv_iload hx hb dX10_go_183 (lv_at hl 0 rfl) ?_
                      refine lv_istore (lv' := [(6, .int (fn_X8_nextInLane ro_size ar_a x6_91 x7_91)), (9, .int (fn_X8_nextInLane ro_size ar_a x6_91 x7_91)), (8, .int x8_91), (7, .int x7_91), (5, .int 0), (0, .ref wk), (1, .ref ro), (2, .ref ar), (3, .int a), (4, .int b)]) hx hb dX10_go_185 hl (by decide) rfl (fun ls hl => ?_)
                      refine lv_iload hx hb dX10_go_187 (lv_at hl 4 rfl) ?_
                      refine lv_if_eq (tgt := 201) hx hb dX10_go_189 (by decide) (fun _ => ?_) (fun c_42 => absurd (by decide) c_42)
                      refine lv_iload hx hb dX10_go_201 (lv_at hl 3 rfl) ?_
                      refine lv_istore (lv' := [(7, .int x7_91), (6, .int (fn_X8_nextInLane ro_size ar_a x6_91 x7_91)), (9, .int (fn_X8_nextInLane ro_size ar_a x6_91 x7_91)), (8, .int x8_91), (5, .int 0), (0, .ref wk), (1, .ref ro), (2, .ref ar), (3, .int a), (4, .int b)]) hx hb dX10_go_203 hl (by decide) rfl (fun ls hl => ?_)
                      refine lv_iinc (v := (x8_91 + 1)) (lv' := [(8, .int (x8_91 + 1)), (7, .int x7_91), (6, .int (fn_X8_nextInLane ro_size ar_a x6_91 x7_91)), (9, .int (fn_X8_nextInLane ro_size ar_a x6_91 x7_91)), (5, .int 0), (0, .ref wk), (1, .ref ro), (2, .ref ar), (3, .int a), (4, .int b)]) hx hb dX10_go_205 hl (k := 3) rfl rfl (by decide) rfl (fun ls hl => ?_)
                      have k_43 : (x8_91 + 1).toInt = x8_91.toInt + 1 := wk_add x8_91.toInt 1 rfl rfl (by omega) (by omega)
                      refine lv_goto (tgt := 91) hx hb dX10_go_208 (by decide) ?_
                      exact ih_91 (fn_X8_nextInLane ro_size ar_a x6_91 x7_91) x7_91 (x8_91 + 1) wk_number_91 wk_lane_91 (wk_looks_91 + 1) _ _ _ (show (-1) ≤ (fn_X8_nextInLane ro_size ar_a x6_91 x7_91).toInt ∧ (fn_X8_nextInLane ro_size ar_a x6_91 x7_91).toInt ≤ 7 from by omega) (show 0 ≤ (x8_91 + 1).toInt ∧ (x8_91 + 1).toInt ≤ 100 from by omega) (show (-1) ≤ wk_number_91.toInt ∧ wk_number_91.toInt ≤ 7 from by omega) (show 100 - (x8_91 + 1).toInt < ((fu_91 : Nat) : Int) from by omega) hF hP hD hS (lv_sub hl [0, 1, 2, 4, 5, 6, 7, 8, 9] rfl)
                    · have k_41 : (rok_a (fn_X8_nextInLane ro_size ar_a x6_91 x7_91).toNatClampNeg).toInt = b.toInt := wk_eq c_41
                      replace hF := hF.trans (if_pos c_41)
                      refine lv_aload_n hx hb dX10_go_170 rfl (lv_at hl 5 rfl) ?_
                      refine lv_iload hx hb dX10_go_171 (lv_at hl 0 rfl) ?_
                      refine va_put (D := D) (ci := 10) (v := .int (fn_X8_nextInLane ro_size ar_a x6_91 x7_91)) (ty := .int) (C := RX10) (T := TX10) (N := 3) hx hb htb inX10 tyX10 tyX10_ok nmX10 hown hK hP hD hS 0 rfl rfl 0 (by decide) (htb _ tw_201) (fun _ h9 => h9) rfl (by decide +kernel) rfl rfl (Nat.le_of_ble_eq_true rfl) dX10_go_173 (fun H locs hP hD hS => ?_)
                      have hP : va_P D classes [(wk, .inr (10, [.int (fn_X8_nextInLane ro_size ar_a x6_91 x7_91), .int wk_lane_91, .int (wk_looks_91 + 1)])), (rok, .inl (cy, 8, .inl rok_a)), (ro, .inr (8, [.ref rok, .ref rov, .ref roh, .ref rot, .int ro_size])), (ar, .inl (cy, 8, .inl ar_a))] H := hP
                      have hD : va_D A [(wk, .inr (10, [.int (fn_X8_nextInLane ro_size ar_a x6_91 x7_91), .int wk_lane_91, .int (wk_looks_91 + 1)])), (rok, .inl (cy, 8, .inl rok_a)), (ro, .inr (8, [.ref rok, .ref rov, .ref roh, .ref rot, .int ro_size])), (ar, .inl (cy, 8, .inl ar_a))] := hD
                      refine lv_aload_n hx hb dX10_go_176 rfl (lv_at hl 5 rfl) ?_
                      refine lv_iload hx hb dX10_go_177 (lv_at hl 2 rfl) ?_
                      refine va_put (D := D) (ci := 10) (v := .int x7_91) (ty := .int) (C := RX10) (T := TX10) (N := 3) hx hb htb inX10 tyX10 tyX10_ok nmX10 hown hK hP hD hS 0 rfl rfl 1 (by decide) (htb _ tw_203) (fun _ h9 => h9) rfl (by decide +kernel) rfl rfl (Nat.le_of_ble_eq_true rfl) dX10_go_179 (fun H locs hP hD hS => ?_)
                      have hP : va_P D classes [(wk, .inr (10, [.int (fn_X8_nextInLane ro_size ar_a x6_91 x7_91), .int x7_91, .int (wk_looks_91 + 1)])), (rok, .inl (cy, 8, .inl rok_a)), (ro, .inr (8, [.ref rok, .ref rov, .ref roh, .ref rot, .int ro_size])), (ar, .inl (cy, 8, .inl ar_a))] H := hP
                      have hD : va_D A [(wk, .inr (10, [.int (fn_X8_nextInLane ro_size ar_a x6_91 x7_91), .int x7_91, .int (wk_looks_91 + 1)])), (rok, .inl (cy, 8, .inl rok_a)), (ro, .inr (8, [.ref rok, .ref rov, .ref roh, .ref rot, .int ro_size])), (ar, .inl (cy, 8, .inl ar_a))] := hD
                      refine W.widen (k := 0) (n := 0) (by decide) (by decide) ?_
                      exact hret ((fn_X8_nextInLane ro_size ar_a x6_91 x7_91), x7_91, (wk_looks_91 + 1)) _ _ _ 182 (wk_sub9 (is := [0, 2, 1, 3]) hP rfl) (hD.sub [0, 2, 1, 3] rfl rfl) hS dX10_go_182 ⟨hF.symm, (show ((-1) ≤ (fn_X8_nextInLane ro_size ar_a x6_91 x7_91).toInt ∧ (fn_X8_nextInLane ro_size ar_a x6_91 x7_91).toInt ≤ 7) from by omega)⟩
                  · have k_40 : ¬ (rok_a (fn_X8_nextInLane ro_size ar_a x6_91 x7_91).toNatClampNeg).toInt ≤ b.toInt := wk_nle c_40
                    replace hF := hF.trans (if_neg c_40)
                    refine lv_iinc (v := (x7_91 + (-1))) (lv' := [(7, .int (x7_91 + (-1))), (9, .int (fn_X8_nextInLane ro_size ar_a x6_91 x7_91)), (8, .int x8_91), (6, .int x6_91), (5, .int 0), (0, .ref wk), (1, .ref ro), (2, .ref ar), (3, .int a), (4, .int b)]) hx hb dX10_go_152 hl (k := 2) rfl rfl (by decide) rfl (fun ls hl => ?_)
                    refine lv_goto (tgt := 205) hx hb dX10_go_155 (by decide) ?_
                    refine lv_iinc (v := (x8_91 + 1)) (lv' := [(8, .int (x8_91 + 1)), (7, .int (x7_91 + (-1))), (9, .int (fn_X8_nextInLane ro_size ar_a x6_91 x7_91)), (6, .int x6_91), (5, .int 0), (0, .ref wk), (1, .ref ro), (2, .ref ar), (3, .int a), (4, .int b)]) hx hb dX10_go_205 hl (k := 2) rfl rfl (by decide) rfl (fun ls hl => ?_)
                    have k_44 : (x8_91 + 1).toInt = x8_91.toInt + 1 := wk_add x8_91.toInt 1 rfl rfl (by omega) (by omega)
                    refine lv_goto (tgt := 91) hx hb dX10_go_208 (by decide) ?_
                    exact ih_91 x6_91 (x7_91 + (-1)) (x8_91 + 1) wk_number_91 wk_lane_91 (wk_looks_91 + 1) _ _ _ (show (-1) ≤ x6_91.toInt ∧ x6_91.toInt ≤ 7 from by omega) (show 0 ≤ (x8_91 + 1).toInt ∧ (x8_91 + 1).toInt ≤ 100 from by omega) (show (-1) ≤ wk_number_91.toInt ∧ wk_number_91.toInt ≤ 7 from by omega) (show 100 - (x8_91 + 1).toInt < ((fu_91 : Nat) : Int) from by omega) hF hP hD hS (lv_sub hl [0, 1, 3, 4, 5, 6, 7, 8, 9] rfl)
              · have k_38 : (fn_X8_nextInLane ro_size ar_a x6_91 x7_91).toInt = (-1) := wk_eq c_38
                replace hF := hF.trans (if_pos c_38)
                refine lv_iconst (v := 0) hx hb dX10_go_125 (by decide) ?_
                refine lv_goto (tgt := 130) hx hb dX10_go_126 (by decide) ?_
                refine lv_iadd hx hb dX10_go_130 ?_
                refine va_put (D := D) (ci := 10) (v := .int (wk_looks_91 + 0)) (ty := .int) (C := RX10) (T := TX10) (N := 3) hx hb htb inX10 tyX10 tyX10_ok nmX10 hown hK hP hD hS 0 rfl rfl 2 (by decide) (htb _ tw_206) (fun _ h9 => h9) rfl (by decide +kernel) rfl rfl (Nat.le_of_ble_eq_true rfl) dX10_go_131 (fun H locs hP hD hS => ?_)
                have hP : va_P D classes [(wk, .inr (10, [.int wk_number_91, .int wk_lane_91, .int (wk_looks_91 + 0)])), (rok, .inl (cy, 8, .inl rok_a)), (ro, .inr (8, [.ref rok, .ref rov, .ref roh, .ref rot, .int ro_size])), (ar, .inl (cy, 8, .inl ar_a))] H := hP
                have hD : va_D A [(wk, .inr (10, [.int wk_number_91, .int wk_lane_91, .int (wk_looks_91 + 0)])), (rok, .inl (cy, 8, .inl rok_a)), (ro, .inr (8, [.ref rok, .ref rov, .ref roh, .ref rot, .int ro_size])), (ar, .inl (cy, 8, .inl ar_a))] := hD
                refine lv_iload hx hb dX10_go_134 (lv_at hl 0 rfl) ?_
                refine lv_iconst (v := (-1)) hx hb dX10_go_136 (by decide) ?_
                refine lv_icmp_eq (tgt := 152) hx hb dX10_go_137 (by decide) (fun c_45 => ?_) (fun c_45 => ?_)
                · have k_45 : (fn_X8_nextInLane ro_size ar_a x6_91 x7_91).toInt = (-1) := wk_eq c_45
                  replace hF := hF.trans (if_pos c_45)
                  refine lv_iinc (v := (x7_91 + (-1))) (lv' := [(7, .int (x7_91 + (-1))), (9, .int (fn_X8_nextInLane ro_size ar_a x6_91 x7_91)), (8, .int x8_91), (6, .int x6_91), (5, .int 0), (0, .ref wk), (1, .ref ro), (2, .ref ar), (3, .int a), (4, .int b)]) hx hb dX10_go_152 hl (k := 2) rfl rfl (by decide) rfl (fun ls hl => ?_)
                  refine lv_goto (tgt := 205) hx hb dX10_go_155 (by decide) ?_
                  refine lv_iinc (v := (x8_91 + 1)) (lv' := [(8, .int (x8_91 + 1)), (7, .int (x7_91 + (-1))), (9, .int (fn_X8_nextInLane ro_size ar_a x6_91 x7_91)), (6, .int x6_91), (5, .int 0), (0, .ref wk), (1, .ref ro), (2, .ref ar), (3, .int a), (4, .int b)]) hx hb dX10_go_205 hl (k := 2) rfl rfl (by decide) rfl (fun ls hl => ?_)
                  have k_46 : (x8_91 + 1).toInt = x8_91.toInt + 1 := wk_add x8_91.toInt 1 rfl rfl (by omega) (by omega)
                  refine lv_goto (tgt := 91) hx hb dX10_go_208 (by decide) ?_
                  exact ih_91 x6_91 (x7_91 + (-1)) (x8_91 + 1) wk_number_91 wk_lane_91 (wk_looks_91 + 0) _ _ _ (show (-1) ≤ x6_91.toInt ∧ x6_91.toInt ≤ 7 from by omega) (show 0 ≤ (x8_91 + 1).toInt ∧ (x8_91 + 1).toInt ≤ 100 from by omega) (show (-1) ≤ wk_number_91.toInt ∧ wk_number_91.toInt ≤ 7 from by omega) (show 100 - (x8_91 + 1).toInt < ((fu_91 : Nat) : Int) from by omega) hF hP hD hS (lv_sub hl [0, 1, 3, 4, 5, 6, 7, 8, 9] rfl)
                · have k_45 : ¬ (fn_X8_nextInLane ro_size ar_a x6_91 x7_91).toInt = (-1) := wk_neq c_45
                  replace hF := hF.trans (if_neg c_45)
                  exfalso; omega
      exact hlp_91 102 (-1) ((fn_X8_highestOf ro_size ar_a) - 1) 0 (-1) (-1) 0 _ _ _ (show (-1) ≤ (-1) ∧ (-1) ≤ 7 from by omega) (show 0 ≤ 0 ∧ 0 ≤ 100 from by omega) (show (-1) ≤ (-1) ∧ (-1) ≤ 7 from by omega) (show 100 - 0 < ((102 : Nat) : Int) from by omega) hF hP hD hS (lv_sub hl [0, 1, 2, 3, 4, 5, 6, 7, 8] rfl)
    · have k_24 : ¬ ro_size.toInt ≤ a.toInt := wk_nle c_24
      replace hF := hF.trans (if_neg c_24)
      refine lv_iconst (v := 1) hx hb dX10_go_12 (by decide) ?_
      refine lv_goto (tgt := 17) hx hb dX10_go_13 (by decide) ?_
      refine lv_istore (lv' := [(5, .int 1), (0, .ref wk), (1, .ref ro), (2, .ref ar), (3, .int a), (4, .int b)]) hx hb dX10_go_17 hl (by decide) rfl (fun ls hl => ?_)
      refine lv_iload hx hb dX10_go_19 (lv_at hl 0 rfl) ?_
      refine lv_if_eq (tgt := 28) hx hb dX10_go_21 (by decide) (fun c_47 => absurd c_47 (by decide)) (fun _ => ?_)
      refine lv_iload_n hx hb dX10_go_24 rfl (lv_at hl 4 rfl) ?_
      refine lv_goto (tgt := 29) hx hb dX10_go_25 (by decide) ?_
      refine lv_istore (lv' := [(6, .int a), (5, .int 1), (0, .ref wk), (1, .ref ro), (2, .ref ar), (3, .int a), (4, .int b)]) hx hb dX10_go_29 hl (by decide) rfl (fun ls hl => ?_)
      refine lv_iload hx hb dX10_go_31 (lv_at hl 1 rfl) ?_
      refine lv_if_eq (tgt := 42) hx hb dX10_go_33 (by decide) (fun c_48 => absurd c_48 (by decide)) (fun _ => ?_)
      refine lv_aload_n hx hb dX10_go_36 rfl (lv_at hl 4 rfl) ?_
      refine lv_iload_n hx hb dX10_go_37 rfl (lv_at hl 5 rfl) ?_
      refine va_iald hx hb hK hP 3 0 rfl rfl (show vp_in a 8 from vp_in_iff.mpr (show 0 ≤ a.toInt ∧ a.toInt < ((8 : Nat) : Int) from by omega)) dX10_go_38 ?_
      refine lv_goto (tgt := 47) hx hb dX10_go_39 (by decide) ?_
      refine lv_iconst (v := 1) hx hb dX10_go_47 (by decide) ?_
      refine lv_isub hx hb dX10_go_48 ?_
      refine lv_istore (lv' := [(7, .int ((ar_a a.toNatClampNeg) - 1)), (6, .int a), (5, .int 1), (0, .ref wk), (1, .ref ro), (2, .ref ar), (3, .int a), (4, .int b)]) hx hb dX10_go_49 hl (by decide) rfl (fun ls hl => ?_)
      refine lv_aload_n hx hb dX10_go_51 rfl (lv_at hl 3 rfl) ?_
      refine lv_iconst (v := (-1)) hx hb dX10_go_52 (by decide) ?_
      refine va_put (D := D) (ci := 10) (v := .int (-1)) (ty := .int) (C := RX10) (T := TX10) (N := 3) hx hb htb inX10 tyX10 tyX10_ok nmX10 hown hK hP hD hS 0 rfl rfl 0 (by decide) (htb _ tw_201) (fun _ h9 => h9) rfl (by decide +kernel) rfl rfl (Nat.le_of_ble_eq_true rfl) dX10_go_53 (fun H locs hP hD hS => ?_)
      have hP : va_P D classes [(wk, .inr (10, [.int (-1), .int wk_lane, .int wk_looks])), (ro, .inr (8, [.ref rok, .ref rov, .ref roh, .ref rot, .int ro_size])), (rok, .inl (cy, 8, .inl rok_a)), (ar, .inl (cy, 8, .inl ar_a))] H := hP
      have hD : va_D A [(wk, .inr (10, [.int (-1), .int wk_lane, .int wk_looks])), (ro, .inr (8, [.ref rok, .ref rov, .ref roh, .ref rot, .int ro_size])), (rok, .inl (cy, 8, .inl rok_a)), (ar, .inl (cy, 8, .inl ar_a))] := hD
      refine lv_aload_n hx hb dX10_go_56 rfl (lv_at hl 3 rfl) ?_
      refine lv_iconst (v := (-1)) hx hb dX10_go_57 (by decide) ?_
      refine va_put (D := D) (ci := 10) (v := .int (-1)) (ty := .int) (C := RX10) (T := TX10) (N := 3) hx hb htb inX10 tyX10 tyX10_ok nmX10 hown hK hP hD hS 0 rfl rfl 1 (by decide) (htb _ tw_203) (fun _ h9 => h9) rfl (by decide +kernel) rfl rfl (Nat.le_of_ble_eq_true rfl) dX10_go_58 (fun H locs hP hD hS => ?_)
      have hP : va_P D classes [(wk, .inr (10, [.int (-1), .int (-1), .int wk_looks])), (ro, .inr (8, [.ref rok, .ref rov, .ref roh, .ref rot, .int ro_size])), (rok, .inl (cy, 8, .inl rok_a)), (ar, .inl (cy, 8, .inl ar_a))] H := hP
      have hD : va_D A [(wk, .inr (10, [.int (-1), .int (-1), .int wk_looks])), (ro, .inr (8, [.ref rok, .ref rov, .ref roh, .ref rot, .int ro_size])), (rok, .inl (cy, 8, .inl rok_a)), (ar, .inl (cy, 8, .inl ar_a))] := hD
      refine lv_aload_n hx hb dX10_go_61 rfl (lv_at hl 3 rfl) ?_
      refine lv_iconst (v := 0) hx hb dX10_go_62 (by decide) ?_
      refine va_put (D := D) (ci := 10) (v := .int 0) (ty := .int) (C := RX10) (T := TX10) (N := 3) hx hb htb inX10 tyX10 tyX10_ok nmX10 hown hK hP hD hS 0 rfl rfl 2 (by decide) (htb _ tw_206) (fun _ h9 => h9) rfl (by decide +kernel) rfl rfl (Nat.le_of_ble_eq_true rfl) dX10_go_63 (fun H locs hP hD hS => ?_)
      have hP : va_P D classes [(wk, .inr (10, [.int (-1), .int (-1), .int 0])), (ro, .inr (8, [.ref rok, .ref rov, .ref roh, .ref rot, .int ro_size])), (rok, .inl (cy, 8, .inl rok_a)), (ar, .inl (cy, 8, .inl ar_a))] H := hP
      have hD : va_D A [(wk, .inr (10, [.int (-1), .int (-1), .int 0])), (ro, .inr (8, [.ref rok, .ref rov, .ref roh, .ref rot, .int ro_size])), (rok, .inl (cy, 8, .inl rok_a)), (ar, .inl (cy, 8, .inl ar_a))] := hD
      refine lv_iload hx hb dX10_go_66 (lv_at hl 2 rfl) ?_
      refine lv_if_eq (tgt := 88) hx hb dX10_go_68 (by decide) (fun c_49 => absurd c_49 (by decide)) (fun _ => ?_)
      refine lv_aload_n hx hb dX10_go_71 rfl (lv_at hl 4 rfl) ?_
      refine va_get (D := D) (ci := 8) (v := .ref rok) (C := RX8) (T := TX8) (N := 5) hx hb htb inX8 hown hK hP 1 rfl rfl 0 (by decide) (htb _ tw_116) (fun _ h9 => h9) rfl dX10_go_72 ?_
      refine lv_iload_n hx hb dX10_go_75 rfl (lv_at hl 6 rfl) ?_
      refine va_iald hx hb hK hP 2 0 rfl rfl (show vp_in a 8 from vp_in_iff.mpr (show 0 ≤ a.toInt ∧ a.toInt < ((8 : Nat) : Int) from by omega)) dX10_go_76 ?_
      refine lv_iload hx hb dX10_go_77 (lv_at hl 7 rfl) ?_
      refine lv_icmp_ne (tgt := 88) hx hb dX10_go_79 (by decide) (fun c_50 => ?_) (fun c_50 => ?_)
      · have k_50 : ¬ (rok_a a.toNatClampNeg).toInt = b.toInt := wk_neq c_50
        replace hF := hF.trans (if_neg c_50)
        refine lv_iconst (v := 0) hx hb dX10_go_88 (by decide) ?_
        refine lv_istore (lv' := [(8, .int 0), (7, .int ((ar_a a.toNatClampNeg) - 1)), (6, .int a), (5, .int 1), (0, .ref wk), (1, .ref ro), (2, .ref ar), (3, .int a), (4, .int b)]) hx hb dX10_go_89 hl (by decide) rfl (fun ls hl => ?_)
        have hlp_91 : ∀ (fu_91 : Nat) (x6_91 : Int32) (x7_91 : Int32) (x8_91 : Int32) (wk_number_91 : Int32) (wk_lane_91 : Int32) (wk_looks_91 : Int32) (H : Heap) (locs : List Loc) (ls : Array Slot), ((-1) ≤ x6_91.toInt ∧ x6_91.toInt ≤ 7) → (0 ≤ x8_91.toInt ∧ x8_91.toInt ≤ 100) → ((-1) ≤ wk_number_91.toInt ∧ wk_number_91.toInt ≤ 7) → 100 - x8_91.toInt < (fu_91 : Int) → ((fn_X10_go wk_number wk_lane wk_looks ro_size rok_a ar_a a b) = lp_X10_go_91v1 wk_number wk_lane wk_looks ro_size rok_a ar_a a b fu_91 x6_91 x7_91 x8_91 wk_number_91 wk_lane_91 wk_looks_91) → va_P D classes [(wk, .inr (10, [.int wk_number_91, .int wk_lane_91, .int wk_looks_91])), (ro, .inr (8, [.ref rok, .ref rov, .ref roh, .ref rot, .int ro_size])), (rok, .inl (cy, 8, .inl rok_a)), (ar, .inl (cy, 8, .inl ar_a))] H → va_D A [(wk, .inr (10, [.int wk_number_91, .int wk_lane_91, .int wk_looks_91])), (ro, .inr (8, [.ref rok, .ref rov, .ref roh, .ref rot, .int ro_size])), (rok, .inl (cy, 8, .inl rok_a)), (ar, .inl (cy, 8, .inl ar_a))] → va_S A s.heap H locs → lv_has ls 10 [(8, .int x8_91), (7, .int x7_91), (6, .int x6_91), (5, .int 1), (0, .ref wk), (1, .ref ro), (2, .ref ar), (3, .int a), (4, .int b)] → W p l e { frames := 2, cells := 0, slots := 0, locals := 36 } s m args below meth c H locs 0 0 Q (F0 m 91 ls []) := by
          intro fu_91
          induction fu_91 with
          | zero =>
            intro x6_91 x7_91 x8_91 wk_number_91 wk_lane_91 wk_looks_91 H locs ls hi_91_0 hi_91_1 hi_91_2 hm hF hP hD hS hl
            exfalso; omega
          | succ fu_91 ih_91 =>
            intro x6_91 x7_91 x8_91 wk_number_91 wk_lane_91 wk_looks_91 H locs ls hi_91_0 hi_91_1 hi_91_2 hm hF hP hD hS hl
            rw [lp_X10_go_91v1] at hF
            refine lv_iload hx hb dX10_go_91 (lv_at hl 0 rfl) ?_
            refine lv_bipush (v := 100) hx hb dX10_go_93 (by decide) ?_
            refine lv_icmp_ge (tgt := 211) hx hb dX10_go_95 (by decide) (fun c_51 => ?_) (fun c_51 => ?_)
            · have k_51 : 100 ≤ x8_91.toInt := wk_le c_51
              replace hF := hF.trans (if_pos c_51)
              refine W.widen (k := 0) (n := 0) (by decide) (by decide) ?_
              exact hret (wk_number_91, wk_lane_91, wk_looks_91) _ _ _ 211 (wk_sub9 (is := [0, 1, 2, 3]) hP rfl) (hD.sub [0, 1, 2, 3] rfl rfl) hS dX10_go_211 ⟨hF.symm, (show ((-1) ≤ wk_number_91.toInt ∧ wk_number_91.toInt ≤ 7) from by omega)⟩
            · have k_51 : ¬ 100 ≤ x8_91.toInt := wk_nle c_51
              replace hF := hF.trans (if_neg c_51)
              refine lv_iload hx hb dX10_go_98 (lv_at hl 1 rfl) ?_
              refine lv_if_lt (tgt := 211) hx hb dX10_go_100 (by decide) (fun c_52 => ?_) (fun c_52 => ?_)
              · have k_52 : x7_91.toInt < 0 := wk_lt c_52
                replace hF := hF.trans (if_pos c_52)
                refine W.widen (k := 0) (n := 0) (by decide) (by decide) ?_
                exact hret (wk_number_91, wk_lane_91, wk_looks_91) _ _ _ 211 (wk_sub9 (is := [0, 1, 2, 3]) hP rfl) (hD.sub [0, 1, 2, 3] rfl rfl) hS dX10_go_211 ⟨hF.symm, (show ((-1) ≤ wk_number_91.toInt ∧ wk_number_91.toInt ≤ 7) from by omega)⟩
              · have k_52 : ¬ x7_91.toInt < 0 := wk_nlt c_52
                replace hF := hF.trans (if_neg c_52)
                refine lv_aload_n hx hb dX10_go_103 rfl (lv_at hl 5 rfl) ?_
                refine lv_aload_n hx hb dX10_go_104 rfl (lv_at hl 6 rfl) ?_
                refine lv_iload hx hb dX10_go_105 (lv_at hl 2 rfl) ?_
                refine lv_iload hx hb dX10_go_107 (lv_at hl 1 rfl) ?_
                refine wk_iV (As := [.ref ar, .int x6_91, .int x7_91]) (rest := []) (wc := [(ro, .inr (8, [.ref rok, .ref rov, .ref roh, .ref rot, .int ro_size])), (ar, .inl (cy, 8, .inl ar_a))]) (wr := [(wk, .inr (10, [.int wk_number_91, .int wk_lane_91, .int wk_looks_91])), (rok, .inl (cy, 8, .inl rok_a))]) (n := 3) ⟨hx, hb, hml, hown, htb⟩ (c_X8_nextInLane l D cy ro rok rov roh rot ar ro_size ar_a x6_91 x7_91 (show 0 ≤ ro_size.toInt ∧ ro_size.toInt ≤ 8 from by omega) (show (-1) ≤ x6_91.toInt ∧ x6_91.toInt ≤ 7 from by omega)) tw_500 tw_497 tw_498 tw_499 tw_67 rfl rfl (by decide +kernel) ⟨Nat.le_of_ble_eq_true rfl, Nat.le_of_ble_eq_true rfl⟩ hK hP hD hS hA [1, 3] [0, 2] rfl rfl rfl rfl (by decide) 0 (ci := 8) rfl rfl rfl hl.1 rfl (Nat.le_of_ble_eq_true rfl) dX10_go_109 ⟨Nat.le_of_ble_eq_true rfl, Nat.le_of_ble_eq_true rfl⟩ (fun r_53 u_54 H locs hw_55 hP hD hS => ?_)
                refine W.widen (k := 0) (n := 0) (by decide) (by decide) ?_
                obtain ⟨hw_55, k_56, k_57⟩ := hw_55
                have hw_55 : r_53 = (fn_X8_nextInLane ro_size ar_a x6_91 x7_91) := hw_55
                subst hw_55
                have k_56 : ((-1) ≤ (fn_X8_nextInLane ro_size ar_a x6_91 x7_91).toInt ∧ (fn_X8_nextInLane ro_size ar_a x6_91 x7_91).toInt ≤ 7) := k_56
                have k_57 : ((fn_X8_nextInLane ro_size ar_a x6_91 x7_91).toInt < ro_size.toInt) := k_57
                have hP : va_P D classes [(wk, .inr (10, [.int wk_number_91, .int wk_lane_91, .int wk_looks_91])), (rok, .inl (cy, 8, .inl rok_a)), (ro, .inr (8, [.ref rok, .ref rov, .ref roh, .ref rot, .int ro_size])), (ar, .inl (cy, 8, .inl ar_a))] H := hP
                have hD : va_D A [(wk, .inr (10, [.int wk_number_91, .int wk_lane_91, .int wk_looks_91])), (rok, .inl (cy, 8, .inl rok_a)), (ro, .inr (8, [.ref rok, .ref rov, .ref roh, .ref rot, .int ro_size])), (ar, .inl (cy, 8, .inl ar_a))] := hD
                refine lv_istore (lv' := [(9, .int (fn_X8_nextInLane ro_size ar_a x6_91 x7_91)), (8, .int x8_91), (7, .int x7_91), (6, .int x6_91), (5, .int 1), (0, .ref wk), (1, .ref ro), (2, .ref ar), (3, .int a), (4, .int b)]) hx hb dX10_go_112 hl (by decide) rfl (fun ls hl => ?_)
                refine lv_aload_n hx hb dX10_go_114 rfl (lv_at hl 5 rfl) ?_
                refine lv_dup hx hb dX10_go_115 rfl ?_
                refine va_get (D := D) (ci := 10) (v := .int wk_looks_91) (C := RX10) (T := TX10) (N := 3) hx hb htb inX10 hown hK hP 0 rfl rfl 2 (by decide) (htb _ tw_206) (fun _ h9 => h9) rfl dX10_go_116 ?_
                refine lv_iload hx hb dX10_go_119 (lv_at hl 0 rfl) ?_
                refine lv_iconst (v := (-1)) hx hb dX10_go_121 (by decide) ?_
                refine lv_icmp_ne (tgt := 129) hx hb dX10_go_122 (by decide) (fun c_58 => ?_) (fun c_58 => ?_)
                · have k_58 : ¬ (fn_X8_nextInLane ro_size ar_a x6_91 x7_91).toInt = (-1) := wk_neq c_58
                  replace hF := hF.trans (if_neg c_58)
                  refine lv_iconst (v := 1) hx hb dX10_go_129 (by decide) ?_
                  refine lv_iadd hx hb dX10_go_130 ?_
                  refine va_put (D := D) (ci := 10) (v := .int (wk_looks_91 + 1)) (ty := .int) (C := RX10) (T := TX10) (N := 3) hx hb htb inX10 tyX10 tyX10_ok nmX10 hown hK hP hD hS 0 rfl rfl 2 (by decide) (htb _ tw_206) (fun _ h9 => h9) rfl (by decide +kernel) rfl rfl (Nat.le_of_ble_eq_true rfl) dX10_go_131 (fun H locs hP hD hS => ?_)
                  have hP : va_P D classes [(wk, .inr (10, [.int wk_number_91, .int wk_lane_91, .int (wk_looks_91 + 1)])), (rok, .inl (cy, 8, .inl rok_a)), (ro, .inr (8, [.ref rok, .ref rov, .ref roh, .ref rot, .int ro_size])), (ar, .inl (cy, 8, .inl ar_a))] H := hP
                  have hD : va_D A [(wk, .inr (10, [.int wk_number_91, .int wk_lane_91, .int (wk_looks_91 + 1)])), (rok, .inl (cy, 8, .inl rok_a)), (ro, .inr (8, [.ref rok, .ref rov, .ref roh, .ref rot, .int ro_size])), (ar, .inl (cy, 8, .inl ar_a))] := hD
                  refine lv_iload hx hb dX10_go_134 (lv_at hl 0 rfl) ?_
                  refine lv_iconst (v := (-1)) hx hb dX10_go_136 (by decide) ?_
                  refine lv_icmp_eq (tgt := 152) hx hb dX10_go_137 (by decide) (fun c_59 => ?_) (fun c_59 => ?_)
                  · have k_59 : (fn_X8_nextInLane ro_size ar_a x6_91 x7_91).toInt = (-1) := wk_eq c_59
                    replace hF := hF.trans (if_pos c_59)
                    exfalso; omega
                  · have k_59 : ¬ (fn_X8_nextInLane ro_size ar_a x6_91 x7_91).toInt = (-1) := wk_neq c_59
                    replace hF := hF.trans (if_neg c_59)
                    refine lv_aload_n hx hb dX10_go_140 rfl (lv_at hl 6 rfl) ?_
                    refine va_get (D := D) (ci := 8) (v := .ref rok) (C := RX8) (T := TX8) (N := 5) hx hb htb inX8 hown hK hP 2 rfl rfl 0 (by decide) (htb _ tw_116) (fun _ h9 => h9) rfl dX10_go_141 ?_
                    refine lv_iload hx hb dX10_go_144 (lv_at hl 0 rfl) ?_
                    refine va_iald hx hb hK hP 1 0 rfl rfl (show vp_in (fn_X8_nextInLane ro_size ar_a x6_91 x7_91) 8 from vp_in_iff.mpr (show 0 ≤ (fn_X8_nextInLane ro_size ar_a x6_91 x7_91).toInt ∧ (fn_X8_nextInLane ro_size ar_a x6_91 x7_91).toInt < ((8 : Nat) : Int) from by omega)) dX10_go_146 ?_
                    refine lv_iload hx hb dX10_go_147 (lv_at hl 9 rfl) ?_
                    refine lv_icmp_le (tgt := 158) hx hb dX10_go_149 (by decide) (fun c_60 => ?_) (fun c_60 => ?_)
                    · have k_60 : (rok_a (fn_X8_nextInLane ro_size ar_a x6_91 x7_91).toNatClampNeg).toInt ≤ b.toInt := wk_le c_60
                      replace hF := hF.trans (if_pos c_60)
                      refine lv_aload_n hx hb dX10_go_158 rfl (lv_at hl 6 rfl) ?_
                      refine va_get (D := D) (ci := 8) (v := .ref rok) (C := RX8) (T := TX8) (N := 5) hx hb htb inX8 hown hK hP 2 rfl rfl 0 (by decide) (htb _ tw_116) (fun _ h9 => h9) rfl dX10_go_159 ?_
                      refine lv_iload hx hb dX10_go_162 (lv_at hl 0 rfl) ?_
                      refine va_iald hx hb hK hP 1 0 rfl rfl (show vp_in (fn_X8_nextInLane ro_size ar_a x6_91 x7_91) 8 from vp_in_iff.mpr (show 0 ≤ (fn_X8_nextInLane ro_size ar_a x6_91 x7_91).toInt ∧ (fn_X8_nextInLane ro_size ar_a x6_91 x7_91).toInt < ((8 : Nat) : Int) from by omega)) dX10_go_164 ?_
                      refine lv_iload hx hb dX10_go_165 (lv_at hl 9 rfl) ?_
                      refine lv_icmp_ne (tgt := 183) hx hb dX10_go_167 (by decide) (fun c_61 => ?_) (fun c_61 => ?_)
                      · have k_61 : ¬ (rok_a (fn_X8_nextInLane ro_size ar_a x6_91 x7_91).toNatClampNeg).toInt = b.toInt := wk_neq c_61
                        replace hF := hF.trans (if_neg c_61)
                        refine lv_iload hx hb dX10_go_183 (lv_at hl 0 rfl) ?_
                        refine lv_istore (lv' := [(6, .int (fn_X8_nextInLane ro_size ar_a x6_91 x7_91)), (9, .int (fn_X8_nextInLane ro_size ar_a x6_91 x7_91)), (8, .int x8_91), (7, .int x7_91), (5, .int 1), (0, .ref wk), (1, .ref ro), (2, .ref ar), (3, .int a), (4, .int b)]) hx hb dX10_go_185 hl (by decide) rfl (fun ls hl => ?_)
                        refine lv_iload hx hb dX10_go_187 (lv_at hl 4 rfl) ?_
                        refine lv_if_eq (tgt := 201) hx hb dX10_go_189 (by decide) (fun c_62 => absurd c_62 (by decide)) (fun _ => ?_)
                        refine lv_aload_n hx hb dX10_go_192 rfl (lv_at hl 7 rfl) ?_
                        refine lv_iload hx hb dX10_go_193 (lv_at hl 1 rfl) ?_
                        refine va_iald hx hb hK hP 3 0 rfl rfl (show vp_in (fn_X8_nextInLane ro_size ar_a x6_91 x7_91) 8 from vp_in_iff.mpr (show 0 ≤ (fn_X8_nextInLane ro_size ar_a x6_91 x7_91).toInt ∧ (fn_X8_nextInLane ro_size ar_a x6_91 x7_91).toInt < ((8 : Nat) : Int) from by omega)) dX10_go_195 ?_
                        refine lv_iconst (v := 1) hx hb dX10_go_196 (by decide) ?_
                        refine lv_isub hx hb dX10_go_197 ?_
                        refine lv_goto (tgt := 203) hx hb dX10_go_198 (by decide) ?_
                        refine lv_istore (lv' := [(7, .int ((ar_a (fn_X8_nextInLane ro_size ar_a x6_91 x7_91).toNatClampNeg) - 1)), (6, .int (fn_X8_nextInLane ro_size ar_a x6_91 x7_91)), (9, .int (fn_X8_nextInLane ro_size ar_a x6_91 x7_91)), (8, .int x8_91), (5, .int 1), (0, .ref wk), (1, .ref ro), (2, .ref ar), (3, .int a), (4, .int b)]) hx hb dX10_go_203 hl (by decide) rfl (fun ls hl => ?_)
                        refine lv_iinc (v := (x8_91 + 1)) (lv' := [(8, .int (x8_91 + 1)), (7, .int ((ar_a (fn_X8_nextInLane ro_size ar_a x6_91 x7_91).toNatClampNeg) - 1)), (6, .int (fn_X8_nextInLane ro_size ar_a x6_91 x7_91)), (9, .int (fn_X8_nextInLane ro_size ar_a x6_91 x7_91)), (5, .int 1), (0, .ref wk), (1, .ref ro), (2, .ref ar), (3, .int a), (4, .int b)]) hx hb dX10_go_205 hl (k := 3) rfl rfl (by decide) rfl (fun ls hl => ?_)
                        have k_63 : (x8_91 + 1).toInt = x8_91.toInt + 1 := wk_add x8_91.toInt 1 rfl rfl (by omega) (by omega)
                        refine lv_goto (tgt := 91) hx hb dX10_go_208 (by decide) ?_
                        exact ih_91 (fn_X8_nextInLane ro_size ar_a x6_91 x7_91) ((ar_a (fn_X8_nextInLane ro_size ar_a x6_91 x7_91).toNatClampNeg) - 1) (x8_91 + 1) wk_number_91 wk_lane_91 (wk_looks_91 + 1) _ _ _ (show (-1) ≤ (fn_X8_nextInLane ro_size ar_a x6_91 x7_91).toInt ∧ (fn_X8_nextInLane ro_size ar_a x6_91 x7_91).toInt ≤ 7 from by omega) (show 0 ≤ (x8_91 + 1).toInt ∧ (x8_91 + 1).toInt ≤ 100 from by omega) (show (-1) ≤ wk_number_91.toInt ∧ wk_number_91.toInt ≤ 7 from by omega) (show 100 - (x8_91 + 1).toInt < ((fu_91 : Nat) : Int) from by omega) hF (wk_sub9 (is := [0, 2, 1, 3]) hP rfl) (hD.sub [0, 2, 1, 3] rfl rfl) hS (lv_sub hl [0, 1, 2, 4, 5, 6, 7, 8, 9] rfl)
                      · have k_61 : (rok_a (fn_X8_nextInLane ro_size ar_a x6_91 x7_91).toNatClampNeg).toInt = b.toInt := wk_eq c_61
                        replace hF := hF.trans (if_pos c_61)
                        refine lv_aload_n hx hb dX10_go_170 rfl (lv_at hl 5 rfl) ?_
                        refine lv_iload hx hb dX10_go_171 (lv_at hl 0 rfl) ?_
                        refine va_put (D := D) (ci := 10) (v := .int (fn_X8_nextInLane ro_size ar_a x6_91 x7_91)) (ty := .int) (C := RX10) (T := TX10) (N := 3) hx hb htb inX10 tyX10 tyX10_ok nmX10 hown hK hP hD hS 0 rfl rfl 0 (by decide) (htb _ tw_201) (fun _ h9 => h9) rfl (by decide +kernel) rfl rfl (Nat.le_of_ble_eq_true rfl) dX10_go_173 (fun H locs hP hD hS => ?_)
                        have hP : va_P D classes [(wk, .inr (10, [.int (fn_X8_nextInLane ro_size ar_a x6_91 x7_91), .int wk_lane_91, .int (wk_looks_91 + 1)])), (rok, .inl (cy, 8, .inl rok_a)), (ro, .inr (8, [.ref rok, .ref rov, .ref roh, .ref rot, .int ro_size])), (ar, .inl (cy, 8, .inl ar_a))] H := hP
                        have hD : va_D A [(wk, .inr (10, [.int (fn_X8_nextInLane ro_size ar_a x6_91 x7_91), .int wk_lane_91, .int (wk_looks_91 + 1)])), (rok, .inl (cy, 8, .inl rok_a)), (ro, .inr (8, [.ref rok, .ref rov, .ref roh, .ref rot, .int ro_size])), (ar, .inl (cy, 8, .inl ar_a))] := hD
                        refine lv_aload_n hx hb dX10_go_176 rfl (lv_at hl 5 rfl) ?_
                        refine lv_iload hx hb dX10_go_177 (lv_at hl 2 rfl) ?_
                        refine va_put (D := D) (ci := 10) (v := .int x7_91) (ty := .int) (C := RX10) (T := TX10) (N := 3) hx hb htb inX10 tyX10 tyX10_ok nmX10 hown hK hP hD hS 0 rfl rfl 1 (by decide) (htb _ tw_203) (fun _ h9 => h9) rfl (by decide +kernel) rfl rfl (Nat.le_of_ble_eq_true rfl) dX10_go_179 (fun H locs hP hD hS => ?_)
                        have hP : va_P D classes [(wk, .inr (10, [.int (fn_X8_nextInLane ro_size ar_a x6_91 x7_91), .int x7_91, .int (wk_looks_91 + 1)])), (rok, .inl (cy, 8, .inl rok_a)), (ro, .inr (8, [.ref rok, .ref rov, .ref roh, .ref rot, .int ro_size])), (ar, .inl (cy, 8, .inl ar_a))] H := hP
                        have hD : va_D A [(wk, .inr (10, [.int (fn_X8_nextInLane ro_size ar_a x6_91 x7_91), .int x7_91, .int (wk_looks_91 + 1)])), (rok, .inl (cy, 8, .inl rok_a)), (ro, .inr (8, [.ref rok, .ref rov, .ref roh, .ref rot, .int ro_size])), (ar, .inl (cy, 8, .inl ar_a))] := hD
                        refine W.widen (k := 0) (n := 0) (by decide) (by decide) ?_
                        exact hret ((fn_X8_nextInLane ro_size ar_a x6_91 x7_91), x7_91, (wk_looks_91 + 1)) _ _ _ 182 (wk_sub9 (is := [0, 2, 1, 3]) hP rfl) (hD.sub [0, 2, 1, 3] rfl rfl) hS dX10_go_182 ⟨hF.symm, (show ((-1) ≤ (fn_X8_nextInLane ro_size ar_a x6_91 x7_91).toInt ∧ (fn_X8_nextInLane ro_size ar_a x6_91 x7_91).toInt ≤ 7) from by omega)⟩
                    · have k_60 : ¬ (rok_a (fn_X8_nextInLane ro_size ar_a x6_91 x7_91).toNatClampNeg).toInt ≤ b.toInt := wk_nle c_60
                      replace hF := hF.trans (if_neg c_60)
                      refine lv_iinc (v := (x7_91 + (-1))) (lv' := [(7, .int (x7_91 + (-1))), (9, .int (fn_X8_nextInLane ro_size ar_a x6_91 x7_91)), (8, .int x8_91), (6, .int x6_91), (5, .int 1), (0, .ref wk), (1, .ref ro), (2, .ref ar), (3, .int a), (4, .int b)]) hx hb dX10_go_152 hl (k := 2) rfl rfl (by decide) rfl (fun ls hl => ?_)
                      refine lv_goto (tgt := 205) hx hb dX10_go_155 (by decide) ?_
                      refine lv_iinc (v := (x8_91 + 1)) (lv' := [(8, .int (x8_91 + 1)), (7, .int (x7_91 + (-1))), (9, .int (fn_X8_nextInLane ro_size ar_a x6_91 x7_91)), (6, .int x6_91), (5, .int 1), (0, .ref wk), (1, .ref ro), (2, .ref ar), (3, .int a), (4, .int b)]) hx hb dX10_go_205 hl (k := 2) rfl rfl (by decide) rfl (fun ls hl => ?_)
                      have k_64 : (x8_91 + 1).toInt = x8_91.toInt + 1 := wk_add x8_91.toInt 1 rfl rfl (by omega) (by omega)
                      refine lv_goto (tgt := 91) hx hb dX10_go_208 (by decide) ?_
                      exact ih_91 x6_91 (x7_91 + (-1)) (x8_91 + 1) wk_number_91 wk_lane_91 (wk_looks_91 + 1) _ _ _ (show (-1) ≤ x6_91.toInt ∧ x6_91.toInt ≤ 7 from by omega) (show 0 ≤ (x8_91 + 1).toInt ∧ (x8_91 + 1).toInt ≤ 100 from by omega) (show (-1) ≤ wk_number_91.toInt ∧ wk_number_91.toInt ≤ 7 from by omega) (show 100 - (x8_91 + 1).toInt < ((fu_91 : Nat) : Int) from by omega) hF (wk_sub9 (is := [0, 2, 1, 3]) hP rfl) (hD.sub [0, 2, 1, 3] rfl rfl) hS (lv_sub hl [0, 1, 3, 4, 5, 6, 7, 8, 9] rfl)
                · have k_58 : (fn_X8_nextInLane ro_size ar_a x6_91 x7_91).toInt = (-1) := wk_eq c_58
                  replace hF := hF.trans (if_pos c_58)
                  refine lv_iconst (v := 0) hx hb dX10_go_125 (by decide) ?_
                  refine lv_goto (tgt := 130) hx hb dX10_go_126 (by decide) ?_
                  refine lv_iadd hx hb dX10_go_130 ?_
                  refine va_put (D := D) (ci := 10) (v := .int (wk_looks_91 + 0)) (ty := .int) (C := RX10) (T := TX10) (N := 3) hx hb htb inX10 tyX10 tyX10_ok nmX10 hown hK hP hD hS 0 rfl rfl 2 (by decide) (htb _ tw_206) (fun _ h9 => h9) rfl (by decide +kernel) rfl rfl (Nat.le_of_ble_eq_true rfl) dX10_go_131 (fun H locs hP hD hS => ?_)
                  have hP : va_P D classes [(wk, .inr (10, [.int wk_number_91, .int wk_lane_91, .int (wk_looks_91 + 0)])), (rok, .inl (cy, 8, .inl rok_a)), (ro, .inr (8, [.ref rok, .ref rov, .ref roh, .ref rot, .int ro_size])), (ar, .inl (cy, 8, .inl ar_a))] H := hP
                  have hD : va_D A [(wk, .inr (10, [.int wk_number_91, .int wk_lane_91, .int (wk_looks_91 + 0)])), (rok, .inl (cy, 8, .inl rok_a)), (ro, .inr (8, [.ref rok, .ref rov, .ref roh, .ref rot, .int ro_size])), (ar, .inl (cy, 8, .inl ar_a))] := hD
                  refine lv_iload hx hb dX10_go_134 (lv_at hl 0 rfl) ?_
                  refine lv_iconst (v := (-1)) hx hb dX10_go_136 (by decide) ?_
                  refine lv_icmp_eq (tgt := 152) hx hb dX10_go_137 (by decide) (fun c_65 => ?_) (fun c_65 => ?_)
                  · have k_65 : (fn_X8_nextInLane ro_size ar_a x6_91 x7_91).toInt = (-1) := wk_eq c_65
                    replace hF := hF.trans (if_pos c_65)
                    refine lv_iinc (v := (x7_91 + (-1))) (lv' := [(7, .int (x7_91 + (-1))), (9, .int (fn_X8_nextInLane ro_size ar_a x6_91 x7_91)), (8, .int x8_91), (6, .int x6_91), (5, .int 1), (0, .ref wk), (1, .ref ro), (2, .ref ar), (3, .int a), (4, .int b)]) hx hb dX10_go_152 hl (k := 2) rfl rfl (by decide) rfl (fun ls hl => ?_)
                    refine lv_goto (tgt := 205) hx hb dX10_go_155 (by decide) ?_
                    refine lv_iinc (v := (x8_91 + 1)) (lv' := [(8, .int (x8_91 + 1)), (7, .int (x7_91 + (-1))), (9, .int (fn_X8_nextInLane ro_size ar_a x6_91 x7_91)), (6, .int x6_91), (5, .int 1), (0, .ref wk), (1, .ref ro), (2, .ref ar), (3, .int a), (4, .int b)]) hx hb dX10_go_205 hl (k := 2) rfl rfl (by decide) rfl (fun ls hl => ?_)
                    have k_66 : (x8_91 + 1).toInt = x8_91.toInt + 1 := wk_add x8_91.toInt 1 rfl rfl (by omega) (by omega)
                    refine lv_goto (tgt := 91) hx hb dX10_go_208 (by decide) ?_
                    exact ih_91 x6_91 (x7_91 + (-1)) (x8_91 + 1) wk_number_91 wk_lane_91 (wk_looks_91 + 0) _ _ _ (show (-1) ≤ x6_91.toInt ∧ x6_91.toInt ≤ 7 from by omega) (show 0 ≤ (x8_91 + 1).toInt ∧ (x8_91 + 1).toInt ≤ 100 from by omega) (show (-1) ≤ wk_number_91.toInt ∧ wk_number_91.toInt ≤ 7 from by omega) (show 100 - (x8_91 + 1).toInt < ((fu_91 : Nat) : Int) from by omega) hF (wk_sub9 (is := [0, 2, 1, 3]) hP rfl) (hD.sub [0, 2, 1, 3] rfl rfl) hS (lv_sub hl [0, 1, 3, 4, 5, 6, 7, 8, 9] rfl)
                  · have k_65 : ¬ (fn_X8_nextInLane ro_size ar_a x6_91 x7_91).toInt = (-1) := wk_neq c_65
                    replace hF := hF.trans (if_neg c_65)
                    exfalso; omega
        exact hlp_91 102 a ((ar_a a.toNatClampNeg) - 1) 0 (-1) (-1) 0 _ _ _ (show (-1) ≤ a.toInt ∧ a.toInt ≤ 7 from by omega) (show 0 ≤ 0 ∧ 0 ≤ 100 from by omega) (show (-1) ≤ (-1) ∧ (-1) ≤ 7 from by omega) (show 100 - 0 < ((102 : Nat) : Int) from by omega) hF hP hD hS (lv_sub hl [0, 1, 2, 3, 4, 5, 6, 7, 8] rfl)
      · have k_50 : (rok_a a.toNatClampNeg).toInt = b.toInt := wk_eq c_50
        replace hF := hF.trans (if_pos c_50)
        refine lv_aload_n hx hb dX10_go_82 rfl (lv_at hl 3 rfl) ?_
        refine lv_iload_n hx hb dX10_go_83 rfl (lv_at hl 6 rfl) ?_
        refine va_put (D := D) (ci := 10) (v := .int a) (ty := .int) (C := RX10) (T := TX10) (N := 3) hx hb htb inX10 tyX10 tyX10_ok nmX10 hown hK hP hD hS 0 rfl rfl 0 (by decide) (htb _ tw_201) (fun _ h9 => h9) rfl (by decide +kernel) rfl rfl (Nat.le_of_ble_eq_true rfl) dX10_go_84 (fun H locs hP hD hS => ?_)
        have hP : va_P D classes [(wk, .inr (10, [.int a, .int (-1), .int 0])), (ro, .inr (8, [.ref rok, .ref rov, .ref roh, .ref rot, .int ro_size])), (rok, .inl (cy, 8, .inl rok_a)), (ar, .inl (cy, 8, .inl ar_a))] H := hP
        have hD : va_D A [(wk, .inr (10, [.int a, .int (-1), .int 0])), (ro, .inr (8, [.ref rok, .ref rov, .ref roh, .ref rot, .int ro_size])), (rok, .inl (cy, 8, .inl rok_a)), (ar, .inl (cy, 8, .inl ar_a))] := hD
        refine W.widen (k := 0) (n := 0) (by decide) (by decide) ?_
        exact hret (a, (-1), 0) _ _ _ 87 (wk_sub9 (is := [0, 1, 2, 3]) hP rfl) (hD.sub [0, 1, 2, 3] rfl rfl) hS dX10_go_87 ⟨hF.symm, (show ((-1) ≤ a.toInt ∧ a.toInt ≤ 7) from by omega)⟩
