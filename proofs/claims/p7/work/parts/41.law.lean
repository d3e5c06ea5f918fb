def lp_X3_heightByDivisor_4 (a : Int32) (b : Int32) : Nat → Int32 → Int32 → Int32 × Int32
  | 0, _, _ => default
  | fu_4 + 1, x2_4, x3_4 => (if (4 : Int32) ≤ x2_4 then (x2_4, x3_4) else (if b ≤ 1 then (x2_4, x3_4) else (if x3_4 ≤ 0 then (x2_4, x3_4) else (if (x3_4 - x3_4 / b * b) = 0 then (lp_X3_heightByDivisor_4 a b fu_4 (x2_4 + 1) (x3_4 / b)) else (x2_4, x3_4)))))
termination_by n => n
def fn_X3_heightByDivisor (a : Int32) (b : Int32) : Int32 := (pm2 (lp_X3_heightByDivisor_4 a b 6 1 a) (fun x2_4 x3_4 => x2_4))
theorem dX3_heightByDivisor_0 : decode cX3_heightByDivisor 0 = .ok (.iconst 1, 1) := by decide +kernel
theorem dX3_heightByDivisor_1 : decode cX3_heightByDivisor 1 = .ok (.istore_n 2, 1) := by decide +kernel
theorem dX3_heightByDivisor_2 : decode cX3_heightByDivisor 2 = .ok (.iload_n 0, 1) := by decide +kernel
theorem dX3_heightByDivisor_3 : decode cX3_heightByDivisor 3 = .ok (.istore_n 3, 1) := by decide +kernel
theorem dX3_heightByDivisor_4 : decode cX3_heightByDivisor 4 = .ok (.iload_n 2, 1) := by decide +kernel
theorem dX3_heightByDivisor_5 : decode cX3_heightByDivisor 5 = .ok (.iconst 4, 1) := by decide +kernel
theorem dX3_heightByDivisor_6 : decode cX3_heightByDivisor 6 = .ok (.if_icmp .ge 28, 3) := by decide +kernel
theorem dX3_heightByDivisor_9 : decode cX3_heightByDivisor 9 = .ok (.iload_n 1, 1) := by decide +kernel
theorem dX3_heightByDivisor_10 : decode cX3_heightByDivisor 10 = .ok (.iconst 1, 1) := by decide +kernel
theorem dX3_heightByDivisor_11 : decode cX3_heightByDivisor 11 = .ok (.if_icmp .le 23, 3) := by decide +kernel
theorem dX3_heightByDivisor_14 : decode cX3_heightByDivisor 14 = .ok (.iload_n 3, 1) := by decide +kernel
theorem dX3_heightByDivisor_15 : decode cX3_heightByDivisor 15 = .ok (.ifCond .le 19, 3) := by decide +kernel
theorem dX3_heightByDivisor_18 : decode cX3_heightByDivisor 18 = .ok (.iload_n 3, 1) := by decide +kernel
theorem dX3_heightByDivisor_19 : decode cX3_heightByDivisor 19 = .ok (.iload_n 1, 1) := by decide +kernel
theorem dX3_heightByDivisor_20 : decode cX3_heightByDivisor 20 = .ok (.irem, 1) := by decide +kernel
theorem dX3_heightByDivisor_21 : decode cX3_heightByDivisor 21 = .ok (.ifCond .ne 13, 3) := by decide +kernel
theorem dX3_heightByDivisor_24 : decode cX3_heightByDivisor 24 = .ok (.iinc 2 1, 3) := by decide +kernel
theorem dX3_heightByDivisor_27 : decode cX3_heightByDivisor 27 = .ok (.iload_n 3, 1) := by decide +kernel
theorem dX3_heightByDivisor_28 : decode cX3_heightByDivisor 28 = .ok (.iload_n 1, 1) := by decide +kernel
theorem dX3_heightByDivisor_29 : decode cX3_heightByDivisor 29 = .ok (.idiv, 1) := by decide +kernel
theorem dX3_heightByDivisor_30 : decode cX3_heightByDivisor 30 = .ok (.istore_n 3, 1) := by decide +kernel
theorem dX3_heightByDivisor_31 : decode cX3_heightByDivisor 31 = .ok (.goto (-27), 3) := by decide +kernel
theorem dX3_heightByDivisor_34 : decode cX3_heightByDivisor 34 = .ok (.iload_n 2, 1) := by decide +kernel
theorem dX3_heightByDivisor_35 : decode cX3_heightByDivisor 35 = .ok (.ireturn, 1) := by decide +kernel
set_option maxHeartbeats 4000000 in
set_option maxRecDepth 100000 in
theorem c_X3_heightByDivisor (l : Launch) (D : va_G) (cy : ClassId)  (a : Int32) (b : Int32)  : wk_Ci l yX3_heightByDivisor cX3_heightByDivisor 4 (some .int) { frames := 0, cells := 0, slots := 0, locals := 0 } D cy [.int a, .int b] [] 0 0 (fun (r : Int32) (u : Unit) => r = (fn_X3_heightByDivisor a b)) (fun u => []) := by
  refine wk_mk2Ci (by decide) (Nat.le_of_ble_eq_true rfl) ?_
  intro p e s m args below meth c A ls Q B hA hK hP hD hS hl hret
  obtain ⟨hx, hb, hr, hlocks, hml, hown, htb, hin⟩ := B
  have hl : lv_has ls 4 [(0, .int a), (1, .int b)] := hl
  have hF : (fn_X3_heightByDivisor a b) = (fn_X3_heightByDivisor a b) := rfl
  conv at hF => rhs; unfold fn_X3_heightByDivisor
  refine lv_iconst (v := 1) hx hb dX3_heightByDivisor_0 (by decide) ?_
  refine lv_istore_n (lv' := [(2, .int 1), (0, .int a), (1, .int b)]) hx hb dX3_heightByDivisor_1 rfl hl (by decide) rfl (fun ls hl => ?_)
  refine lv_iload_n hx hb dX3_heightByDivisor_2 rfl (lv_at hl 1 rfl) ?_
  refine lv_istore_n (lv' := [(3, .int a), (2, .int 1), (0, .int a), (1, .int b)]) hx hb dX3_heightByDivisor_3 rfl hl (by decide) rfl (fun ls hl => ?_)
  have hlp_4 : ∀ (fu_4 : Nat) (x2_4 : Int32) (x3_4 : Int32) (H : Heap) (locs : List Loc) (ls : Array Slot), (1 ≤ x2_4.toInt ∧ x2_4.toInt ≤ 4) → 4 - x2_4.toInt < (fu_4 : Int) → ((fn_X3_heightByDivisor a b) = (pm2 (lp_X3_heightByDivisor_4 a b fu_4 x2_4 x3_4) (fun x2_4 x3_4 => x2_4))) → va_P D classes [] H → va_D A [] → va_S A s.heap H locs → lv_has ls 4 [(3, .int x3_4), (2, .int x2_4), (0, .int a), (1, .int b)] → W p l e { frames := 0, cells := 0, slots := 0, locals := 0 } s m args below meth c H locs 0 0 Q (F0 m 4 ls []) := by
    intro fu_4
    induction fu_4 with
    | zero =>
      intro x2_4 x3_4 H locs ls hi_4_0 hm hF hP hD hS hl
      exfalso; omega
    | succ fu_4 ih_4 =>
      intro x2_4 x3_4 H locs ls hi_4_0 hm hF hP hD hS hl
      rw [lp_X3_heightByDivisor_4] at hF
      refine lv_iload_n hx hb dX3_heightByDivisor_4 rfl (lv_at hl 1 rfl) ?_
      refine lv_iconst (v := 4) hx hb dX3_heightByDivisor_5 (by decide) ?_
      refine lv_icmp_ge (tgt := 34) hx hb dX3_heightByDivisor_6 (by decide) (fun c_1 => ?_) (fun c_1 => ?_)
      · have k_1 : 4 ≤ x2_4.toInt := wk_le c_1
        replace hF := hF.trans (pm2_p1 c_1)
        rw [pm2_mk x2_4 x3_4] at hF
        refine lv_iload_n hx hb dX3_heightByDivisor_34 rfl (lv_at hl 1 rfl) ?_
        refine W.widen (k := 0) (n := 0) (by decide) (by decide) ?_
        exact hret x2_4 () _ _ _ 35 (wk_sub9 (is := []) hP rfl) (hD.sub [] rfl rfl) hS dX3_heightByDivisor_35 hF.symm
      · have k_1 : ¬ 4 ≤ x2_4.toInt := wk_nle c_1
        replace hF := hF.trans (pm2_n1 c_1)
        refine lv_iload_n hx hb dX3_heightByDivisor_9 rfl (lv_at hl 3 rfl) ?_
        refine lv_iconst (v := 1) hx hb dX3_heightByDivisor_10 (by decide) ?_
        refine lv_icmp_le (tgt := 34) hx hb dX3_heightByDivisor_11 (by decide) (fun c_2 => ?_) (fun c_2 => ?_)
        · have k_2 : b.toInt ≤ 1 := wk_le c_2
          replace hF := hF.trans (pm2_p1 c_2)
          rw [pm2_mk x2_4 x3_4] at hF
          refine lv_iload_n hx hb dX3_heightByDivisor_34 rfl (lv_at hl 1 rfl) ?_
          refine W.widen (k := 0) (n := 0) (by decide) (by decide) ?_
          exact hret x2_4 () _ _ _ 35 (wk_sub9 (is := []) hP rfl) (hD.sub [] rfl rfl) hS dX3_heightByDivisor_35 hF.symm
        · have k_2 : ¬ b.toInt ≤ 1 := wk_nle c_2
          replace hF := hF.trans (pm2_n1 c_2)
          refine lv_iload_n hx hb dX3_heightByDivisor_14 rfl (lv_at hl 0 rfl) ?_
          refine lv_if_le (tgt := 34) hx hb dX3_heightByDivisor_15 (by decide) (fun c_3 => ?_) (fun c_3 => ?_)
          · have k_3 : x3_4.toInt ≤ 0 := wk_le c_3
            replace hF := hF.trans (pm2_p1 c_3)
            rw [pm2_mk x2_4 x3_4] at hF
            refine lv_iload_n hx hb dX3_heightByDivisor_34 rfl (lv_at hl 1 rfl) ?_
            refine W.widen (k := 0) (n := 0) (by decide) (by decide) ?_
            exact hret x2_4 () _ _ _ 35 (wk_sub9 (is := []) hP rfl) (hD.sub [] rfl rfl) hS dX3_heightByDivisor_35 hF.symm
          · have k_3 : ¬ x3_4.toInt ≤ 0 := wk_nle c_3
            replace hF := hF.trans (pm2_n1 c_3)
            refine lv_iload_n hx hb dX3_heightByDivisor_18 rfl (lv_at hl 0 rfl) ?_
            refine lv_iload_n hx hb dX3_heightByDivisor_19 rfl (lv_at hl 3 rfl) ?_
            refine lv_irem hx hb dX3_heightByDivisor_20 (fun h9 => by have h8 := wk_eq h9; have h7 : b.toInt = 0 := h8; omega) ?_
            refine lv_if_ne (tgt := 34) hx hb dX3_heightByDivisor_21 (by decide) (fun c_4 => ?_) (fun c_4 => ?_)
            · have k_4 : ¬ (x3_4 - x3_4 / b * b).toInt = 0 := wk_neq c_4
              replace hF := hF.trans (pm2_n1 c_4)
              rw [pm2_mk x2_4 x3_4] at hF
              refine lv_iload_n hx hb dX3_heightByDivisor_34 rfl (lv_at hl 1 rfl) ?_
              refine W.widen (k := 0) (n := 0) (by decide) (by decide) ?_
              exact hret x2_4 () _ _ _ 35 (wk_sub9 (is := []) hP rfl) (hD.sub [] rfl rfl) hS dX3_heightByDivisor_35 hF.symm
            · have k_4 : (x3_4 - x3_4 / b * b).toInt = 0 := wk_eq c_4
              replace hF := hF.trans (pm2_p1 c_4)
              refine lv_iinc (v := (x2_4 + 1)) (lv' := [(2, .int (x2_4 + 1)), (3, .int x3_4), (0, .int a), (1, .int b)]) hx hb dX3_heightByDivisor_24 hl (k := 1) rfl rfl (by decide) rfl (fun ls hl => ?_)
              have k_5 : (x2_4 + 1).toInt = x2_4.toInt + 1 := wk_add x2_4.toInt 1 rfl rfl (by omega) (by omega)
              refine lv_iload_n hx hb dX3_heightByDivisor_27 rfl (lv_at hl 1 rfl) ?_
              refine lv_iload_n hx hb dX3_heightByDivisor_28 rfl (lv_at hl 3 rfl) ?_
              refine lv_idiv hx hb dX3_heightByDivisor_29 (fun h9 => by have h8 := wk_eq h9; have h7 : b.toInt = 0 := h8; omega) ?_
              refine lv_istore_n (lv' := [(3, .int (x3_4 / b)), (2, .int (x2_4 + 1)), (0, .int a), (1, .int b)]) hx hb dX3_heightByDivisor_30 rfl hl (by decide) rfl (fun ls hl => ?_)
              refine lv_goto (tgt := 4) hx hb dX3_heightByDivisor_31 (by decide) ?_
              exact ih_4 (x2_4 + 1) (x3_4 / b) _ _ _ (show 1 ≤ (x2_4 + 1).toInt ∧ (x2_4 + 1).toInt ≤ 4 from by omega) (show 4 - (x2_4 + 1).toInt < ((fu_4 : Nat) : Int) from by omega) hF hP hD hS (lv_sub hl [0, 1, 2, 3] rfl)
  exact hlp_4 6 1 a _ _ _ (show 1 ≤ 1 ∧ 1 ≤ 4 from by omega) (show 4 - 1 < ((6 : Nat) : Int) from by omega) hF hP hD hS (lv_sub hl [0, 1, 2, 3] rfl)
def fn_X0_heightOf (a : Int32) (b : Int32) (d : Int32) : Int32 := (fn_X3_heightByDivisor (b + 1) 2)
theorem dX0_heightOf_0 : decode cX0_heightOf 0 = .ok (.iload_n 2, 1) := by decide +kernel
theorem dX0_heightOf_1 : decode cX0_heightOf 1 = .ok (.iconst 1, 1) := by decide +kernel
theorem dX0_heightOf_2 : decode cX0_heightOf 2 = .ok (.iadd, 1) := by decide +kernel
theorem dX0_heightOf_3 : decode cX0_heightOf 3 = .ok (.iconst 2, 1) := by decide +kernel
theorem dX0_heightOf_4 : decode cX0_heightOf 4 = .ok (.invokestatic 7, 3) := by decide +kernel
theorem dX0_heightOf_7 : decode cX0_heightOf 7 = .ok (.ireturn, 1) := by decide +kernel
set_option maxHeartbeats 4000000 in
set_option maxRecDepth 100000 in
theorem c_X0_heightOf (l : Launch) (D : va_G) (cy : ClassId) (th : Nat) (ci0 : Nat)  (a : Int32) (b : Int32) (d : Int32)  : wk_Ci l yX0_heightOf cX0_heightOf 4 (some .int) { frames := 1, cells := 0, slots := 0, locals := 23 } D cy [.ref th, .int a, .int b, .int d] [(th, .inr (ci0, []))] 0 0 (fun (r : Int32) (u : Unit) => r = (fn_X0_heightOf a b d)) (fun u => [(th, .inr (ci0, []))]) := by
  refine wk_mk2Ci (by decide) (Nat.le_of_ble_eq_true rfl) ?_
  intro p e s m args below meth c A ls Q B hA hK hP hD hS hl hret
  obtain ⟨hx, hb, hr, hlocks, hml, hown, htb, hin⟩ := B
  have hl : lv_has ls 4 [(0, .ref th), (1, .int a), (2, .int b), (3, .int d)] := hl
  have hF : (fn_X0_heightOf a b d) = (fn_X0_heightOf a b d) := rfl
  conv at hF => rhs; unfold fn_X0_heightOf
  refine lv_iload_n hx hb dX0_heightOf_0 rfl (lv_at hl 2 rfl) ?_
  refine lv_iconst (v := 1) hx hb dX0_heightOf_1 (by decide) ?_
  refine lv_iadd hx hb dX0_heightOf_2 ?_
  refine lv_iconst (v := 2) hx hb dX0_heightOf_3 (by decide) ?_
  refine wk_iU (As := [.int (b + 1), .int 2]) (rest := []) (wc := []) (wr := [(th, .inr (ci0, []))]) (n := 2) ⟨hx, hb, hml, hown, htb⟩ (c_X3_heightByDivisor l D cy   (b + 1) 2 ) tw_405 tw_402 tw_403 tw_404 tw_72 ⟨rfl, rfl⟩ rfl rfl (by decide +kernel) ⟨Nat.le_of_ble_eq_true rfl, Nat.le_of_ble_eq_true rfl⟩ hK hP hD hS hA [] [0] rfl rfl rfl rfl (by decide) rfl hl.1 rfl (Nat.le_of_ble_eq_true rfl) dX0_heightOf_4 ⟨Nat.le_of_ble_eq_true rfl, Nat.le_of_ble_eq_true rfl⟩ (fun r_1 u_2 H locs hw_3 hP hD hS => ?_)
  refine W.widen (k := 0) (n := 0) (by decide) (by decide) ?_
  have hw_3 : r_1 = (fn_X3_heightByDivisor (b + 1) 2) := hw_3
  subst hw_3
  have hP : va_P D classes [(th, .inr (ci0, []))] H := hP
  have hD : va_D A [(th, .inr (ci0, []))] := hD
  refine W.widen (k := 0) (n := 0) (by decide) (by decide) ?_
  exact hret (fn_X3_heightByDivisor (b + 1) 2) () _ _ _ 7 (wk_sub9 (is := [0]) hP rfl) (hD.sub [0] rfl rfl) hS dX0_heightOf_7 hF.symm
def fn_X0_sign  : Int32 := 101
theorem dX0_sign_0 : decode cX0_sign 0 = .ok (.bipush 101, 2) := by decide +kernel
theorem dX0_sign_2 : decode cX0_sign 2 = .ok (.ireturn, 1) := by decide +kernel
set_option maxHeartbeats 4000000 in
set_option maxRecDepth 100000 in
theorem c_X0_sign (l : Launch) (D : va_G) (cy : ClassId) (th : Nat) (ci0 : Nat)    : wk_Ci l yX0_sign cX0_sign 1 (some .char) { frames := 0, cells := 0, slots := 0, locals := 0 } D cy [.ref th] [(th, .inr (ci0, []))] 0 0 (fun (r : Int32) (u : Unit) => r = fn_X0_sign) (fun u => [(th, .inr (ci0, []))]) := by
  refine wk_mk2Cz (by decide) (Nat.le_of_ble_eq_true rfl) ?_
  intro p e s m args below meth c A ls Q B hA hK hP hD hS hl hret
  obtain ⟨hx, hb, hr, hlocks, hml, hown, htb, hin⟩ := B
  have hl : lv_has ls 1 [(0, .ref th)] := hl
  have hF : fn_X0_sign = fn_X0_sign := rfl
  conv at hF => rhs; unfold fn_X0_sign
  refine lv_bipush (v := 101) hx hb dX0_sign_0 (by decide) ?_
  refine W.widen (k := 0) (n := 0) (by decide) (by decide) ?_
  exact hret 101 () _ _ _ 2 (by decide) (wk_sub9 (is := [0]) hP rfl) (hD.sub [0] rfl rfl) hS dX0_sign_2 hF.symm
def fn_X0_tellsHeights  : Int32 := 0
theorem dX0_tellsHeights_0 : decode cX0_tellsHeights 0 = .ok (.iconst 0, 1) := by decide +kernel
theorem dX0_tellsHeights_1 : decode cX0_tellsHeights 1 = .ok (.ireturn, 1) := by decide +kernel
set_option maxHeartbeats 4000000 in
set_option maxRecDepth 100000 in
theorem c_X0_tellsHeights (l : Launch) (D : va_G) (cy : ClassId) (th : Nat) (ci0 : Nat)    : wk_Ci l yX0_tellsHeights cX0_tellsHeights 1 (some .boolean) { frames := 0, cells := 0, slots := 0, locals := 0 } D cy [.ref th] [(th, .inr (ci0, []))] 0 0 (fun (r : Int32) (u : Unit) => r = fn_X0_tellsHeights ∧ (r = 0 ∨ r = 1)) (fun u => [(th, .inr (ci0, []))]) := by
  refine wk_mk2Cz (by decide) (Nat.le_of_ble_eq_true rfl) ?_
  intro p e s m args below meth c A ls Q B hA hK hP hD hS hl hret
  obtain ⟨hx, hb, hr, hlocks, hml, hown, htb, hin⟩ := B
  have hl : lv_has ls 1 [(0, .ref th)] := hl
  have hF : fn_X0_tellsHeights = fn_X0_tellsHeights := rfl
  conv at hF => rhs; unfold fn_X0_tellsHeights
  refine lv_iconst (v := 0) hx hb dX0_tellsHeights_0 (by decide) ?_
  refine W.widen (k := 0) (n := 0) (by decide) (by decide) ?_
  exact hret 0 () _ _ _ 1 (wk_nb (by first | exact Or.inl rfl | exact Or.inr rfl | assumption)) (wk_sub9 (is := [0]) hP rfl) (hD.sub [0] rfl rfl) hS dX0_tellsHeights_1 ⟨hF.symm, (by first | exact Or.inl rfl | exact Or.inr rfl | assumption)⟩
def fn_X1_heightOf (a : Int32) (b : Int32) (d : Int32) : Int32 := (fn_X3_heightByDivisor (a + 1) 2)
theorem dX1_heightOf_0 : decode cX1_heightOf 0 = .ok (.iload_n 1, 1) := by decide +kernel
theorem dX1_heightOf_1 : decode cX1_heightOf 1 = .ok (.iconst 1, 1) := by decide +kernel
theorem dX1_heightOf_2 : decode cX1_heightOf 2 = .ok (.iadd, 1) := by decide +kernel
theorem dX1_heightOf_3 : decode cX1_heightOf 3 = .ok (.iconst 2, 1) := by decide +kernel
theorem dX1_heightOf_4 : decode cX1_heightOf 4 = .ok (.invokestatic 7, 3) := by decide +kernel
theorem dX1_heightOf_7 : decode cX1_heightOf 7 = .ok (.ireturn, 1) := by decide +kernel
set_option maxHeartbeats 4000000 in
set_option maxRecDepth 100000 in
theorem c_X1_heightOf (l : Launch) (D : va_G) (cy : ClassId) (th : Nat) (ci0 : Nat)  (a : Int32) (b : Int32) (d : Int32)  : wk_Ci l yX1_heightOf cX1_heightOf 4 (some .int) { frames := 1, cells := 0, slots := 0, locals := 23 } D cy [.ref th, .int a, .int b, .int d] [(th, .inr (ci0, []))] 0 0 (fun (r : Int32) (u : Unit) => r = (fn_X1_heightOf a b d)) (fun u => [(th, .inr (ci0, []))]) := by
  refine wk_mk2Ci (by decide) (Nat.le_of_ble_eq_true rfl) ?_
  intro p e s m args below meth c A ls Q B hA hK hP hD hS hl hret
  obtain ⟨hx, hb, hr, hlocks, hml, hown, htb, hin⟩ := B
  have hl : lv_has ls 4 [(0, .ref th), (1, .int a), (2, .int b), (3, .int d)] := hl
  have hF : (fn_X1_heightOf a b d) = (fn_X1_heightOf a b d) := rfl
  conv at hF => rhs; unfold fn_X1_heightOf
  refine lv_iload_n hx hb dX1_heightOf_0 rfl (lv_at hl 1 rfl) ?_
  refine lv_iconst (v := 1) hx hb dX1_heightOf_1 (by decide) ?_
  refine lv_iadd hx hb dX1_heightOf_2 ?_
  refine lv_iconst (v := 2) hx hb dX1_heightOf_3 (by decide) ?_
  refine wk_iU (As := [.int (a + 1), .int 2]) (rest := []) (wc := []) (wr := [(th, .inr (ci0, []))]) (n := 2) ⟨hx, hb, hml, hown, htb⟩ (c_X3_heightByDivisor l D cy   (a + 1) 2 ) tw_405 tw_409 tw_410 tw_404 tw_72 ⟨rfl, rfl⟩ rfl rfl (by decide +kernel) ⟨Nat.le_of_ble_eq_true rfl, Nat.le_of_ble_eq_true rfl⟩ hK hP hD hS hA [] [0] rfl rfl rfl rfl (by decide) rfl hl.1 rfl (Nat.le_of_ble_eq_true rfl) dX1_heightOf_4 ⟨Nat.le_of_ble_eq_true rfl, Nat.le_of_ble_eq_true rfl⟩ (fun r_1 u_2 H locs hw_3 hP hD hS => ?_)
  refine W.widen (k := 0) (n := 0) (by decide) (by decide) ?_
  have hw_3 : r_1 = (fn_X3_heightByDivisor (a + 1) 2) := hw_3
  subst hw_3
  have hP : va_P D classes [(th, .inr (ci0, []))] H := hP
  have hD : va_D A [(th, .inr (ci0, []))] := hD
  refine W.widen (k := 0) (n := 0) (by decide) (by decide) ?_
  exact hret (fn_X3_heightByDivisor (a + 1) 2) () _ _ _ 7 (wk_sub9 (is := [0]) hP rfl) (hD.sub [0] rfl rfl) hS dX1_heightOf_7 hF.symm
def fn_X1_sign  : Int32 := 104
theorem dX1_sign_0 : decode cX1_sign 0 = .ok (.bipush 104, 2) := by decide +kernel
theorem dX1_sign_2 : decode cX1_sign 2 = .ok (.ireturn, 1) := by decide +kernel
set_option maxHeartbeats 4000000 in
set_option maxRecDepth 100000 in
theorem c_X1_sign (l : Launch) (D : va_G) (cy : ClassId) (th : Nat) (ci0 : Nat)    : wk_Ci l yX1_sign cX1_sign 1 (some .char) { frames := 0, cells := 0, slots := 0, locals := 0 } D cy [.ref th] [(th, .inr (ci0, []))] 0 0 (fun (r : Int32) (u : Unit) => r = fn_X1_sign) (fun u => [(th, .inr (ci0, []))]) := by
  refine wk_mk2Cz (by decide) (Nat.le_of_ble_eq_true rfl) ?_
  intro p e s m args below meth c A ls Q B hA hK hP hD hS hl hret
  obtain ⟨hx, hb, hr, hlocks, hml, hown, htb, hin⟩ := B
  have hl : lv_has ls 1 [(0, .ref th)] := hl
  have hF : fn_X1_sign = fn_X1_sign := rfl
  conv at hF => rhs; unfold fn_X1_sign
  refine lv_bipush (v := 104) hx hb dX1_sign_0 (by decide) ?_
  refine W.widen (k := 0) (n := 0) (by decide) (by decide) ?_
  exact hret 104 () _ _ _ 2 (by decide) (wk_sub9 (is := [0]) hP rfl) (hD.sub [0] rfl rfl) hS dX1_sign_2 hF.symm
def fn_X1_tellsHeights  : Int32 := 0
theorem dX1_tellsHeights_0 : decode cX1_tellsHeights 0 = .ok (.iconst 0, 1) := by decide +kernel
theorem dX1_tellsHeights_1 : decode cX1_tellsHeights 1 = .ok (.ireturn, 1) := by decide +kernel
set_option maxHeartbeats 4000000 in
set_option maxRecDepth 100000 in
theorem c_X1_tellsHeights (l : Launch) (D : va_G) (cy : ClassId) (th : Nat) (ci0 : Nat)    : wk_Ci l yX1_tellsHeights cX1_tellsHeights 1 (some .boolean) { frames := 0, cells := 0, slots := 0, locals := 0 } D cy [.ref th] [(th, .inr (ci0, []))] 0 0 (fun (r : Int32) (u : Unit) => r = fn_X1_tellsHeights ∧ (r = 0 ∨ r = 1)) (fun u => [(th, .inr (ci0, []))]) := by
  refine wk_mk2Cz (by decide) (Nat.le_of_ble_eq_true rfl) ?_
  intro p e s m args below meth c A ls Q B hA hK hP hD hS hl hret
  obtain ⟨hx, hb, hr, hlocks, hml, hown, htb, hin⟩ := B
  have hl : lv_has ls 1 [(0, .ref th)] := hl
  have hF : fn_X1_tellsHeights = fn_X1_tellsHeights := rfl
  conv at hF => rhs; unfold fn_X1_tellsHeights
  refine lv_iconst (v := 0) hx hb dX1_tellsHeights_0 (by decide) ?_
  refine W.widen (k := 0) (n := 0) (by decide) (by decide) ?_
  exact hret 0 () _ _ _ 1 (wk_nb (by first | exact Or.inl rfl | exact Or.inr rfl | assumption)) (wk_sub9 (is := [0]) hP rfl) (hD.sub [0] rfl rfl) hS dX1_tellsHeights_1 ⟨hF.symm, (by first | exact Or.inl rfl | exact Or.inr rfl | assumption)⟩
def fn_X3_heightOf (a : Int32) (b : Int32) (d : Int32) : Int32 := d
theorem dX3_heightOf_0 : decode cX3_heightOf 0 = .ok (.iload_n 3, 1) := by decide +kernel
theorem dX3_heightOf_1 : decode cX3_heightOf 1 = .ok (.ireturn, 1) := by decide +kernel
set_option maxHeartbeats 4000000 in
set_option maxRecDepth 100000 in
theorem c_X3_heightOf (l : Launch) (D : va_G) (cy : ClassId) (th : Nat) (ci0 : Nat)  (a : Int32) (b : Int32) (d : Int32)  : wk_Ci l yX3_heightOf cX3_heightOf 4 (some .int) { frames := 0, cells := 0, slots := 0, locals := 0 } D cy [.ref th, .int a, .int b, .int d] [(th, .inr (ci0, []))] 0 0 (fun (r : Int32) (u : Unit) => r = (fn_X3_heightOf a b d)) (fun u => [(th, .inr (ci0, []))]) := by
  refine wk_mk2Ci (by decide) (Nat.le_of_ble_eq_true rfl) ?_
  intro p e s m args below meth c A ls Q B hA hK hP hD hS hl hret
  obtain ⟨hx, hb, hr, hlocks, hml, hown, htb, hin⟩ := B
  have hl : lv_has ls 4 [(0, .ref th), (1, .int a), (2, .int b), (3, .int d)] := hl
  have hF : (fn_X3_heightOf a b d) = (fn_X3_heightOf a b d) := rfl
  conv at hF => rhs; unfold fn_X3_heightOf
  refine lv_iload_n hx hb dX3_heightOf_0 rfl (lv_at hl 3 rfl) ?_
  refine W.widen (k := 0) (n := 0) (by decide) (by decide) ?_
  exact hret d () _ _ _ 1 (wk_sub9 (is := [0]) hP rfl) (hD.sub [0] rfl rfl) hS dX3_heightOf_1 hF.symm
def fn_X3_sign  : Int32 := 116
theorem dX3_sign_0 : decode cX3_sign 0 = .ok (.bipush 116, 2) := by decide +kernel
theorem dX3_sign_2 : decode cX3_sign 2 = .ok (.ireturn, 1) := by decide +kernel
set_option maxHeartbeats 4000000 in
set_option maxRecDepth 100000 in
theorem c_X3_sign (l : Launch) (D : va_G) (cy : ClassId) (th : Nat) (ci0 : Nat)    : wk_Ci l yX3_sign cX3_sign 1 (some .char) { frames := 0, cells := 0, slots := 0, locals := 0 } D cy [.ref th] [(th, .inr (ci0, []))] 0 0 (fun (r : Int32) (u : Unit) => r = fn_X3_sign) (fun u => [(th, .inr (ci0, []))]) := by
  refine wk_mk2Cz (by decide) (Nat.le_of_ble_eq_true rfl) ?_
  intro p e s m args below meth c A ls Q B hA hK hP hD hS hl hret
  obtain ⟨hx, hb, hr, hlocks, hml, hown, htb, hin⟩ := B
  have hl : lv_has ls 1 [(0, .ref th)] := hl
  have hF : fn_X3_sign = fn_X3_sign := rfl
  conv at hF => rhs; unfold fn_X3_sign
  refine lv_bipush (v := 116) hx hb dX3_sign_0 (by decide) ?_
  refine W.widen (k := 0) (n := 0) (by decide) (by decide) ?_
  exact hret 116 () _ _ _ 2 (by decide) (wk_sub9 (is := [0]) hP rfl) (hD.sub [0] rfl rfl) hS dX3_sign_2 hF.symm
def fn_X3_tellsHeights  : Int32 := 1
theorem dX3_tellsHeights_0 : decode cX3_tellsHeights 0 = .ok (.iconst 1, 1) := by decide +kernel
theorem dX3_tellsHeights_1 : decode cX3_tellsHeights 1 = .ok (.ireturn, 1) := by decide +kernel
set_option maxHeartbeats 4000000 in
set_option maxRecDepth 100000 in
theorem c_X3_tellsHeights (l : Launch) (D : va_G) (cy : ClassId) (th : Nat) (ci0 : Nat)    : wk_Ci l yX3_tellsHeights cX3_tellsHeights 1 (some .boolean) { frames := 0, cells := 0, slots := 0, locals := 0 } D cy [.ref th] [(th, .inr (ci0, []))] 0 0 (fun (r : Int32) (u : Unit) => r = fn_X3_tellsHeights ∧ (r = 0 ∨ r = 1)) (fun u => [(th, .inr (ci0, []))]) := by
  refine wk_mk2Cz (by decide) (Nat.le_of_ble_eq_true rfl) ?_
  intro p e s m args below meth c A ls Q B hA hK hP hD hS hl hret
  obtain ⟨hx, hb, hr, hlocks, hml, hown, htb, hin⟩ := B
  have hl : lv_has ls 1 [(0, .ref th)] := hl
  have hF : fn_X3_tellsHeights = fn_X3_tellsHeights := rfl
  conv at hF => rhs; unfold fn_X3_tellsHeights
  refine lv_iconst (v := 1) hx hb dX3_tellsHeights_0 (by decide) ?_
  refine W.widen (k := 0) (n := 0) (by decide) (by decide) ?_
  exact hret 1 () _ _ _ 1 (wk_nb (by first | exact Or.inl rfl | exact Or.inr rfl | assumption)) (wk_sub9 (is := [0]) hP rfl) (hD.sub [0] rfl rfl) hS dX3_tellsHeights_1 ⟨hF.symm, (by first | exact Or.inl rfl | exact Or.inr rfl | assumption)⟩
def fn_X5_heightOf (a : Int32) (b : Int32) (d : Int32) : Int32 := (1 + (((a / 10) + (a - a / 10 * 10)) - ((a / 10) + (a - a / 10 * 10)) / 4 * 4))
theorem dX5_heightOf_0 : decode cX5_heightOf 0 = .ok (.iconst 1, 1) := by decide +kernel
theorem dX5_heightOf_1 : decode cX5_heightOf 1 = .ok (.iload_n 1, 1) := by decide +kernel
theorem dX5_heightOf_2 : decode cX5_heightOf 2 = .ok (.bipush 10, 2) := by decide +kernel
theorem dX5_heightOf_4 : decode cX5_heightOf 4 = .ok (.idiv, 1) := by decide +kernel
theorem dX5_heightOf_5 : decode cX5_heightOf 5 = .ok (.iload_n 1, 1) := by decide +kernel
theorem dX5_heightOf_6 : decode cX5_heightOf 6 = .ok (.bipush 10, 2) := by decide +kernel
theorem dX5_heightOf_8 : decode cX5_heightOf 8 = .ok (.irem, 1) := by decide +kernel
theorem dX5_heightOf_9 : decode cX5_heightOf 9 = .ok (.iadd, 1) := by decide +kernel
theorem dX5_heightOf_10 : decode cX5_heightOf 10 = .ok (.iconst 4, 1) := by decide +kernel
theorem dX5_heightOf_11 : decode cX5_heightOf 11 = .ok (.irem, 1) := by decide +kernel
theorem dX5_heightOf_12 : decode cX5_heightOf 12 = .ok (.iadd, 1) := by decide +kernel
theorem dX5_heightOf_13 : decode cX5_heightOf 13 = .ok (.ireturn, 1) := by decide +kernel
set_option maxHeartbeats 4000000 in
set_option maxRecDepth 100000 in
theorem c_X5_heightOf (l : Launch) (D : va_G) (cy : ClassId) (th : Nat) (ci0 : Nat)  (a : Int32) (b : Int32) (d : Int32)  : wk_Ci l yX5_heightOf cX5_heightOf 4 (some .int) { frames := 0, cells := 0, slots := 0, locals := 0 } D cy [.ref th, .int a, .int b, .int d] [(th, .inr (ci0, []))] 0 0 (fun (r : Int32) (u : Unit) => r = (fn_X5_heightOf a b d)) (fun u => [(th, .inr (ci0, []))]) := by
  refine wk_mk2Ci (by decide) (Nat.le_of_ble_eq_true rfl) ?_
  intro p e s m args below meth c A ls Q B hA hK hP hD hS hl hret
  obtain ⟨hx, hb, hr, hlocks, hml, hown, htb, hin⟩ := B
  have hl : lv_has ls 4 [(0, .ref th), (1, .int a), (2, .int b), (3, .int d)] := hl
  have hF : (fn_X5_heightOf a b d) = (fn_X5_heightOf a b d) := rfl
  conv at hF => rhs; unfold fn_X5_heightOf
  refine lv_iconst (v := 1) hx hb dX5_heightOf_0 (by decide) ?_
  refine lv_iload_n hx hb dX5_heightOf_1 rfl (lv_at hl 1 rfl) ?_
  refine lv_bipush (v := 10) hx hb dX5_heightOf_2 (by decide) ?_
  refine lv_idiv hx hb dX5_heightOf_4 (by decide) ?_
  refine lv_iload_n hx hb dX5_heightOf_5 rfl (lv_at hl 1 rfl) ?_
  refine lv_bipush (v := 10) hx hb dX5_heightOf_6 (by decide) ?_
  refine lv_irem hx hb dX5_heightOf_8 (by decide) ?_
  refine lv_iadd hx hb dX5_heightOf_9 ?_
  refine lv_iconst (v := 4) hx hb dX5_heightOf_10 (by decide) ?_
  refine lv_irem hx hb dX5_heightOf_11 (by decide) ?_
  refine lv_iadd hx hb dX5_heightOf_12 ?_
  refine W.widen (k := 0) (n := 0) (by decide) (by decide) ?_
  exact hret (1 + (((a / 10) + (a - a / 10 * 10)) - ((a / 10) + (a - a / 10 * 10)) / 4 * 4)) () _ _ _ 13 (wk_sub9 (is := [0]) hP rfl) (hD.sub [0] rfl rfl) hS dX5_heightOf_13 hF.symm
def fn_X5_sign  : Int32 := 115
theorem dX5_sign_0 : decode cX5_sign 0 = .ok (.bipush 115, 2) := by decide +kernel
theorem dX5_sign_2 : decode cX5_sign 2 = .ok (.ireturn, 1) := by decide +kernel
set_option maxHeartbeats 4000000 in
set_option maxRecDepth 100000 in
theorem c_X5_sign (l : Launch) (D : va_G) (cy : ClassId) (th : Nat) (ci0 : Nat)    : wk_Ci l yX5_sign cX5_sign 1 (some .char) { frames := 0, cells := 0, slots := 0, locals := 0 } D cy [.ref th] [(th, .inr (ci0, []))] 0 0 (fun (r : Int32) (u : Unit) => r = fn_X5_sign) (fun u => [(th, .inr (ci0, []))]) := by
  refine wk_mk2Cz (by decide) (Nat.le_of_ble_eq_true rfl) ?_
  intro p e s m args below meth c A ls Q B hA hK hP hD hS hl hret
  obtain ⟨hx, hb, hr, hlocks, hml, hown, htb, hin⟩ := B
  have hl : lv_has ls 1 [(0, .ref th)] := hl
  have hF : fn_X5_sign = fn_X5_sign := rfl
  conv at hF => rhs; unfold fn_X5_sign
  refine lv_bipush (v := 115) hx hb dX5_sign_0 (by decide) ?_
  refine W.widen (k := 0) (n := 0) (by decide) (by decide) ?_
  exact hret 115 () _ _ _ 2 (by decide) (wk_sub9 (is := [0]) hP rfl) (hD.sub [0] rfl rfl) hS dX5_sign_2 hF.symm
def fn_X5_tellsHeights  : Int32 := 0
theorem dX5_tellsHeights_0 : decode cX5_tellsHeights 0 = .ok (.iconst 0, 1) := by decide +kernel
theorem dX5_tellsHeights_1 : decode cX5_tellsHeights 1 = .ok (.ireturn, 1) := by decide +kernel
set_option maxHeartbeats 4000000 in
set_option maxRecDepth 100000 in
theorem c_X5_tellsHeights (l : Launch) (D : va_G) (cy : ClassId) (th : Nat) (ci0 : Nat)    : wk_Ci l yX5_tellsHeights cX5_tellsHeights 1 (some .boolean) { frames := 0, cells := 0, slots := 0, locals := 0 } D cy [.ref th] [(th, .inr (ci0, []))] 0 0 (fun (r : Int32) (u : Unit) => r = fn_X5_tellsHeights ∧ (r = 0 ∨ r = 1)) (fun u => [(th, .inr (ci0, []))]) := by
  refine wk_mk2Cz (by decide) (Nat.le_of_ble_eq_true rfl) ?_
  intro p e s m args below meth c A ls Q B hA hK hP hD hS hl hret
  obtain ⟨hx, hb, hr, hlocks, hml, hown, htb, hin⟩ := B
  have hl : lv_has ls 1 [(0, .ref th)] := hl
  have hF : fn_X5_tellsHeights = fn_X5_tellsHeights := rfl
  conv at hF => rhs; unfold fn_X5_tellsHeights
  refine lv_iconst (v := 0) hx hb dX5_tellsHeights_0 (by decide) ?_
  refine W.widen (k := 0) (n := 0) (by decide) (by decide) ?_
  exact hret 0 () _ _ _ 1 (wk_nb (by first | exact Or.inl rfl | exact Or.inr rfl | assumption)) (wk_sub9 (is := [0]) hP rfl) (hD.sub [0] rfl rfl) hS dX5_tellsHeights_1 ⟨hF.symm, (by first | exact Or.inl rfl | exact Or.inr rfl | assumption)⟩
def fn_X7_heightOf (a : Int32) (b : Int32) (d : Int32) : Int32 := (fn_X3_heightByDivisor (a + 1) 3)
theorem dX7_heightOf_0 : decode cX7_heightOf 0 = .ok (.iload_n 1, 1) := by decide +kernel
theorem dX7_heightOf_1 : decode cX7_heightOf 1 = .ok (.iconst 1, 1) := by decide +kernel
theorem dX7_heightOf_2 : decode cX7_heightOf 2 = .ok (.iadd, 1) := by decide +kernel
theorem dX7_heightOf_3 : decode cX7_heightOf 3 = .ok (.iconst 3, 1) := by decide +kernel
theorem dX7_heightOf_4 : decode cX7_heightOf 4 = .ok (.invokestatic 7, 3) := by decide +kernel
theorem dX7_heightOf_7 : decode cX7_heightOf 7 = .ok (.ireturn, 1) := by decide +kernel
set_option maxHeartbeats 4000000 in
set_option maxRecDepth 100000 in
theorem c_X7_heightOf (l : Launch) (D : va_G) (cy : ClassId) (th : Nat) (ci0 : Nat)  (a : Int32) (b : Int32) (d : Int32)  : wk_Ci l yX7_heightOf cX7_heightOf 4 (some .int) { frames := 1, cells := 0, slots := 0, locals := 23 } D cy [.ref th, .int a, .int b, .int d] [(th, .inr (ci0, []))] 0 0 (fun (r : Int32) (u : Unit) => r = (fn_X7_heightOf a b d)) (fun u => [(th, .inr (ci0, []))]) := by
  refine wk_mk2Ci (by decide) (Nat.le_of_ble_eq_true rfl) ?_
  intro p e s m args below meth c A ls Q B hA hK hP hD hS hl hret
  obtain ⟨hx, hb, hr, hlocks, hml, hown, htb, hin⟩ := B
  have hl : lv_has ls 4 [(0, .ref th), (1, .int a), (2, .int b), (3, .int d)] := hl
  have hF : (fn_X7_heightOf a b d) = (fn_X7_heightOf a b d) := rfl
  conv at hF => rhs; unfold fn_X7_heightOf
  refine lv_iload_n hx hb dX7_heightOf_0 rfl (lv_at hl 1 rfl) ?_
  refine lv_iconst (v := 1) hx hb dX7_heightOf_1 (by decide) ?_
  refine lv_iadd hx hb dX7_heightOf_2 ?_
  refine lv_iconst (v := 3) hx hb dX7_heightOf_3 (by decide) ?_
  refine wk_iU (As := [.int (a + 1), .int 3]) (rest := []) (wc := []) (wr := [(th, .inr (ci0, []))]) (n := 2) ⟨hx, hb, hml, hown, htb⟩ (c_X3_heightByDivisor l D cy   (a + 1) 3 ) tw_405 tw_417 tw_418 tw_404 tw_72 ⟨rfl, rfl⟩ rfl rfl (by decide +kernel) ⟨Nat.le_of_ble_eq_true rfl, Nat.le_of_ble_eq_true rfl⟩ hK hP hD hS hA [] [0] rfl rfl rfl rfl (by decide) rfl hl.1 rfl (Nat.le_of_ble_eq_true rfl) dX7_heightOf_4 ⟨Nat.le_of_ble_eq_true rfl, Nat.le_of_ble_eq_true rfl⟩ (fun r_1 u_2 H locs hw_3 hP hD hS => ?_)
  refine W.widen (k := 0) (n := 0) (by decide) (by decide) ?_
  have hw_3 : r_1 = (fn_X3_heightByDivisor (a + 1) 3) := hw_3
  subst hw_3
  have hP : va_P D classes [(th, .inr (ci0, []))] H := hP
  have hD : va_D A [(th, .inr (ci0, []))] := hD
  refine W.widen (k := 0) (n := 0) (by decide) (by decide) ?_
  exact hret (fn_X3_heightByDivisor (a + 1) 3) () _ _ _ 7 (wk_sub9 (is := [0]) hP rfl) (hD.sub [0] rfl rfl) hS dX7_heightOf_7 hF.symm
def fn_X7_sign  : Int32 := 100
theorem dX7_sign_0 : decode cX7_sign 0 = .ok (.bipush 100, 2) := by decide +kernel
theorem dX7_sign_2 : decode cX7_sign 2 = .ok (.ireturn, 1) := by decide +kernel
set_option maxHeartbeats 4000000 in
set_option maxRecDepth 100000 in
theorem c_X7_sign (l : Launch) (D : va_G) (cy : ClassId) (th : Nat) (ci0 : Nat)    : wk_Ci l yX7_sign cX7_sign 1 (some .char) { frames := 0, cells := 0, slots := 0, locals := 0 } D cy [.ref th] [(th, .inr (ci0, []))] 0 0 (fun (r : Int32) (u : Unit) => r = fn_X7_sign) (fun u => [(th, .inr (ci0, []))]) := by
  refine wk_mk2Cz (by decide) (Nat.le_of_ble_eq_true rfl) ?_
  intro p e s m args below meth c A ls Q B hA hK hP hD hS hl hret
  obtain ⟨hx, hb, hr, hlocks, hml, hown, htb, hin⟩ := B
  have hl : lv_has ls 1 [(0, .ref th)] := hl
  have hF : fn_X7_sign = fn_X7_sign := rfl
  conv at hF => rhs; unfold fn_X7_sign
  refine lv_bipush (v := 100) hx hb dX7_sign_0 (by decide) ?_
  refine W.widen (k := 0) (n := 0) (by decide) (by decide) ?_
  exact hret 100 () _ _ _ 2 (by decide) (wk_sub9 (is := [0]) hP rfl) (hD.sub [0] rfl rfl) hS dX7_sign_2 hF.symm
theorem dX3_init_0 : decode cX3_init 0 = .ok (.aload_n 0, 1) := by decide +kernel
theorem dX3_init_1 : decode cX3_init 1 = .ok (.invokespecial 3, 3) := by decide +kernel
theorem dX3_init_4 : decode cX3_init 4 = .ok (.return_, 1) := by decide +kernel
set_option maxHeartbeats 4000000 in
set_option maxRecDepth 100000 in
theorem c_X3_init (l : Launch) (D : va_G) (cy : ClassId) (th : Nat)    : wk_Cv l yX3_init cX3_init 1 none { frames := 1, cells := 0, slots := 0, locals := 12 } D cy [.ref th] [] 0 0 (fun (u : Unit) => True) (fun u => []) := by
  refine wk_mk2Cv (by decide) (Nat.le_of_ble_eq_true rfl) ?_
  intro p e s m args below meth c A ls Q B hA hK hP hD hS hl hret
  obtain ⟨hx, hb, hr, hlocks, hml, hown, htb, hin⟩ := B
  have hl : lv_has ls 1 [(0, .ref th)] := hl
  refine lv_aload_n hx hb dX3_init_0 rfl (lv_at hl 0 rfl) ?_
  refine W.objInit hx hb hown (htb _ tw_340) (htb _ tw_84) (htb _ tw_85) rfl (by rw [hml]; exact hl.1) rfl dX3_init_1 (Nat.le_of_ble_eq_true rfl) (Nat.le_of_ble_eq_true rfl) ?_
  refine W.eq (g2 := F0 m 4 ls []) rfl ?_
  refine W.widen (k := 0) (n := 0) (by decide) (by decide) ?_
  exact hret () _ _ _ 4 (wk_sub9 (is := []) hP rfl) (hD.sub [] rfl rfl) hS dX3_init_4 trivial
theorem dX1_init_0 : decode cX1_init 0 = .ok (.aload_n 0, 1) := by decide +kernel
theorem dX1_init_1 : decode cX1_init 1 = .ok (.invokespecial 1, 3) := by decide +kernel
theorem dX1_init_4 : decode cX1_init 4 = .ok (.return_, 1) := by decide +kernel
set_option maxHeartbeats 4000000 in
set_option maxRecDepth 100000 in
theorem c_X1_init (l : Launch) (D : va_G) (cy : ClassId) (th : Nat)    : wk_Cv l yX1_init cX1_init 1 none { frames := 2, cells := 0, slots := 0, locals := 32 } D cy [.ref th] [] 0 0 (fun (u : Unit) => True) (fun u => []) := by
  refine wk_mk2Cv (by decide) (Nat.le_of_ble_eq_true rfl) ?_
  intro p e s m args below meth c A ls Q B hA hK hP hD hS hl hret
  obtain ⟨hx, hb, hr, hlocks, hml, hown, htb, hin⟩ := B
  have hl : lv_has ls 1 [(0, .ref th)] := hl
  refine lv_aload_n hx hb dX1_init_0 rfl (lv_at hl 0 rfl) ?_
  refine wk_vI (As := []) (rest := []) (wc := []) (wr := []) (n := 0) ⟨hx, hb, hml, hown, htb⟩ (c_X3_init l D cy th   ) tw_339 tw_347 tw_338 tw_72 rfl rfl rfl (by decide +kernel) ⟨Nat.le_of_ble_eq_true rfl, Nat.le_of_ble_eq_true rfl⟩ hK hP hD hS hA [] [] rfl rfl rfl rfl (by decide) rfl hl.1 rfl (Nat.le_of_ble_eq_true rfl) dX1_init_1 ⟨Nat.le_of_ble_eq_true rfl, Nat.le_of_ble_eq_true rfl⟩ (fun u_2 H locs hw_3 hP hD hS => ?_)
  refine W.widen (k := 0) (n := 0) (by decide) (by decide) ?_
  have hP : va_P D classes [] H := hP
  have hD : va_D A [] := hD
  refine W.widen (k := 0) (n := 0) (by decide) (by decide) ?_
  exact hret () _ _ _ 4 (wk_sub9 (is := []) hP rfl) (hD.sub [] rfl rfl) hS dX1_init_4 trivial
theorem dX0_init_0 : decode cX0_init 0 = .ok (.aload_n 0, 1) := by decide +kernel
theorem dX0_init_1 : decode cX0_init 1 = .ok (.invokespecial 1, 3) := by decide +kernel
theorem dX0_init_4 : decode cX0_init 4 = .ok (.return_, 1) := by decide +kernel
set_option maxHeartbeats 4000000 in
set_option maxRecDepth 100000 in
theorem c_X0_init (l : Launch) (D : va_G) (cy : ClassId) (th : Nat)    : wk_Cv l yX0_init cX0_init 1 none { frames := 2, cells := 0, slots := 0, locals := 32 } D cy [.ref th] [] 0 0 (fun (u : Unit) => True) (fun u => []) := by
  refine wk_mk2Cv (by decide) (Nat.le_of_ble_eq_true rfl) ?_
  intro p e s m args below meth c A ls Q B hA hK hP hD hS hl hret
  obtain ⟨hx, hb, hr, hlocks, hml, hown, htb, hin⟩ := B
  have hl : lv_has ls 1 [(0, .ref th)] := hl
  refine lv_aload_n hx hb dX0_init_0 rfl (lv_at hl 0 rfl) ?_
  refine wk_vI (As := []) (rest := []) (wc := []) (wr := []) (n := 0) ⟨hx, hb, hml, hown, htb⟩ (c_X3_init l D cy th   ) tw_339 tw_361 tw_338 tw_72 rfl rfl rfl (by decide +kernel) ⟨Nat.le_of_ble_eq_true rfl, Nat.le_of_ble_eq_true rfl⟩ hK hP hD hS hA [] [] rfl rfl rfl rfl (by decide) rfl hl.1 rfl (Nat.le_of_ble_eq_true rfl) dX0_init_1 ⟨Nat.le_of_ble_eq_true rfl, Nat.le_of_ble_eq_true rfl⟩ (fun u_2 H locs hw_3 hP hD hS => ?_)
  refine W.widen (k := 0) (n := 0) (by decide) (by decide) ?_
  have hP : va_P D classes [] H := hP
  have hD : va_D A [] := hD
  refine W.widen (k := 0) (n := 0) (by decide) (by decide) ?_
  exact hret () _ _ _ 4 (wk_sub9 (is := []) hP rfl) (hD.sub [] rfl rfl) hS dX0_init_4 trivial
theorem dX5_init_0 : decode cX5_init 0 = .ok (.aload_n 0, 1) := by decide +kernel
theorem dX5_init_1 : decode cX5_init 1 = .ok (.invokespecial 1, 3) := by decide +kernel
theorem dX5_init_4 : decode cX5_init 4 = .ok (.return_, 1) := by decide +kernel
set_option maxHeartbeats 4000000 in
set_option maxRecDepth 100000 in
theorem c_X5_init (l : Launch) (D : va_G) (cy : ClassId) (th : Nat)    : wk_Cv l yX5_init cX5_init 1 none { frames := 2, cells := 0, slots := 0, locals := 32 } D cy [.ref th] [] 0 0 (fun (u : Unit) => True) (fun u => []) := by
  refine wk_mk2Cv (by decide) (Nat.le_of_ble_eq_true rfl) ?_
  intro p e s m args below meth c A ls Q B hA hK hP hD hS hl hret
  obtain ⟨hx, hb, hr, hlocks, hml, hown, htb, hin⟩ := B
  have hl : lv_has ls 1 [(0, .ref th)] := hl
  refine lv_aload_n hx hb dX5_init_0 rfl (lv_at hl 0 rfl) ?_
  refine wk_vI (As := []) (rest := []) (wc := []) (wr := []) (n := 0) ⟨hx, hb, hml, hown, htb⟩ (c_X3_init l D cy th   ) tw_339 tw_354 tw_338 tw_72 rfl rfl rfl (by decide +kernel) ⟨Nat.le_of_ble_eq_true rfl, Nat.le_of_ble_eq_true rfl⟩ hK hP hD hS hA [] [] rfl rfl rfl rfl (by decide) rfl hl.1 rfl (Nat.le_of_ble_eq_true rfl) dX5_init_1 ⟨Nat.le_of_ble_eq_true rfl, Nat.le_of_ble_eq_true rfl⟩ (fun u_2 H locs hw_3 hP hD hS => ?_)
  refine W.widen (k := 0) (n := 0) (by decide) (by decide) ?_
  have hP : va_P D classes [] H := hP
  have hD : va_D A [] := hD
  refine W.widen (k := 0) (n := 0) (by decide) (by decide) ?_
  exact hret () _ _ _ 4 (wk_sub9 (is := []) hP rfl) (hD.sub [] rfl rfl) hS dX5_init_4 trivial
theorem dX7_init_0 : decode cX7_init 0 = .ok (.aload_n 0, 1) := by decide +kernel
theorem dX7_init_1 : decode cX7_init 1 = .ok (.invokespecial 1, 3) := by decide +kernel
theorem dX7_init_4 : decode cX7_init 4 = .ok (.return_, 1) := by decide +kernel
set_option maxHeartbeats 4000000 in
set_option maxRecDepth 100000 in
theorem c_X7_init (l : Launch) (D : va_G) (cy : ClassId) (th : Nat)    : wk_Cv l yX7_init cX7_init 1 none { frames := 3, cells := 0, slots := 0, locals := 52 } D cy [.ref th] [] 0 0 (fun (u : Unit) => True) (fun u => []) := by
  refine wk_mk2Cv (by decide) (Nat.le_of_ble_eq_true rfl) ?_
  intro p e s m args below meth c A ls Q B hA hK hP hD hS hl hret
  obtain ⟨hx, hb, hr, hlocks, hml, hown, htb, hin⟩ := B
  have hl : lv_has ls 1 [(0, .ref th)] := hl
  refine lv_aload_n hx hb dX7_init_0 rfl (lv_at hl 0 rfl) ?_
  refine wk_vI (As := []) (rest := []) (wc := []) (wr := []) (n := 0) ⟨hx, hb, hml, hown, htb⟩ (c_X1_init l D cy th   ) tw_346 tw_368 tw_345 tw_73 rfl rfl rfl (by decide +kernel) ⟨Nat.le_of_ble_eq_true rfl, Nat.le_of_ble_eq_true rfl⟩ hK hP hD hS hA [] [] rfl rfl rfl rfl (by decide) rfl hl.1 rfl (Nat.le_of_ble_eq_true rfl) dX7_init_1 ⟨Nat.le_of_ble_eq_true rfl, Nat.le_of_ble_eq_true rfl⟩ (fun u_2 H locs hw_3 hP hD hS => ?_)
  refine W.widen (k := 0) (n := 0) (by decide) (by decide) ?_
  have hP : va_P D classes [] H := hP
  have hD : va_D A [] := hD
  refine W.widen (k := 0) (n := 0) (by decide) (by decide) ?_
  exact hret () _ _ _ 4 (wk_sub9 (is := []) hP rfl) (hD.sub [] rfl rfl) hS dX7_init_4 trivial
