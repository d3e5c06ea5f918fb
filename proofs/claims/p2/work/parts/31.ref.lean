def lp_X12_divides_2_4 (a : Int32) : Nat → Int32 → Int32 → Int32 × Int32
  | 0, _, _ => default
  | fu_4 + 1, x2_4, x3_4 => (if x3_4 ≤ 0 then (x2_4, x3_4) else (if (x3_4 - x3_4 / 2 * 2) = 0 then (lp_X12_divides_2_4 a fu_4 (x2_4 + 1) (x3_4 / 2)) else (x2_4, x3_4)))
termination_by n => n
def fn_X12_divides_2 (a : Int32) : Int32 := (pm2 (lp_X12_divides_2_4 a 2147483648 0 a) (fun x2_4 x3_4 => x2_4))
theorem dX12_divides_0 : decode cX12_divides 0 = .ok (.iconst 0, 1) := by decide +kernel
theorem dX12_divides_1 : decode cX12_divides 1 = .ok (.istore_n 2, 1) := by decide +kernel
theorem dX12_divides_2 : decode cX12_divides 2 = .ok (.iload_n 1, 1) := by decide +kernel
theorem dX12_divides_3 : decode cX12_divides 3 = .ok (.istore_n 3, 1) := by decide +kernel
theorem dX12_divides_4 : decode cX12_divides 4 = .ok (.iload_n 3, 1) := by decide +kernel
theorem dX12_divides_5 : decode cX12_divides 5 = .ok (.ifCond .le 19, 3) := by decide +kernel
theorem dX12_divides_8 : decode cX12_divides 8 = .ok (.iload_n 3, 1) := by decide +kernel
theorem dX12_divides_9 : decode cX12_divides 9 = .ok (.iload_n 0, 1) := by decide +kernel
theorem dX12_divides_10 : decode cX12_divides 10 = .ok (.irem, 1) := by decide +kernel
theorem dX12_divides_11 : decode cX12_divides 11 = .ok (.ifCond .ne 13, 3) := by decide +kernel
theorem dX12_divides_14 : decode cX12_divides 14 = .ok (.iinc 2 1, 3) := by decide +kernel
theorem dX12_divides_17 : decode cX12_divides 17 = .ok (.iload_n 3, 1) := by decide +kernel
theorem dX12_divides_18 : decode cX12_divides 18 = .ok (.iload_n 0, 1) := by decide +kernel
theorem dX12_divides_19 : decode cX12_divides 19 = .ok (.idiv, 1) := by decide +kernel
theorem dX12_divides_20 : decode cX12_divides 20 = .ok (.istore_n 3, 1) := by decide +kernel
theorem dX12_divides_21 : decode cX12_divides 21 = .ok (.goto (-17), 3) := by decide +kernel
theorem dX12_divides_24 : decode cX12_divides 24 = .ok (.iload_n 2, 1) := by decide +kernel
theorem dX12_divides_25 : decode cX12_divides 25 = .ok (.ireturn, 1) := by decide +kernel
set_option maxHeartbeats 4000000 in
set_option maxRecDepth 100000 in
theorem c_X12_divides_2 (l : Launch) (D : va_G) (cy : ClassId)  (a : Int32)  : wk_Ci l yX12_divides cX12_divides 4 (some .int) { frames := 0, cells := 0, slots := 0, locals := 0 } D cy [.int 2, .int a] [] 0 0 (fun (r : Int32) (u : Unit) => r = (fn_X12_divides_2 a)) (fun u => []) := by
  refine wk_mk2Ci (by decide) (Nat.le_of_ble_eq_true rfl) ?_
  intro p e s m args below meth c A ls Q B hA hK hP hD hS hl hret
  obtain ⟨hx, hb, hr, hlocks, hml, hown, htb, hin⟩ := B
  have hl : lv_has ls 4 [(0, .int 2), (1, .int a)] := hl
  have hF : (fn_X12_divides_2 a) = (fn_X12_divides_2 a) := rfl
  conv at hF => rhs; unfold fn_X12_divides_2
  refine lv_iconst (v := 0) hx hb dX12_divides_0 (by decide) ?_
  refine lv_istore_n (lv' := [(2, .int 0), (0, .int 2), (1, .int a)]) hx hb dX12_divides_1 rfl hl (by decide) rfl (fun ls hl => ?_)
  refine lv_iload_n hx hb dX12_divides_2 rfl (lv_at hl 2 rfl) ?_
  refine lv_istore_n (lv' := [(3, .int a), (2, .int 0), (0, .int 2), (1, .int a)]) hx hb dX12_divides_3 rfl hl (by decide) rfl (fun ls hl => ?_)
  have hlp_4 : ∀ (fu_4 : Nat) (x2_4 : Int32) (x3_4 : Int32) (H : Heap) (locs : List Loc) (ls : Array Slot), (((x3_4.toInt).toNat : Nat) : Int) < (fu_4 : Int) → ((fn_X12_divides_2 a) = (pm2 (lp_X12_divides_2_4 a fu_4 x2_4 x3_4) (fun x2_4 x3_4 => x2_4))) → va_P D classes [] H → va_D A [] → va_S A s.heap H locs → lv_has ls 4 [(3, .int x3_4), (2, .int x2_4), (0, .int 2), (1, .int a)] → W p l e { frames := 0, cells := 0, slots := 0, locals := 0 } s m args below meth c H locs 0 0 Q (F0 m 4 ls []) := by
    intro fu_4
    induction fu_4 with
    | zero =>
      intro x2_4 x3_4 H locs ls hm hF hP hD hS hl
      exfalso; omega
    | succ fu_4 ih_4 =>
      intro x2_4 x3_4 H locs ls hm hF hP hD hS hl
      rw [lp_X12_divides_2_4] at hF
      refine lv_iload_n hx hb dX12_divides_4 rfl (lv_at hl 0 rfl) ?_
      refine lv_if_le (tgt := 24) hx hb dX12_divides_5 (by decide) (fun c_1 => ?_) (fun c_1 => ?_)
      · have k_1 : x3_4.toInt ≤ 0 := wk_le c_1
        rw [if_pos c_1] at hF
        rw [pm2_mk x2_4 x3_4] at hF
        refine lv_iload_n hx hb dX12_divides_24 rfl (lv_at hl 1 rfl) ?_
        refine W.widen (k := 0) (n := 0) (by decide) (by decide) ?_
        exact hret x2_4 () _ _ _ 25 (wk_sub9 (is := []) hP rfl) (hD.sub [] rfl rfl) hS dX12_divides_25 hF.symm
      · have k_1 : ¬ x3_4.toInt ≤ 0 := wk_nle c_1
        rw [if_neg c_1] at hF
        refine lv_iload_n hx hb dX12_divides_8 rfl (lv_at hl 0 rfl) ?_
        refine lv_iload_n hx hb dX12_divides_9 rfl (lv_at hl 2 rfl) ?_
        refine lv_irem hx hb dX12_divides_10 (by decide) ?_
        have k_2 : (x3_4 - x3_4 / 2 * 2).toInt = x3_4.toInt % 2 := wk_rem 2 rfl (by omega) (by decide)
        refine lv_if_ne (tgt := 24) hx hb dX12_divides_11 (by decide) (fun c_3 => ?_) (fun c_3 => ?_)
        · have k_3 : ¬ (x3_4 - x3_4 / 2 * 2).toInt = 0 := wk_neq c_3
          rw [if_neg c_3] at hF
          rw [pm2_mk x2_4 x3_4] at hF
          refine lv_iload_n hx hb dX12_divides_24 rfl (lv_at hl 1 rfl) ?_
          refine W.widen (k := 0) (n := 0) (by decide) (by decide) ?_
          exact hret x2_4 () _ _ _ 25 (wk_sub9 (is := []) hP rfl) (hD.sub [] rfl rfl) hS dX12_divides_25 hF.symm
        · have k_3 : (x3_4 - x3_4 / 2 * 2).toInt = 0 := wk_eq c_3
          rw [if_pos c_3] at hF
          refine lv_iinc (v := (x2_4 + 1)) (lv' := [(2, .int (x2_4 + 1)), (3, .int x3_4), (0, .int 2), (1, .int a)]) hx hb dX12_divides_14 hl (k := 1) rfl rfl (by decide) rfl (fun ls hl => ?_)
          refine lv_iload_n hx hb dX12_divides_17 rfl (lv_at hl 1 rfl) ?_
          refine lv_iload_n hx hb dX12_divides_18 rfl (lv_at hl 2 rfl) ?_
          refine lv_idiv hx hb dX12_divides_19 (by decide) ?_
          have k_4 : (x3_4 / 2).toInt = x3_4.toInt / 2 := wk_div 2 rfl (by omega) (by decide)
          refine lv_istore_n (lv' := [(3, .int (x3_4 / 2)), (2, .int (x2_4 + 1)), (0, .int 2), (1, .int a)]) hx hb dX12_divides_20 rfl hl (by decide) rfl (fun ls hl => ?_)
          refine lv_goto (tgt := 4) hx hb dX12_divides_21 (by decide) ?_
          have k_5 := wk_rng (x2_4 + 1)
          have k_6 := wk_rng (x3_4 / 2)
          exact ih_4 (x2_4 + 1) (x3_4 / 2) _ _ _  (show ((((x3_4 / 2).toInt).toNat : Nat) : Int) < ((fu_4 : Nat) : Int) from by omega) hF hP hD hS (lv_sub hl [0, 1, 2, 3] rfl)
  have k_7 := wk_rng a
  exact hlp_4 2147483648 0 a _ _ _  (show (((a.toInt).toNat : Nat) : Int) < ((2147483648 : Nat) : Int) from by omega) hF hP hD hS (lv_sub hl [0, 1, 2, 3] rfl)
def lp_X12_divides_3_4 (a : Int32) : Nat → Int32 → Int32 → Int32 × Int32
  | 0, _, _ => default
  | fu_4 + 1, x2_4, x3_4 => (if x3_4 ≤ 0 then (x2_4, x3_4) else (if (x3_4 - x3_4 / 3 * 3) = 0 then (lp_X12_divides_3_4 a fu_4 (x2_4 + 1) (x3_4 / 3)) else (x2_4, x3_4)))
termination_by n => n
def fn_X12_divides_3 (a : Int32) : Int32 := (pm2 (lp_X12_divides_3_4 a 2147483648 0 a) (fun x2_4 x3_4 => x2_4))
set_option maxHeartbeats 4000000 in
set_option maxRecDepth 100000 in
theorem c_X12_divides_3 (l : Launch) (D : va_G) (cy : ClassId)  (a : Int32)  : wk_Ci l yX12_divides cX12_divides 4 (some .int) { frames := 0, cells := 0, slots := 0, locals := 0 } D cy [.int 3, .int a] [] 0 0 (fun (r : Int32) (u : Unit) => r = (fn_X12_divides_3 a)) (fun u => []) := by
  refine wk_mk2Ci (by decide) (Nat.le_of_ble_eq_true rfl) ?_
  intro p e s m args below meth c A ls Q B hA hK hP hD hS hl hret
  obtain ⟨hx, hb, hr, hlocks, hml, hown, htb, hin⟩ := B
  have hl : lv_has ls 4 [(0, .int 3), (1, .int a)] := hl
  have hF : (fn_X12_divides_3 a) = (fn_X12_divides_3 a) := rfl
  conv at hF => rhs; unfold fn_X12_divides_3
  refine lv_iconst (v := 0) hx hb dX12_divides_0 (by decide) ?_
  refine lv_istore_n (lv' := [(2, .int 0), (0, .int 3), (1, .int a)]) hx hb dX12_divides_1 rfl hl (by decide) rfl (fun ls hl => ?_)
  refine lv_iload_n hx hb dX12_divides_2 rfl (lv_at hl 2 rfl) ?_
  refine lv_istore_n (lv' := [(3, .int a), (2, .int 0), (0, .int 3), (1, .int a)]) hx hb dX12_divides_3 rfl hl (by decide) rfl (fun ls hl => ?_)
  have hlp_4 : ∀ (fu_4 : Nat) (x2_4 : Int32) (x3_4 : Int32) (H : Heap) (locs : List Loc) (ls : Array Slot), (((x3_4.toInt).toNat : Nat) : Int) < (fu_4 : Int) → ((fn_X12_divides_3 a) = (pm2 (lp_X12_divides_3_4 a fu_4 x2_4 x3_4) (fun x2_4 x3_4 => x2_4))) → va_P D classes [] H → va_D A [] → va_S A s.heap H locs → lv_has ls 4 [(3, .int x3_4), (2, .int x2_4), (0, .int 3), (1, .int a)] → W p l e { frames := 0, cells := 0, slots := 0, locals := 0 } s m args below meth c H locs 0 0 Q (F0 m 4 ls []) := by
    intro fu_4
    induction fu_4 with
    | zero =>
      intro x2_4 x3_4 H locs ls hm hF hP hD hS hl
      exfalso; omega
    | succ fu_4 ih_4 =>
      intro x2_4 x3_4 H locs ls hm hF hP hD hS hl
      rw [lp_X12_divides_3_4] at hF
      refine lv_iload_n hx hb dX12_divides_4 rfl (lv_at hl 0 rfl) ?_
      refine lv_if_le (tgt := 24) hx hb dX12_divides_5 (by decide) (fun c_1 => ?_) (fun c_1 => ?_)
      · have k_1 : x3_4.toInt ≤ 0 := wk_le c_1
        rw [if_pos c_1] at hF
        rw [pm2_mk x2_4 x3_4] at hF
        refine lv_iload_n hx hb dX12_divides_24 rfl (lv_at hl 1 rfl) ?_
        refine W.widen (k := 0) (n := 0) (by decide) (by decide) ?_
        exact hret x2_4 () _ _ _ 25 (wk_sub9 (is := []) hP rfl) (hD.sub [] rfl rfl) hS dX12_divides_25 hF.symm
      · have k_1 : ¬ x3_4.toInt ≤ 0 := wk_nle c_1
        rw [if_neg c_1] at hF
        refine lv_iload_n hx hb dX12_divides_8 rfl (lv_at hl 0 rfl) ?_
        refine lv_iload_n hx hb dX12_divides_9 rfl (lv_at hl 2 rfl) ?_
        refine lv_irem hx hb dX12_divides_10 (by decide) ?_
        have k_2 : (x3_4 - x3_4 / 3 * 3).toInt = x3_4.toInt % 3 := wk_rem 3 rfl (by omega) (by decide)
        refine lv_if_ne (tgt := 24) hx hb dX12_divides_11 (by decide) (fun c_3 => ?_) (fun c_3 => ?_)
        · have k_3 : ¬ (x3_4 - x3_4 / 3 * 3).toInt = 0 := wk_neq c_3
          rw [if_neg c_3] at hF
          rw [pm2_mk x2_4 x3_4] at hF
          refine lv_iload_n hx hb dX12_divides_24 rfl (lv_at hl 1 rfl) ?_
          refine W.widen (k := 0) (n := 0) (by decide) (by decide) ?_
          exact hret x2_4 () _ _ _ 25 (wk_sub9 (is := []) hP rfl) (hD.sub [] rfl rfl) hS dX12_divides_25 hF.symm
        · have k_3 : (x3_4 - x3_4 / 3 * 3).toInt = 0 := wk_eq c_3
          rw [if_pos c_3] at hF
          refine lv_iinc (v := (x2_4 + 1)) (lv' := [(2, .int (x2_4 + 1)), (3, .int x3_4), (0, .int 3), (1, .int a)]) hx hb dX12_divides_14 hl (k := 1) rfl rfl (by decide) rfl (fun ls hl => ?_)
          refine lv_iload_n hx hb dX12_divides_17 rfl (lv_at hl 1 rfl) ?_
          refine lv_iload_n hx hb dX12_divides_18 rfl (lv_at hl 2 rfl) ?_
          refine lv_idiv hx hb dX12_divides_19 (by decide) ?_
          have k_4 : (x3_4 / 3).toInt = x3_4.toInt / 3 := wk_div 3 rfl (by omega) (by decide)
          refine lv_istore_n (lv' := [(3, .int (x3_4 / 3)), (2, .int (x2_4 + 1)), (0, .int 3), (1, .int a)]) hx hb dX12_divides_20 rfl hl (by decide) rfl (fun ls hl => ?_)
          refine lv_goto (tgt := 4) hx hb dX12_divides_21 (by decide) ?_
          have k_5 := wk_rng (x2_4 + 1)
          have k_6 := wk_rng (x3_4 / 3)
          exact ih_4 (x2_4 + 1) (x3_4 / 3) _ _ _  (show ((((x3_4 / 3).toInt).toNat : Nat) : Int) < ((fu_4 : Nat) : Int) from by omega) hF hP hD hS (lv_sub hl [0, 1, 2, 3] rfl)
  have k_7 := wk_rng a
  exact hlp_4 2147483648 0 a _ _ _  (show (((a.toInt).toNat : Nat) : Int) < ((2147483648 : Nat) : Int) from by omega) hF hP hD hS (lv_sub hl [0, 1, 2, 3] rfl)
def fn_X12_heightBy (mo_law : Int32) (mkeys_a : Nat → Int32) (mheights_a : Nat → Int32) (a : Int32) : Int32 := (if mo_law = 1 then (fn_X12_topped (1 + (fn_X12_divides_2 ((mkeys_a a.toNatClampNeg) + 1)))) else (if mo_law = 2 then (1 + ((((mkeys_a a.toNatClampNeg) / 10) + ((mkeys_a a.toNatClampNeg) - (mkeys_a a.toNatClampNeg) / 10 * 10)) - (((mkeys_a a.toNatClampNeg) / 10) + ((mkeys_a a.toNatClampNeg) - (mkeys_a a.toNatClampNeg) / 10 * 10)) / 4 * 4)) else (if mo_law = 3 then (fn_X12_topped (1 + (fn_X12_divides_2 (a + 1)))) else (if mo_law = 4 then (fn_X12_topped (1 + (fn_X12_divides_3 ((mkeys_a a.toNatClampNeg) + 1)))) else (mheights_a a.toNatClampNeg)))))
theorem dX12_heightBy_0 : decode cX12_heightBy 0 = .ok (.aload_n 0, 1) := by decide +kernel
theorem dX12_heightBy_1 : decode cX12_heightBy 1 = .ok (.getfield 13, 3) := by decide +kernel
theorem dX12_heightBy_4 : decode cX12_heightBy 4 = .ok (.iload_n 1, 1) := by decide +kernel
theorem dX12_heightBy_5 : decode cX12_heightBy 5 = .ok (.iaload, 1) := by decide +kernel
theorem dX12_heightBy_6 : decode cX12_heightBy 6 = .ok (.istore_n 2, 1) := by decide +kernel
theorem dX12_heightBy_7 : decode cX12_heightBy 7 = .ok (.aload_n 0, 1) := by decide +kernel
theorem dX12_heightBy_8 : decode cX12_heightBy 8 = .ok (.getfield 118, 3) := by decide +kernel
theorem dX12_heightBy_11 : decode cX12_heightBy 11 = .ok (.tableswitch 82 1 4 #[29, 42, 56, 69], 29) := by decide +kernel
theorem dX12_heightBy_40 : decode cX12_heightBy 40 = .ok (.iconst 1, 1) := by decide +kernel
theorem dX12_heightBy_41 : decode cX12_heightBy 41 = .ok (.iconst 2, 1) := by decide +kernel
theorem dX12_heightBy_42 : decode cX12_heightBy 42 = .ok (.iload_n 2, 1) := by decide +kernel
theorem dX12_heightBy_43 : decode cX12_heightBy 43 = .ok (.iconst 1, 1) := by decide +kernel
theorem dX12_heightBy_44 : decode cX12_heightBy 44 = .ok (.iadd, 1) := by decide +kernel
theorem dX12_heightBy_45 : decode cX12_heightBy 45 = .ok (.invokestatic 145, 3) := by decide +kernel
theorem dX12_heightBy_48 : decode cX12_heightBy 48 = .ok (.iadd, 1) := by decide +kernel
theorem dX12_heightBy_49 : decode cX12_heightBy 49 = .ok (.invokestatic 149, 3) := by decide +kernel
theorem dX12_heightBy_52 : decode cX12_heightBy 52 = .ok (.ireturn, 1) := by decide +kernel
theorem dX12_heightBy_53 : decode cX12_heightBy 53 = .ok (.iconst 1, 1) := by decide +kernel
theorem dX12_heightBy_54 : decode cX12_heightBy 54 = .ok (.iload_n 2, 1) := by decide +kernel
theorem dX12_heightBy_55 : decode cX12_heightBy 55 = .ok (.bipush 10, 2) := by decide +kernel
theorem dX12_heightBy_57 : decode cX12_heightBy 57 = .ok (.idiv, 1) := by decide +kernel
theorem dX12_heightBy_58 : decode cX12_heightBy 58 = .ok (.iload_n 2, 1) := by decide +kernel
theorem dX12_heightBy_59 : decode cX12_heightBy 59 = .ok (.bipush 10, 2) := by decide +kernel
theorem dX12_heightBy_61 : decode cX12_heightBy 61 = .ok (.irem, 1) := by decide +kernel
theorem dX12_heightBy_62 : decode cX12_heightBy 62 = .ok (.iadd, 1) := by decide +kernel
theorem dX12_heightBy_63 : decode cX12_heightBy 63 = .ok (.iconst 4, 1) := by decide +kernel
theorem dX12_heightBy_64 : decode cX12_heightBy 64 = .ok (.irem, 1) := by decide +kernel
theorem dX12_heightBy_65 : decode cX12_heightBy 65 = .ok (.iadd, 1) := by decide +kernel
theorem dX12_heightBy_66 : decode cX12_heightBy 66 = .ok (.ireturn, 1) := by decide +kernel
theorem dX12_heightBy_67 : decode cX12_heightBy 67 = .ok (.iconst 1, 1) := by decide +kernel
theorem dX12_heightBy_68 : decode cX12_heightBy 68 = .ok (.iconst 2, 1) := by decide +kernel
theorem dX12_heightBy_69 : decode cX12_heightBy 69 = .ok (.iload_n 1, 1) := by decide +kernel
theorem dX12_heightBy_70 : decode cX12_heightBy 70 = .ok (.iconst 1, 1) := by decide +kernel
theorem dX12_heightBy_71 : decode cX12_heightBy 71 = .ok (.iadd, 1) := by decide +kernel
theorem dX12_heightBy_72 : decode cX12_heightBy 72 = .ok (.invokestatic 145, 3) := by decide +kernel
theorem dX12_heightBy_75 : decode cX12_heightBy 75 = .ok (.iadd, 1) := by decide +kernel
theorem dX12_heightBy_76 : decode cX12_heightBy 76 = .ok (.invokestatic 149, 3) := by decide +kernel
theorem dX12_heightBy_79 : decode cX12_heightBy 79 = .ok (.ireturn, 1) := by decide +kernel
theorem dX12_heightBy_80 : decode cX12_heightBy 80 = .ok (.iconst 1, 1) := by decide +kernel
theorem dX12_heightBy_81 : decode cX12_heightBy 81 = .ok (.iconst 3, 1) := by decide +kernel
theorem dX12_heightBy_82 : decode cX12_heightBy 82 = .ok (.iload_n 2, 1) := by decide +kernel
theorem dX12_heightBy_83 : decode cX12_heightBy 83 = .ok (.iconst 1, 1) := by decide +kernel
theorem dX12_heightBy_84 : decode cX12_heightBy 84 = .ok (.iadd, 1) := by decide +kernel
theorem dX12_heightBy_85 : decode cX12_heightBy 85 = .ok (.invokestatic 145, 3) := by decide +kernel
theorem dX12_heightBy_88 : decode cX12_heightBy 88 = .ok (.iadd, 1) := by decide +kernel
theorem dX12_heightBy_89 : decode cX12_heightBy 89 = .ok (.invokestatic 149, 3) := by decide +kernel
theorem dX12_heightBy_92 : decode cX12_heightBy 92 = .ok (.ireturn, 1) := by decide +kernel
theorem dX12_heightBy_93 : decode cX12_heightBy 93 = .ok (.aload_n 0, 1) := by decide +kernel
theorem dX12_heightBy_94 : decode cX12_heightBy 94 = .ok (.getfield 19, 3) := by decide +kernel
theorem dX12_heightBy_97 : decode cX12_heightBy 97 = .ok (.iload_n 1, 1) := by decide +kernel
theorem dX12_heightBy_98 : decode cX12_heightBy 98 = .ok (.iaload, 1) := by decide +kernel
theorem dX12_heightBy_99 : decode cX12_heightBy 99 = .ok (.ireturn, 1) := by decide +kernel
set_option maxHeartbeats 4000000 in
set_option maxRecDepth 100000 in
theorem c_X12_heightBy (l : Launch) (D : va_G) (cy : ClassId) (mo mpage mkeys mvalues mheights mheats msecondKeys msecondValues msecondHeights msecondHeats msaved mbestHeights msights mby mkeptKeys mkeptValues mkeptHeights mkeptHeats mkeptKeys2 mkeptValues2 mkeptHeights2 mkeptHeats2 mkeptSights : Nat) (mo_pageMany : Int32) (mo_law : Int32) (mo_many : Int32) (mo_asked : Int32) (mo_looksAll : Int32) (mo_changes : Int32) (mo_rowsRead : Int32) (mo_secondMany : Int32) (mo_foundAt : Int32) (mo_foundLooks : Int32) (mo_foundLane : Int32) (mo_bestsDone : Int32) (mo_seenMany : Int32) (mo_seedNow : Int32) (mo_keptRow : Int32) (mo_keptMany : Int32) (mo_keptSecond : Int32) (mo_keptAsked : Int32) (mo_keptLooks : Int32) (mo_keptChanges : Int32) (mo_keptSeen : Int32) (mo_hash : Int64) (mkeys_a : Nat → Int32) (mheights_a : Nat → Int32) (a : Int32) (g_0 : 0 ≤ mo_pageMany.toInt ∧ mo_pageMany.toInt ≤ 44) (g_1 : 0 ≤ mo_many.toInt ∧ mo_many.toInt ≤ 8) (g_2 : 0 ≤ mo_secondMany.toInt ∧ mo_secondMany.toInt ≤ 8) (g_3 : (-1) ≤ mo_foundAt.toInt ∧ mo_foundAt.toInt ≤ 7) (g_4 : 0 ≤ mo_seenMany.toInt ∧ mo_seenMany.toInt ≤ 6) (g_5 : 0 ≤ mo_keptMany.toInt ∧ mo_keptMany.toInt ≤ 8) (g_6 : 0 ≤ mo_keptSecond.toInt ∧ mo_keptSecond.toInt ≤ 8) (g_7 : 0 ≤ mo_keptSeen.toInt ∧ mo_keptSeen.toInt ≤ 6) (g_8 : 0 ≤ a.toInt ∧ a.toInt ≤ 7) : wk_Ci l yX12_heightBy cX12_heightBy 3 (some .int) { frames := 1, cells := 0, slots := 0, locals := 23 } D cy [.ref mo, .int a] [(mo, .inr (12, [.ref mpage, .int mo_pageMany, .int mo_law, .int mo_many, .int mo_asked, .int mo_looksAll, .int mo_changes, .int mo_rowsRead, .ref mkeys, .ref mvalues, .ref mheights, .ref mheats, .int mo_secondMany, .ref msecondKeys, .ref msecondValues, .ref msecondHeights, .ref msecondHeats, .int mo_foundAt, .int mo_foundLooks, .int mo_foundLane, .int mo_bestsDone, .ref msaved, .ref mbestHeights, .int mo_seenMany, .ref msights, .ref mby, .int mo_seedNow, .int mo_keptRow, .int mo_keptMany, .int mo_keptSecond, .int mo_keptAsked, .int mo_keptLooks, .int mo_keptChanges, .int mo_keptSeen, .ref mkeptKeys, .ref mkeptValues, .ref mkeptHeights, .ref mkeptHeats, .ref mkeptKeys2, .ref mkeptValues2, .ref mkeptHeights2, .ref mkeptHeats2, .ref mkeptSights, .long mo_hash])), (mkeys, .inl (cy, 8, .inl mkeys_a)), (mheights, .inl (cy, 8, .inl mheights_a))] 0 0 (fun (r : Int32) (u : Unit) => r = (fn_X12_heightBy mo_law mkeys_a mheights_a a)) (fun u => [(mo, .inr (12, [.ref mpage, .int mo_pageMany, .int mo_law, .int mo_many, .int mo_asked, .int mo_looksAll, .int mo_changes, .int mo_rowsRead, .ref mkeys, .ref mvalues, .ref mheights, .ref mheats, .int mo_secondMany, .ref msecondKeys, .ref msecondValues, .ref msecondHeights, .ref msecondHeats, .int mo_foundAt, .int mo_foundLooks, .int mo_foundLane, .int mo_bestsDone, .ref msaved, .ref mbestHeights, .int mo_seenMany, .ref msights, .ref mby, .int mo_seedNow, .int mo_keptRow, .int mo_keptMany, .int mo_keptSecond, .int mo_keptAsked, .int mo_keptLooks, .int mo_keptChanges, .int mo_keptSeen, .ref mkeptKeys, .ref mkeptValues, .ref mkeptHeights, .ref mkeptHeats, .ref mkeptKeys2, .ref mkeptValues2, .ref mkeptHeights2, .ref mkeptHeats2, .ref mkeptSights, .long mo_hash])), (mkeys, .inl (cy, 8, .inl mkeys_a)), (mheights, .inl (cy, 8, .inl mheights_a))]) := by
  refine wk_mk2Ci (by decide) (Nat.le_of_ble_eq_true rfl) ?_
  intro p e s m args below meth c A ls Q B hA hK hP hD hS hl hret
  obtain ⟨hx, hb, hr, hlocks, hml, hown, htb, hin⟩ := B
  have hl : lv_has ls 3 [(0, .ref mo), (1, .int a)] := hl
  have hF : (fn_X12_heightBy mo_law mkeys_a mheights_a a) = (fn_X12_heightBy mo_law mkeys_a mheights_a a) := rfl
  conv at hF => rhs; unfold fn_X12_heightBy
  refine lv_aload_n hx hb dX12_heightBy_0 rfl (lv_at hl 0 rfl) ?_
  refine va_get (D := D) (ci := 12) (v := .ref mkeys) (C := RX12) (T := TX12) (N := 44) hx hb htb inX12 hown hK hP 0 rfl rfl 8 (by decide) (htb _ tw_771) (fun _ h9 => h9) rfl dX12_heightBy_1 ?_
  refine lv_iload_n hx hb dX12_heightBy_4 rfl (lv_at hl 1 rfl) ?_
  refine va_iald hx hb hK hP 1 0 rfl rfl (show vp_in a 8 from vp_in_iff.mpr (show 0 ≤ a.toInt ∧ a.toInt < ((8 : Nat) : Int) from by omega)) dX12_heightBy_5 ?_
  refine lv_istore_n (lv' := [(2, .int (mkeys_a a.toNatClampNeg)), (0, .ref mo), (1, .int a)]) hx hb dX12_heightBy_6 rfl hl (by decide) rfl (fun ls hl => ?_)
  refine lv_aload_n hx hb dX12_heightBy_7 rfl (lv_at hl 1 rfl) ?_
  refine va_get (D := D) (ci := 12) (v := .int mo_law) (C := RX12) (T := TX12) (N := 44) hx hb htb inX12 hown hK hP 0 rfl rfl 2 (by decide) (htb _ tw_765) (fun _ h9 => h9) rfl dX12_heightBy_8 ?_
  by_cases c_1 : mo_law = 1
  · refine wk_toi c_1 ?_
    rw [if_pos c_1] at hF
    have k_1 : mo_law.toInt = 1 := wk_eq c_1
    refine lv_tableIn (off := 29) (tgt := 40) hx hb dX12_heightBy_11 (by decide) (by decide) (by decide) (by decide) ?_
    refine lv_iconst (v := 1) hx hb dX12_heightBy_40 (by decide) ?_
    refine lv_iconst (v := 2) hx hb dX12_heightBy_41 (by decide) ?_
    refine lv_iload_n hx hb dX12_heightBy_42 rfl (lv_at hl 0 rfl) ?_
    refine lv_iconst (v := 1) hx hb dX12_heightBy_43 (by decide) ?_
    refine lv_iadd hx hb dX12_heightBy_44 ?_
    refine wk_iS (As := [.int 2, .int ((mkeys_a a.toNatClampNeg) + 1)]) (rest := [.int 1]) (wc := []) (wr := [(mo, .inr (12, [.ref mpage, .int mo_pageMany, .int mo_law, .int mo_many, .int mo_asked, .int mo_looksAll, .int mo_changes, .int mo_rowsRead, .ref mkeys, .ref mvalues, .ref mheights, .ref mheats, .int mo_secondMany, .ref msecondKeys, .ref msecondValues, .ref msecondHeights, .ref msecondHeats, .int mo_foundAt, .int mo_foundLooks, .int mo_foundLane, .int mo_bestsDone, .ref msaved, .ref mbestHeights, .int mo_seenMany, .ref msights, .ref mby, .int mo_seedNow, .int mo_keptRow, .int mo_keptMany, .int mo_keptSecond, .int mo_keptAsked, .int mo_keptLooks, .int mo_keptChanges, .int mo_keptSeen, .ref mkeptKeys, .ref mkeptValues, .ref mkeptHeights, .ref mkeptHeats, .ref mkeptKeys2, .ref mkeptValues2, .ref mkeptHeights2, .ref mkeptHeats2, .ref mkeptSights, .long mo_hash])), (mkeys, .inl (cy, 8, .inl mkeys_a)), (mheights, .inl (cy, 8, .inl mheights_a))]) (n := 2) ⟨hx, hb, hml, hown, htb⟩ (c_X12_divides_2 l D cy   ((mkeys_a a.toNatClampNeg) + 1) ) tw_953 tw_951 tw_952 tw_71 rfl rfl (by decide +kernel) ⟨Nat.le_of_ble_eq_true rfl, Nat.le_of_ble_eq_true rfl⟩ hK hP hD hS hA [] [0, 1, 2] rfl rfl rfl rfl (by decide) rfl hl.1 rfl (Nat.le_of_ble_eq_true rfl) dX12_heightBy_45 ⟨Nat.le_of_ble_eq_true rfl, Nat.le_of_ble_eq_true rfl⟩ (fun r_2 u_3 H locs hw_4 hP hD hS => ?_)
    refine W.widen (k := 0) (n := 0) (by decide) (by decide) ?_
    have hw_4 : r_2 = (fn_X12_divides_2 ((mkeys_a a.toNatClampNeg) + 1)) := hw_4
    subst hw_4
    have hP : va_P D classes [(mo, .inr (12, [.ref mpage, .int mo_pageMany, .int mo_law, .int mo_many, .int mo_asked, .int mo_looksAll, .int mo_changes, .int mo_rowsRead, .ref mkeys, .ref mvalues, .ref mheights, .ref mheats, .int mo_secondMany, .ref msecondKeys, .ref msecondValues, .ref msecondHeights, .ref msecondHeats, .int mo_foundAt, .int mo_foundLooks, .int mo_foundLane, .int mo_bestsDone, .ref msaved, .ref mbestHeights, .int mo_seenMany, .ref msights, .ref mby, .int mo_seedNow, .int mo_keptRow, .int mo_keptMany, .int mo_keptSecond, .int mo_keptAsked, .int mo_keptLooks, .int mo_keptChanges, .int mo_keptSeen, .ref mkeptKeys, .ref mkeptValues, .ref mkeptHeights, .ref mkeptHeats, .ref mkeptKeys2, .ref mkeptValues2, .ref mkeptHeights2, .ref mkeptHeats2, .ref mkeptSights, .long mo_hash])), (mkeys, .inl (cy, 8, .inl mkeys_a)), (mheights, .inl (cy, 8, .inl mheights_a))] H := hP
    have hD : va_D A [(mo, .inr (12, [.ref mpage, .int mo_pageMany, .int mo_law, .int mo_many, .int mo_asked, .int mo_looksAll, .int mo_changes, .int mo_rowsRead, .ref mkeys, .ref mvalues, .ref mheights, .ref mheats, .int mo_secondMany, .ref msecondKeys, .ref msecondValues, .ref msecondHeights, .ref msecondHeats, .int mo_foundAt, .int mo_foundLooks, .int mo_foundLane, .int mo_bestsDone, .ref msaved, .ref mbestHeights, .int mo_seenMany, .ref msights, .ref mby, .int mo_seedNow, .int mo_keptRow, .int mo_keptMany, .int mo_keptSecond, .int mo_keptAsked, .int mo_keptLooks, .int mo_keptChanges, .int mo_keptSeen, .ref mkeptKeys, .ref mkeptValues, .ref mkeptHeights, .ref mkeptHeats, .ref mkeptKeys2, .ref mkeptValues2, .ref mkeptHeights2, .ref mkeptHeats2, .ref mkeptSights, .long mo_hash])), (mkeys, .inl (cy, 8, .inl mkeys_a)), (mheights, .inl (cy, 8, .inl mheights_a))] := hD
    refine lv_iadd hx hb dX12_heightBy_48 ?_
    refine wk_iS (As := [.int (1 + (fn_X12_divides_2 ((mkeys_a a.toNatClampNeg) + 1)))]) (rest := []) (wc := []) (wr := [(mo, .inr (12, [.ref mpage, .int mo_pageMany, .int mo_law, .int mo_many, .int mo_asked, .int mo_looksAll, .int mo_changes, .int mo_rowsRead, .ref mkeys, .ref mvalues, .ref mheights, .ref mheats, .int mo_secondMany, .ref msecondKeys, .ref msecondValues, .ref msecondHeights, .ref msecondHeats, .int mo_foundAt, .int mo_foundLooks, .int mo_foundLane, .int mo_bestsDone, .ref msaved, .ref mbestHeights, .int mo_seenMany, .ref msights, .ref mby, .int mo_seedNow, .int mo_keptRow, .int mo_keptMany, .int mo_keptSecond, .int mo_keptAsked, .int mo_keptLooks, .int mo_keptChanges, .int mo_keptSeen, .ref mkeptKeys, .ref mkeptValues, .ref mkeptHeights, .ref mkeptHeats, .ref mkeptKeys2, .ref mkeptValues2, .ref mkeptHeights2, .ref mkeptHeats2, .ref mkeptSights, .long mo_hash])), (mkeys, .inl (cy, 8, .inl mkeys_a)), (mheights, .inl (cy, 8, .inl mheights_a))]) (n := 1) ⟨hx, hb, hml, hown, htb⟩ (c_X12_topped l D cy   (1 + (fn_X12_divides_2 ((mkeys_a a.toNatClampNeg) + 1))) ) tw_956 tw_954 tw_955 tw_71 rfl rfl (by decide +kernel) ⟨Nat.le_of_ble_eq_true rfl, Nat.le_of_ble_eq_true rfl⟩ hK hP hD hS hA [] [0, 1, 2] rfl rfl rfl rfl (by decide) rfl hl.1 rfl (Nat.le_of_ble_eq_true rfl) dX12_heightBy_49 ⟨Nat.le_of_ble_eq_true rfl, Nat.le_of_ble_eq_true rfl⟩ (fun r_5 u_6 H locs hw_7 hP hD hS => ?_)
    refine W.widen (k := 0) (n := 0) (by decide) (by decide) ?_
    have hw_7 : r_5 = (fn_X12_topped (1 + (fn_X12_divides_2 ((mkeys_a a.toNatClampNeg) + 1)))) := hw_7
    subst hw_7
    have hP : va_P D classes [(mo, .inr (12, [.ref mpage, .int mo_pageMany, .int mo_law, .int mo_many, .int mo_asked, .int mo_looksAll, .int mo_changes, .int mo_rowsRead, .ref mkeys, .ref mvalues, .ref mheights, .ref mheats, .int mo_secondMany, .ref msecondKeys, .ref msecondValues, .ref msecondHeights, .ref msecondHeats, .int mo_foundAt, .int mo_foundLooks, .int mo_foundLane, .int mo_bestsDone, .ref msaved, .ref mbestHeights, .int mo_seenMany, .ref msights, .ref mby, .int mo_seedNow, .int mo_keptRow, .int mo_keptMany, .int mo_keptSecond, .int mo_keptAsked, .int mo_keptLooks, .int mo_keptChanges, .int mo_keptSeen, .ref mkeptKeys, .ref mkeptValues, .ref mkeptHeights, .ref mkeptHeats, .ref mkeptKeys2, .ref mkeptValues2, .ref mkeptHeights2, .ref mkeptHeats2, .ref mkeptSights, .long mo_hash])), (mkeys, .inl (cy, 8, .inl mkeys_a)), (mheights, .inl (cy, 8, .inl mheights_a))] H := hP
    have hD : va_D A [(mo, .inr (12, [.ref mpage, .int mo_pageMany, .int mo_law, .int mo_many, .int mo_asked, .int mo_looksAll, .int mo_changes, .int mo_rowsRead, .ref mkeys, .ref mvalues, .ref mheights, .ref mheats, .int mo_secondMany, .ref msecondKeys, .ref msecondValues, .ref msecondHeights, .ref msecondHeats, .int mo_foundAt, .int mo_foundLooks, .int mo_foundLane, .int mo_bestsDone, .ref msaved, .ref mbestHeights, .int mo_seenMany, .ref msights, .ref mby, .int mo_seedNow, .int mo_keptRow, .int mo_keptMany, .int mo_keptSecond, .int mo_keptAsked, .int mo_keptLooks, .int mo_keptChanges, .int mo_keptSeen, .ref mkeptKeys, .ref mkeptValues, .ref mkeptHeights, .ref mkeptHeats, .ref mkeptKeys2, .ref mkeptValues2, .ref mkeptHeights2, .ref mkeptHeats2, .ref mkeptSights, .long mo_hash])), (mkeys, .inl (cy, 8, .inl mkeys_a)), (mheights, .inl (cy, 8, .inl mheights_a))] := hD
    refine W.widen (k := 0) (n := 0) (by decide) (by decide) ?_
    exact hret (fn_X12_topped (1 + (fn_X12_divides_2 ((mkeys_a a.toNatClampNeg) + 1)))) () _ _ _ 52 (wk_sub9 (is := [0, 1, 2]) hP rfl) (hD.sub [0, 1, 2] rfl rfl) hS dX12_heightBy_52 hF.symm
  rw [if_neg c_1] at hF
  have k_1 : ¬ mo_law.toInt = 1 := wk_neq c_1
  by_cases c_8 : mo_law = 2
  · refine wk_toi c_8 ?_
    rw [if_pos c_8] at hF
    have k_8 : mo_law.toInt = 2 := wk_eq c_8
    refine lv_tableIn (off := 42) (tgt := 53) hx hb dX12_heightBy_11 (by decide) (by decide) (by decide) (by decide) ?_
    refine lv_iconst (v := 1) hx hb dX12_heightBy_53 (by decide) ?_
    refine lv_iload_n hx hb dX12_heightBy_54 rfl (lv_at hl 0 rfl) ?_
    refine lv_bipush (v := 10) hx hb dX12_heightBy_55 (by decide) ?_
    refine lv_idiv hx hb dX12_heightBy_57 (by decide) ?_
    refine lv_iload_n hx hb dX12_heightBy_58 rfl (lv_at hl 0 rfl) ?_
    refine lv_bipush (v := 10) hx hb dX12_heightBy_59 (by decide) ?_
    refine lv_irem hx hb dX12_heightBy_61 (by decide) ?_
    refine lv_iadd hx hb dX12_heightBy_62 ?_
    refine lv_iconst (v := 4) hx hb dX12_heightBy_63 (by decide) ?_
    refine lv_irem hx hb dX12_heightBy_64 (by decide) ?_
    refine lv_iadd hx hb dX12_heightBy_65 ?_
    refine W.widen (k := 0) (n := 0) (by decide) (by decide) ?_
    exact hret (1 + ((((mkeys_a a.toNatClampNeg) / 10) + ((mkeys_a a.toNatClampNeg) - (mkeys_a a.toNatClampNeg) / 10 * 10)) - (((mkeys_a a.toNatClampNeg) / 10) + ((mkeys_a a.toNatClampNeg) - (mkeys_a a.toNatClampNeg) / 10 * 10)) / 4 * 4)) () _ _ _ 66 (wk_sub9 (is := [0, 1, 2]) hP rfl) (hD.sub [0, 1, 2] rfl rfl) hS dX12_heightBy_66 hF.symm
  rw [if_neg c_8] at hF
  have k_8 : ¬ mo_law.toInt = 2 := wk_neq c_8
  by_cases c_9 : mo_law = 3
  · refine wk_toi c_9 ?_
    rw [if_pos c_9] at hF
    have k_9 : mo_law.toInt = 3 := wk_eq c_9
    refine lv_tableIn (off := 56) (tgt := 67) hx hb dX12_heightBy_11 (by decide) (by decide) (by decide) (by decide) ?_
    refine lv_iconst (v := 1) hx hb dX12_heightBy_67 (by decide) ?_
    refine lv_iconst (v := 2) hx hb dX12_heightBy_68 (by decide) ?_
    refine lv_iload_n hx hb dX12_heightBy_69 rfl (lv_at hl 2 rfl) ?_
    refine lv_iconst (v := 1) hx hb dX12_heightBy_70 (by decide) ?_
    refine lv_iadd hx hb dX12_heightBy_71 ?_
    have k_10 : (a + 1).toInt = a.toInt + 1 := wk_add a.toInt 1 rfl rfl (by omega) (by omega)
    refine wk_iS (As := [.int 2, .int (a + 1)]) (rest := [.int 1]) (wc := []) (wr := [(mo, .inr (12, [.ref mpage, .int mo_pageMany, .int mo_law, .int mo_many, .int mo_asked, .int mo_looksAll, .int mo_changes, .int mo_rowsRead, .ref mkeys, .ref mvalues, .ref mheights, .ref mheats, .int mo_secondMany, .ref msecondKeys, .ref msecondValues, .ref msecondHeights, .ref msecondHeats, .int mo_foundAt, .int mo_foundLooks, .int mo_foundLane, .int mo_bestsDone, .ref msaved, .ref mbestHeights, .int mo_seenMany, .ref msights, .ref mby, .int mo_seedNow, .int mo_keptRow, .int mo_keptMany, .int mo_keptSecond, .int mo_keptAsked, .int mo_keptLooks, .int mo_keptChanges, .int mo_keptSeen, .ref mkeptKeys, .ref mkeptValues, .ref mkeptHeights, .ref mkeptHeats, .ref mkeptKeys2, .ref mkeptValues2, .ref mkeptHeights2, .ref mkeptHeats2, .ref mkeptSights, .long mo_hash])), (mkeys, .inl (cy, 8, .inl mkeys_a)), (mheights, .inl (cy, 8, .inl mheights_a))]) (n := 2) ⟨hx, hb, hml, hown, htb⟩ (c_X12_divides_2 l D cy   (a + 1) ) tw_953 tw_951 tw_952 tw_71 rfl rfl (by decide +kernel) ⟨Nat.le_of_ble_eq_true rfl, Nat.le_of_ble_eq_true rfl⟩ hK hP hD hS hA [] [0, 1, 2] rfl rfl rfl rfl (by decide) rfl hl.1 rfl (Nat.le_of_ble_eq_true rfl) dX12_heightBy_72 ⟨Nat.le_of_ble_eq_true rfl, Nat.le_of_ble_eq_true rfl⟩ (fun r_11 u_12 H locs hw_13 hP hD hS => ?_)
    refine W.widen (k := 0) (n := 0) (by decide) (by decide) ?_
    have hw_13 : r_11 = (fn_X12_divides_2 (a + 1)) := hw_13
    subst hw_13
    have hP : va_P D classes [(mo, .inr (12, [.ref mpage, .int mo_pageMany, .int mo_law, .int mo_many, .int mo_asked, .int mo_looksAll, .int mo_changes, .int mo_rowsRead, .ref mkeys, .ref mvalues, .ref mheights, .ref mheats, .int mo_secondMany, .ref msecondKeys, .ref msecondValues, .ref msecondHeights, .ref msecondHeats, .int mo_foundAt, .int mo_foundLooks, .int mo_foundLane, .int mo_bestsDone, .ref msaved, .ref mbestHeights, .int mo_seenMany, .ref msights, .ref mby, .int mo_seedNow, .int mo_keptRow, .int mo_keptMany, .int mo_keptSecond, .int mo_keptAsked, .int mo_keptLooks, .int mo_keptChanges, .int mo_keptSeen, .ref mkeptKeys, .ref mkeptValues, .ref mkeptHeights, .ref mkeptHeats, .ref mkeptKeys2, .ref mkeptValues2, .ref mkeptHeights2, .ref mkeptHeats2, .ref mkeptSights, .long mo_hash])), (mkeys, .inl (cy, 8, .inl mkeys_a)), (mheights, .inl (cy, 8, .inl mheights_a))] H := hP
    have hD : va_D A [(mo, .inr (12, [.ref mpage, .int mo_pageMany, .int mo_law, .int mo_many, .int mo_asked, .int mo_looksAll, .int mo_changes, .int mo_rowsRead, .ref mkeys, .ref mvalues, .ref mheights, .ref mheats, .int mo_secondMany, .ref msecondKeys, .ref msecondValues, .ref msecondHeights, .ref msecondHeats, .int mo_foundAt, .int mo_foundLooks, .int mo_foundLane, .int mo_bestsDone, .ref msaved, .ref mbestHeights, .int mo_seenMany, .ref msights, .ref mby, .int mo_seedNow, .int mo_keptRow, .int mo_keptMany, .int mo_keptSecond, .int mo_keptAsked, .int mo_keptLooks, .int mo_keptChanges, .int mo_keptSeen, .ref mkeptKeys, .ref mkeptValues, .ref mkeptHeights, .ref mkeptHeats, .ref mkeptKeys2, .ref mkeptValues2, .ref mkeptHeights2, .ref mkeptHeats2, .ref mkeptSights, .long mo_hash])), (mkeys, .inl (cy, 8, .inl mkeys_a)), (mheights, .inl (cy, 8, .inl mheights_a))] := hD
    refine lv_iadd hx hb dX12_heightBy_75 ?_
    refine wk_iS (As := [.int (1 + (fn_X12_divides_2 (a + 1)))]) (rest := []) (wc := []) (wr := [(mo, .inr (12, [.ref mpage, .int mo_pageMany, .int mo_law, .int mo_many, .int mo_asked, .int mo_looksAll, .int mo_changes, .int mo_rowsRead, .ref mkeys, .ref mvalues, .ref mheights, .ref mheats, .int mo_secondMany, .ref msecondKeys, .ref msecondValues, .ref msecondHeights, .ref msecondHeats, .int mo_foundAt, .int mo_foundLooks, .int mo_foundLane, .int mo_bestsDone, .ref msaved, .ref mbestHeights, .int mo_seenMany, .ref msights, .ref mby, .int mo_seedNow, .int mo_keptRow, .int mo_keptMany, .int mo_keptSecond, .int mo_keptAsked, .int mo_keptLooks, .int mo_keptChanges, .int mo_keptSeen, .ref mkeptKeys, .ref mkeptValues, .ref mkeptHeights, .ref mkeptHeats, .ref mkeptKeys2, .ref mkeptValues2, .ref mkeptHeights2, .ref mkeptHeats2, .ref mkeptSights, .long mo_hash])), (mkeys, .inl (cy, 8, .inl mkeys_a)), (mheights, .inl (cy, 8, .inl mheights_a))]) (n := 1) ⟨hx, hb, hml, hown, htb⟩ (c_X12_topped l D cy   (1 + (fn_X12_divides_2 (a + 1))) ) tw_956 tw_954 tw_955 tw_71 rfl rfl (by decide +kernel) ⟨Nat.le_of_ble_eq_true rfl, Nat.le_of_ble_eq_true rfl⟩ hK hP hD hS hA [] [0, 1, 2] rfl rfl rfl rfl (by decide) rfl hl.1 rfl (Nat.le_of_ble_eq_true rfl) dX12_heightBy_76 ⟨Nat.le_of_ble_eq_true rfl, Nat.le_of_ble_eq_true rfl⟩ (fun r_14 u_15 H locs hw_16 hP hD hS => ?_)
    refine W.widen (k := 0) (n := 0) (by decide) (by decide) ?_
    have hw_16 : r_14 = (fn_X12_topped (1 + (fn_X12_divides_2 (a + 1)))) := hw_16
    subst hw_16
    have hP : va_P D classes [(mo, .inr (12, [.ref mpage, .int mo_pageMany, .int mo_law, .int mo_many, .int mo_asked, .int mo_looksAll, .int mo_changes, .int mo_rowsRead, .ref mkeys, .ref mvalues, .ref mheights, .ref mheats, .int mo_secondMany, .ref msecondKeys, .ref msecondValues, .ref msecondHeights, .ref msecondHeats, .int mo_foundAt, .int mo_foundLooks, .int mo_foundLane, .int mo_bestsDone, .ref msaved, .ref mbestHeights, .int mo_seenMany, .ref msights, .ref mby, .int mo_seedNow, .int mo_keptRow, .int mo_keptMany, .int mo_keptSecond, .int mo_keptAsked, .int mo_keptLooks, .int mo_keptChanges, .int mo_keptSeen, .ref mkeptKeys, .ref mkeptValues, .ref mkeptHeights, .ref mkeptHeats, .ref mkeptKeys2, .ref mkeptValues2, .ref mkeptHeights2, .ref mkeptHeats2, .ref mkeptSights, .long mo_hash])), (mkeys, .inl (cy, 8, .inl mkeys_a)), (mheights, .inl (cy, 8, .inl mheights_a))] H := hP
    have hD : va_D A [(mo, .inr (12, [.ref mpage, .int mo_pageMany, .int mo_law, .int mo_many, .int mo_asked, .int mo_looksAll, .int mo_changes, .int mo_rowsRead, .ref mkeys, .ref mvalues, .ref mheights, .ref mheats, .int mo_secondMany, .ref msecondKeys, .ref msecondValues, .ref msecondHeights, .ref msecondHeats, .int mo_foundAt, .int mo_foundLooks, .int mo_foundLane, .int mo_bestsDone, .ref msaved, .ref mbestHeights, .int mo_seenMany, .ref msights, .ref mby, .int mo_seedNow, .int mo_keptRow, .int mo_keptMany, .int mo_keptSecond, .int mo_keptAsked, .int mo_keptLooks, .int mo_keptChanges, .int mo_keptSeen, .ref mkeptKeys, .ref mkeptValues, .ref mkeptHeights, .ref mkeptHeats, .ref mkeptKeys2, .ref mkeptValues2, .ref mkeptHeights2, .ref mkeptHeats2, .ref mkeptSights, .long mo_hash])), (mkeys, .inl (cy, 8, .inl mkeys_a)), (mheights, .inl (cy, 8, .inl mheights_a))] := hD
    refine W.widen (k := 0) (n := 0) (by decide) (by decide) ?_
    exact hret (fn_X12_topped (1 + (fn_X12_divides_2 (a + 1)))) () _ _ _ 79 (wk_sub9 (is := [0, 1, 2]) hP rfl) (hD.sub [0, 1, 2] rfl rfl) hS dX12_heightBy_79 hF.symm
  rw [if_neg c_9] at hF
  have k_9 : ¬ mo_law.toInt = 3 := wk_neq c_9
  by_cases c_17 : mo_law = 4
  · refine wk_toi c_17 ?_
    rw [if_pos c_17] at hF
    have k_17 : mo_law.toInt = 4 := wk_eq c_17
    refine lv_tableIn (off := 69) (tgt := 80) hx hb dX12_heightBy_11 (by decide) (by decide) (by decide) (by decide) ?_
    refine lv_iconst (v := 1) hx hb dX12_heightBy_80 (by decide) ?_
    refine lv_iconst (v := 3) hx hb dX12_heightBy_81 (by decide) ?_
    refine lv_iload_n hx hb dX12_heightBy_82 rfl (lv_at hl 0 rfl) ?_
    refine lv_iconst (v := 1) hx hb dX12_heightBy_83 (by decide) ?_
    refine lv_iadd hx hb dX12_heightBy_84 ?_
    refine wk_iS (As := [.int 3, .int ((mkeys_a a.toNatClampNeg) + 1)]) (rest := [.int 1]) (wc := []) (wr := [(mo, .inr (12, [.ref mpage, .int mo_pageMany, .int mo_law, .int mo_many, .int mo_asked, .int mo_looksAll, .int mo_changes, .int mo_rowsRead, .ref mkeys, .ref mvalues, .ref mheights, .ref mheats, .int mo_secondMany, .ref msecondKeys, .ref msecondValues, .ref msecondHeights, .ref msecondHeats, .int mo_foundAt, .int mo_foundLooks, .int mo_foundLane, .int mo_bestsDone, .ref msaved, .ref mbestHeights, .int mo_seenMany, .ref msights, .ref mby, .int mo_seedNow, .int mo_keptRow, .int mo_keptMany, .int mo_keptSecond, .int mo_keptAsked, .int mo_keptLooks, .int mo_keptChanges, .int mo_keptSeen, .ref mkeptKeys, .ref mkeptValues, .ref mkeptHeights, .ref mkeptHeats, .ref mkeptKeys2, .ref mkeptValues2, .ref mkeptHeights2, .ref mkeptHeats2, .ref mkeptSights, .long mo_hash])), (mkeys, .inl (cy, 8, .inl mkeys_a)), (mheights, .inl (cy, 8, .inl mheights_a))]) (n := 2) ⟨hx, hb, hml, hown, htb⟩ (c_X12_divides_3 l D cy   ((mkeys_a a.toNatClampNeg) + 1) ) tw_953 tw_951 tw_952 tw_71 rfl rfl (by decide +kernel) ⟨Nat.le_of_ble_eq_true rfl, Nat.le_of_ble_eq_true rfl⟩ hK hP hD hS hA [] [0, 1, 2] rfl rfl rfl rfl (by decide) rfl hl.1 rfl (Nat.le_of_ble_eq_true rfl) dX12_heightBy_85 ⟨Nat.le_of_ble_eq_true rfl, Nat.le_of_ble_eq_true rfl⟩ (fun r_18 u_19 H locs hw_20 hP hD hS => ?_)
    refine W.widen (k := 0) (n := 0) (by decide) (by decide) ?_
    have hw_20 : r_18 = (fn_X12_divides_3 ((mkeys_a a.toNatClampNeg) + 1)) := hw_20
    subst hw_20
    have hP : va_P D classes [(mo, .inr (12, [.ref mpage, .int mo_pageMany, .int mo_law, .int mo_many, .int mo_asked, .int mo_looksAll, .int mo_changes, .int mo_rowsRead, .ref mkeys, .ref mvalues, .ref mheights, .ref mheats, .int mo_secondMany, .ref msecondKeys, .ref msecondValues, .ref msecondHeights, .ref msecondHeats, .int mo_foundAt, .int mo_foundLooks, .int mo_foundLane, .int mo_bestsDone, .ref msaved, .ref mbestHeights, .int mo_seenMany, .ref msights, .ref mby, .int mo_seedNow, .int mo_keptRow, .int mo_keptMany, .int mo_keptSecond, .int mo_keptAsked, .int mo_keptLooks, .int mo_keptChanges, .int mo_keptSeen, .ref mkeptKeys, .ref mkeptValues, .ref mkeptHeights, .ref mkeptHeats, .ref mkeptKeys2, .ref mkeptValues2, .ref mkeptHeights2, .ref mkeptHeats2, .ref mkeptSights, .long mo_hash])), (mkeys, .inl (cy, 8, .inl mkeys_a)), (mheights, .inl (cy, 8, .inl mheights_a))] H := hP
    have hD : va_D A [(mo, .inr (12, [.ref mpage, .int mo_pageMany, .int mo_law, .int mo_many, .int mo_asked, .int mo_looksAll, .int mo_changes, .int mo_rowsRead, .ref mkeys, .ref mvalues, .ref mheights, .ref mheats, .int mo_secondMany, .ref msecondKeys, .ref msecondValues, .ref msecondHeights, .ref msecondHeats, .int mo_foundAt, .int mo_foundLooks, .int mo_foundLane, .int mo_bestsDone, .ref msaved, .ref mbestHeights, .int mo_seenMany, .ref msights, .ref mby, .int mo_seedNow, .int mo_keptRow, .int mo_keptMany, .int mo_keptSecond, .int mo_keptAsked, .int mo_keptLooks, .int mo_keptChanges, .int mo_keptSeen, .ref mkeptKeys, .ref mkeptValues, .ref mkeptHeights, .ref mkeptHeats, .ref mkeptKeys2, .ref mkeptValues2, .ref mkeptHeights2, .ref mkeptHeats2, .ref mkeptSights, .long mo_hash])), (mkeys, .inl (cy, 8, .inl mkeys_a)), (mheights, .inl (cy, 8, .inl mheights_a))] := hD
    refine lv_iadd hx hb dX12_heightBy_88 ?_
    refine wk_iS (As := [.int (1 + (fn_X12_divides_3 ((mkeys_a a.toNatClampNeg) + 1)))]) (rest := []) (wc := []) (wr := [(mo, .inr (12, [.ref mpage, .int mo_pageMany, .int mo_law, .int mo_many, .int mo_asked, .int mo_looksAll, .int mo_changes, .int mo_rowsRead, .ref mkeys, .ref mvalues, .ref mheights, .ref mheats, .int mo_secondMany, .ref msecondKeys, .ref msecondValues, .ref msecondHeights, .ref msecondHeats, .int mo_foundAt, .int mo_foundLooks, .int mo_foundLane, .int mo_bestsDone, .ref msaved, .ref mbestHeights, .int mo_seenMany, .ref msights, .ref mby, .int mo_seedNow, .int mo_keptRow, .int mo_keptMany, .int mo_keptSecond, .int mo_keptAsked, .int mo_keptLooks, .int mo_keptChanges, .int mo_keptSeen, .ref mkeptKeys, .ref mkeptValues, .ref mkeptHeights, .ref mkeptHeats, .ref mkeptKeys2, .ref mkeptValues2, .ref mkeptHeights2, .ref mkeptHeats2, .ref mkeptSights, .long mo_hash])), (mkeys, .inl (cy, 8, .inl mkeys_a)), (mheights, .inl (cy, 8, .inl mheights_a))]) (n := 1) ⟨hx, hb, hml, hown, htb⟩ (c_X12_topped l D cy   (1 + (fn_X12_divides_3 ((mkeys_a a.toNatClampNeg) + 1))) ) tw_956 tw_954 tw_955 tw_71 rfl rfl (by decide +kernel) ⟨Nat.le_of_ble_eq_true rfl, Nat.le_of_ble_eq_true rfl⟩ hK hP hD hS hA [] [0, 1, 2] rfl rfl rfl rfl (by decide) rfl hl.1 rfl (Nat.le_of_ble_eq_true rfl) dX12_heightBy_89 ⟨Nat.le_of_ble_eq_true rfl, Nat.le_of_ble_eq_true rfl⟩ (fun r_21 u_22 H locs hw_23 hP hD hS => ?_)
    refine W.widen (k := 0) (n := 0) (by decide) (by decide) ?_
    have hw_23 : r_21 = (fn_X12_topped (1 + (fn_X12_divides_3 ((mkeys_a a.toNatClampNeg) + 1)))) := hw_23
    subst hw_23
    have hP : va_P D classes [(mo, .inr (12, [.ref mpage, .int mo_pageMany, .int mo_law, .int mo_many, .int mo_asked, .int mo_looksAll, .int mo_changes, .int mo_rowsRead, .ref mkeys, .ref mvalues, .ref mheights, .ref mheats, .int mo_secondMany, .ref msecondKeys, .ref msecondValues, .ref msecondHeights, .ref msecondHeats, .int mo_foundAt, .int mo_foundLooks, .int mo_foundLane, .int mo_bestsDone, .ref msaved, .ref mbestHeights, .int mo_seenMany, .ref msights, .ref mby, .int mo_seedNow, .int mo_keptRow, .int mo_keptMany, .int mo_keptSecond, .int mo_keptAsked, .int mo_keptLooks, .int mo_keptChanges, .int mo_keptSeen, .ref mkeptKeys, .ref mkeptValues, .ref mkeptHeights, .ref mkeptHeats, .ref mkeptKeys2, .ref mkeptValues2, .ref mkeptHeights2, .ref mkeptHeats2, .ref mkeptSights, .long mo_hash])), (mkeys, .inl (cy, 8, .inl mkeys_a)), (mheights, .inl (cy, 8, .inl mheights_a))] H := hP
    have hD : va_D A [(mo, .inr (12, [.ref mpage, .int mo_pageMany, .int mo_law, .int mo_many, .int mo_asked, .int mo_looksAll, .int mo_changes, .int mo_rowsRead, .ref mkeys, .ref mvalues, .ref mheights, .ref mheats, .int mo_secondMany, .ref msecondKeys, .ref msecondValues, .ref msecondHeights, .ref msecondHeats, .int mo_foundAt, .int mo_foundLooks, .int mo_foundLane, .int mo_bestsDone, .ref msaved, .ref mbestHeights, .int mo_seenMany, .ref msights, .ref mby, .int mo_seedNow, .int mo_keptRow, .int mo_keptMany, .int mo_keptSecond, .int mo_keptAsked, .int mo_keptLooks, .int mo_keptChanges, .int mo_keptSeen, .ref mkeptKeys, .ref mkeptValues, .ref mkeptHeights, .ref mkeptHeats, .ref mkeptKeys2, .ref mkeptValues2, .ref mkeptHeights2, .ref mkeptHeats2, .ref mkeptSights, .long mo_hash])), (mkeys, .inl (cy, 8, .inl mkeys_a)), (mheights, .inl (cy, 8, .inl mheights_a))] := hD
    refine W.widen (k := 0) (n := 0) (by decide) (by decide) ?_
    exact hret (fn_X12_topped (1 + (fn_X12_divides_3 ((mkeys_a a.toNatClampNeg) + 1)))) () _ _ _ 92 (wk_sub9 (is := [0, 1, 2]) hP rfl) (hD.sub [0, 1, 2] rfl rfl) hS dX12_heightBy_92 hF.symm
  rw [if_neg c_17] at hF
  have k_17 : ¬ mo_law.toInt = 4 := wk_neq c_17
  refine lv_tableOut (tgt := 93) hx hb dX12_heightBy_11 (show mo_law.toInt < 1 ∨ 4 < mo_law.toInt from by omega) (by decide) ?_
  refine lv_aload_n hx hb dX12_heightBy_93 rfl (lv_at hl 1 rfl) ?_
  refine va_get (D := D) (ci := 12) (v := .ref mheights) (C := RX12) (T := TX12) (N := 44) hx hb htb inX12 hown hK hP 0 rfl rfl 10 (by decide) (htb _ tw_773) (fun _ h9 => h9) rfl dX12_heightBy_94 ?_
  refine lv_iload_n hx hb dX12_heightBy_97 rfl (lv_at hl 2 rfl) ?_
  refine va_iald hx hb hK hP 2 0 rfl rfl (show vp_in a 8 from vp_in_iff.mpr (show 0 ≤ a.toInt ∧ a.toInt < ((8 : Nat) : Int) from by omega)) dX12_heightBy_98 ?_
  refine W.widen (k := 0) (n := 0) (by decide) (by decide) ?_
  exact hret (mheights_a a.toNatClampNeg) () _ _ _ 99 (wk_sub9 (is := [0, 1, 2]) hP rfl) (hD.sub [0, 1, 2] rfl rfl) hS dX12_heightBy_99 hF.symm
def lp_X12_layHeights_2 (mo_law : Int32) (mo_many : Int32) (mkeys_a : Nat → Int32) (mheights_a : Nat → Int32) : Nat → Int32 → (Nat → Int32) → Int32 × (Nat → Int32)
  | 0, _, _ => default
  | fu_2 + 1, x1_2, mheights_a_2 => (if mo_many ≤ x1_2 then (x1_2, mheights_a_2) else (lp_X12_layHeights_2 mo_law mo_many mkeys_a mheights_a fu_2 (x1_2 + 1) (upd mheights_a_2 x1_2.toNatClampNeg (fn_X12_heightBy mo_law mkeys_a mheights_a_2 x1_2))))
termination_by n => n
def fn_X12_layHeights (mo_law : Int32) (mo_many : Int32) (mkeys_a : Nat → Int32) (mheights_a : Nat → Int32) : (Nat → Int32) := (pm2 (lp_X12_layHeights_2 mo_law mo_many mkeys_a mheights_a 10 0 mheights_a) (fun x1_2 mheights_a_2 => mheights_a_2))
theorem dX12_layHeights_0 : decode cX12_layHeights 0 = .ok (.iconst 0, 1) := by decide +kernel
theorem dX12_layHeights_1 : decode cX12_layHeights 1 = .ok (.istore_n 1, 1) := by decide +kernel
theorem dX12_layHeights_2 : decode cX12_layHeights 2 = .ok (.iload_n 1, 1) := by decide +kernel
theorem dX12_layHeights_3 : decode cX12_layHeights 3 = .ok (.aload_n 0, 1) := by decide +kernel
theorem dX12_layHeights_4 : decode cX12_layHeights 4 = .ok (.getfield 121, 3) := by decide +kernel
theorem dX12_layHeights_7 : decode cX12_layHeights 7 = .ok (.if_icmp .ge 20, 3) := by decide +kernel
theorem dX12_layHeights_10 : decode cX12_layHeights 10 = .ok (.aload_n 0, 1) := by decide +kernel
theorem dX12_layHeights_11 : decode cX12_layHeights 11 = .ok (.getfield 19, 3) := by decide +kernel
theorem dX12_layHeights_14 : decode cX12_layHeights 14 = .ok (.iload_n 1, 1) := by decide +kernel
theorem dX12_layHeights_15 : decode cX12_layHeights 15 = .ok (.aload_n 0, 1) := by decide +kernel
theorem dX12_layHeights_16 : decode cX12_layHeights 16 = .ok (.iload_n 1, 1) := by decide +kernel
theorem dX12_layHeights_17 : decode cX12_layHeights 17 = .ok (.invokevirtual 152, 3) := by decide +kernel
theorem dX12_layHeights_20 : decode cX12_layHeights 20 = .ok (.iastore, 1) := by decide +kernel
theorem dX12_layHeights_21 : decode cX12_layHeights 21 = .ok (.iinc 1 1, 3) := by decide +kernel
theorem dX12_layHeights_24 : decode cX12_layHeights 24 = .ok (.goto (-22), 3) := by decide +kernel
theorem dX12_layHeights_27 : decode cX12_layHeights 27 = .ok (.return_, 1) := by decide +kernel
set_option maxHeartbeats 4000000 in
set_option maxRecDepth 100000 in
theorem c_X12_layHeights (l : Launch) (D : va_G) (cy : ClassId) (mo mpage mkeys mvalues mheights mheats msecondKeys msecondValues msecondHeights msecondHeats msaved mbestHeights msights mby mkeptKeys mkeptValues mkeptHeights mkeptHeats mkeptKeys2 mkeptValues2 mkeptHeights2 mkeptHeats2 mkeptSights : Nat) (mo_pageMany : Int32) (mo_law : Int32) (mo_many : Int32) (mo_asked : Int32) (mo_looksAll : Int32) (mo_changes : Int32) (mo_rowsRead : Int32) (mo_secondMany : Int32) (mo_foundAt : Int32) (mo_foundLooks : Int32) (mo_foundLane : Int32) (mo_bestsDone : Int32) (mo_seenMany : Int32) (mo_seedNow : Int32) (mo_keptRow : Int32) (mo_keptMany : Int32) (mo_keptSecond : Int32) (mo_keptAsked : Int32) (mo_keptLooks : Int32) (mo_keptChanges : Int32) (mo_keptSeen : Int32) (mo_hash : Int64) (mkeys_a : Nat → Int32) (mheights_a : Nat → Int32)  (g_0 : 0 ≤ mo_pageMany.toInt ∧ mo_pageMany.toInt ≤ 44) (g_1 : 0 ≤ mo_many.toInt ∧ mo_many.toInt ≤ 8) (g_2 : 0 ≤ mo_secondMany.toInt ∧ mo_secondMany.toInt ≤ 8) (g_3 : (-1) ≤ mo_foundAt.toInt ∧ mo_foundAt.toInt ≤ 7) (g_4 : 0 ≤ mo_seenMany.toInt ∧ mo_seenMany.toInt ≤ 6) (g_5 : 0 ≤ mo_keptMany.toInt ∧ mo_keptMany.toInt ≤ 8) (g_6 : 0 ≤ mo_keptSecond.toInt ∧ mo_keptSecond.toInt ≤ 8) (g_7 : 0 ≤ mo_keptSeen.toInt ∧ mo_keptSeen.toInt ≤ 6) : wk_Cv l yX12_layHeights cX12_layHeights 2 none { frames := 2, cells := 0, slots := 0, locals := 45 } D cy [.ref mo] [(mo, .inr (12, [.ref mpage, .int mo_pageMany, .int mo_law, .int mo_many, .int mo_asked, .int mo_looksAll, .int mo_changes, .int mo_rowsRead, .ref mkeys, .ref mvalues, .ref mheights, .ref mheats, .int mo_secondMany, .ref msecondKeys, .ref msecondValues, .ref msecondHeights, .ref msecondHeats, .int mo_foundAt, .int mo_foundLooks, .int mo_foundLane, .int mo_bestsDone, .ref msaved, .ref mbestHeights, .int mo_seenMany, .ref msights, .ref mby, .int mo_seedNow, .int mo_keptRow, .int mo_keptMany, .int mo_keptSecond, .int mo_keptAsked, .int mo_keptLooks, .int mo_keptChanges, .int mo_keptSeen, .ref mkeptKeys, .ref mkeptValues, .ref mkeptHeights, .ref mkeptHeats, .ref mkeptKeys2, .ref mkeptValues2, .ref mkeptHeights2, .ref mkeptHeats2, .ref mkeptSights, .long mo_hash])), (mkeys, .inl (cy, 8, .inl mkeys_a)), (mheights, .inl (cy, 8, .inl mheights_a))] 0 0 (fun (u : (Nat → Int32)) => u = (fn_X12_layHeights mo_law mo_many mkeys_a mheights_a)) (fun u => [(mo, .inr (12, [.ref mpage, .int mo_pageMany, .int mo_law, .int mo_many, .int mo_asked, .int mo_looksAll, .int mo_changes, .int mo_rowsRead, .ref mkeys, .ref mvalues, .ref mheights, .ref mheats, .int mo_secondMany, .ref msecondKeys, .ref msecondValues, .ref msecondHeights, .ref msecondHeats, .int mo_foundAt, .int mo_foundLooks, .int mo_foundLane, .int mo_bestsDone, .ref msaved, .ref mbestHeights, .int mo_seenMany, .ref msights, .ref mby, .int mo_seedNow, .int mo_keptRow, .int mo_keptMany, .int mo_keptSecond, .int mo_keptAsked, .int mo_keptLooks, .int mo_keptChanges, .int mo_keptSeen, .ref mkeptKeys, .ref mkeptValues, .ref mkeptHeights, .ref mkeptHeats, .ref mkeptKeys2, .ref mkeptValues2, .ref mkeptHeights2, .ref mkeptHeats2, .ref mkeptSights, .long mo_hash])), (mkeys, .inl (cy, 8, .inl mkeys_a)), (mheights, .inl (cy, 8, .inl u))]) := by
  refine wk_mk2Cv (by decide) (Nat.le_of_ble_eq_true rfl) ?_
  intro p e s m args below meth c A ls Q B hA hK hP hD hS hl hret
  obtain ⟨hx, hb, hr, hlocks, hml, hown, htb, hin⟩ := B
  have hl : lv_has ls 2 [(0, .ref mo)] := hl
  have hF : (fn_X12_layHeights mo_law mo_many mkeys_a mheights_a) = (fn_X12_layHeights mo_law mo_many mkeys_a mheights_a) := rfl
  conv at hF => rhs; unfold fn_X12_layHeights
  refine lv_iconst (v := 0) hx hb dX12_layHeights_0 (by decide) ?_
  refine lv_istore_n (lv' := [(1, .int 0), (0, .ref mo)]) hx hb dX12_layHeights_1 rfl hl (by decide) rfl (fun ls hl => ?_)
  have hlp_2 : ∀ (fu_2 : Nat) (x1_2 : Int32) (mheights_a_2 : Nat → Int32) (H : Heap) (locs : List Loc) (ls : Array Slot), (0 ≤ x1_2.toInt ∧ x1_2.toInt ≤ 8) → 8 - x1_2.toInt < (fu_2 : Int) → ((fn_X12_layHeights mo_law mo_many mkeys_a mheights_a) = (pm2 (lp_X12_layHeights_2 mo_law mo_many mkeys_a mheights_a fu_2 x1_2 mheights_a_2) (fun x1_2 mheights_a_2 => mheights_a_2))) → va_P D classes [(mo, .inr (12, [.ref mpage, .int mo_pageMany, .int mo_law, .int mo_many, .int mo_asked, .int mo_looksAll, .int mo_changes, .int mo_rowsRead, .ref mkeys, .ref mvalues, .ref mheights, .ref mheats, .int mo_secondMany, .ref msecondKeys, .ref msecondValues, .ref msecondHeights, .ref msecondHeats, .int mo_foundAt, .int mo_foundLooks, .int mo_foundLane, .int mo_bestsDone, .ref msaved, .ref mbestHeights, .int mo_seenMany, .ref msights, .ref mby, .int mo_seedNow, .int mo_keptRow, .int mo_keptMany, .int mo_keptSecond, .int mo_keptAsked, .int mo_keptLooks, .int mo_keptChanges, .int mo_keptSeen, .ref mkeptKeys, .ref mkeptValues, .ref mkeptHeights, .ref mkeptHeats, .ref mkeptKeys2, .ref mkeptValues2, .ref mkeptHeights2, .ref mkeptHeats2, .ref mkeptSights, .long mo_hash])), (mkeys, .inl (cy, 8, .inl mkeys_a)), (mheights, .inl (cy, 8, .inl mheights_a_2))] H → va_D A [(mo, .inr (12, [.ref mpage, .int mo_pageMany, .int mo_law, .int mo_many, .int mo_asked, .int mo_looksAll, .int mo_changes, .int mo_rowsRead, .ref mkeys, .ref mvalues, .ref mheights, .ref mheats, .int mo_secondMany, .ref msecondKeys, .ref msecondValues, .ref msecondHeights, .ref msecondHeats, .int mo_foundAt, .int mo_foundLooks, .int mo_foundLane, .int mo_bestsDone, .ref msaved, .ref mbestHeights, .int mo_seenMany, .ref msights, .ref mby, .int mo_seedNow, .int mo_keptRow, .int mo_keptMany, .int mo_keptSecond, .int mo_keptAsked, .int mo_keptLooks, .int mo_keptChanges, .int mo_keptSeen, .ref mkeptKeys, .ref mkeptValues, .ref mkeptHeights, .ref mkeptHeats, .ref mkeptKeys2, .ref mkeptValues2, .ref mkeptHeights2, .ref mkeptHeats2, .ref mkeptSights, .long mo_hash])), (mkeys, .inl (cy, 8, .inl mkeys_a)), (mheights, .inl (cy, 8, .inl mheights_a_2))] → va_S A s.heap H locs → lv_has ls 2 [(1, .int x1_2), (0, .ref mo)] → W p l e { frames := 2, cells := 0, slots := 0, locals := 45 } s m args below meth c H locs 0 0 Q (F0 m 2 ls []) := by
    intro fu_2
    induction fu_2 with
    | zero =>
      intro x1_2 mheights_a_2 H locs ls hi_2_0 hm hF hP hD hS hl
      exfalso; omega
    | succ fu_2 ih_2 =>
      intro x1_2 mheights_a_2 H locs ls hi_2_0 hm hF hP hD hS hl
      rw [lp_X12_layHeights_2] at hF
      refine lv_iload_n hx hb dX12_layHeights_2 rfl (lv_at hl 0 rfl) ?_
      refine lv_aload_n hx hb dX12_layHeights_3 rfl (lv_at hl 1 rfl) ?_
      refine va_get (D := D) (ci := 12) (v := .int mo_many) (C := RX12) (T := TX12) (N := 44) hx hb htb inX12 hown hK hP 0 rfl rfl 3 (by decide) (htb _ tw_766) (fun _ h9 => h9) rfl dX12_layHeights_4 ?_
      refine lv_icmp_ge (tgt := 27) hx hb dX12_layHeights_7 (by decide) (fun c_1 => ?_) (fun c_1 => ?_)
      · have k_1 : mo_many.toInt ≤ x1_2.toInt := wk_le c_1
        rw [if_pos c_1] at hF
        rw [pm2_mk x1_2 mheights_a_2] at hF
        refine W.widen (k := 0) (n := 0) (by decide) (by decide) ?_
        exact hret mheights_a_2 _ _ _ 27 (wk_sub9 (is := [0, 1, 2]) hP rfl) (hD.sub [0, 1, 2] rfl rfl) hS dX12_layHeights_27 hF.symm
      · have k_1 : ¬ mo_many.toInt ≤ x1_2.toInt := wk_nle c_1
        rw [if_neg c_1] at hF
        refine lv_aload_n hx hb dX12_layHeights_10 rfl (lv_at hl 1 rfl) ?_
        refine va_get (D := D) (ci := 12) (v := .ref mheights) (C := RX12) (T := TX12) (N := 44) hx hb htb inX12 hown hK hP 0 rfl rfl 10 (by decide) (htb _ tw_773) (fun _ h9 => h9) rfl dX12_layHeights_11 ?_
        refine lv_iload_n hx hb dX12_layHeights_14 rfl (lv_at hl 0 rfl) ?_
        refine lv_aload_n hx hb dX12_layHeights_15 rfl (lv_at hl 1 rfl) ?_
        refine lv_iload_n hx hb dX12_layHeights_16 rfl (lv_at hl 0 rfl) ?_
        refine wk_iV (As := [.int x1_2]) (rest := [.int x1_2, .ref mheights]) (wc := [(mo, .inr (12, [.ref mpage, .int mo_pageMany, .int mo_law, .int mo_many, .int mo_asked, .int mo_looksAll, .int mo_changes, .int mo_rowsRead, .ref mkeys, .ref mvalues, .ref mheights, .ref mheats, .int mo_secondMany, .ref msecondKeys, .ref msecondValues, .ref msecondHeights, .ref msecondHeats, .int mo_foundAt, .int mo_foundLooks, .int mo_foundLane, .int mo_bestsDone, .ref msaved, .ref mbestHeights, .int mo_seenMany, .ref msights, .ref mby, .int mo_seedNow, .int mo_keptRow, .int mo_keptMany, .int mo_keptSecond, .int mo_keptAsked, .int mo_keptLooks, .int mo_keptChanges, .int mo_keptSeen, .ref mkeptKeys, .ref mkeptValues, .ref mkeptHeights, .ref mkeptHeats, .ref mkeptKeys2, .ref mkeptValues2, .ref mkeptHeights2, .ref mkeptHeats2, .ref mkeptSights, .long mo_hash])), (mkeys, .inl (cy, 8, .inl mkeys_a)), (mheights, .inl (cy, 8, .inl mheights_a_2))]) (wr := []) (n := 1) ⟨hx, hb, hml, hown, htb⟩ (c_X12_heightBy l D cy mo mpage mkeys mvalues mheights mheats msecondKeys msecondValues msecondHeights msecondHeats msaved mbestHeights msights mby mkeptKeys mkeptValues mkeptHeights mkeptHeats mkeptKeys2 mkeptValues2 mkeptHeights2 mkeptHeats2 mkeptSights mo_pageMany mo_law mo_many mo_asked mo_looksAll mo_changes mo_rowsRead mo_secondMany mo_foundAt mo_foundLooks mo_foundLane mo_bestsDone mo_seenMany mo_seedNow mo_keptRow mo_keptMany mo_keptSecond mo_keptAsked mo_keptLooks mo_keptChanges mo_keptSeen mo_hash mkeys_a mheights_a_2 x1_2 (show 0 ≤ mo_pageMany.toInt ∧ mo_pageMany.toInt ≤ 44 from by omega) (show 0 ≤ mo_many.toInt ∧ mo_many.toInt ≤ 8 from by omega) (show 0 ≤ mo_secondMany.toInt ∧ mo_secondMany.toInt ≤ 8 from by omega) (show (-1) ≤ mo_foundAt.toInt ∧ mo_foundAt.toInt ≤ 7 from by omega) (show 0 ≤ mo_seenMany.toInt ∧ mo_seenMany.toInt ≤ 6 from by omega) (show 0 ≤ mo_keptMany.toInt ∧ mo_keptMany.toInt ≤ 8 from by omega) (show 0 ≤ mo_keptSecond.toInt ∧ mo_keptSecond.toInt ≤ 8 from by omega) (show 0 ≤ mo_keptSeen.toInt ∧ mo_keptSeen.toInt ≤ 6 from by omega) (show 0 ≤ x1_2.toInt ∧ x1_2.toInt ≤ 7 from by omega)) tw_950 tw_947 tw_949 tw_28 tw_71 rfl rfl (by decide +kernel) ⟨Nat.le_of_ble_eq_true rfl, Nat.le_of_ble_eq_true rfl⟩ hK hP hD hS hA [0, 1, 2] [] rfl rfl rfl rfl (by decide) 0 (ci := 12) rfl rfl rfl hl.1 rfl (Nat.le_of_ble_eq_true rfl) dX12_layHeights_17 ⟨Nat.le_of_ble_eq_true rfl, Nat.le_of_ble_eq_true rfl⟩ (fun r_2 u_3 H locs hw_4 hP hD hS => ?_)
        refine W.widen (k := 0) (n := 0) (by decide) (by decide) ?_
        have hw_4 : r_2 = (fn_X12_heightBy mo_law mkeys_a mheights_a_2 x1_2) := hw_4
        subst hw_4
        have hP : va_P D classes [(mo, .inr (12, [.ref mpage, .int mo_pageMany, .int mo_law, .int mo_many, .int mo_asked, .int mo_looksAll, .int mo_changes, .int mo_rowsRead, .ref mkeys, .ref mvalues, .ref mheights, .ref mheats, .int mo_secondMany, .ref msecondKeys, .ref msecondValues, .ref msecondHeights, .ref msecondHeats, .int mo_foundAt, .int mo_foundLooks, .int mo_foundLane, .int mo_bestsDone, .ref msaved, .ref mbestHeights, .int mo_seenMany, .ref msights, .ref mby, .int mo_seedNow, .int mo_keptRow, .int mo_keptMany, .int mo_keptSecond, .int mo_keptAsked, .int mo_keptLooks, .int mo_keptChanges, .int mo_keptSeen, .ref mkeptKeys, .ref mkeptValues, .ref mkeptHeights, .ref mkeptHeats, .ref mkeptKeys2, .ref mkeptValues2, .ref mkeptHeights2, .ref mkeptHeats2, .ref mkeptSights, .long mo_hash])), (mkeys, .inl (cy, 8, .inl mkeys_a)), (mheights, .inl (cy, 8, .inl mheights_a_2))] H := hP
        have hD : va_D A [(mo, .inr (12, [.ref mpage, .int mo_pageMany, .int mo_law, .int mo_many, .int mo_asked, .int mo_looksAll, .int mo_changes, .int mo_rowsRead, .ref mkeys, .ref mvalues, .ref mheights, .ref mheats, .int mo_secondMany, .ref msecondKeys, .ref msecondValues, .ref msecondHeights, .ref msecondHeats, .int mo_foundAt, .int mo_foundLooks, .int mo_foundLane, .int mo_bestsDone, .ref msaved, .ref mbestHeights, .int mo_seenMany, .ref msights, .ref mby, .int mo_seedNow, .int mo_keptRow, .int mo_keptMany, .int mo_keptSecond, .int mo_keptAsked, .int mo_keptLooks, .int mo_keptChanges, .int mo_keptSeen, .ref mkeptKeys, .ref mkeptValues, .ref mkeptHeights, .ref mkeptHeats, .ref mkeptKeys2, .ref mkeptValues2, .ref mkeptHeights2, .ref mkeptHeats2, .ref mkeptSights, .long mo_hash])), (mkeys, .inl (cy, 8, .inl mkeys_a)), (mheights, .inl (cy, 8, .inl mheights_a_2))] := hD
        refine va_iast hx hb hK hP hD hS 2 0 rfl rfl (show vp_in x1_2 8 from vp_in_iff.mpr (show 0 ≤ x1_2.toInt ∧ x1_2.toInt < ((8 : Nat) : Int) from by omega)) dX12_layHeights_20 (fun H locs hP hD hS => ?_)
        have hP : va_P D classes [(mo, .inr (12, [.ref mpage, .int mo_pageMany, .int mo_law, .int mo_many, .int mo_asked, .int mo_looksAll, .int mo_changes, .int mo_rowsRead, .ref mkeys, .ref mvalues, .ref mheights, .ref mheats, .int mo_secondMany, .ref msecondKeys, .ref msecondValues, .ref msecondHeights, .ref msecondHeats, .int mo_foundAt, .int mo_foundLooks, .int mo_foundLane, .int mo_bestsDone, .ref msaved, .ref mbestHeights, .int mo_seenMany, .ref msights, .ref mby, .int mo_seedNow, .int mo_keptRow, .int mo_keptMany, .int mo_keptSecond, .int mo_keptAsked, .int mo_keptLooks, .int mo_keptChanges, .int mo_keptSeen, .ref mkeptKeys, .ref mkeptValues, .ref mkeptHeights, .ref mkeptHeats, .ref mkeptKeys2, .ref mkeptValues2, .ref mkeptHeights2, .ref mkeptHeats2, .ref mkeptSights, .long mo_hash])), (mkeys, .inl (cy, 8, .inl mkeys_a)), (mheights, .inl (cy, 8, .inl (upd mheights_a_2 x1_2.toNatClampNeg (fn_X12_heightBy mo_law mkeys_a mheights_a_2 x1_2))))] H := hP
        have hD : va_D A [(mo, .inr (12, [.ref mpage, .int mo_pageMany, .int mo_law, .int mo_many, .int mo_asked, .int mo_looksAll, .int mo_changes, .int mo_rowsRead, .ref mkeys, .ref mvalues, .ref mheights, .ref mheats, .int mo_secondMany, .ref msecondKeys, .ref msecondValues, .ref msecondHeights, .ref msecondHeats, .int mo_foundAt, .int mo_foundLooks, .int mo_foundLane, .int mo_bestsDone, .ref msaved, .ref mbestHeights, .int mo_seenMany, .ref msights, .ref mby, .int mo_seedNow, .int mo_keptRow, .int mo_keptMany, .int mo_keptSecond, .int mo_keptAsked, .int mo_keptLooks, .int mo_keptChanges, .int mo_keptSeen, .ref mkeptKeys, .ref mkeptValues, .ref mkeptHeights, .ref mkeptHeats, .ref mkeptKeys2, .ref mkeptValues2, .ref mkeptHeights2, .ref mkeptHeats2, .ref mkeptSights, .long mo_hash])), (mkeys, .inl (cy, 8, .inl mkeys_a)), (mheights, .inl (cy, 8, .inl (upd mheights_a_2 x1_2.toNatClampNeg (fn_X12_heightBy mo_law mkeys_a mheights_a_2 x1_2))))] := hD
        refine lv_iinc (v := (x1_2 + 1)) (lv' := [(1, .int (x1_2 + 1)), (0, .ref mo)]) hx hb dX12_layHeights_21 hl (k := 0) rfl rfl (by decide) rfl (fun ls hl => ?_)
        have k_5 : (x1_2 + 1).toInt = x1_2.toInt + 1 := wk_add x1_2.toInt 1 rfl rfl (by omega) (by omega)
        refine lv_goto (tgt := 2) hx hb dX12_layHeights_24 (by decide) ?_
        exact ih_2 (x1_2 + 1) (upd mheights_a_2 x1_2.toNatClampNeg (fn_X12_heightBy mo_law mkeys_a mheights_a_2 x1_2)) _ _ _ (show 0 ≤ (x1_2 + 1).toInt ∧ (x1_2 + 1).toInt ≤ 8 from by omega) (show 8 - (x1_2 + 1).toInt < ((fu_2 : Nat) : Int) from by omega) hF hP hD hS (lv_sub hl [0, 1] rfl)
  exact hlp_2 10 0 mheights_a _ _ _ (show 0 ≤ 0 ∧ 0 ≤ 8 from by omega) (show 8 - 0 < ((10 : Nat) : Int) from by omega) hF hP hD hS (lv_sub hl [0, 1] rfl)
def lp_X12_look_21 (mo_many : Int32) (mo_foundAt : Int32) (mo_foundLooks : Int32) (mo_foundLane : Int32) (mkeys_a : Nat → Int32) (mheights_a : Nat → Int32) (a : Int32) (b : Int32) (d : Int32) (e1 : Int32) : Nat → Int32 → Int32 → Int32 → Int32 → Int32 → Int32 × Int32 × Int32 × Int32 × Int32
  | 0, _, _, _, _, _ => default
  | fu_21 + 1, x5_21, x6_21, mo_foundAt_21, mo_foundLooks_21, mo_foundLane_21 => (if x6_21 < 0 then (x5_21, x6_21, mo_foundAt_21, mo_foundLooks_21, mo_foundLane_21) else (if mo_foundAt_21 = (-1) then (if (fn_X12_nextIn mo_many mheights_a x5_21 x6_21) = (-1) then (if (fn_X12_nextIn mo_many mheights_a x5_21 x6_21) = (-1) then (if (fn_X12_nextIn mo_many mheights_a x5_21 x6_21) = (-1) then (lp_X12_look_21 mo_many mo_foundAt mo_foundLooks mo_foundLane mkeys_a mheights_a a b d e1 fu_21 x5_21 (x6_21 + (-1)) mo_foundAt_21 (mo_foundLooks_21 + 0) mo_foundLane_21) else default) else default) else (if (fn_X12_nextIn mo_many mheights_a x5_21 x6_21) = (-1) then default else (if (mkeys_a (fn_X12_nextIn mo_many mheights_a x5_21 x6_21).toNatClampNeg) = d then (lp_X12_look_21 mo_many mo_foundAt mo_foundLooks mo_foundLane mkeys_a mheights_a a b d e1 fu_21 x5_21 x6_21 (fn_X12_nextIn mo_many mheights_a x5_21 x6_21) (mo_foundLooks_21 + 1) x6_21) else (if (fn_X12_nextIn mo_many mheights_a x5_21 x6_21) = (-1) then default else (if d ≤ (mkeys_a (fn_X12_nextIn mo_many mheights_a x5_21 x6_21).toNatClampNeg) then (lp_X12_look_21 mo_many mo_foundAt mo_foundLooks mo_foundLane mkeys_a mheights_a a b d e1 fu_21 x5_21 (x6_21 + (-1)) mo_foundAt_21 (mo_foundLooks_21 + 1) mo_foundLane_21) else (if e1 = 0 then (lp_X12_look_21 mo_many mo_foundAt mo_foundLooks mo_foundLane mkeys_a mheights_a a b d e1 fu_21 (fn_X12_nextIn mo_many mheights_a x5_21 x6_21) x6_21 mo_foundAt_21 (mo_foundLooks_21 + 1) mo_foundLane_21) else (lp_X12_look_21 mo_many mo_foundAt mo_foundLooks mo_foundLane mkeys_a mheights_a a b d e1 fu_21 (fn_X12_nextIn mo_many mheights_a x5_21 x6_21) ((mheights_a (fn_X12_nextIn mo_many mheights_a x5_21 x6_21).toNatClampNeg) - 1) mo_foundAt_21 (mo_foundLooks_21 + 1) mo_foundLane_21))))))) else (x5_21, x6_21, mo_foundAt_21, mo_foundLooks_21, mo_foundLane_21)))
termination_by n => n
def fn_X12_look (mo_many : Int32) (mo_foundAt : Int32) (mo_foundLooks : Int32) (mo_foundLane : Int32) (mkeys_a : Nat → Int32) (mheights_a : Nat → Int32) (a : Int32) (b : Int32) (d : Int32) (e1 : Int32) : Int32 × Int32 × Int32 := (pm2 (lp_X12_look_21 mo_many mo_foundAt mo_foundLooks mo_foundLane mkeys_a mheights_a a b d e1 42949672960 a b (-1) 0 (-1)) (fun x5_21 t_ => (pm2 (t_) (fun x6_21 t_ => (pm2 (t_) (fun mo_foundAt_21 t_ => (pm2 (t_) (fun mo_foundLooks_21 mo_foundLane_21 => (mo_foundAt_21, mo_foundLooks_21, mo_foundLane_21)))))))))
theorem dX12_look_0 : decode cX12_look 0 = .ok (.iload_n 1, 1) := by decide +kernel
theorem dX12_look_1 : decode cX12_look 1 = .ok (.istore 5, 2) := by decide +kernel
theorem dX12_look_3 : decode cX12_look 3 = .ok (.iload_n 2, 1) := by decide +kernel
theorem dX12_look_4 : decode cX12_look 4 = .ok (.istore 6, 2) := by decide +kernel
theorem dX12_look_6 : decode cX12_look 6 = .ok (.aload_n 0, 1) := by decide +kernel
theorem dX12_look_7 : decode cX12_look 7 = .ok (.iconst (-1), 1) := by decide +kernel
theorem dX12_look_8 : decode cX12_look 8 = .ok (.putfield 158, 3) := by decide +kernel
theorem dX12_look_11 : decode cX12_look 11 = .ok (.aload_n 0, 1) := by decide +kernel
theorem dX12_look_12 : decode cX12_look 12 = .ok (.iconst 0, 1) := by decide +kernel
theorem dX12_look_13 : decode cX12_look 13 = .ok (.putfield 161, 3) := by decide +kernel
theorem dX12_look_16 : decode cX12_look 16 = .ok (.aload_n 0, 1) := by decide +kernel
theorem dX12_look_17 : decode cX12_look 17 = .ok (.iconst (-1), 1) := by decide +kernel
theorem dX12_look_18 : decode cX12_look 18 = .ok (.putfield 164, 3) := by decide +kernel
theorem dX12_look_21 : decode cX12_look 21 = .ok (.iload 6, 2) := by decide +kernel
theorem dX12_look_23 : decode cX12_look 23 = .ok (.ifCond .lt 124, 3) := by decide +kernel
theorem dX12_look_26 : decode cX12_look 26 = .ok (.aload_n 0, 1) := by decide +kernel
theorem dX12_look_27 : decode cX12_look 27 = .ok (.getfield 158, 3) := by decide +kernel
theorem dX12_look_30 : decode cX12_look 30 = .ok (.iconst (-1), 1) := by decide +kernel
theorem dX12_look_31 : decode cX12_look 31 = .ok (.if_icmp .ne 116, 3) := by decide +kernel
theorem dX12_look_34 : decode cX12_look 34 = .ok (.aload_n 0, 1) := by decide +kernel
theorem dX12_look_35 : decode cX12_look 35 = .ok (.iload 5, 2) := by decide +kernel
theorem dX12_look_37 : decode cX12_look 37 = .ok (.iload 6, 2) := by decide +kernel
theorem dX12_look_39 : decode cX12_look 39 = .ok (.invokevirtual 155, 3) := by decide +kernel
theorem dX12_look_42 : decode cX12_look 42 = .ok (.istore 7, 2) := by decide +kernel
theorem dX12_look_44 : decode cX12_look 44 = .ok (.aload_n 0, 1) := by decide +kernel
theorem dX12_look_45 : decode cX12_look 45 = .ok (.dup, 1) := by decide +kernel
theorem dX12_look_46 : decode cX12_look 46 = .ok (.getfield 161, 3) := by decide +kernel
theorem dX12_look_49 : decode cX12_look 49 = .ok (.iload 7, 2) := by decide +kernel
theorem dX12_look_51 : decode cX12_look 51 = .ok (.iconst (-1), 1) := by decide +kernel
theorem dX12_look_52 : decode cX12_look 52 = .ok (.if_icmp .ne 7, 3) := by decide +kernel
theorem dX12_look_55 : decode cX12_look 55 = .ok (.iconst 0, 1) := by decide +kernel
theorem dX12_look_56 : decode cX12_look 56 = .ok (.goto 4, 3) := by decide +kernel
theorem dX12_look_59 : decode cX12_look 59 = .ok (.iconst 1, 1) := by decide +kernel
theorem dX12_look_60 : decode cX12_look 60 = .ok (.iadd, 1) := by decide +kernel
theorem dX12_look_61 : decode cX12_look 61 = .ok (.putfield 161, 3) := by decide +kernel
theorem dX12_look_64 : decode cX12_look 64 = .ok (.iload 7, 2) := by decide +kernel
theorem dX12_look_66 : decode cX12_look 66 = .ok (.iconst (-1), 1) := by decide +kernel
theorem dX12_look_67 : decode cX12_look 67 = .ok (.if_icmp .eq 29, 3) := by decide +kernel
theorem dX12_look_70 : decode cX12_look 70 = .ok (.aload_n 0, 1) := by decide +kernel
theorem dX12_look_71 : decode cX12_look 71 = .ok (.getfield 13, 3) := by decide +kernel
theorem dX12_look_74 : decode cX12_look 74 = .ok (.iload 7, 2) := by decide +kernel
theorem dX12_look_76 : decode cX12_look 76 = .ok (.iaload, 1) := by decide +kernel
theorem dX12_look_77 : decode cX12_look 77 = .ok (.iload_n 3, 1) := by decide +kernel
theorem dX12_look_78 : decode cX12_look 78 = .ok (.if_icmp .ne 18, 3) := by decide +kernel
theorem dX12_look_81 : decode cX12_look 81 = .ok (.aload_n 0, 1) := by decide +kernel
theorem dX12_look_82 : decode cX12_look 82 = .ok (.iload 7, 2) := by decide +kernel
theorem dX12_look_84 : decode cX12_look 84 = .ok (.putfield 158, 3) := by decide +kernel
theorem dX12_look_87 : decode cX12_look 87 = .ok (.aload_n 0, 1) := by decide +kernel
theorem dX12_look_88 : decode cX12_look 88 = .ok (.iload 6, 2) := by decide +kernel
theorem dX12_look_90 : decode cX12_look 90 = .ok (.putfield 164, 3) := by decide +kernel
theorem dX12_look_93 : decode cX12_look 93 = .ok (.goto 51, 3) := by decide +kernel
theorem dX12_look_96 : decode cX12_look 96 = .ok (.iload 7, 2) := by decide +kernel
theorem dX12_look_98 : decode cX12_look 98 = .ok (.iconst (-1), 1) := by decide +kernel
theorem dX12_look_99 : decode cX12_look 99 = .ok (.if_icmp .eq 42, 3) := by decide +kernel
theorem dX12_look_102 : decode cX12_look 102 = .ok (.aload_n 0, 1) := by decide +kernel
theorem dX12_look_103 : decode cX12_look 103 = .ok (.getfield 13, 3) := by decide +kernel
theorem dX12_look_106 : decode cX12_look 106 = .ok (.iload 7, 2) := by decide +kernel
theorem dX12_look_108 : decode cX12_look 108 = .ok (.iaload, 1) := by decide +kernel
theorem dX12_look_109 : decode cX12_look 109 = .ok (.iload_n 3, 1) := by decide +kernel
theorem dX12_look_110 : decode cX12_look 110 = .ok (.if_icmp .ge 31, 3) := by decide +kernel
theorem dX12_look_113 : decode cX12_look 113 = .ok (.iload 7, 2) := by decide +kernel
theorem dX12_look_115 : decode cX12_look 115 = .ok (.istore 5, 2) := by decide +kernel
theorem dX12_look_117 : decode cX12_look 117 = .ok (.iload 4, 2) := by decide +kernel
theorem dX12_look_119 : decode cX12_look 119 = .ok (.ifCond .eq 15, 3) := by decide +kernel
theorem dX12_look_122 : decode cX12_look 122 = .ok (.aload_n 0, 1) := by decide +kernel
theorem dX12_look_123 : decode cX12_look 123 = .ok (.getfield 19, 3) := by decide +kernel
theorem dX12_look_126 : decode cX12_look 126 = .ok (.iload 7, 2) := by decide +kernel
theorem dX12_look_128 : decode cX12_look 128 = .ok (.iaload, 1) := by decide +kernel
theorem dX12_look_129 : decode cX12_look 129 = .ok (.iconst 1, 1) := by decide +kernel
theorem dX12_look_130 : decode cX12_look 130 = .ok (.isub, 1) := by decide +kernel
theorem dX12_look_131 : decode cX12_look 131 = .ok (.goto 5, 3) := by decide +kernel
theorem dX12_look_134 : decode cX12_look 134 = .ok (.iload 6, 2) := by decide +kernel
theorem dX12_look_136 : decode cX12_look 136 = .ok (.istore 6, 2) := by decide +kernel
theorem dX12_look_138 : decode cX12_look 138 = .ok (.goto 6, 3) := by decide +kernel
theorem dX12_look_141 : decode cX12_look 141 = .ok (.iinc 6 (-1), 3) := by decide +kernel
theorem dX12_look_144 : decode cX12_look 144 = .ok (.goto (-123), 3) := by decide +kernel
theorem dX12_look_147 : decode cX12_look 147 = .ok (.return_, 1) := by decide +kernel
set_option maxHeartbeats 4000000 in
set_option maxRecDepth 100000 in
theorem c_X12_look (l : Launch) (D : va_G) (cy : ClassId) (mo mpage mkeys mvalues mheights mheats msecondKeys msecondValues msecondHeights msecondHeats msaved mbestHeights msights mby mkeptKeys mkeptValues mkeptHeights mkeptHeats mkeptKeys2 mkeptValues2 mkeptHeights2 mkeptHeats2 mkeptSights : Nat) (mo_pageMany : Int32) (mo_law : Int32) (mo_many : Int32) (mo_asked : Int32) (mo_looksAll : Int32) (mo_changes : Int32) (mo_rowsRead : Int32) (mo_secondMany : Int32) (mo_foundAt : Int32) (mo_foundLooks : Int32) (mo_foundLane : Int32) (mo_bestsDone : Int32) (mo_seenMany : Int32) (mo_seedNow : Int32) (mo_keptRow : Int32) (mo_keptMany : Int32) (mo_keptSecond : Int32) (mo_keptAsked : Int32) (mo_keptLooks : Int32) (mo_keptChanges : Int32) (mo_keptSeen : Int32) (mo_hash : Int64) (mkeys_a : Nat → Int32) (mheights_a : Nat → Int32) (a : Int32) (b : Int32) (d : Int32) (e1 : Int32) (g_0 : 0 ≤ mo_pageMany.toInt ∧ mo_pageMany.toInt ≤ 44) (g_1 : 0 ≤ mo_many.toInt ∧ mo_many.toInt ≤ 8) (g_2 : 0 ≤ mo_secondMany.toInt ∧ mo_secondMany.toInt ≤ 8) (g_3 : (-1) ≤ mo_foundAt.toInt ∧ mo_foundAt.toInt ≤ 7) (g_4 : 0 ≤ mo_seenMany.toInt ∧ mo_seenMany.toInt ≤ 6) (g_5 : 0 ≤ mo_keptMany.toInt ∧ mo_keptMany.toInt ≤ 8) (g_6 : 0 ≤ mo_keptSecond.toInt ∧ mo_keptSecond.toInt ≤ 8) (g_7 : 0 ≤ mo_keptSeen.toInt ∧ mo_keptSeen.toInt ≤ 6) (g_8 : (-1) ≤ a.toInt ∧ a.toInt ≤ 7) : wk_Cv l yX12_look cX12_look 8 none { frames := 1, cells := 0, slots := 0, locals := 23 } D cy [.ref mo, .int a, .int b, .int d, .int e1] [(mo, .inr (12, [.ref mpage, .int mo_pageMany, .int mo_law, .int mo_many, .int mo_asked, .int mo_looksAll, .int mo_changes, .int mo_rowsRead, .ref mkeys, .ref mvalues, .ref mheights, .ref mheats, .int mo_secondMany, .ref msecondKeys, .ref msecondValues, .ref msecondHeights, .ref msecondHeats, .int mo_foundAt, .int mo_foundLooks, .int mo_foundLane, .int mo_bestsDone, .ref msaved, .ref mbestHeights, .int mo_seenMany, .ref msights, .ref mby, .int mo_seedNow, .int mo_keptRow, .int mo_keptMany, .int mo_keptSecond, .int mo_keptAsked, .int mo_keptLooks, .int mo_keptChanges, .int mo_keptSeen, .ref mkeptKeys, .ref mkeptValues, .ref mkeptHeights, .ref mkeptHeats, .ref mkeptKeys2, .ref mkeptValues2, .ref mkeptHeights2, .ref mkeptHeats2, .ref mkeptSights, .long mo_hash])), (mkeys, .inl (cy, 8, .inl mkeys_a)), (mheights, .inl (cy, 8, .inl mheights_a))] 0 0 (fun (u : Int32 × Int32 × Int32) => u = (fn_X12_look mo_many mo_foundAt mo_foundLooks mo_foundLane mkeys_a mheights_a a b d e1) ∧ ((-1) ≤ u.1.toInt ∧ u.1.toInt ≤ 7)) (fun u => [(mo, .inr (12, [.ref mpage, .int mo_pageMany, .int mo_law, .int mo_many, .int mo_asked, .int mo_looksAll, .int mo_changes, .int mo_rowsRead, .ref mkeys, .ref mvalues, .ref mheights, .ref mheats, .int mo_secondMany, .ref msecondKeys, .ref msecondValues, .ref msecondHeights, .ref msecondHeats, .int u.1, .int u.2.1, .int u.2.2, .int mo_bestsDone, .ref msaved, .ref mbestHeights, .int mo_seenMany, .ref msights, .ref mby, .int mo_seedNow, .int mo_keptRow, .int mo_keptMany, .int mo_keptSecond, .int mo_keptAsked, .int mo_keptLooks, .int mo_keptChanges, .int mo_keptSeen, .ref mkeptKeys, .ref mkeptValues, .ref mkeptHeights, .ref mkeptHeats, .ref mkeptKeys2, .ref mkeptValues2, .ref mkeptHeights2, .ref mkeptHeats2, .ref mkeptSights, .long mo_hash])), (mkeys, .inl (cy, 8, .inl mkeys_a)), (mheights, .inl (cy, 8, .inl mheights_a))]) := by
  refine wk_mk2Cv (by decide) (Nat.le_of_ble_eq_true rfl) ?_
  intro p e s m args below meth c A ls Q B hA hK hP hD hS hl hret
  obtain ⟨hx, hb, hr, hlocks, hml, hown, htb, hin⟩ := B
  have hl : lv_has ls 8 [(0, .ref mo), (1, .int a), (2, .int b), (3, .int d), (4, .int e1)] := hl
  have hF : (fn_X12_look mo_many mo_foundAt mo_foundLooks mo_foundLane mkeys_a mheights_a a b d e1) = (fn_X12_look mo_many mo_foundAt mo_foundLooks mo_foundLane mkeys_a mheights_a a b d e1) := rfl
  conv at hF => rhs; unfold fn_X12_look
  refine lv_iload_n hx hb dX12_look_0 rfl (lv_at hl 1 rfl) ?_
  refine lv_istore (lv' := [(5, .int a), (0, .ref mo), (1, .int a), (2, .int b), (3, .int d), (4, .int e1)]) hx hb dX12_look_1 hl (by decide) rfl (fun ls hl => ?_)
  refine lv_iload_n hx hb dX12_look_3 rfl (lv_at hl 3 rfl) ?_
  refine lv_istore (lv' := [(6, .int b), (5, .int a), (0, .ref mo), (1, .int a), (2, .int b), (3, .int d), (4, .int e1)]) hx hb dX12_look_4 hl (by decide) rfl (fun ls hl => ?_)
  refine lv_aload_n hx hb dX12_look_6 rfl (lv_at hl 2 rfl) ?_
  refine lv_iconst (v := (-1)) hx hb dX12_look_7 (by decide) ?_
  refine va_put (D := D) (ci := 12) (v := .int (-1)) (ty := .int) (C := RX12) (T := TX12) (N := 44) hx hb htb inX12 tyX12 tyX12_ok nmX12 hown hK hP hD hS 0 rfl rfl 17 (by decide) (htb _ tw_780) (fun _ h9 => h9) rfl (by decide +kernel) rfl rfl (Nat.le_of_ble_eq_true rfl) dX12_look_8 (fun H locs hP hD hS => ?_)
  have hP : va_P D classes [(mo, .inr (12, [.ref mpage, .int mo_pageMany, .int mo_law, .int mo_many, .int mo_asked, .int mo_looksAll, .int mo_changes, .int mo_rowsRead, .ref mkeys, .ref mvalues, .ref mheights, .ref mheats, .int mo_secondMany, .ref msecondKeys, .ref msecondValues, .ref msecondHeights, .ref msecondHeats, .int (-1), .int mo_foundLooks, .int mo_foundLane, .int mo_bestsDone, .ref msaved, .ref mbestHeights, .int mo_seenMany, .ref msights, .ref mby, .int mo_seedNow, .int mo_keptRow, .int mo_keptMany, .int mo_keptSecond, .int mo_keptAsked, .int mo_keptLooks, .int mo_keptChanges, .int mo_keptSeen, .ref mkeptKeys, .ref mkeptValues, .ref mkeptHeights, .ref mkeptHeats, .ref mkeptKeys2, .ref mkeptValues2, .ref mkeptHeights2, .ref mkeptHeats2, .ref mkeptSights, .long mo_hash])), (mkeys, .inl (cy, 8, .inl mkeys_a)), (mheights, .inl (cy, 8, .inl mheights_a))] H := hP
  have hD : va_D A [(mo, .inr (12, [.ref mpage, .int mo_pageMany, .int mo_law, .int mo_many, .int mo_asked, .int mo_looksAll, .int mo_changes, .int mo_rowsRead, .ref mkeys, .ref mvalues, .ref mheights, .ref mheats, .int mo_secondMany, .ref msecondKeys, .ref msecondValues, .ref msecondHeights, .ref msecondHeats, .int (-1), .int mo_foundLooks, .int mo_foundLane, .int mo_bestsDone, .ref msaved, .ref mbestHeights, .int mo_seenMany, .ref msights, .ref mby, .int mo_seedNow, .int mo_keptRow, .int mo_keptMany, .int mo_keptSecond, .int mo_keptAsked, .int mo_keptLooks, .int mo_keptChanges, .int mo_keptSeen, .ref mkeptKeys, .ref mkeptValues, .ref mkeptHeights, .ref mkeptHeats, .ref mkeptKeys2, .ref mkeptValues2, .ref mkeptHeights2, .ref mkeptHeats2, .ref mkeptSights, .long mo_hash])), (mkeys, .inl (cy, 8, .inl mkeys_a)), (mheights, .inl (cy, 8, .inl mheights_a))] := hD
  refine lv_aload_n hx hb dX12_look_11 rfl (lv_at hl 2 rfl) ?_
  refine lv_iconst (v := 0) hx hb dX12_look_12 (by decide) ?_
  refine va_put (D := D) (ci := 12) (v := .int 0) (ty := .int) (C := RX12) (T := TX12) (N := 44) hx hb htb inX12 tyX12 tyX12_ok nmX12 hown hK hP hD hS 0 rfl rfl 18 (by decide) (htb _ tw_781) (fun _ h9 => h9) rfl (by decide +kernel) rfl rfl (Nat.le_of_ble_eq_true rfl) dX12_look_13 (fun H locs hP hD hS => ?_)
  have hP : va_P D classes [(mo, .inr (12, [.ref mpage, .int mo_pageMany, .int mo_law, .int mo_many, .int mo_asked, .int mo_looksAll, .int mo_changes, .int mo_rowsRead, .ref mkeys, .ref mvalues, .ref mheights, .ref mheats, .int mo_secondMany, .ref msecondKeys, .ref msecondValues, .ref msecondHeights, .ref msecondHeats, .int (-1), .int 0, .int mo_foundLane, .int mo_bestsDone, .ref msaved, .ref mbestHeights, .int mo_seenMany, .ref msights, .ref mby, .int mo_seedNow, .int mo_keptRow, .int mo_keptMany, .int mo_keptSecond, .int mo_keptAsked, .int mo_keptLooks, .int mo_keptChanges, .int mo_keptSeen, .ref mkeptKeys, .ref mkeptValues, .ref mkeptHeights, .ref mkeptHeats, .ref mkeptKeys2, .ref mkeptValues2, .ref mkeptHeights2, .ref mkeptHeats2, .ref mkeptSights, .long mo_hash])), (mkeys, .inl (cy, 8, .inl mkeys_a)), (mheights, .inl (cy, 8, .inl mheights_a))] H := hP
  have hD : va_D A [(mo, .inr (12, [.ref mpage, .int mo_pageMany, .int mo_law, .int mo_many, .int mo_asked, .int mo_looksAll, .int mo_changes, .int mo_rowsRead, .ref mkeys, .ref mvalues, .ref mheights, .ref mheats, .int mo_secondMany, .ref msecondKeys, .ref msecondValues, .ref msecondHeights, .ref msecondHeats, .int (-1), .int 0, .int mo_foundLane, .int mo_bestsDone, .ref msaved, .ref mbestHeights, .int mo_seenMany, .ref msights, .ref mby, .int mo_seedNow, .int mo_keptRow, .int mo_keptMany, .int mo_keptSecond, .int mo_keptAsked, .int mo_keptLooks, .int mo_keptChanges, .int mo_keptSeen, .ref mkeptKeys, .ref mkeptValues, .ref mkeptHeights, .ref mkeptHeats, .ref mkeptKeys2, .ref mkeptValues2, .ref mkeptHeights2, .ref mkeptHeats2, .ref mkeptSights, .long mo_hash])), (mkeys, .inl (cy, 8, .inl mkeys_a)), (mheights, .inl (cy, 8, .inl mheights_a))] := hD
  refine lv_aload_n hx hb dX12_look_16 rfl (lv_at hl 2 rfl) ?_
  refine lv_iconst (v := (-1)) hx hb dX12_look_17 (by decide) ?_
  refine va_put (D := D) (ci := 12) (v := .int (-1)) (ty := .int) (C := RX12) (T := TX12) (N := 44) hx hb htb inX12 tyX12 tyX12_ok nmX12 hown hK hP hD hS 0 rfl rfl 19 (by decide) (htb _ tw_782) (fun _ h9 => h9) rfl (by decide +kernel) rfl rfl (Nat.le_of_ble_eq_true rfl) dX12_look_18 (fun H locs hP hD hS => ?_)
  have hP : va_P D classes [(mo, .inr (12, [.ref mpage, .int mo_pageMany, .int mo_law, .int mo_many, .int mo_asked, .int mo_looksAll, .int mo_changes, .int mo_rowsRead, .ref mkeys, .ref mvalues, .ref mheights, .ref mheats, .int mo_secondMany, .ref msecondKeys, .ref msecondValues, .ref msecondHeights, .ref msecondHeats, .int (-1), .int 0, .int (-1), .int mo_bestsDone, .ref msaved, .ref mbestHeights, .int mo_seenMany, .ref msights, .ref mby, .int mo_seedNow, .int mo_keptRow, .int mo_keptMany, .int mo_keptSecond, .int mo_keptAsked, .int mo_keptLooks, .int mo_keptChanges, .int mo_keptSeen, .ref mkeptKeys, .ref mkeptValues, .ref mkeptHeights, .ref mkeptHeats, .ref mkeptKeys2, .ref mkeptValues2, .ref mkeptHeights2, .ref mkeptHeats2, .ref mkeptSights, .long mo_hash])), (mkeys, .inl (cy, 8, .inl mkeys_a)), (mheights, .inl (cy, 8, .inl mheights_a))] H := hP
  have hD : va_D A [(mo, .inr (12, [.ref mpage, .int mo_pageMany, .int mo_law, .int mo_many, .int mo_asked, .int mo_looksAll, .int mo_changes, .int mo_rowsRead, .ref mkeys, .ref mvalues, .ref mheights, .ref mheats, .int mo_secondMany, .ref msecondKeys, .ref msecondValues, .ref msecondHeights, .ref msecondHeats, .int (-1), .int 0, .int (-1), .int mo_bestsDone, .ref msaved, .ref mbestHeights, .int mo_seenMany, .ref msights, .ref mby, .int mo_seedNow, .int mo_keptRow, .int mo_keptMany, .int mo_keptSecond, .int mo_keptAsked, .int mo_keptLooks, .int mo_keptChanges, .int mo_keptSeen, .ref mkeptKeys, .ref mkeptValues, .ref mkeptHeights, .ref mkeptHeats, .ref mkeptKeys2, .ref mkeptValues2, .ref mkeptHeights2, .ref mkeptHeats2, .ref mkeptSights, .long mo_hash])), (mkeys, .inl (cy, 8, .inl mkeys_a)), (mheights, .inl (cy, 8, .inl mheights_a))] := hD
  have hlp_21 : ∀ (fu_21 : Nat) (x5_21 : Int32) (x6_21 : Int32) (mo_foundAt_21 : Int32) (mo_foundLooks_21 : Int32) (mo_foundLane_21 : Int32) (H : Heap) (locs : List Loc) (ls : Array Slot), ((-1) ≤ x5_21.toInt ∧ x5_21.toInt ≤ 7) → ((-1) ≤ mo_foundAt_21.toInt ∧ mo_foundAt_21.toInt ≤ 7) → (7 - x5_21.toInt) * 2147483648 + ((((x6_21.toInt + 1).toNat : Nat) : Int)) + (7 - mo_foundAt_21.toInt) < (fu_21 : Int) → ((fn_X12_look mo_many mo_foundAt mo_foundLooks mo_foundLane mkeys_a mheights_a a b d e1) = (pm2 (lp_X12_look_21 mo_many mo_foundAt mo_foundLooks mo_foundLane mkeys_a mheights_a a b d e1 fu_21 x5_21 x6_21 mo_foundAt_21 mo_foundLooks_21 mo_foundLane_21) (fun x5_21 t_ => (pm2 (t_) (fun x6_21 t_ => (pm2 (t_) (fun mo_foundAt_21 t_ => (pm2 (t_) (fun mo_foundLooks_21 mo_foundLane_21 => (mo_foundAt_21, mo_foundLooks_21, mo_foundLane_21)))))))))) → va_P D classes [(mo, .inr (12, [.ref mpage, .int mo_pageMany, .int mo_law, .int mo_many, .int mo_asked, .int mo_looksAll, .int mo_changes, .int mo_rowsRead, .ref mkeys, .ref mvalues, .ref mheights, .ref mheats, .int mo_secondMany, .ref msecondKeys, .ref msecondValues, .ref msecondHeights, .ref msecondHeats, .int mo_foundAt_21, .int mo_foundLooks_21, .int mo_foundLane_21, .int mo_bestsDone, .ref msaved, .ref mbestHeights, .int mo_seenMany, .ref msights, .ref mby, .int mo_seedNow, .int mo_keptRow, .int mo_keptMany, .int mo_keptSecond, .int mo_keptAsked, .int mo_keptLooks, .int mo_keptChanges, .int mo_keptSeen, .ref mkeptKeys, .ref mkeptValues, .ref mkeptHeights, .ref mkeptHeats, .ref mkeptKeys2, .ref mkeptValues2, .ref mkeptHeights2, .ref mkeptHeats2, .ref mkeptSights, .long mo_hash])), (mkeys, .inl (cy, 8, .inl mkeys_a)), (mheights, .inl (cy, 8, .inl mheights_a))] H → va_D A [(mo, .inr (12, [.ref mpage, .int mo_pageMany, .int mo_law, .int mo_many, .int mo_asked, .int mo_looksAll, .int mo_changes, .int mo_rowsRead, .ref mkeys, .ref mvalues, .ref mheights, .ref mheats, .int mo_secondMany, .ref msecondKeys, .ref msecondValues, .ref msecondHeights, .ref msecondHeats, .int mo_foundAt_21, .int mo_foundLooks_21, .int mo_foundLane_21, .int mo_bestsDone, .ref msaved, .ref mbestHeights, .int mo_seenMany, .ref msights, .ref mby, .int mo_seedNow, .int mo_keptRow, .int mo_keptMany, .int mo_keptSecond, .int mo_keptAsked, .int mo_keptLooks, .int mo_keptChanges, .int mo_keptSeen, .ref mkeptKeys, .ref mkeptValues, .ref mkeptHeights, .ref mkeptHeats, .ref mkeptKeys2, .ref mkeptValues2, .ref mkeptHeights2, .ref mkeptHeats2, .ref mkeptSights, .long mo_hash])), (mkeys, .inl (cy, 8, .inl mkeys_a)), (mheights, .inl (cy, 8, .inl mheights_a))] → va_S A s.heap H locs → lv_has ls 8 [(6, .int x6_21), (5, .int x5_21), (0, .ref mo), (1, .int a), (2, .int b), (3, .int d), (4, .int e1)] → W p l e { frames := 1, cells := 0, slots := 0, locals := 23 } s m args below meth c H locs 0 0 Q (F0 m 21 ls []) := by
    intro fu_21
    induction fu_21 with
    | zero =>
      intro x5_21 x6_21 mo_foundAt_21 mo_foundLooks_21 mo_foundLane_21 H locs ls hi_21_0 hi_21_1 hm hF hP hD hS hl
      exfalso; omega
    | succ fu_21 ih_21 =>
      intro x5_21 x6_21 mo_foundAt_21 mo_foundLooks_21 mo_foundLane_21 H locs ls hi_21_0 hi_21_1 hm hF hP hD hS hl
      rw [lp_X12_look_21] at hF
      refine lv_iload hx hb dX12_look_21 (lv_at hl 0 rfl) ?_
      refine lv_if_lt (tgt := 147) hx hb dX12_look_23 (by decide) (fun c_1 => ?_) (fun c_1 => ?_)
      · have k_1 : x6_21.toInt < 0 := wk_lt c_1
        rw [if_pos c_1] at hF
        rw [pm2_mk x5_21 (x6_21, mo_foundAt_21, mo_foundLooks_21, mo_foundLane_21), pm2_mk x6_21 (mo_foundAt_21, mo_foundLooks_21, mo_foundLane_21), pm2_mk mo_foundAt_21 (mo_foundLooks_21, mo_foundLane_21), pm2_mk mo_foundLooks_21 mo_foundLane_21] at hF
        refine W.widen (k := 0) (n := 0) (by decide) (by decide) ?_
        exact hret (mo_foundAt_21, mo_foundLooks_21, mo_foundLane_21) _ _ _ 147 (wk_sub9 (is := [0, 1, 2]) hP rfl) (hD.sub [0, 1, 2] rfl rfl) hS dX12_look_147 ⟨hF.symm, (show ((-1) ≤ mo_foundAt_21.toInt ∧ mo_foundAt_21.toInt ≤ 7) from by omega)⟩
      · have k_1 : ¬ x6_21.toInt < 0 := wk_nlt c_1
        rw [if_neg c_1] at hF
        refine lv_aload_n hx hb dX12_look_26 rfl (lv_at hl 2 rfl) ?_
        refine va_get (D := D) (ci := 12) (v := .int mo_foundAt_21) (C := RX12) (T := TX12) (N := 44) hx hb htb inX12 hown hK hP 0 rfl rfl 17 (by decide) (htb _ tw_780) (fun _ h9 => h9) rfl dX12_look_27 ?_
        refine lv_iconst (v := (-1)) hx hb dX12_look_30 (by decide) ?_
        refine lv_icmp_ne (tgt := 147) hx hb dX12_look_31 (by decide) (fun c_2 => ?_) (fun c_2 => ?_)
        · have k_2 : ¬ mo_foundAt_21.toInt = (-1) := wk_neq c_2
          rw [if_neg c_2] at hF
          rw [pm2_mk x5_21 (x6_21, mo_foundAt_21, mo_foundLooks_21, mo_foundLane_21), pm2_mk x6_21 (mo_foundAt_21, mo_foundLooks_21, mo_foundLane_21), pm2_mk mo_foundAt_21 (mo_foundLooks_21, mo_foundLane_21), pm2_mk mo_foundLooks_21 mo_foundLane_21] at hF
          refine W.widen (k := 0) (n := 0) (by decide) (by decide) ?_
          exact hret (mo_foundAt_21, mo_foundLooks_21, mo_foundLane_21) _ _ _ 147 (wk_sub9 (is := [0, 1, 2]) hP rfl) (hD.sub [0, 1, 2] rfl rfl) hS dX12_look_147 ⟨hF.symm, (show ((-1) ≤ mo_foundAt_21.toInt ∧ mo_foundAt_21.toInt ≤ 7) from by omega)⟩
        · have k_2 : mo_foundAt_21.toInt = (-1) := wk_eq c_2
          rw [if_pos c_2] at hF
          refine lv_aload_n hx hb dX12_look_34 rfl (lv_at hl 2 rfl) ?_
          refine lv_iload hx hb dX12_look_35 (lv_at hl 1 rfl) ?_
          refine lv_iload hx hb dX12_look_37 (lv_at hl 0 rfl) ?_
          refine wk_iV (As := [.int x5_21, .int x6_21]) (rest := []) (wc := [(mo, .inr (12, [.ref mpage, .int mo_pageMany, .int mo_law, .int mo_many, .int mo_asked, .int mo_looksAll, .int mo_changes, .int mo_rowsRead, .ref mkeys, .ref mvalues, .ref mheights, .ref mheats, .int mo_secondMany, .ref msecondKeys, .ref msecondValues, .ref msecondHeights, .ref msecondHeats, .int mo_foundAt_21, .int mo_foundLooks_21, .int mo_foundLane_21, .int mo_bestsDone, .ref msaved, .ref mbestHeights, .int mo_seenMany, .ref msights, .ref mby, .int mo_seedNow, .int mo_keptRow, .int mo_keptMany, .int mo_keptSecond, .int mo_keptAsked, .int mo_keptLooks, .int mo_keptChanges, .int mo_keptSeen, .ref mkeptKeys, .ref mkeptValues, .ref mkeptHeights, .ref mkeptHeats, .ref mkeptKeys2, .ref mkeptValues2, .ref mkeptHeights2, .ref mkeptHeats2, .ref mkeptSights, .long mo_hash])), (mheights, .inl (cy, 8, .inl mheights_a))]) (wr := [(mkeys, .inl (cy, 8, .inl mkeys_a))]) (n := 2) ⟨hx, hb, hml, hown, htb⟩ (c_X12_nextIn l D cy mo mpage mkeys mvalues mheights mheats msecondKeys msecondValues msecondHeights msecondHeats msaved mbestHeights msights mby mkeptKeys mkeptValues mkeptHeights mkeptHeats mkeptKeys2 mkeptValues2 mkeptHeights2 mkeptHeats2 mkeptSights mo_pageMany mo_law mo_many mo_asked mo_looksAll mo_changes mo_rowsRead mo_secondMany mo_foundAt_21 mo_foundLooks_21 mo_foundLane_21 mo_bestsDone mo_seenMany mo_seedNow mo_keptRow mo_keptMany mo_keptSecond mo_keptAsked mo_keptLooks mo_keptChanges mo_keptSeen mo_hash mheights_a x5_21 x6_21 (show 0 ≤ mo_pageMany.toInt ∧ mo_pageMany.toInt ≤ 44 from by omega) (show 0 ≤ mo_many.toInt ∧ mo_many.toInt ≤ 8 from by omega) (show 0 ≤ mo_secondMany.toInt ∧ mo_secondMany.toInt ≤ 8 from by omega) (show (-1) ≤ mo_foundAt_21.toInt ∧ mo_foundAt_21.toInt ≤ 7 from by omega) (show 0 ≤ mo_seenMany.toInt ∧ mo_seenMany.toInt ≤ 6 from by omega) (show 0 ≤ mo_keptMany.toInt ∧ mo_keptMany.toInt ≤ 8 from by omega) (show 0 ≤ mo_keptSecond.toInt ∧ mo_keptSecond.toInt ≤ 8 from by omega) (show 0 ≤ mo_keptSeen.toInt ∧ mo_keptSeen.toInt ≤ 6 from by omega) (show (-1) ≤ x5_21.toInt ∧ x5_21.toInt ≤ 7 from by omega)) tw_985 tw_982 tw_984 tw_33 tw_71 rfl rfl (by decide +kernel) ⟨Nat.le_of_ble_eq_true rfl, Nat.le_of_ble_eq_true rfl⟩ hK hP hD hS hA [0, 2] [1] rfl rfl rfl rfl (by decide) 0 (ci := 12) rfl rfl rfl hl.1 rfl (Nat.le_of_ble_eq_true rfl) dX12_look_39 ⟨Nat.le_of_ble_eq_true rfl, Nat.le_of_ble_eq_true rfl⟩ (fun r_3 u_4 H locs hw_5 hP hD hS => ?_)
          refine W.widen (k := 0) (n := 0) (by decide) (by decide) ?_
          obtain ⟨hw_5, k_6, k_7, k_8⟩ := hw_5
          have hw_5 : r_3 = (fn_X12_nextIn mo_many mheights_a x5_21 x6_21) := hw_5
          subst hw_5
          have k_6 : ((-1) ≤ (fn_X12_nextIn mo_many mheights_a x5_21 x6_21).toInt ∧ (fn_X12_nextIn mo_many mheights_a x5_21 x6_21).toInt ≤ 7) := k_6
          have k_7 : ((fn_X12_nextIn mo_many mheights_a x5_21 x6_21).toInt < mo_many.toInt ∨ (fn_X12_nextIn mo_many mheights_a x5_21 x6_21).toInt = -1) := k_7
          have k_8 : ((fn_X12_nextIn mo_many mheights_a x5_21 x6_21).toInt = -1 ∨ x5_21.toInt < (fn_X12_nextIn mo_many mheights_a x5_21 x6_21).toInt) := k_8
          have hP : va_P D classes [(mkeys, .inl (cy, 8, .inl mkeys_a)), (mo, .inr (12, [.ref mpage, .int mo_pageMany, .int mo_law, .int mo_many, .int mo_asked, .int mo_looksAll, .int mo_changes, .int mo_rowsRead, .ref mkeys, .ref mvalues, .ref mheights, .ref mheats, .int mo_secondMany, .ref msecondKeys, .ref msecondValues, .ref msecondHeights, .ref msecondHeats, .int mo_foundAt_21, .int mo_foundLooks_21, .int mo_foundLane_21, .int mo_bestsDone, .ref msaved, .ref mbestHeights, .int mo_seenMany, .ref msights, .ref mby, .int mo_seedNow, .int mo_keptRow, .int mo_keptMany, .int mo_keptSecond, .int mo_keptAsked, .int mo_keptLooks, .int mo_keptChanges, .int mo_keptSeen, .ref mkeptKeys, .ref mkeptValues, .ref mkeptHeights, .ref mkeptHeats, .ref mkeptKeys2, .ref mkeptValues2, .ref mkeptHeights2, .ref mkeptHeats2, .ref mkeptSights, .long mo_hash])), (mheights, .inl (cy, 8, .inl mheights_a))] H := hP
          have hD : va_D A [(mkeys, .inl (cy, 8, .inl mkeys_a)), (mo, .inr (12, [.ref mpage, .int mo_pageMany, .int mo_law, .int mo_many, .int mo_asked, .int mo_looksAll, .int mo_changes, .int mo_rowsRead, .ref mkeys, .ref mvalues, .ref mheights, .ref mheats, .int mo_secondMany, .ref msecondKeys, .ref msecondValues, .ref msecondHeights, .ref msecondHeats, .int mo_foundAt_21, .int mo_foundLooks_21, .int mo_foundLane_21, .int mo_bestsDone, .ref msaved, .ref mbestHeights, .int mo_seenMany, .ref msights, .ref mby, .int mo_seedNow, .int mo_keptRow, .int mo_keptMany, .int mo_keptSecond, .int mo_keptAsked, .int mo_keptLooks, .int mo_keptChanges, .int mo_keptSeen, .ref mkeptKeys, .ref mkeptValues, .ref mkeptHeights, .ref mkeptHeats, .ref mkeptKeys2, .ref mkeptValues2, .ref mkeptHeights2, .ref mkeptHeats2, .ref mkeptSights, .long mo_hash])), (mheights, .inl (cy, 8, .inl mheights_a))] := hD
          refine lv_istore (lv' := [(7, .int (fn_X12_nextIn mo_many mheights_a x5_21 x6_21)), (6, .int x6_21), (5, .int x5_21), (0, .ref mo), (1, .int a), (2, .int b), (3, .int d), (4, .int e1)]) hx hb dX12_look_42 hl (by decide) rfl (fun ls hl => ?_)
          refine lv_aload_n hx hb dX12_look_44 rfl (lv_at hl 3 rfl) ?_
          refine lv_dup hx hb dX12_look_45 rfl ?_
          refine va_get (D := D) (ci := 12) (v := .int mo_foundLooks_21) (C := RX12) (T := TX12) (N := 44) hx hb htb inX12 hown hK hP 1 rfl rfl 18 (by decide) (htb _ tw_781) (fun _ h9 => h9) rfl dX12_look_46 ?_
          refine lv_iload hx hb dX12_look_49 (lv_at hl 0 rfl) ?_
          refine lv_iconst (v := (-1)) hx hb dX12_look_51 (by decide) ?_
          refine lv_icmp_ne (tgt := 59) hx hb dX12_look_52 (by decide) (fun c_9 => ?_) (fun c_9 => ?_)
          · have k_9 : ¬ (fn_X12_nextIn mo_many mheights_a x5_21 x6_21).toInt = (-1) := wk_neq c_9
            rw [if_neg c_9] at hF
            refine lv_iconst (v := 1) hx hb dX12_look_59 (by decide) ?_
            refine lv_iadd hx hb dX12_look_60 ?_
            refine va_put (D := D) (ci := 12) (v := .int (mo_foundLooks_21 + 1)) (ty := .int) (C := RX12) (T := TX12) (N := 44) hx hb htb inX12 tyX12 tyX12_ok nmX12 hown hK hP hD hS 1 rfl rfl 18 (by decide) (htb _ tw_781) (fun _ h9 => h9) rfl (by decide +kernel) rfl rfl (Nat.le_of_ble_eq_true rfl) dX12_look_61 (fun H locs hP hD hS => ?_)
            have hP : va_P D classes [(mkeys, .inl (cy, 8, .inl mkeys_a)), (mo, .inr (12, [.ref mpage, .int mo_pageMany, .int mo_law, .int mo_many, .int mo_asked, .int mo_looksAll, .int mo_changes, .int mo_rowsRead, .ref mkeys, .ref mvalues, .ref mheights, .ref mheats, .int mo_secondMany, .ref msecondKeys, .ref msecondValues, .ref msecondHeights, .ref msecondHeats, .int mo_foundAt_21, .int (mo_foundLooks_21 + 1), .int mo_foundLane_21, .int mo_bestsDone, .ref msaved, .ref mbestHeights, .int mo_seenMany, .ref msights, .ref mby, .int mo_seedNow, .int mo_keptRow, .int mo_keptMany, .int mo_keptSecond, .int mo_keptAsked, .int mo_keptLooks, .int mo_keptChanges, .int mo_keptSeen, .ref mkeptKeys, .ref mkeptValues, .ref mkeptHeights, .ref mkeptHeats, .ref mkeptKeys2, .ref mkeptValues2, .ref mkeptHeights2, .ref mkeptHeats2, .ref mkeptSights, .long mo_hash])), (mheights, .inl (cy, 8, .inl mheights_a))] H := hP
            have hD : va_D A [(mkeys, .inl (cy, 8, .inl mkeys_a)), (mo, .inr (12, [.ref mpage, .int mo_pageMany, .int mo_law, .int mo_many, .int mo_asked, .int mo_looksAll, .int mo_changes, .int mo_rowsRead, .ref mkeys, .ref mvalues, .ref mheights, .ref mheats, .int mo_secondMany, .ref msecondKeys, .ref msecondValues, .ref msecondHeights, .ref msecondHeats, .int mo_foundAt_21, .int (mo_foundLooks_21 + 1), .int mo_foundLane_21, .int mo_bestsDone, .ref msaved, .ref mbestHeights, .int mo_seenMany, .ref msights, .ref mby, .int mo_seedNow, .int mo_keptRow, .int mo_keptMany, .int mo_keptSecond, .int mo_keptAsked, .int mo_keptLooks, .int mo_keptChanges, .int mo_keptSeen, .ref mkeptKeys, .ref mkeptValues, .ref mkeptHeights, .ref mkeptHeats, .ref mkeptKeys2, .ref mkeptValues2, .ref mkeptHeights2, .ref mkeptHeats2, .ref mkeptSights, .long mo_hash])), (mheights, .inl (cy, 8, .inl mheights_a))] := hD
            refine lv_iload hx hb dX12_look_64 (lv_at hl 0 rfl) ?_
            refine lv_iconst (v := (-1)) hx hb dX12_look_66 (by decide) ?_
            refine lv_icmp_eq (tgt := 96) hx hb dX12_look_67 (by decide) (fun c_10 => ?_) (fun c_10 => ?_)
            · have k_10 : (fn_X12_nextIn mo_many mheights_a x5_21 x6_21).toInt = (-1) := wk_eq c_10
              rw [if_pos c_10] at hF
              exfalso; omega
            · have k_10 : ¬ (fn_X12_nextIn mo_many mheights_a x5_21 x6_21).toInt = (-1) := wk_neq c_10
              rw [if_neg c_10] at hF
              refine lv_aload_n hx hb dX12_look_70 rfl (lv_at hl 3 rfl) ?_
              refine va_get (D := D) (ci := 12) (v := .ref mkeys) (C := RX12) (T := TX12) (N := 44) hx hb htb inX12 hown hK hP 1 rfl rfl 8 (by decide) (htb _ tw_771) (fun _ h9 => h9) rfl dX12_look_71 ?_
              refine lv_iload hx hb dX12_look_74 (lv_at hl 0 rfl) ?_
              refine va_iald hx hb hK hP 0 0 rfl rfl (show vp_in (fn_X12_nextIn mo_many mheights_a x5_21 x6_21) 8 from vp_in_iff.mpr (show 0 ≤ (fn_X12_nextIn mo_many mheights_a x5_21 x6_21).toInt ∧ (fn_X12_nextIn mo_many mheights_a x5_21 x6_21).toInt < ((8 : Nat) : Int) from by omega)) dX12_look_76 ?_
              refine lv_iload_n hx hb dX12_look_77 rfl (lv_at hl 6 rfl) ?_
              refine lv_icmp_ne (tgt := 96) hx hb dX12_look_78 (by decide) (fun c_11 => ?_) (fun c_11 => ?_)
              · have k_11 : ¬ (mkeys_a (fn_X12_nextIn mo_many mheights_a x5_21 x6_21).toNatClampNeg).toInt = d.toInt := wk_neq c_11
                rw [if_neg c_11] at hF
                refine lv_iload hx hb dX12_look_96 (lv_at hl 0 rfl) ?_
                refine lv_iconst (v := (-1)) hx hb dX12_look_98 (by decide) ?_
                refine lv_icmp_eq (tgt := 141) hx hb dX12_look_99 (by decide) (fun c_12 => ?_) (fun c_12 => ?_)
                · have k_12 : (fn_X12_nextIn mo_many mheights_a x5_21 x6_21).toInt = (-1) := wk_eq c_12
                  rw [if_pos c_12] at hF
                  exfalso; omega
                · have k_12 : ¬ (fn_X12_nextIn mo_many mheights_a x5_21 x6_21).toInt = (-1) := wk_neq c_12
                  rw [if_neg c_12] at hF
                  refine lv_aload_n hx hb dX12_look_102 rfl (lv_at hl 3 rfl) ?_
                  refine va_get (D := D) (ci := 12) (v := .ref mkeys) (C := RX12) (T := TX12) (N := 44) hx hb htb inX12 hown hK hP 1 rfl rfl 8 (by decide) (htb _ tw_771) (fun _ h9 => h9) rfl dX12_look_103 ?_
                  refine lv_iload hx hb dX12_look_106 (lv_at hl 0 rfl) ?_
                  refine va_iald hx hb hK hP 0 0 rfl rfl (show vp_in (fn_X12_nextIn mo_many mheights_a x5_21 x6_21) 8 from vp_in_iff.mpr (show 0 ≤ (fn_X12_nextIn mo_many mheights_a x5_21 x6_21).toInt ∧ (fn_X12_nextIn mo_many mheights_a x5_21 x6_21).toInt < ((8 : Nat) : Int) from by omega)) dX12_look_108 ?_
                  refine lv_iload_n hx hb dX12_look_109 rfl (lv_at hl 6 rfl) ?_
                  refine lv_icmp_ge (tgt := 141) hx hb dX12_look_110 (by decide) (fun c_13 => ?_) (fun c_13 => ?_)
                  · have k_13 : d.toInt ≤ (mkeys_a (fn_X12_nextIn mo_many mheights_a x5_21 x6_21).toNatClampNeg).toInt := wk_le c_13
                    rw [if_pos c_13] at hF
                    refine lv_iinc (v := (x6_21 + (-1))) (lv' := [(6, .int (x6_21 + (-1))), (7, .int (fn_X12_nextIn mo_many mheights_a x5_21 x6_21)), (5, .int x5_21), (0, .ref mo), (1, .int a), (2, .int b), (3, .int d), (4, .int e1)]) hx hb dX12_look_141 hl (k := 1) rfl rfl (by decide) rfl (fun ls hl => ?_)
                    have k_14 : (x6_21 + (-1)).toInt = x6_21.toInt + (-1) := wk_add x6_21.toInt (-1) rfl rfl (by have h9 := wk_rng x6_21; omega) (by have h9 := wk_rng x6_21; omega)
                    refine lv_goto (tgt := 21) hx hb dX12_look_144 (by decide) ?_
                    have k_15 := wk_rng x5_21
                    have k_16 := wk_rng (x6_21 + (-1))
                    have k_17 := wk_rng mo_foundAt_21
                    have k_18 := wk_rng (mo_foundLooks_21 + 1)
                    have k_19 := wk_rng mo_foundLane_21
                    exact ih_21 x5_21 (x6_21 + (-1)) mo_foundAt_21 (mo_foundLooks_21 + 1) mo_foundLane_21 _ _ _ (show (-1) ≤ x5_21.toInt ∧ x5_21.toInt ≤ 7 from by omega) (show (-1) ≤ mo_foundAt_21.toInt ∧ mo_foundAt_21.toInt ≤ 7 from by omega) (show (7 - x5_21.toInt) * 2147483648 + (((((x6_21 + (-1)).toInt + 1).toNat : Nat) : Int)) + (7 - mo_foundAt_21.toInt) < ((fu_21 : Nat) : Int) from by omega) hF (wk_sub9 (is := [1, 0, 2]) hP rfl) (hD.sub [1, 0, 2] rfl rfl) hS (lv_sub hl [0, 2, 3, 4, 5, 6, 7] rfl)
                  · have k_13 : ¬ d.toInt ≤ (mkeys_a (fn_X12_nextIn mo_many mheights_a x5_21 x6_21).toNatClampNeg).toInt := wk_nle c_13
                    rw [if_neg c_13] at hF
                    refine lv_iload hx hb dX12_look_113 (lv_at hl 0 rfl) ?_
                    refine lv_istore (lv' := [(5, .int (fn_X12_nextIn mo_many mheights_a x5_21 x6_21)), (7, .int (fn_X12_nextIn mo_many mheights_a x5_21 x6_21)), (6, .int x6_21), (0, .ref mo), (1, .int a), (2, .int b), (3, .int d), (4, .int e1)]) hx hb dX12_look_115 hl (by decide) rfl (fun ls hl => ?_)
                    refine lv_iload hx hb dX12_look_117 (lv_at hl 7 rfl) ?_
                    refine lv_if_eq (tgt := 134) hx hb dX12_look_119 (by decide) (fun c_20 => ?_) (fun c_20 => ?_)
                    · have k_20 : e1.toInt = 0 := wk_eq c_20
                      rw [if_pos c_20] at hF
                      refine lv_iload hx hb dX12_look_134 (lv_at hl 2 rfl) ?_
                      refine lv_istore (lv' := [(6, .int x6_21), (5, .int (fn_X12_nextIn mo_many mheights_a x5_21 x6_21)), (7, .int (fn_X12_nextIn mo_many mheights_a x5_21 x6_21)), (0, .ref mo), (1, .int a), (2, .int b), (3, .int d), (4, .int e1)]) hx hb dX12_look_136 hl (by decide) rfl (fun ls hl => ?_)
                      refine lv_goto (tgt := 144) hx hb dX12_look_138 (by decide) ?_
                      refine lv_goto (tgt := 21) hx hb dX12_look_144 (by decide) ?_
                      have k_21 := wk_rng (fn_X12_nextIn mo_many mheights_a x5_21 x6_21)
                      have k_22 := wk_rng x6_21
                      have k_23 := wk_rng mo_foundAt_21
                      have k_24 := wk_rng (mo_foundLooks_21 + 1)
                      have k_25 := wk_rng mo_foundLane_21
                      exact ih_21 (fn_X12_nextIn mo_many mheights_a x5_21 x6_21) x6_21 mo_foundAt_21 (mo_foundLooks_21 + 1) mo_foundLane_21 _ _ _ (show (-1) ≤ (fn_X12_nextIn mo_many mheights_a x5_21 x6_21).toInt ∧ (fn_X12_nextIn mo_many mheights_a x5_21 x6_21).toInt ≤ 7 from by omega) (show (-1) ≤ mo_foundAt_21.toInt ∧ mo_foundAt_21.toInt ≤ 7 from by omega) (show (7 - (fn_X12_nextIn mo_many mheights_a x5_21 x6_21).toInt) * 2147483648 + ((((x6_21.toInt + 1).toNat : Nat) : Int)) + (7 - mo_foundAt_21.toInt) < ((fu_21 : Nat) : Int) from by omega) hF (wk_sub9 (is := [1, 0, 2]) hP rfl) (hD.sub [1, 0, 2] rfl rfl) hS (lv_sub hl [0, 1, 3, 4, 5, 6, 7] rfl)
                    · have k_20 : ¬ e1.toInt = 0 := wk_neq c_20
                      rw [if_neg c_20] at hF
                      refine lv_aload_n hx hb dX12_look_122 rfl (lv_at hl 3 rfl) ?_
                      refine va_get (D := D) (ci := 12) (v := .ref mheights) (C := RX12) (T := TX12) (N := 44) hx hb htb inX12 hown hK hP 1 rfl rfl 10 (by decide) (htb _ tw_773) (fun _ h9 => h9) rfl dX12_look_123 ?_
                      refine lv_iload hx hb dX12_look_126 (lv_at hl 1 rfl) ?_
                      refine va_iald hx hb hK hP 2 0 rfl rfl (show vp_in (fn_X12_nextIn mo_many mheights_a x5_21 x6_21) 8 from vp_in_iff.mpr (show 0 ≤ (fn_X12_nextIn mo_many mheights_a x5_21 x6_21).toInt ∧ (fn_X12_nextIn mo_many mheights_a x5_21 x6_21).toInt < ((8 : Nat) : Int) from by omega)) dX12_look_128 ?_
                      refine lv_iconst (v := 1) hx hb dX12_look_129 (by decide) ?_
                      refine lv_isub hx hb dX12_look_130 ?_
                      refine lv_goto (tgt := 136) hx hb dX12_look_131 (by decide) ?_
                      refine lv_istore (lv' := [(6, .int ((mheights_a (fn_X12_nextIn mo_many mheights_a x5_21 x6_21).toNatClampNeg) - 1)), (5, .int (fn_X12_nextIn mo_many mheights_a x5_21 x6_21)), (7, .int (fn_X12_nextIn mo_many mheights_a x5_21 x6_21)), (0, .ref mo), (1, .int a), (2, .int b), (3, .int d), (4, .int e1)]) hx hb dX12_look_136 hl (by decide) rfl (fun ls hl => ?_)
                      refine lv_goto (tgt := 144) hx hb dX12_look_138 (by decide) ?_
                      refine lv_goto (tgt := 21) hx hb dX12_look_144 (by decide) ?_
                      have k_26 := wk_rng (fn_X12_nextIn mo_many mheights_a x5_21 x6_21)
                      have k_27 := wk_rng ((mheights_a (fn_X12_nextIn mo_many mheights_a x5_21 x6_21).toNatClampNeg) - 1)
                      have k_28 := wk_rng mo_foundAt_21
                      have k_29 := wk_rng (mo_foundLooks_21 + 1)
                      have k_30 := wk_rng mo_foundLane_21
                      exact ih_21 (fn_X12_nextIn mo_many mheights_a x5_21 x6_21) ((mheights_a (fn_X12_nextIn mo_many mheights_a x5_21 x6_21).toNatClampNeg) - 1) mo_foundAt_21 (mo_foundLooks_21 + 1) mo_foundLane_21 _ _ _ (show (-1) ≤ (fn_X12_nextIn mo_many mheights_a x5_21 x6_21).toInt ∧ (fn_X12_nextIn mo_many mheights_a x5_21 x6_21).toInt ≤ 7 from by omega) (show (-1) ≤ mo_foundAt_21.toInt ∧ mo_foundAt_21.toInt ≤ 7 from by omega) (show (7 - (fn_X12_nextIn mo_many mheights_a x5_21 x6_21).toInt) * 2147483648 + ((((((mheights_a (fn_X12_nextIn mo_many mheights_a x5_21 x6_21).toNatClampNeg) - 1).toInt + 1).toNat : Nat) : Int)) + (7 - mo_foundAt_21.toInt) < ((fu_21 : Nat) : Int) from by omega) hF (wk_sub9 (is := [1, 0, 2]) hP rfl) (hD.sub [1, 0, 2] rfl rfl) hS (lv_sub hl [0, 1, 3, 4, 5, 6, 7] rfl)
              · have k_11 : (mkeys_a (fn_X12_nextIn mo_many mheights_a x5_21 x6_21).toNatClampNeg).toInt = d.toInt := wk_eq c_11
                rw [if_pos c_11] at hF
                refine lv_aload_n hx hb dX12_look_81 rfl (lv_at hl 3 rfl) ?_
                refine lv_iload hx hb dX12_look_82 (lv_at hl 0 rfl) ?_
                refine va_put (D := D) (ci := 12) (v := .int (fn_X12_nextIn mo_many mheights_a x5_21 x6_21)) (ty := .int) (C := RX12) (T := TX12) (N := 44) hx hb htb inX12 tyX12 tyX12_ok nmX12 hown hK hP hD hS 1 rfl rfl 17 (by decide) (htb _ tw_780) (fun _ h9 => h9) rfl (by decide +kernel) rfl rfl (Nat.le_of_ble_eq_true rfl) dX12_look_84 (fun H locs hP hD hS => ?_)
                have hP : va_P D classes [(mkeys, .inl (cy, 8, .inl mkeys_a)), (mo, .inr (12, [.ref mpage, .int mo_pageMany, .int mo_law, .int mo_many, .int mo_asked, .int mo_looksAll, .int mo_changes, .int mo_rowsRead, .ref mkeys, .ref mvalues, .ref mheights, .ref mheats, .int mo_secondMany, .ref msecondKeys, .ref msecondValues, .ref msecondHeights, .ref msecondHeats, .int (fn_X12_nextIn mo_many mheights_a x5_21 x6_21), .int (mo_foundLooks_21 + 1), .int mo_foundLane_21, .int mo_bestsDone, .ref msaved, .ref mbestHeights, .int mo_seenMany, .ref msights, .ref mby, .int mo_seedNow, .int mo_keptRow, .int mo_keptMany, .int mo_keptSecond, .int mo_keptAsked, .int mo_keptLooks, .int mo_keptChanges, .int mo_keptSeen, .ref mkeptKeys, .ref mkeptValues, .ref mkeptHeights, .ref mkeptHeats, .ref mkeptKeys2, .ref mkeptValues2, .ref mkeptHeights2, .ref mkeptHeats2, .ref mkeptSights, .long mo_hash])), (mheights, .inl (cy, 8, .inl mheights_a))] H := hP
                have hD : va_D A [(mkeys, .inl (cy, 8, .inl mkeys_a)), (mo, .inr (12, [.ref mpage, .int mo_pageMany, .int mo_law, .int mo_many, .int mo_asked, .int mo_looksAll, .int mo_changes, .int mo_rowsRead, .ref mkeys, .ref mvalues, .ref mheights, .ref mheats, .int mo_secondMany, .ref msecondKeys, .ref msecondValues, .ref msecondHeights, .ref msecondHeats, .int (fn_X12_nextIn mo_many mheights_a x5_21 x6_21), .int (mo_foundLooks_21 + 1), .int mo_foundLane_21, .int mo_bestsDone, .ref msaved, .ref mbestHeights, .int mo_seenMany, .ref msights, .ref mby, .int mo_seedNow, .int mo_keptRow, .int mo_keptMany, .int mo_keptSecond, .int mo_keptAsked, .int mo_keptLooks, .int mo_keptChanges, .int mo_keptSeen, .ref mkeptKeys, .ref mkeptValues, .ref mkeptHeights, .ref mkeptHeats, .ref mkeptKeys2, .ref mkeptValues2, .ref mkeptHeights2, .ref mkeptHeats2, .ref mkeptSights, .long mo_hash])), (mheights, .inl (cy, 8, .inl mheights_a))] := hD
                refine lv_aload_n hx hb dX12_look_87 rfl (lv_at hl 3 rfl) ?_
                refine lv_iload hx hb dX12_look_88 (lv_at hl 1 rfl) ?_
                refine va_put (D := D) (ci := 12) (v := .int x6_21) (ty := .int) (C := RX12) (T := TX12) (N := 44) hx hb htb inX12 tyX12 tyX12_ok nmX12 hown hK hP hD hS 1 rfl rfl 19 (by decide) (htb _ tw_782) (fun _ h9 => h9) rfl (by decide +kernel) rfl rfl (Nat.le_of_ble_eq_true rfl) dX12_look_90 (fun H locs hP hD hS => ?_)
                have hP : va_P D classes [(mkeys, .inl (cy, 8, .inl mkeys_a)), (mo, .inr (12, [.ref mpage, .int mo_pageMany, .int mo_law, .int mo_many, .int mo_asked, .int mo_looksAll, .int mo_changes, .int mo_rowsRead, .ref mkeys, .ref mvalues, .ref mheights, .ref mheats, .int mo_secondMany, .ref msecondKeys, .ref msecondValues, .ref msecondHeights, .ref msecondHeats, .int (fn_X12_nextIn mo_many mheights_a x5_21 x6_21), .int (mo_foundLooks_21 + 1), .int x6_21, .int mo_bestsDone, .ref msaved, .ref mbestHeights, .int mo_seenMany, .ref msights, .ref mby, .int mo_seedNow, .int mo_keptRow, .int mo_keptMany, .int mo_keptSecond, .int mo_keptAsked, .int mo_keptLooks, .int mo_keptChanges, .int mo_keptSeen, .ref mkeptKeys, .ref mkeptValues, .ref mkeptHeights, .ref mkeptHeats, .ref mkeptKeys2, .ref mkeptValues2, .ref mkeptHeights2, .ref mkeptHeats2, .ref mkeptSights, .long mo_hash])), (mheights, .inl (cy, 8, .inl mheights_a))] H := hP
                have hD : va_D A [(mkeys, .inl (cy, 8, .inl mkeys_a)), (mo, .inr (12, [.ref mpage, .int mo_pageMany, .int mo_law, .int mo_many, .int mo_asked, .int mo_looksAll, .int mo_changes, .int mo_rowsRead, .ref mkeys, .ref mvalues, .ref mheights, .ref mheats, .int mo_secondMany, .ref msecondKeys, .ref msecondValues, .ref msecondHeights, .ref msecondHeats, .int (fn_X12_nextIn mo_many mheights_a x5_21 x6_21), .int (mo_foundLooks_21 + 1), .int x6_21, .int mo_bestsDone, .ref msaved, .ref mbestHeights, .int mo_seenMany, .ref msights, .ref mby, .int mo_seedNow, .int mo_keptRow, .int mo_keptMany, .int mo_keptSecond, .int mo_keptAsked, .int mo_keptLooks, .int mo_keptChanges, .int mo_keptSeen, .ref mkeptKeys, .ref mkeptValues, .ref mkeptHeights, .ref mkeptHeats, .ref mkeptKeys2, .ref mkeptValues2, .ref mkeptHeights2, .ref mkeptHeats2, .ref mkeptSights, .long mo_hash])), (mheights, .inl (cy, 8, .inl mheights_a))] := hD
                refine lv_goto (tgt := 144) hx hb dX12_look_93 (by decide) ?_
                refine lv_goto (tgt := 21) hx hb dX12_look_144 (by decide) ?_
                have k_31 := wk_rng x5_21
                have k_32 := wk_rng x6_21
                have k_33 := wk_rng (fn_X12_nextIn mo_many mheights_a x5_21 x6_21)
                have k_34 := wk_rng (mo_foundLooks_21 + 1)
                have k_35 := wk_rng x6_21
                exact ih_21 x5_21 x6_21 (fn_X12_nextIn mo_many mheights_a x5_21 x6_21) (mo_foundLooks_21 + 1) x6_21 _ _ _ (show (-1) ≤ x5_21.toInt ∧ x5_21.toInt ≤ 7 from by omega) (show (-1) ≤ (fn_X12_nextIn mo_many mheights_a x5_21 x6_21).toInt ∧ (fn_X12_nextIn mo_many mheights_a x5_21 x6_21).toInt ≤ 7 from by omega) (show (7 - x5_21.toInt) * 2147483648 + ((((x6_21.toInt + 1).toNat : Nat) : Int)) + (7 - (fn_X12_nextIn mo_many mheights_a x5_21 x6_21).toInt) < ((fu_21 : Nat) : Int) from by omega) hF (wk_sub9 (is := [1, 0, 2]) hP rfl) (hD.sub [1, 0, 2] rfl rfl) hS (lv_sub hl [1, 2, 3, 4, 5, 6, 7] rfl)
          · have k_9 : (fn_X12_nextIn mo_many mheights_a x5_21 x6_21).toInt = (-1) := wk_eq c_9
            rw [if_pos c_9] at hF
            refine lv_iconst (v := 0) hx hb dX12_look_55 (by decide) ?_
            refine lv_goto (tgt := 60) hx hb dX12_look_56 (by decide) ?_
            refine lv_iadd hx hb dX12_look_60 ?_
            have k_36 : (mo_foundLooks_21 + 0).toInt = mo_foundLooks_21.toInt + 0 := wk_add mo_foundLooks_21.toInt 0 rfl rfl (by have h9 := wk_rng mo_foundLooks_21; omega) (by have h9 := wk_rng mo_foundLooks_21; omega)
            refine va_put (D := D) (ci := 12) (v := .int (mo_foundLooks_21 + 0)) (ty := .int) (C := RX12) (T := TX12) (N := 44) hx hb htb inX12 tyX12 tyX12_ok nmX12 hown hK hP hD hS 1 rfl rfl 18 (by decide) (htb _ tw_781) (fun _ h9 => h9) rfl (by decide +kernel) rfl rfl (Nat.le_of_ble_eq_true rfl) dX12_look_61 (fun H locs hP hD hS => ?_)
            have hP : va_P D classes [(mkeys, .inl (cy, 8, .inl mkeys_a)), (mo, .inr (12, [.ref mpage, .int mo_pageMany, .int mo_law, .int mo_many, .int mo_asked, .int mo_looksAll, .int mo_changes, .int mo_rowsRead, .ref mkeys, .ref mvalues, .ref mheights, .ref mheats, .int mo_secondMany, .ref msecondKeys, .ref msecondValues, .ref msecondHeights, .ref msecondHeats, .int mo_foundAt_21, .int (mo_foundLooks_21 + 0), .int mo_foundLane_21, .int mo_bestsDone, .ref msaved, .ref mbestHeights, .int mo_seenMany, .ref msights, .ref mby, .int mo_seedNow, .int mo_keptRow, .int mo_keptMany, .int mo_keptSecond, .int mo_keptAsked, .int mo_keptLooks, .int mo_keptChanges, .int mo_keptSeen, .ref mkeptKeys, .ref mkeptValues, .ref mkeptHeights, .ref mkeptHeats, .ref mkeptKeys2, .ref mkeptValues2, .ref mkeptHeights2, .ref mkeptHeats2, .ref mkeptSights, .long mo_hash])), (mheights, .inl (cy, 8, .inl mheights_a))] H := hP
            have hD : va_D A [(mkeys, .inl (cy, 8, .inl mkeys_a)), (mo, .inr (12, [.ref mpage, .int mo_pageMany, .int mo_law, .int mo_many, .int mo_asked, .int mo_looksAll, .int mo_changes, .int mo_rowsRead, .ref mkeys, .ref mvalues, .ref mheights, .ref mheats, .int mo_secondMany, .ref msecondKeys, .ref msecondValues, .ref msecondHeights, .ref msecondHeats, .int mo_foundAt_21, .int (mo_foundLooks_21 + 0), .int mo_foundLane_21, .int mo_bestsDone, .ref msaved, .ref mbestHeights, .int mo_seenMany, .ref msights, .ref mby, .int mo_seedNow, .int mo_keptRow, .int mo_keptMany, .int mo_keptSecond, .int mo_keptAsked, .int mo_keptLooks, .int mo_keptChanges, .int mo_keptSeen, .ref mkeptKeys, .ref mkeptValues, .ref mkeptHeights, .ref mkeptHeats, .ref mkeptKeys2, .ref mkeptValues2, .ref mkeptHeights2, .ref mkeptHeats2, .ref mkeptSights, .long mo_hash])), (mheights, .inl (cy, 8, .inl mheights_a))] := hD
            refine lv_iload hx hb dX12_look_64 (lv_at hl 0 rfl) ?_
            refine lv_iconst (v := (-1)) hx hb dX12_look_66 (by decide) ?_
            refine lv_icmp_eq (tgt := 96) hx hb dX12_look_67 (by decide) (fun c_37 => ?_) (fun c_37 => ?_)
            · have k_37 : (fn_X12_nextIn mo_many mheights_a x5_21 x6_21).toInt = (-1) := wk_eq c_37
              rw [if_pos c_37] at hF
              refine lv_iload hx hb dX12_look_96 (lv_at hl 0 rfl) ?_
              refine lv_iconst (v := (-1)) hx hb dX12_look_98 (by decide) ?_
              refine lv_icmp_eq (tgt := 141) hx hb dX12_look_99 (by decide) (fun c_38 => ?_) (fun c_38 => ?_)
              · have k_38 : (fn_X12_nextIn mo_many mheights_a x5_21 x6_21).toInt = (-1) := wk_eq c_38
                rw [if_pos c_38] at hF
                refine lv_iinc (v := (x6_21 + (-1))) (lv' := [(6, .int (x6_21 + (-1))), (7, .int (fn_X12_nextIn mo_many mheights_a x5_21 x6_21)), (5, .int x5_21), (0, .ref mo), (1, .int a), (2, .int b), (3, .int d), (4, .int e1)]) hx hb dX12_look_141 hl (k := 1) rfl rfl (by decide) rfl (fun ls hl => ?_)
                have k_39 : (x6_21 + (-1)).toInt = x6_21.toInt + (-1) := wk_add x6_21.toInt (-1) rfl rfl (by have h9 := wk_rng x6_21; omega) (by have h9 := wk_rng x6_21; omega)
                refine lv_goto (tgt := 21) hx hb dX12_look_144 (by decide) ?_
                have k_40 := wk_rng x5_21
                have k_41 := wk_rng (x6_21 + (-1))
                have k_42 := wk_rng mo_foundAt_21
                have k_43 := wk_rng (mo_foundLooks_21 + 0)
                have k_44 := wk_rng mo_foundLane_21
                exact ih_21 x5_21 (x6_21 + (-1)) mo_foundAt_21 (mo_foundLooks_21 + 0) mo_foundLane_21 _ _ _ (show (-1) ≤ x5_21.toInt ∧ x5_21.toInt ≤ 7 from by omega) (show (-1) ≤ mo_foundAt_21.toInt ∧ mo_foundAt_21.toInt ≤ 7 from by omega) (show (7 - x5_21.toInt) * 2147483648 + (((((x6_21 + (-1)).toInt + 1).toNat : Nat) : Int)) + (7 - mo_foundAt_21.toInt) < ((fu_21 : Nat) : Int) from by omega) hF (wk_sub9 (is := [1, 0, 2]) hP rfl) (hD.sub [1, 0, 2] rfl rfl) hS (lv_sub hl [0, 2, 3, 4, 5, 6, 7] rfl)
              · have k_38 : ¬ (fn_X12_nextIn mo_many mheights_a x5_21 x6_21).toInt = (-1) := wk_neq c_38
                rw [if_neg c_38] at hF
                exfalso; omega
            · have k_37 : ¬ (fn_X12_nextIn mo_many mheights_a x5_21 x6_21).toInt = (-1) := wk_neq c_37
              rw [if_neg c_37] at hF
              exfalso; omega
  have k_45 := wk_rng a
  have k_46 := wk_rng b
  exact hlp_21 42949672960 a b (-1) 0 (-1) _ _ _ (show (-1) ≤ a.toInt ∧ a.toInt ≤ 7 from by omega) (show (-1) ≤ (-1) ∧ (-1) ≤ 7 from by omega) (show (7 - a.toInt) * 2147483648 + ((((b.toInt + 1).toNat : Nat) : Int)) + (7 - (-1)) < ((42949672960 : Nat) : Int) from by omega) hF hP hD hS (lv_sub hl [0, 1, 2, 3, 4, 5, 6] rfl)
def fn_X12_lookFor (mo_many : Int32) (mo_foundAt : Int32) (mo_foundLooks : Int32) (mo_foundLane : Int32) (mkeys_a : Nat → Int32) (mheights_a : Nat → Int32) (a : Int32) : Int32 × Int32 × Int32 := (pm2 (fn_X12_look mo_many mo_foundAt mo_foundLooks mo_foundLane mkeys_a mheights_a (-1) ((fn_X12_lanes mo_many mheights_a) - 1) a 0) (fun o_7 t_ => (pm2 (t_) (fun o_8 o_9 => (o_7, o_8, o_9)))))
theorem dX12_lookFor_0 : decode cX12_lookFor 0 = .ok (.aload_n 0, 1) := by decide +kernel
theorem dX12_lookFor_1 : decode cX12_lookFor 1 = .ok (.iconst (-1), 1) := by decide +kernel
theorem dX12_lookFor_2 : decode cX12_lookFor 2 = .ok (.aload_n 0, 1) := by decide +kernel
theorem dX12_lookFor_3 : decode cX12_lookFor 3 = .ok (.invokevirtual 167, 3) := by decide +kernel
theorem dX12_lookFor_6 : decode cX12_lookFor 6 = .ok (.iconst 1, 1) := by decide +kernel
theorem dX12_lookFor_7 : decode cX12_lookFor 7 = .ok (.isub, 1) := by decide +kernel
theorem dX12_lookFor_8 : decode cX12_lookFor 8 = .ok (.iload_n 1, 1) := by decide +kernel
theorem dX12_lookFor_9 : decode cX12_lookFor 9 = .ok (.iconst 0, 1) := by decide +kernel
theorem dX12_lookFor_10 : decode cX12_lookFor 10 = .ok (.invokevirtual 170, 3) := by decide +kernel
theorem dX12_lookFor_13 : decode cX12_lookFor 13 = .ok (.return_, 1) := by decide +kernel
set_option maxHeartbeats 4000000 in
set_option maxRecDepth 100000 in
theorem c_X12_lookFor (l : Launch) (D : va_G) (cy : ClassId) (mo mpage mkeys mvalues mheights mheats msecondKeys msecondValues msecondHeights msecondHeats msaved mbestHeights msights mby mkeptKeys mkeptValues mkeptHeights mkeptHeats mkeptKeys2 mkeptValues2 mkeptHeights2 mkeptHeats2 mkeptSights : Nat) (mo_pageMany : Int32) (mo_law : Int32) (mo_many : Int32) (mo_asked : Int32) (mo_looksAll : Int32) (mo_changes : Int32) (mo_rowsRead : Int32) (mo_secondMany : Int32) (mo_foundAt : Int32) (mo_foundLooks : Int32) (mo_foundLane : Int32) (mo_bestsDone : Int32) (mo_seenMany : Int32) (mo_seedNow : Int32) (mo_keptRow : Int32) (mo_keptMany : Int32) (mo_keptSecond : Int32) (mo_keptAsked : Int32) (mo_keptLooks : Int32) (mo_keptChanges : Int32) (mo_keptSeen : Int32) (mo_hash : Int64) (mkeys_a : Nat → Int32) (mheights_a : Nat → Int32) (a : Int32) (g_0 : 0 ≤ mo_pageMany.toInt ∧ mo_pageMany.toInt ≤ 44) (g_1 : 0 ≤ mo_many.toInt ∧ mo_many.toInt ≤ 8) (g_2 : 0 ≤ mo_secondMany.toInt ∧ mo_secondMany.toInt ≤ 8) (g_3 : (-1) ≤ mo_foundAt.toInt ∧ mo_foundAt.toInt ≤ 7) (g_4 : 0 ≤ mo_seenMany.toInt ∧ mo_seenMany.toInt ≤ 6) (g_5 : 0 ≤ mo_keptMany.toInt ∧ mo_keptMany.toInt ≤ 8) (g_6 : 0 ≤ mo_keptSecond.toInt ∧ mo_keptSecond.toInt ≤ 8) (g_7 : 0 ≤ mo_keptSeen.toInt ∧ mo_keptSeen.toInt ≤ 6) : wk_Cv l yX12_lookFor cX12_lookFor 2 none { frames := 2, cells := 0, slots := 0, locals := 50 } D cy [.ref mo, .int a] [(mo, .inr (12, [.ref mpage, .int mo_pageMany, .int mo_law, .int mo_many, .int mo_asked, .int mo_looksAll, .int mo_changes, .int mo_rowsRead, .ref mkeys, .ref mvalues, .ref mheights, .ref mheats, .int mo_secondMany, .ref msecondKeys, .ref msecondValues, .ref msecondHeights, .ref msecondHeats, .int mo_foundAt, .int mo_foundLooks, .int mo_foundLane, .int mo_bestsDone, .ref msaved, .ref mbestHeights, .int mo_seenMany, .ref msights, .ref mby, .int mo_seedNow, .int mo_keptRow, .int mo_keptMany, .int mo_keptSecond, .int mo_keptAsked, .int mo_keptLooks, .int mo_keptChanges, .int mo_keptSeen, .ref mkeptKeys, .ref mkeptValues, .ref mkeptHeights, .ref mkeptHeats, .ref mkeptKeys2, .ref mkeptValues2, .ref mkeptHeights2, .ref mkeptHeats2, .ref mkeptSights, .long mo_hash])), (mkeys, .inl (cy, 8, .inl mkeys_a)), (mheights, .inl (cy, 8, .inl mheights_a))] 0 0 (fun (u : Int32 × Int32 × Int32) => u = (fn_X12_lookFor mo_many mo_foundAt mo_foundLooks mo_foundLane mkeys_a mheights_a a) ∧ ((-1) ≤ u.1.toInt ∧ u.1.toInt ≤ 7)) (fun u => [(mo, .inr (12, [.ref mpage, .int mo_pageMany, .int mo_law, .int mo_many, .int mo_asked, .int mo_looksAll, .int mo_changes, .int mo_rowsRead, .ref mkeys, .ref mvalues, .ref mheights, .ref mheats, .int mo_secondMany, .ref msecondKeys, .ref msecondValues, .ref msecondHeights, .ref msecondHeats, .int u.1, .int u.2.1, .int u.2.2, .int mo_bestsDone, .ref msaved, .ref mbestHeights, .int mo_seenMany, .ref msights, .ref mby, .int mo_seedNow, .int mo_keptRow, .int mo_keptMany, .int mo_keptSecond, .int mo_keptAsked, .int mo_keptLooks, .int mo_keptChanges, .int mo_keptSeen, .ref mkeptKeys, .ref mkeptValues, .ref mkeptHeights, .ref mkeptHeats, .ref mkeptKeys2, .ref mkeptValues2, .ref mkeptHeights2, .ref mkeptHeats2, .ref mkeptSights, .long mo_hash])), (mkeys, .inl (cy, 8, .inl mkeys_a)), (mheights, .inl (cy, 8, .inl mheights_a))]) := by
  refine wk_mk2Cv (by decide) (Nat.le_of_ble_eq_true rfl) ?_
  intro p e s m args below meth c A ls Q B hA hK hP hD hS hl hret
  obtain ⟨hx, hb, hr, hlocks, hml, hown, htb, hin⟩ := B
  have hl : lv_has ls 2 [(0, .ref mo), (1, .int a)] := hl
  have hF : (fn_X12_lookFor mo_many mo_foundAt mo_foundLooks mo_foundLane mkeys_a mheights_a a) = (fn_X12_lookFor mo_many mo_foundAt mo_foundLooks mo_foundLane mkeys_a mheights_a a) := rfl
  conv at hF => rhs; unfold fn_X12_lookFor
  refine lv_aload_n hx hb dX12_lookFor_0 rfl (lv_at hl 0 rfl) ?_
  refine lv_iconst (v := (-1)) hx hb dX12_lookFor_1 (by decide) ?_
  refine lv_aload_n hx hb dX12_lookFor_2 rfl (lv_at hl 0 rfl) ?_
  refine wk_iV (As := []) (rest := [.int (-1), .ref mo]) (wc := [(mo, .inr (12, [.ref mpage, .int mo_pageMany, .int mo_law, .int mo_many, .int mo_asked, .int mo_looksAll, .int mo_changes, .int mo_rowsRead, .ref mkeys, .ref mvalues, .ref mheights, .ref mheats, .int mo_secondMany, .ref msecondKeys, .ref msecondValues, .ref msecondHeights, .ref msecondHeats, .int mo_foundAt, .int mo_foundLooks, .int mo_foundLane, .int mo_bestsDone, .ref msaved, .ref mbestHeights, .int mo_seenMany, .ref msights, .ref mby, .int mo_seedNow, .int mo_keptRow, .int mo_keptMany, .int mo_keptSecond, .int mo_keptAsked, .int mo_keptLooks, .int mo_keptChanges, .int mo_keptSeen, .ref mkeptKeys, .ref mkeptValues, .ref mkeptHeights, .ref mkeptHeats, .ref mkeptKeys2, .ref mkeptValues2, .ref mkeptHeights2, .ref mkeptHeats2, .ref mkeptSights, .long mo_hash])), (mheights, .inl (cy, 8, .inl mheights_a))]) (wr := [(mkeys, .inl (cy, 8, .inl mkeys_a))]) (n := 0) ⟨hx, hb, hml, hown, htb⟩ (c_X12_lanes l D cy mo mpage mkeys mvalues mheights mheats msecondKeys msecondValues msecondHeights msecondHeats msaved mbestHeights msights mby mkeptKeys mkeptValues mkeptHeights mkeptHeats mkeptKeys2 mkeptValues2 mkeptHeights2 mkeptHeats2 mkeptSights mo_pageMany mo_law mo_many mo_asked mo_looksAll mo_changes mo_rowsRead mo_secondMany mo_foundAt mo_foundLooks mo_foundLane mo_bestsDone mo_seenMany mo_seedNow mo_keptRow mo_keptMany mo_keptSecond mo_keptAsked mo_keptLooks mo_keptChanges mo_keptSeen mo_hash mheights_a  (show 0 ≤ mo_pageMany.toInt ∧ mo_pageMany.toInt ≤ 44 from by omega) (show 0 ≤ mo_many.toInt ∧ mo_many.toInt ≤ 8 from by omega) (show 0 ≤ mo_secondMany.toInt ∧ mo_secondMany.toInt ≤ 8 from by omega) (show (-1) ≤ mo_foundAt.toInt ∧ mo_foundAt.toInt ≤ 7 from by omega) (show 0 ≤ mo_seenMany.toInt ∧ mo_seenMany.toInt ≤ 6 from by omega) (show 0 ≤ mo_keptMany.toInt ∧ mo_keptMany.toInt ≤ 8 from by omega) (show 0 ≤ mo_keptSecond.toInt ∧ mo_keptSecond.toInt ≤ 8 from by omega) (show 0 ≤ mo_keptSeen.toInt ∧ mo_keptSeen.toInt ≤ 6 from by omega)) tw_977 tw_974 tw_976 tw_31 tw_71 rfl rfl (by decide +kernel) ⟨Nat.le_of_ble_eq_true rfl, Nat.le_of_ble_eq_true rfl⟩ hK hP hD hS hA [0, 2] [1] rfl rfl rfl rfl (by decide) 0 (ci := 12) rfl rfl rfl hl.1 rfl (Nat.le_of_ble_eq_true rfl) dX12_lookFor_3 ⟨Nat.le_of_ble_eq_true rfl, Nat.le_of_ble_eq_true rfl⟩ (fun r_1 u_2 H locs hw_3 hP hD hS => ?_)
  refine W.widen (k := 0) (n := 0) (by decide) (by decide) ?_
  have hw_3 : r_1 = (fn_X12_lanes mo_many mheights_a) := hw_3
  subst hw_3
  have hP : va_P D classes [(mkeys, .inl (cy, 8, .inl mkeys_a)), (mo, .inr (12, [.ref mpage, .int mo_pageMany, .int mo_law, .int mo_many, .int mo_asked, .int mo_looksAll, .int mo_changes, .int mo_rowsRead, .ref mkeys, .ref mvalues, .ref mheights, .ref mheats, .int mo_secondMany, .ref msecondKeys, .ref msecondValues, .ref msecondHeights, .ref msecondHeats, .int mo_foundAt, .int mo_foundLooks, .int mo_foundLane, .int mo_bestsDone, .ref msaved, .ref mbestHeights, .int mo_seenMany, .ref msights, .ref mby, .int mo_seedNow, .int mo_keptRow, .int mo_keptMany, .int mo_keptSecond, .int mo_keptAsked, .int mo_keptLooks, .int mo_keptChanges, .int mo_keptSeen, .ref mkeptKeys, .ref mkeptValues, .ref mkeptHeights, .ref mkeptHeats, .ref mkeptKeys2, .ref mkeptValues2, .ref mkeptHeights2, .ref mkeptHeats2, .ref mkeptSights, .long mo_hash])), (mheights, .inl (cy, 8, .inl mheights_a))] H := hP
  have hD : va_D A [(mkeys, .inl (cy, 8, .inl mkeys_a)), (mo, .inr (12, [.ref mpage, .int mo_pageMany, .int mo_law, .int mo_many, .int mo_asked, .int mo_looksAll, .int mo_changes, .int mo_rowsRead, .ref mkeys, .ref mvalues, .ref mheights, .ref mheats, .int mo_secondMany, .ref msecondKeys, .ref msecondValues, .ref msecondHeights, .ref msecondHeats, .int mo_foundAt, .int mo_foundLooks, .int mo_foundLane, .int mo_bestsDone, .ref msaved, .ref mbestHeights, .int mo_seenMany, .ref msights, .ref mby, .int mo_seedNow, .int mo_keptRow, .int mo_keptMany, .int mo_keptSecond, .int mo_keptAsked, .int mo_keptLooks, .int mo_keptChanges, .int mo_keptSeen, .ref mkeptKeys, .ref mkeptValues, .ref mkeptHeights, .ref mkeptHeats, .ref mkeptKeys2, .ref mkeptValues2, .ref mkeptHeights2, .ref mkeptHeats2, .ref mkeptSights, .long mo_hash])), (mheights, .inl (cy, 8, .inl mheights_a))] := hD
  refine lv_iconst (v := 1) hx hb dX12_lookFor_6 (by decide) ?_
  refine lv_isub hx hb dX12_lookFor_7 ?_
  refine lv_iload_n hx hb dX12_lookFor_8 rfl (lv_at hl 1 rfl) ?_
  refine lv_iconst (v := 0) hx hb dX12_lookFor_9 (by decide) ?_
  refine wk_vV (As := [.int (-1), .int ((fn_X12_lanes mo_many mheights_a) - 1), .int a, .int 0]) (rest := []) (wc := [(mo, .inr (12, [.ref mpage, .int mo_pageMany, .int mo_law, .int mo_many, .int mo_asked, .int mo_looksAll, .int mo_changes, .int mo_rowsRead, .ref mkeys, .ref mvalues, .ref mheights, .ref mheats, .int mo_secondMany, .ref msecondKeys, .ref msecondValues, .ref msecondHeights, .ref msecondHeats, .int mo_foundAt, .int mo_foundLooks, .int mo_foundLane, .int mo_bestsDone, .ref msaved, .ref mbestHeights, .int mo_seenMany, .ref msights, .ref mby, .int mo_seedNow, .int mo_keptRow, .int mo_keptMany, .int mo_keptSecond, .int mo_keptAsked, .int mo_keptLooks, .int mo_keptChanges, .int mo_keptSeen, .ref mkeptKeys, .ref mkeptValues, .ref mkeptHeights, .ref mkeptHeats, .ref mkeptKeys2, .ref mkeptValues2, .ref mkeptHeights2, .ref mkeptHeats2, .ref mkeptSights, .long mo_hash])), (mkeys, .inl (cy, 8, .inl mkeys_a)), (mheights, .inl (cy, 8, .inl mheights_a))]) (wr := []) (n := 4) ⟨hx, hb, hml, hown, htb⟩ (c_X12_look l D cy mo mpage mkeys mvalues mheights mheats msecondKeys msecondValues msecondHeights msecondHeats msaved mbestHeights msights mby mkeptKeys mkeptValues mkeptHeights mkeptHeats mkeptKeys2 mkeptValues2 mkeptHeights2 mkeptHeats2 mkeptSights mo_pageMany mo_law mo_many mo_asked mo_looksAll mo_changes mo_rowsRead mo_secondMany mo_foundAt mo_foundLooks mo_foundLane mo_bestsDone mo_seenMany mo_seedNow mo_keptRow mo_keptMany mo_keptSecond mo_keptAsked mo_keptLooks mo_keptChanges mo_keptSeen mo_hash mkeys_a mheights_a (-1) ((fn_X12_lanes mo_many mheights_a) - 1) a 0 (show 0 ≤ mo_pageMany.toInt ∧ mo_pageMany.toInt ≤ 44 from by omega) (show 0 ≤ mo_many.toInt ∧ mo_many.toInt ≤ 8 from by omega) (show 0 ≤ mo_secondMany.toInt ∧ mo_secondMany.toInt ≤ 8 from by omega) (show (-1) ≤ mo_foundAt.toInt ∧ mo_foundAt.toInt ≤ 7 from by omega) (show 0 ≤ mo_seenMany.toInt ∧ mo_seenMany.toInt ≤ 6 from by omega) (show 0 ≤ mo_keptMany.toInt ∧ mo_keptMany.toInt ≤ 8 from by omega) (show 0 ≤ mo_keptSecond.toInt ∧ mo_keptSecond.toInt ≤ 8 from by omega) (show 0 ≤ mo_keptSeen.toInt ∧ mo_keptSeen.toInt ≤ 6 from by omega) (show (-1) ≤ (-1) ∧ (-1) ≤ 7 from by omega)) tw_981 tw_978 tw_980 tw_32 tw_71 rfl rfl (by decide +kernel) ⟨Nat.le_of_ble_eq_true rfl, Nat.le_of_ble_eq_true rfl⟩ hK hP hD hS hA [1, 0, 2] [] rfl rfl rfl rfl (by decide) 0 (ci := 12) rfl rfl rfl hl.1 rfl (Nat.le_of_ble_eq_true rfl) dX12_lookFor_10 ⟨Nat.le_of_ble_eq_true rfl, Nat.le_of_ble_eq_true rfl⟩ (fun u_5 H locs hw_6 hP hD hS => ?_)
  refine W.widen (k := 0) (n := 0) (by decide) (by decide) ?_
  obtain ⟨o_7, o_8, o_9⟩ := u_5
  obtain ⟨hw_6, k_10⟩ := hw_6
  have hw_6 : (o_7, o_8, o_9) = (fn_X12_look mo_many mo_foundAt mo_foundLooks mo_foundLane mkeys_a mheights_a (-1) ((fn_X12_lanes mo_many mheights_a) - 1) a 0) := hw_6
  have k_10 : ((-1) ≤ o_7.toInt ∧ o_7.toInt ≤ 7) := k_10
  rw [← hw_6] at hF
  rw [pm2_mk o_7 (o_8, o_9), pm2_mk o_8 o_9] at hF
  have hP : va_P D classes [(mo, .inr (12, [.ref mpage, .int mo_pageMany, .int mo_law, .int mo_many, .int mo_asked, .int mo_looksAll, .int mo_changes, .int mo_rowsRead, .ref mkeys, .ref mvalues, .ref mheights, .ref mheats, .int mo_secondMany, .ref msecondKeys, .ref msecondValues, .ref msecondHeights, .ref msecondHeats, .int o_7, .int o_8, .int o_9, .int mo_bestsDone, .ref msaved, .ref mbestHeights, .int mo_seenMany, .ref msights, .ref mby, .int mo_seedNow, .int mo_keptRow, .int mo_keptMany, .int mo_keptSecond, .int mo_keptAsked, .int mo_keptLooks, .int mo_keptChanges, .int mo_keptSeen, .ref mkeptKeys, .ref mkeptValues, .ref mkeptHeights, .ref mkeptHeats, .ref mkeptKeys2, .ref mkeptValues2, .ref mkeptHeights2, .ref mkeptHeats2, .ref mkeptSights, .long mo_hash])), (mkeys, .inl (cy, 8, .inl mkeys_a)), (mheights, .inl (cy, 8, .inl mheights_a))] H := hP
  have hD : va_D A [(mo, .inr (12, [.ref mpage, .int mo_pageMany, .int mo_law, .int mo_many, .int mo_asked, .int mo_looksAll, .int mo_changes, .int mo_rowsRead, .ref mkeys, .ref mvalues, .ref mheights, .ref mheats, .int mo_secondMany, .ref msecondKeys, .ref msecondValues, .ref msecondHeights, .ref msecondHeats, .int o_7, .int o_8, .int o_9, .int mo_bestsDone, .ref msaved, .ref mbestHeights, .int mo_seenMany, .ref msights, .ref mby, .int mo_seedNow, .int mo_keptRow, .int mo_keptMany, .int mo_keptSecond, .int mo_keptAsked, .int mo_keptLooks, .int mo_keptChanges, .int mo_keptSeen, .ref mkeptKeys, .ref mkeptValues, .ref mkeptHeights, .ref mkeptHeats, .ref mkeptKeys2, .ref mkeptValues2, .ref mkeptHeights2, .ref mkeptHeats2, .ref mkeptSights, .long mo_hash])), (mkeys, .inl (cy, 8, .inl mkeys_a)), (mheights, .inl (cy, 8, .inl mheights_a))] := hD
  refine W.widen (k := 0) (n := 0) (by decide) (by decide) ?_
  exact hret (o_7, o_8, o_9) _ _ _ 13 (wk_sub9 (is := [0, 1, 2]) hP rfl) (hD.sub [0, 1, 2] rfl rfl) hS dX12_lookFor_13 ⟨hF.symm, (show ((-1) ≤ o_7.toInt ∧ o_7.toInt ≤ 7) from by omega)⟩
def fn_X12_looksFor (mo_many : Int32) (mo_foundAt : Int32) (mo_foundLooks : Int32) (mo_foundLane : Int32) (mkeys_a : Nat → Int32) (mheights_a : Nat → Int32) (a : Int32) : Int32 × Int32 × Int32 × Int32 := (pm2 (fn_X12_lookFor mo_many mo_foundAt mo_foundLooks mo_foundLane mkeys_a mheights_a a) (fun o_4 t_ => (pm2 (t_) (fun o_5 o_6 => (o_5, o_4, o_5, o_6)))))
theorem dX12_looksFor_0 : decode cX12_looksFor 0 = .ok (.aload_n 0, 1) := by decide +kernel
theorem dX12_looksFor_1 : decode cX12_looksFor 1 = .ok (.iload_n 1, 1) := by decide +kernel
theorem dX12_looksFor_2 : decode cX12_looksFor 2 = .ok (.invokevirtual 174, 3) := by decide +kernel
theorem dX12_looksFor_5 : decode cX12_looksFor 5 = .ok (.aload_n 0, 1) := by decide +kernel
theorem dX12_looksFor_6 : decode cX12_looksFor 6 = .ok (.getfield 161, 3) := by decide +kernel
theorem dX12_looksFor_9 : decode cX12_looksFor 9 = .ok (.ireturn, 1) := by decide +kernel
set_option maxHeartbeats 4000000 in
set_option maxRecDepth 100000 in
theorem c_X12_looksFor (l : Launch) (D : va_G) (cy : ClassId) (mo mpage mkeys mvalues mheights mheats msecondKeys msecondValues msecondHeights msecondHeats msaved mbestHeights msights mby mkeptKeys mkeptValues mkeptHeights mkeptHeats mkeptKeys2 mkeptValues2 mkeptHeights2 mkeptHeats2 mkeptSights : Nat) (mo_pageMany : Int32) (mo_law : Int32) (mo_many : Int32) (mo_asked : Int32) (mo_looksAll : Int32) (mo_changes : Int32) (mo_rowsRead : Int32) (mo_secondMany : Int32) (mo_foundAt : Int32) (mo_foundLooks : Int32) (mo_foundLane : Int32) (mo_bestsDone : Int32) (mo_seenMany : Int32) (mo_seedNow : Int32) (mo_keptRow : Int32) (mo_keptMany : Int32) (mo_keptSecond : Int32) (mo_keptAsked : Int32) (mo_keptLooks : Int32) (mo_keptChanges : Int32) (mo_keptSeen : Int32) (mo_hash : Int64) (mkeys_a : Nat → Int32) (mheights_a : Nat → Int32) (a : Int32) (g_0 : 0 ≤ mo_pageMany.toInt ∧ mo_pageMany.toInt ≤ 44) (g_1 : 0 ≤ mo_many.toInt ∧ mo_many.toInt ≤ 8) (g_2 : 0 ≤ mo_secondMany.toInt ∧ mo_secondMany.toInt ≤ 8) (g_3 : (-1) ≤ mo_foundAt.toInt ∧ mo_foundAt.toInt ≤ 7) (g_4 : 0 ≤ mo_seenMany.toInt ∧ mo_seenMany.toInt ≤ 6) (g_5 : 0 ≤ mo_keptMany.toInt ∧ mo_keptMany.toInt ≤ 8) (g_6 : 0 ≤ mo_keptSecond.toInt ∧ mo_keptSecond.toInt ≤ 8) (g_7 : 0 ≤ mo_keptSeen.toInt ∧ mo_keptSeen.toInt ≤ 6) : wk_Ci l yX12_looksFor cX12_looksFor 2 (some .int) { frames := 3, cells := 0, slots := 0, locals := 71 } D cy [.ref mo, .int a] [(mo, .inr (12, [.ref mpage, .int mo_pageMany, .int mo_law, .int mo_many, .int mo_asked, .int mo_looksAll, .int mo_changes, .int mo_rowsRead, .ref mkeys, .ref mvalues, .ref mheights, .ref mheats, .int mo_secondMany, .ref msecondKeys, .ref msecondValues, .ref msecondHeights, .ref msecondHeats, .int mo_foundAt, .int mo_foundLooks, .int mo_foundLane, .int mo_bestsDone, .ref msaved, .ref mbestHeights, .int mo_seenMany, .ref msights, .ref mby, .int mo_seedNow, .int mo_keptRow, .int mo_keptMany, .int mo_keptSecond, .int mo_keptAsked, .int mo_keptLooks, .int mo_keptChanges, .int mo_keptSeen, .ref mkeptKeys, .ref mkeptValues, .ref mkeptHeights, .ref mkeptHeats, .ref mkeptKeys2, .ref mkeptValues2, .ref mkeptHeights2, .ref mkeptHeats2, .ref mkeptSights, .long mo_hash])), (mkeys, .inl (cy, 8, .inl mkeys_a)), (mheights, .inl (cy, 8, .inl mheights_a))] 0 0 (fun (r : Int32) (u : Int32 × Int32 × Int32) => (r, u) = (fn_X12_looksFor mo_many mo_foundAt mo_foundLooks mo_foundLane mkeys_a mheights_a a) ∧ ((-1) ≤ u.1.toInt ∧ u.1.toInt ≤ 7)) (fun u => [(mo, .inr (12, [.ref mpage, .int mo_pageMany, .int mo_law, .int mo_many, .int mo_asked, .int mo_looksAll, .int mo_changes, .int mo_rowsRead, .ref mkeys, .ref mvalues, .ref mheights, .ref mheats, .int mo_secondMany, .ref msecondKeys, .ref msecondValues, .ref msecondHeights, .ref msecondHeats, .int u.1, .int u.2.1, .int u.2.2, .int mo_bestsDone, .ref msaved, .ref mbestHeights, .int mo_seenMany, .ref msights, .ref mby, .int mo_seedNow, .int mo_keptRow, .int mo_keptMany, .int mo_keptSecond, .int mo_keptAsked, .int mo_keptLooks, .int mo_keptChanges, .int mo_keptSeen, .ref mkeptKeys, .ref mkeptValues, .ref mkeptHeights, .ref mkeptHeats, .ref mkeptKeys2, .ref mkeptValues2, .ref mkeptHeights2, .ref mkeptHeats2, .ref mkeptSights, .long mo_hash])), (mkeys, .inl (cy, 8, .inl mkeys_a)), (mheights, .inl (cy, 8, .inl mheights_a))]) := by
  refine wk_mk2Ci (by decide) (Nat.le_of_ble_eq_true rfl) ?_
  intro p e s m args below meth c A ls Q B hA hK hP hD hS hl hret
  obtain ⟨hx, hb, hr, hlocks, hml, hown, htb, hin⟩ := B
  have hl : lv_has ls 2 [(0, .ref mo), (1, .int a)] := hl
  have hF : (fn_X12_looksFor mo_many mo_foundAt mo_foundLooks mo_foundLane mkeys_a mheights_a a) = (fn_X12_looksFor mo_many mo_foundAt mo_foundLooks mo_foundLane mkeys_a mheights_a a) := rfl
  conv at hF => rhs; unfold fn_X12_looksFor
  refine lv_aload_n hx hb dX12_looksFor_0 rfl (lv_at hl 0 rfl) ?_
  refine lv_iload_n hx hb dX12_looksFor_1 rfl (lv_at hl 1 rfl) ?_
  refine wk_vV (As := [.int a]) (rest := []) (wc := [(mo, .inr (12, [.ref mpage, .int mo_pageMany, .int mo_law, .int mo_many, .int mo_asked, .int mo_looksAll, .int mo_changes, .int mo_rowsRead, .ref mkeys, .ref mvalues, .ref mheights, .ref mheats, .int mo_secondMany, .ref msecondKeys, .ref msecondValues, .ref msecondHeights, .ref msecondHeats, .int mo_foundAt, .int mo_foundLooks, .int mo_foundLane, .int mo_bestsDone, .ref msaved, .ref mbestHeights, .int mo_seenMany, .ref msights, .ref mby, .int mo_seedNow, .int mo_keptRow, .int mo_keptMany, .int mo_keptSecond, .int mo_keptAsked, .int mo_keptLooks, .int mo_keptChanges, .int mo_keptSeen, .ref mkeptKeys, .ref mkeptValues, .ref mkeptHeights, .ref mkeptHeats, .ref mkeptKeys2, .ref mkeptValues2, .ref mkeptHeights2, .ref mkeptHeats2, .ref mkeptSights, .long mo_hash])), (mkeys, .inl (cy, 8, .inl mkeys_a)), (mheights, .inl (cy, 8, .inl mheights_a))]) (wr := []) (n := 1) ⟨hx, hb, hml, hown, htb⟩ (c_X12_lookFor l D cy mo mpage mkeys mvalues mheights mheats msecondKeys msecondValues msecondHeights msecondHeats msaved mbestHeights msights mby mkeptKeys mkeptValues mkeptHeights mkeptHeats mkeptKeys2 mkeptValues2 mkeptHeights2 mkeptHeats2 mkeptSights mo_pageMany mo_law mo_many mo_asked mo_looksAll mo_changes mo_rowsRead mo_secondMany mo_foundAt mo_foundLooks mo_foundLane mo_bestsDone mo_seenMany mo_seedNow mo_keptRow mo_keptMany mo_keptSecond mo_keptAsked mo_keptLooks mo_keptChanges mo_keptSeen mo_hash mkeys_a mheights_a a (show 0 ≤ mo_pageMany.toInt ∧ mo_pageMany.toInt ≤ 44 from by omega) (show 0 ≤ mo_many.toInt ∧ mo_many.toInt ≤ 8 from by omega) (show 0 ≤ mo_secondMany.toInt ∧ mo_secondMany.toInt ≤ 8 from by omega) (show (-1) ≤ mo_foundAt.toInt ∧ mo_foundAt.toInt ≤ 7 from by omega) (show 0 ≤ mo_seenMany.toInt ∧ mo_seenMany.toInt ≤ 6 from by omega) (show 0 ≤ mo_keptMany.toInt ∧ mo_keptMany.toInt ≤ 8 from by omega) (show 0 ≤ mo_keptSecond.toInt ∧ mo_keptSecond.toInt ≤ 8 from by omega) (show 0 ≤ mo_keptSeen.toInt ∧ mo_keptSeen.toInt ≤ 6 from by omega)) tw_973 tw_970 tw_972 tw_30 tw_71 rfl rfl (by decide +kernel) ⟨Nat.le_of_ble_eq_true rfl, Nat.le_of_ble_eq_true rfl⟩ hK hP hD hS hA [0, 1, 2] [] rfl rfl rfl rfl (by decide) 0 (ci := 12) rfl rfl rfl hl.1 rfl (Nat.le_of_ble_eq_true rfl) dX12_looksFor_2 ⟨Nat.le_of_ble_eq_true rfl, Nat.le_of_ble_eq_true rfl⟩ (fun u_2 H locs hw_3 hP hD hS => ?_)
  refine W.widen (k := 0) (n := 0) (by decide) (by decide) ?_
  obtain ⟨o_4, o_5, o_6⟩ := u_2
  obtain ⟨hw_3, k_7⟩ := hw_3
  have hw_3 : (o_4, o_5, o_6) = (fn_X12_lookFor mo_many mo_foundAt mo_foundLooks mo_foundLane mkeys_a mheights_a a) := hw_3
  have k_7 : ((-1) ≤ o_4.toInt ∧ o_4.toInt ≤ 7) := k_7
  rw [← hw_3] at hF
  rw [pm2_mk o_4 (o_5, o_6), pm2_mk o_5 o_6] at hF
  have hP : va_P D classes [(mo, .inr (12, [.ref mpage, .int mo_pageMany, .int mo_law, .int mo_many, .int mo_asked, .int mo_looksAll, .int mo_changes, .int mo_rowsRead, .ref mkeys, .ref mvalues, .ref mheights, .ref mheats, .int mo_secondMany, .ref msecondKeys, .ref msecondValues, .ref msecondHeights, .ref msecondHeats, .int o_4, .int o_5, .int o_6, .int mo_bestsDone, .ref msaved, .ref mbestHeights, .int mo_seenMany, .ref msights, .ref mby, .int mo_seedNow, .int mo_keptRow, .int mo_keptMany, .int mo_keptSecond, .int mo_keptAsked, .int mo_keptLooks, .int mo_keptChanges, .int mo_keptSeen, .ref mkeptKeys, .ref mkeptValues, .ref mkeptHeights, .ref mkeptHeats, .ref mkeptKeys2, .ref mkeptValues2, .ref mkeptHeights2, .ref mkeptHeats2, .ref mkeptSights, .long mo_hash])), (mkeys, .inl (cy, 8, .inl mkeys_a)), (mheights, .inl (cy, 8, .inl mheights_a))] H := hP
  have hD : va_D A [(mo, .inr (12, [.ref mpage, .int mo_pageMany, .int mo_law, .int mo_many, .int mo_asked, .int mo_looksAll, .int mo_changes, .int mo_rowsRead, .ref mkeys, .ref mvalues, .ref mheights, .ref mheats, .int mo_secondMany, .ref msecondKeys, .ref msecondValues, .ref msecondHeights, .ref msecondHeats, .int o_4, .int o_5, .int o_6, .int mo_bestsDone, .ref msaved, .ref mbestHeights, .int mo_seenMany, .ref msights, .ref mby, .int mo_seedNow, .int mo_keptRow, .int mo_keptMany, .int mo_keptSecond, .int mo_keptAsked, .int mo_keptLooks, .int mo_keptChanges, .int mo_keptSeen, .ref mkeptKeys, .ref mkeptValues, .ref mkeptHeights, .ref mkeptHeats, .ref mkeptKeys2, .ref mkeptValues2, .ref mkeptHeights2, .ref mkeptHeats2, .ref mkeptSights, .long mo_hash])), (mkeys, .inl (cy, 8, .inl mkeys_a)), (mheights, .inl (cy, 8, .inl mheights_a))] := hD
  refine lv_aload_n hx hb dX12_looksFor_5 rfl (lv_at hl 0 rfl) ?_
  refine va_get (D := D) (ci := 12) (v := .int o_5) (C := RX12) (T := TX12) (N := 44) hx hb htb inX12 hown hK hP 0 rfl rfl 18 (by decide) (htb _ tw_781) (fun _ h9 => h9) rfl dX12_looksFor_6 ?_
  refine W.widen (k := 0) (n := 0) (by decide) (by decide) ?_
  exact hret o_5 (o_4, o_5, o_6) _ _ _ 9 (wk_sub9 (is := [0, 1, 2]) hP rfl) (hD.sub [0, 1, 2] rfl rfl) hS dX12_looksFor_9 ⟨hF.symm, (show ((-1) ≤ o_4.toInt ∧ o_4.toInt ≤ 7) from by omega)⟩
def lp_X12_lookNumber_24 (mo_many : Int32) (mo_foundAt : Int32) (mo_foundLooks : Int32) (mo_foundLane : Int32) (mheights_a : Nat → Int32) (a : Int32) : Nat → Int32 → Int32 → Int32 → Int32 → Int32 → Int32 × Int32 × Int32 × Int32 × Int32
  | 0, _, _, _, _, _ => default
  | fu_24 + 1, x2_24, x3_24, mo_foundAt_24, mo_foundLooks_24, mo_foundLane_24 => (if x3_24 < 0 then (x2_24, x3_24, mo_foundAt_24, mo_foundLooks_24, mo_foundLane_24) else (if mo_foundAt_24 = (-1) then (if (fn_X12_nextIn mo_many mheights_a x2_24 x3_24) = (-1) then (if (fn_X12_nextIn mo_many mheights_a x2_24 x3_24) = a then (lp_X12_lookNumber_24 mo_many mo_foundAt mo_foundLooks mo_foundLane mheights_a a fu_24 x2_24 x3_24 (fn_X12_nextIn mo_many mheights_a x2_24 x3_24) (mo_foundLooks_24 + 0) x3_24) else (if (fn_X12_nextIn mo_many mheights_a x2_24 x3_24) = (-1) then (lp_X12_lookNumber_24 mo_many mo_foundAt mo_foundLooks mo_foundLane mheights_a a fu_24 x2_24 (x3_24 + (-1)) mo_foundAt_24 (mo_foundLooks_24 + 0) mo_foundLane_24) else default)) else (if (fn_X12_nextIn mo_many mheights_a x2_24 x3_24) = a then (lp_X12_lookNumber_24 mo_many mo_foundAt mo_foundLooks mo_foundLane mheights_a a fu_24 x2_24 x3_24 (fn_X12_nextIn mo_many mheights_a x2_24 x3_24) (mo_foundLooks_24 + 1) x3_24) else (if (fn_X12_nextIn mo_many mheights_a x2_24 x3_24) = (-1) then default else (if a ≤ (fn_X12_nextIn mo_many mheights_a x2_24 x3_24) then (lp_X12_lookNumber_24 mo_many mo_foundAt mo_foundLooks mo_foundLane mheights_a a fu_24 x2_24 (x3_24 + (-1)) mo_foundAt_24 (mo_foundLooks_24 + 1) mo_foundLane_24) else (lp_X12_lookNumber_24 mo_many mo_foundAt mo_foundLooks mo_foundLane mheights_a a fu_24 (fn_X12_nextIn mo_many mheights_a x2_24 x3_24) x3_24 mo_foundAt_24 (mo_foundLooks_24 + 1) mo_foundLane_24))))) else (x2_24, x3_24, mo_foundAt_24, mo_foundLooks_24, mo_foundLane_24)))
termination_by n => n
def fn_X12_lookNumber (mo_many : Int32) (mo_foundAt : Int32) (mo_foundLooks : Int32) (mo_foundLane : Int32) (mheights_a : Nat → Int32) (a : Int32) : Int32 × Int32 × Int32 := (pm2 (lp_X12_lookNumber_24 mo_many mo_foundAt mo_foundLooks mo_foundLane mheights_a a 42949672960 (-1) ((fn_X12_lanes mo_many mheights_a) - 1) (-1) 0 (-1)) (fun x2_24 t_ => (pm2 (t_) (fun x3_24 t_ => (pm2 (t_) (fun mo_foundAt_24 t_ => (pm2 (t_) (fun mo_foundLooks_24 mo_foundLane_24 => (mo_foundAt_24, mo_foundLooks_24, mo_foundLane_24)))))))))
theorem dX12_lookNumber_0 : decode cX12_lookNumber 0 = .ok (.iconst (-1), 1) := by decide +kernel
theorem dX12_lookNumber_1 : decode cX12_lookNumber 1 = .ok (.istore_n 2, 1) := by decide +kernel
theorem dX12_lookNumber_2 : decode cX12_lookNumber 2 = .ok (.aload_n 0, 1) := by decide +kernel
theorem dX12_lookNumber_3 : decode cX12_lookNumber 3 = .ok (.invokevirtual 167, 3) := by decide +kernel
theorem dX12_lookNumber_6 : decode cX12_lookNumber 6 = .ok (.iconst 1, 1) := by decide +kernel
theorem dX12_lookNumber_7 : decode cX12_lookNumber 7 = .ok (.isub, 1) := by decide +kernel
theorem dX12_lookNumber_8 : decode cX12_lookNumber 8 = .ok (.istore_n 3, 1) := by decide +kernel
theorem dX12_lookNumber_9 : decode cX12_lookNumber 9 = .ok (.aload_n 0, 1) := by decide +kernel
theorem dX12_lookNumber_10 : decode cX12_lookNumber 10 = .ok (.iconst (-1), 1) := by decide +kernel
theorem dX12_lookNumber_11 : decode cX12_lookNumber 11 = .ok (.putfield 158, 3) := by decide +kernel
theorem dX12_lookNumber_14 : decode cX12_lookNumber 14 = .ok (.aload_n 0, 1) := by decide +kernel
theorem dX12_lookNumber_15 : decode cX12_lookNumber 15 = .ok (.iconst 0, 1) := by decide +kernel
theorem dX12_lookNumber_16 : decode cX12_lookNumber 16 = .ok (.putfield 161, 3) := by decide +kernel
theorem dX12_lookNumber_19 : decode cX12_lookNumber 19 = .ok (.aload_n 0, 1) := by decide +kernel
theorem dX12_lookNumber_20 : decode cX12_lookNumber 20 = .ok (.iconst (-1), 1) := by decide +kernel
theorem dX12_lookNumber_21 : decode cX12_lookNumber 21 = .ok (.putfield 164, 3) := by decide +kernel
theorem dX12_lookNumber_24 : decode cX12_lookNumber 24 = .ok (.iload_n 3, 1) := by decide +kernel
theorem dX12_lookNumber_25 : decode cX12_lookNumber 25 = .ok (.ifCond .lt 83, 3) := by decide +kernel
theorem dX12_lookNumber_28 : decode cX12_lookNumber 28 = .ok (.aload_n 0, 1) := by decide +kernel
theorem dX12_lookNumber_29 : decode cX12_lookNumber 29 = .ok (.getfield 158, 3) := by decide +kernel
theorem dX12_lookNumber_32 : decode cX12_lookNumber 32 = .ok (.iconst (-1), 1) := by decide +kernel
theorem dX12_lookNumber_33 : decode cX12_lookNumber 33 = .ok (.if_icmp .ne 75, 3) := by decide +kernel
theorem dX12_lookNumber_36 : decode cX12_lookNumber 36 = .ok (.aload_n 0, 1) := by decide +kernel
theorem dX12_lookNumber_37 : decode cX12_lookNumber 37 = .ok (.iload_n 2, 1) := by decide +kernel
theorem dX12_lookNumber_38 : decode cX12_lookNumber 38 = .ok (.iload_n 3, 1) := by decide +kernel
theorem dX12_lookNumber_39 : decode cX12_lookNumber 39 = .ok (.invokevirtual 155, 3) := by decide +kernel
theorem dX12_lookNumber_42 : decode cX12_lookNumber 42 = .ok (.istore 4, 2) := by decide +kernel
theorem dX12_lookNumber_44 : decode cX12_lookNumber 44 = .ok (.aload_n 0, 1) := by decide +kernel
theorem dX12_lookNumber_45 : decode cX12_lookNumber 45 = .ok (.dup, 1) := by decide +kernel
theorem dX12_lookNumber_46 : decode cX12_lookNumber 46 = .ok (.getfield 161, 3) := by decide +kernel
theorem dX12_lookNumber_49 : decode cX12_lookNumber 49 = .ok (.iload 4, 2) := by decide +kernel
theorem dX12_lookNumber_51 : decode cX12_lookNumber 51 = .ok (.iconst (-1), 1) := by decide +kernel
theorem dX12_lookNumber_52 : decode cX12_lookNumber 52 = .ok (.if_icmp .ne 7, 3) := by decide +kernel
theorem dX12_lookNumber_55 : decode cX12_lookNumber 55 = .ok (.iconst 0, 1) := by decide +kernel
theorem dX12_lookNumber_56 : decode cX12_lookNumber 56 = .ok (.goto 4, 3) := by decide +kernel
theorem dX12_lookNumber_59 : decode cX12_lookNumber 59 = .ok (.iconst 1, 1) := by decide +kernel
theorem dX12_lookNumber_60 : decode cX12_lookNumber 60 = .ok (.iadd, 1) := by decide +kernel
theorem dX12_lookNumber_61 : decode cX12_lookNumber 61 = .ok (.putfield 161, 3) := by decide +kernel
theorem dX12_lookNumber_64 : decode cX12_lookNumber 64 = .ok (.iload 4, 2) := by decide +kernel
theorem dX12_lookNumber_66 : decode cX12_lookNumber 66 = .ok (.iload_n 1, 1) := by decide +kernel
theorem dX12_lookNumber_67 : decode cX12_lookNumber 67 = .ok (.if_icmp .ne 17, 3) := by decide +kernel
theorem dX12_lookNumber_70 : decode cX12_lookNumber 70 = .ok (.aload_n 0, 1) := by decide +kernel
theorem dX12_lookNumber_71 : decode cX12_lookNumber 71 = .ok (.iload 4, 2) := by decide +kernel
theorem dX12_lookNumber_73 : decode cX12_lookNumber 73 = .ok (.putfield 158, 3) := by decide +kernel
theorem dX12_lookNumber_76 : decode cX12_lookNumber 76 = .ok (.aload_n 0, 1) := by decide +kernel
theorem dX12_lookNumber_77 : decode cX12_lookNumber 77 = .ok (.iload_n 3, 1) := by decide +kernel
theorem dX12_lookNumber_78 : decode cX12_lookNumber 78 = .ok (.putfield 164, 3) := by decide +kernel
theorem dX12_lookNumber_81 : decode cX12_lookNumber 81 = .ok (.goto 24, 3) := by decide +kernel
theorem dX12_lookNumber_84 : decode cX12_lookNumber 84 = .ok (.iload 4, 2) := by decide +kernel
theorem dX12_lookNumber_86 : decode cX12_lookNumber 86 = .ok (.iconst (-1), 1) := by decide +kernel
theorem dX12_lookNumber_87 : decode cX12_lookNumber 87 = .ok (.if_icmp .eq 15, 3) := by decide +kernel
theorem dX12_lookNumber_90 : decode cX12_lookNumber 90 = .ok (.iload 4, 2) := by decide +kernel
theorem dX12_lookNumber_92 : decode cX12_lookNumber 92 = .ok (.iload_n 1, 1) := by decide +kernel
theorem dX12_lookNumber_93 : decode cX12_lookNumber 93 = .ok (.if_icmp .ge 9, 3) := by decide +kernel
theorem dX12_lookNumber_96 : decode cX12_lookNumber 96 = .ok (.iload 4, 2) := by decide +kernel
theorem dX12_lookNumber_98 : decode cX12_lookNumber 98 = .ok (.istore_n 2, 1) := by decide +kernel
theorem dX12_lookNumber_99 : decode cX12_lookNumber 99 = .ok (.goto 6, 3) := by decide +kernel
theorem dX12_lookNumber_102 : decode cX12_lookNumber 102 = .ok (.iinc 3 (-1), 3) := by decide +kernel
theorem dX12_lookNumber_105 : decode cX12_lookNumber 105 = .ok (.goto (-81), 3) := by decide +kernel
theorem dX12_lookNumber_108 : decode cX12_lookNumber 108 = .ok (.return_, 1) := by decide +kernel
set_option maxHeartbeats 4000000 in
set_option maxRecDepth 100000 in
theorem c_X12_lookNumber (l : Launch) (D : va_G) (cy : ClassId) (mo mpage mkeys mvalues mheights mheats msecondKeys msecondValues msecondHeights msecondHeats msaved mbestHeights msights mby mkeptKeys mkeptValues mkeptHeights mkeptHeats mkeptKeys2 mkeptValues2 mkeptHeights2 mkeptHeats2 mkeptSights : Nat) (mo_pageMany : Int32) (mo_law : Int32) (mo_many : Int32) (mo_asked : Int32) (mo_looksAll : Int32) (mo_changes : Int32) (mo_rowsRead : Int32) (mo_secondMany : Int32) (mo_foundAt : Int32) (mo_foundLooks : Int32) (mo_foundLane : Int32) (mo_bestsDone : Int32) (mo_seenMany : Int32) (mo_seedNow : Int32) (mo_keptRow : Int32) (mo_keptMany : Int32) (mo_keptSecond : Int32) (mo_keptAsked : Int32) (mo_keptLooks : Int32) (mo_keptChanges : Int32) (mo_keptSeen : Int32) (mo_hash : Int64) (mheights_a : Nat → Int32) (a : Int32) (g_0 : 0 ≤ mo_pageMany.toInt ∧ mo_pageMany.toInt ≤ 44) (g_1 : 0 ≤ mo_many.toInt ∧ mo_many.toInt ≤ 8) (g_2 : 0 ≤ mo_secondMany.toInt ∧ mo_secondMany.toInt ≤ 8) (g_3 : (-1) ≤ mo_foundAt.toInt ∧ mo_foundAt.toInt ≤ 7) (g_4 : 0 ≤ mo_seenMany.toInt ∧ mo_seenMany.toInt ≤ 6) (g_5 : 0 ≤ mo_keptMany.toInt ∧ mo_keptMany.toInt ≤ 8) (g_6 : 0 ≤ mo_keptSecond.toInt ∧ mo_keptSecond.toInt ≤ 8) (g_7 : 0 ≤ mo_keptSeen.toInt ∧ mo_keptSeen.toInt ≤ 6) : wk_Cv l yX12_lookNumber cX12_lookNumber 5 none { frames := 1, cells := 0, slots := 0, locals := 23 } D cy [.ref mo, .int a] [(mo, .inr (12, [.ref mpage, .int mo_pageMany, .int mo_law, .int mo_many, .int mo_asked, .int mo_looksAll, .int mo_changes, .int mo_rowsRead, .ref mkeys, .ref mvalues, .ref mheights, .ref mheats, .int mo_secondMany, .ref msecondKeys, .ref msecondValues, .ref msecondHeights, .ref msecondHeats, .int mo_foundAt, .int mo_foundLooks, .int mo_foundLane, .int mo_bestsDone, .ref msaved, .ref mbestHeights, .int mo_seenMany, .ref msights, .ref mby, .int mo_seedNow, .int mo_keptRow, .int mo_keptMany, .int mo_keptSecond, .int mo_keptAsked, .int mo_keptLooks, .int mo_keptChanges, .int mo_keptSeen, .ref mkeptKeys, .ref mkeptValues, .ref mkeptHeights, .ref mkeptHeats, .ref mkeptKeys2, .ref mkeptValues2, .ref mkeptHeights2, .ref mkeptHeats2, .ref mkeptSights, .long mo_hash])), (mheights, .inl (cy, 8, .inl mheights_a))] 0 0 (fun (u : Int32 × Int32 × Int32) => u = (fn_X12_lookNumber mo_many mo_foundAt mo_foundLooks mo_foundLane mheights_a a) ∧ ((-1) ≤ u.1.toInt ∧ u.1.toInt ≤ 7)) (fun u => [(mo, .inr (12, [.ref mpage, .int mo_pageMany, .int mo_law, .int mo_many, .int mo_asked, .int mo_looksAll, .int mo_changes, .int mo_rowsRead, .ref mkeys, .ref mvalues, .ref mheights, .ref mheats, .int mo_secondMany, .ref msecondKeys, .ref msecondValues, .ref msecondHeights, .ref msecondHeats, .int u.1, .int u.2.1, .int u.2.2, .int mo_bestsDone, .ref msaved, .ref mbestHeights, .int mo_seenMany, .ref msights, .ref mby, .int mo_seedNow, .int mo_keptRow, .int mo_keptMany, .int mo_keptSecond, .int mo_keptAsked, .int mo_keptLooks, .int mo_keptChanges, .int mo_keptSeen, .ref mkeptKeys, .ref mkeptValues, .ref mkeptHeights, .ref mkeptHeats, .ref mkeptKeys2, .ref mkeptValues2, .ref mkeptHeights2, .ref mkeptHeats2, .ref mkeptSights, .long mo_hash])), (mheights, .inl (cy, 8, .inl mheights_a))]) := by
  refine wk_mk2Cv (by decide) (Nat.le_of_ble_eq_true rfl) ?_
  intro p e s m args below meth c A ls Q B hA hK hP hD hS hl hret
  obtain ⟨hx, hb, hr, hlocks, hml, hown, htb, hin⟩ := B
  have hl : lv_has ls 5 [(0, .ref mo), (1, .int a)] := hl
  have hF : (fn_X12_lookNumber mo_many mo_foundAt mo_foundLooks mo_foundLane mheights_a a) = (fn_X12_lookNumber mo_many mo_foundAt mo_foundLooks mo_foundLane mheights_a a) := rfl
  conv at hF => rhs; unfold fn_X12_lookNumber
  refine lv_iconst (v := (-1)) hx hb dX12_lookNumber_0 (by decide) ?_
  refine lv_istore_n (lv' := [(2, .int (-1)), (0, .ref mo), (1, .int a)]) hx hb dX12_lookNumber_1 rfl hl (by decide) rfl (fun ls hl => ?_)
  refine lv_aload_n hx hb dX12_lookNumber_2 rfl (lv_at hl 1 rfl) ?_
  refine wk_iV (As := []) (rest := []) (wc := [(mo, .inr (12, [.ref mpage, .int mo_pageMany, .int mo_law, .int mo_many, .int mo_asked, .int mo_looksAll, .int mo_changes, .int mo_rowsRead, .ref mkeys, .ref mvalues, .ref mheights, .ref mheats, .int mo_secondMany, .ref msecondKeys, .ref msecondValues, .ref msecondHeights, .ref msecondHeats, .int mo_foundAt, .int mo_foundLooks, .int mo_foundLane, .int mo_bestsDone, .ref msaved, .ref mbestHeights, .int mo_seenMany, .ref msights, .ref mby, .int mo_seedNow, .int mo_keptRow, .int mo_keptMany, .int mo_keptSecond, .int mo_keptAsked, .int mo_keptLooks, .int mo_keptChanges, .int mo_keptSeen, .ref mkeptKeys, .ref mkeptValues, .ref mkeptHeights, .ref mkeptHeats, .ref mkeptKeys2, .ref mkeptValues2, .ref mkeptHeights2, .ref mkeptHeats2, .ref mkeptSights, .long mo_hash])), (mheights, .inl (cy, 8, .inl mheights_a))]) (wr := []) (n := 0) ⟨hx, hb, hml, hown, htb⟩ (c_X12_lanes l D cy mo mpage mkeys mvalues mheights mheats msecondKeys msecondValues msecondHeights msecondHeats msaved mbestHeights msights mby mkeptKeys mkeptValues mkeptHeights mkeptHeats mkeptKeys2 mkeptValues2 mkeptHeights2 mkeptHeats2 mkeptSights mo_pageMany mo_law mo_many mo_asked mo_looksAll mo_changes mo_rowsRead mo_secondMany mo_foundAt mo_foundLooks mo_foundLane mo_bestsDone mo_seenMany mo_seedNow mo_keptRow mo_keptMany mo_keptSecond mo_keptAsked mo_keptLooks mo_keptChanges mo_keptSeen mo_hash mheights_a  (show 0 ≤ mo_pageMany.toInt ∧ mo_pageMany.toInt ≤ 44 from by omega) (show 0 ≤ mo_many.toInt ∧ mo_many.toInt ≤ 8 from by omega) (show 0 ≤ mo_secondMany.toInt ∧ mo_secondMany.toInt ≤ 8 from by omega) (show (-1) ≤ mo_foundAt.toInt ∧ mo_foundAt.toInt ≤ 7 from by omega) (show 0 ≤ mo_seenMany.toInt ∧ mo_seenMany.toInt ≤ 6 from by omega) (show 0 ≤ mo_keptMany.toInt ∧ mo_keptMany.toInt ≤ 8 from by omega) (show 0 ≤ mo_keptSecond.toInt ∧ mo_keptSecond.toInt ≤ 8 from by omega) (show 0 ≤ mo_keptSeen.toInt ∧ mo_keptSeen.toInt ≤ 6 from by omega)) tw_977 tw_974 tw_976 tw_31 tw_71 rfl rfl (by decide +kernel) ⟨Nat.le_of_ble_eq_true rfl, Nat.le_of_ble_eq_true rfl⟩ hK hP hD hS hA [0, 1] [] rfl rfl rfl rfl (by decide) 0 (ci := 12) rfl rfl rfl hl.1 rfl (Nat.le_of_ble_eq_true rfl) dX12_lookNumber_3 ⟨Nat.le_of_ble_eq_true rfl, Nat.le_of_ble_eq_true rfl⟩ (fun r_1 u_2 H locs hw_3 hP hD hS => ?_)
  refine W.widen (k := 0) (n := 0) (by decide) (by decide) ?_
  have hw_3 : r_1 = (fn_X12_lanes mo_many mheights_a) := hw_3
  subst hw_3
  have hP : va_P D classes [(mo, .inr (12, [.ref mpage, .int mo_pageMany, .int mo_law, .int mo_many, .int mo_asked, .int mo_looksAll, .int mo_changes, .int mo_rowsRead, .ref mkeys, .ref mvalues, .ref mheights, .ref mheats, .int mo_secondMany, .ref msecondKeys, .ref msecondValues, .ref msecondHeights, .ref msecondHeats, .int mo_foundAt, .int mo_foundLooks, .int mo_foundLane, .int mo_bestsDone, .ref msaved, .ref mbestHeights, .int mo_seenMany, .ref msights, .ref mby, .int mo_seedNow, .int mo_keptRow, .int mo_keptMany, .int mo_keptSecond, .int mo_keptAsked, .int mo_keptLooks, .int mo_keptChanges, .int mo_keptSeen, .ref mkeptKeys, .ref mkeptValues, .ref mkeptHeights, .ref mkeptHeats, .ref mkeptKeys2, .ref mkeptValues2, .ref mkeptHeights2, .ref mkeptHeats2, .ref mkeptSights, .long mo_hash])), (mheights, .inl (cy, 8, .inl mheights_a))] H := hP
  have hD : va_D A [(mo, .inr (12, [.ref mpage, .int mo_pageMany, .int mo_law, .int mo_many, .int mo_asked, .int mo_looksAll, .int mo_changes, .int mo_rowsRead, .ref mkeys, .ref mvalues, .ref mheights, .ref mheats, .int mo_secondMany, .ref msecondKeys, .ref msecondValues, .ref msecondHeights, .ref msecondHeats, .int mo_foundAt, .int mo_foundLooks, .int mo_foundLane, .int mo_bestsDone, .ref msaved, .ref mbestHeights, .int mo_seenMany, .ref msights, .ref mby, .int mo_seedNow, .int mo_keptRow, .int mo_keptMany, .int mo_keptSecond, .int mo_keptAsked, .int mo_keptLooks, .int mo_keptChanges, .int mo_keptSeen, .ref mkeptKeys, .ref mkeptValues, .ref mkeptHeights, .ref mkeptHeats, .ref mkeptKeys2, .ref mkeptValues2, .ref mkeptHeights2, .ref mkeptHeats2, .ref mkeptSights, .long mo_hash])), (mheights, .inl (cy, 8, .inl mheights_a))] := hD
  refine lv_iconst (v := 1) hx hb dX12_lookNumber_6 (by decide) ?_
  refine lv_isub hx hb dX12_lookNumber_7 ?_
  refine lv_istore_n (lv' := [(3, .int ((fn_X12_lanes mo_many mheights_a) - 1)), (2, .int (-1)), (0, .ref mo), (1, .int a)]) hx hb dX12_lookNumber_8 rfl hl (by decide) rfl (fun ls hl => ?_)
  refine lv_aload_n hx hb dX12_lookNumber_9 rfl (lv_at hl 2 rfl) ?_
  refine lv_iconst (v := (-1)) hx hb dX12_lookNumber_10 (by decide) ?_
  refine va_put (D := D) (ci := 12) (v := .int (-1)) (ty := .int) (C := RX12) (T := TX12) (N := 44) hx hb htb inX12 tyX12 tyX12_ok nmX12 hown hK hP hD hS 0 rfl rfl 17 (by decide) (htb _ tw_780) (fun _ h9 => h9) rfl (by decide +kernel) rfl rfl (Nat.le_of_ble_eq_true rfl) dX12_lookNumber_11 (fun H locs hP hD hS => ?_)
  have hP : va_P D classes [(mo, .inr (12, [.ref mpage, .int mo_pageMany, .int mo_law, .int mo_many, .int mo_asked, .int mo_looksAll, .int mo_changes, .int mo_rowsRead, .ref mkeys, .ref mvalues, .ref mheights, .ref mheats, .int mo_secondMany, .ref msecondKeys, .ref msecondValues, .ref msecondHeights, .ref msecondHeats, .int (-1), .int mo_foundLooks, .int mo_foundLane, .int mo_bestsDone, .ref msaved, .ref mbestHeights, .int mo_seenMany, .ref msights, .ref mby, .int mo_seedNow, .int mo_keptRow, .int mo_keptMany, .int mo_keptSecond, .int mo_keptAsked, .int mo_keptLooks, .int mo_keptChanges, .int mo_keptSeen, .ref mkeptKeys, .ref mkeptValues, .ref mkeptHeights, .ref mkeptHeats, .ref mkeptKeys2, .ref mkeptValues2, .ref mkeptHeights2, .ref mkeptHeats2, .ref mkeptSights, .long mo_hash])), (mheights, .inl (cy, 8, .inl mheights_a))] H := hP
  have hD : va_D A [(mo, .inr (12, [.ref mpage, .int mo_pageMany, .int mo_law, .int mo_many, .int mo_asked, .int mo_looksAll, .int mo_changes, .int mo_rowsRead, .ref mkeys, .ref mvalues, .ref mheights, .ref mheats, .int mo_secondMany, .ref msecondKeys, .ref msecondValues, .ref msecondHeights, .ref msecondHeats, .int (-1), .int mo_foundLooks, .int mo_foundLane, .int mo_bestsDone, .ref msaved, .ref mbestHeights, .int mo_seenMany, .ref msights, .ref mby, .int mo_seedNow, .int mo_keptRow, .int mo_keptMany, .int mo_keptSecond, .int mo_keptAsked, .int mo_keptLooks, .int mo_keptChanges, .int mo_keptSeen, .ref mkeptKeys, .ref mkeptValues, .ref mkeptHeights, .ref mkeptHeats, .ref mkeptKeys2, .ref mkeptValues2, .ref mkeptHeights2, .ref mkeptHeats2, .ref mkeptSights, .long mo_hash])), (mheights, .inl (cy, 8, .inl mheights_a))] := hD
  refine lv_aload_n hx hb dX12_lookNumber_14 rfl (lv_at hl 2 rfl) ?_
  refine lv_iconst (v := 0) hx hb dX12_lookNumber_15 (by decide) ?_
  refine va_put (D := D) (ci := 12) (v := .int 0) (ty := .int) (C := RX12) (T := TX12) (N := 44) hx hb htb inX12 tyX12 tyX12_ok nmX12 hown hK hP hD hS 0 rfl rfl 18 (by decide) (htb _ tw_781) (fun _ h9 => h9) rfl (by decide +kernel) rfl rfl (Nat.le_of_ble_eq_true rfl) dX12_lookNumber_16 (fun H locs hP hD hS => ?_)
  have hP : va_P D classes [(mo, .inr (12, [.ref mpage, .int mo_pageMany, .int mo_law, .int mo_many, .int mo_asked, .int mo_looksAll, .int mo_changes, .int mo_rowsRead, .ref mkeys, .ref mvalues, .ref mheights, .ref mheats, .int mo_secondMany, .ref msecondKeys, .ref msecondValues, .ref msecondHeights, .ref msecondHeats, .int (-1), .int 0, .int mo_foundLane, .int mo_bestsDone, .ref msaved, .ref mbestHeights, .int mo_seenMany, .ref msights, .ref mby, .int mo_seedNow, .int mo_keptRow, .int mo_keptMany, .int mo_keptSecond, .int mo_keptAsked, .int mo_keptLooks, .int mo_keptChanges, .int mo_keptSeen, .ref mkeptKeys, .ref mkeptValues, .ref mkeptHeights, .ref mkeptHeats, .ref mkeptKeys2, .ref mkeptValues2, .ref mkeptHeights2, .ref mkeptHeats2, .ref mkeptSights, .long mo_hash])), (mheights, .inl (cy, 8, .inl mheights_a))] H := hP
  have hD : va_D A [(mo, .inr (12, [.ref mpage, .int mo_pageMany, .int mo_law, .int mo_many, .int mo_asked, .int mo_looksAll, .int mo_changes, .int mo_rowsRead, .ref mkeys, .ref mvalues, .ref mheights, .ref mheats, .int mo_secondMany, .ref msecondKeys, .ref msecondValues, .ref msecondHeights, .ref msecondHeats, .int (-1), .int 0, .int mo_foundLane, .int mo_bestsDone, .ref msaved, .ref mbestHeights, .int mo_seenMany, .ref msights, .ref mby, .int mo_seedNow, .int mo_keptRow, .int mo_keptMany, .int mo_keptSecond, .int mo_keptAsked, .int mo_keptLooks, .int mo_keptChanges, .int mo_keptSeen, .ref mkeptKeys, .ref mkeptValues, .ref mkeptHeights, .ref mkeptHeats, .ref mkeptKeys2, .ref mkeptValues2, .ref mkeptHeights2, .ref mkeptHeats2, .ref mkeptSights, .long mo_hash])), (mheights, .inl (cy, 8, .inl mheights_a))] := hD
  refine lv_aload_n hx hb dX12_lookNumber_19 rfl (lv_at hl 2 rfl) ?_
  refine lv_iconst (v := (-1)) hx hb dX12_lookNumber_20 (by decide) ?_
  refine va_put (D := D) (ci := 12) (v := .int (-1)) (ty := .int) (C := RX12) (T := TX12) (N := 44) hx hb htb inX12 tyX12 tyX12_ok nmX12 hown hK hP hD hS 0 rfl rfl 19 (by decide) (htb _ tw_782) (fun _ h9 => h9) rfl (by decide +kernel) rfl rfl (Nat.le_of_ble_eq_true rfl) dX12_lookNumber_21 (fun H locs hP hD hS => ?_)
  have hP : va_P D classes [(mo, .inr (12, [.ref mpage, .int mo_pageMany, .int mo_law, .int mo_many, .int mo_asked, .int mo_looksAll, .int mo_changes, .int mo_rowsRead, .ref mkeys, .ref mvalues, .ref mheights, .ref mheats, .int mo_secondMany, .ref msecondKeys, .ref msecondValues, .ref msecondHeights, .ref msecondHeats, .int (-1), .int 0, .int (-1), .int mo_bestsDone, .ref msaved, .ref mbestHeights, .int mo_seenMany, .ref msights, .ref mby, .int mo_seedNow, .int mo_keptRow, .int mo_keptMany, .int mo_keptSecond, .int mo_keptAsked, .int mo_keptLooks, .int mo_keptChanges, .int mo_keptSeen, .ref mkeptKeys, .ref mkeptValues, .ref mkeptHeights, .ref mkeptHeats, .ref mkeptKeys2, .ref mkeptValues2, .ref mkeptHeights2, .ref mkeptHeats2, .ref mkeptSights, .long mo_hash])), (mheights, .inl (cy, 8, .inl mheights_a))] H := hP
  have hD : va_D A [(mo, .inr (12, [.ref mpage, .int mo_pageMany, .int mo_law, .int mo_many, .int mo_asked, .int mo_looksAll, .int mo_changes, .int mo_rowsRead, .ref mkeys, .ref mvalues, .ref mheights, .ref mheats, .int mo_secondMany, .ref msecondKeys, .ref msecondValues, .ref msecondHeights, .ref msecondHeats, .int (-1), .int 0, .int (-1), .int mo_bestsDone, .ref msaved, .ref mbestHeights, .int mo_seenMany, .ref msights, .ref mby, .int mo_seedNow, .int mo_keptRow, .int mo_keptMany, .int mo_keptSecond, .int mo_keptAsked, .int mo_keptLooks, .int mo_keptChanges, .int mo_keptSeen, .ref mkeptKeys, .ref mkeptValues, .ref mkeptHeights, .ref mkeptHeats, .ref mkeptKeys2, .ref mkeptValues2, .ref mkeptHeights2, .ref mkeptHeats2, .ref mkeptSights, .long mo_hash])), (mheights, .inl (cy, 8, .inl mheights_a))] := hD
  have hlp_24 : ∀ (fu_24 : Nat) (x2_24 : Int32) (x3_24 : Int32) (mo_foundAt_24 : Int32) (mo_foundLooks_24 : Int32) (mo_foundLane_24 : Int32) (H : Heap) (locs : List Loc) (ls : Array Slot), ((-1) ≤ x2_24.toInt ∧ x2_24.toInt ≤ 7) → ((-1) ≤ mo_foundAt_24.toInt ∧ mo_foundAt_24.toInt ≤ 7) → (7 - x2_24.toInt) * 2147483648 + ((((x3_24.toInt + 1).toNat : Nat) : Int)) + (7 - mo_foundAt_24.toInt) < (fu_24 : Int) → ((fn_X12_lookNumber mo_many mo_foundAt mo_foundLooks mo_foundLane mheights_a a) = (pm2 (lp_X12_lookNumber_24 mo_many mo_foundAt mo_foundLooks mo_foundLane mheights_a a fu_24 x2_24 x3_24 mo_foundAt_24 mo_foundLooks_24 mo_foundLane_24) (fun x2_24 t_ => (pm2 (t_) (fun x3_24 t_ => (pm2 (t_) (fun mo_foundAt_24 t_ => (pm2 (t_) (fun mo_foundLooks_24 mo_foundLane_24 => (mo_foundAt_24, mo_foundLooks_24, mo_foundLane_24)))))))))) → va_P D classes [(mo, .inr (12, [.ref mpage, .int mo_pageMany, .int mo_law, .int mo_many, .int mo_asked, .int mo_looksAll, .int mo_changes, .int mo_rowsRead, .ref mkeys, .ref mvalues, .ref mheights, .ref mheats, .int mo_secondMany, .ref msecondKeys, .ref msecondValues, .ref msecondHeights, .ref msecondHeats, .int mo_foundAt_24, .int mo_foundLooks_24, .int mo_foundLane_24, .int mo_bestsDone, .ref msaved, .ref mbestHeights, .int mo_seenMany, .ref msights, .ref mby, .int mo_seedNow, .int mo_keptRow, .int mo_keptMany, .int mo_keptSecond, .int mo_keptAsked, .int mo_keptLooks, .int mo_keptChanges, .int mo_keptSeen, .ref mkeptKeys, .ref mkeptValues, .ref mkeptHeights, .ref mkeptHeats, .ref mkeptKeys2, .ref mkeptValues2, .ref mkeptHeights2, .ref mkeptHeats2, .ref mkeptSights, .long mo_hash])), (mheights, .inl (cy, 8, .inl mheights_a))] H → va_D A [(mo, .inr (12, [.ref mpage, .int mo_pageMany, .int mo_law, .int mo_many, .int mo_asked, .int mo_looksAll, .int mo_changes, .int mo_rowsRead, .ref mkeys, .ref mvalues, .ref mheights, .ref mheats, .int mo_secondMany, .ref msecondKeys, .ref msecondValues, .ref msecondHeights, .ref msecondHeats, .int mo_foundAt_24, .int mo_foundLooks_24, .int mo_foundLane_24, .int mo_bestsDone, .ref msaved, .ref mbestHeights, .int mo_seenMany, .ref msights, .ref mby, .int mo_seedNow, .int mo_keptRow, .int mo_keptMany, .int mo_keptSecond, .int mo_keptAsked, .int mo_keptLooks, .int mo_keptChanges, .int mo_keptSeen, .ref mkeptKeys, .ref mkeptValues, .ref mkeptHeights, .ref mkeptHeats, .ref mkeptKeys2, .ref mkeptValues2, .ref mkeptHeights2, .ref mkeptHeats2, .ref mkeptSights, .long mo_hash])), (mheights, .inl (cy, 8, .inl mheights_a))] → va_S A s.heap H locs → lv_has ls 5 [(3, .int x3_24), (2, .int x2_24), (0, .ref mo), (1, .int a)] → W p l e { frames := 1, cells := 0, slots := 0, locals := 23 } s m args below meth c H locs 0 0 Q (F0 m 24 ls []) := by
    intro fu_24
    induction fu_24 with
    | zero =>
      intro x2_24 x3_24 mo_foundAt_24 mo_foundLooks_24 mo_foundLane_24 H locs ls hi_24_0 hi_24_1 hm hF hP hD hS hl
      exfalso; omega
    | succ fu_24 ih_24 =>
      intro x2_24 x3_24 mo_foundAt_24 mo_foundLooks_24 mo_foundLane_24 H locs ls hi_24_0 hi_24_1 hm hF hP hD hS hl
      rw [lp_X12_lookNumber_24] at hF
      refine lv_iload_n hx hb dX12_lookNumber_24 rfl (lv_at hl 0 rfl) ?_
      refine lv_if_lt (tgt := 108) hx hb dX12_lookNumber_25 (by decide) (fun c_4 => ?_) (fun c_4 => ?_)
      · have k_4 : x3_24.toInt < 0 := wk_lt c_4
        rw [if_pos c_4] at hF
        rw [pm2_mk x2_24 (x3_24, mo_foundAt_24, mo_foundLooks_24, mo_foundLane_24), pm2_mk x3_24 (mo_foundAt_24, mo_foundLooks_24, mo_foundLane_24), pm2_mk mo_foundAt_24 (mo_foundLooks_24, mo_foundLane_24), pm2_mk mo_foundLooks_24 mo_foundLane_24] at hF
        refine W.widen (k := 0) (n := 0) (by decide) (by decide) ?_
        exact hret (mo_foundAt_24, mo_foundLooks_24, mo_foundLane_24) _ _ _ 108 (wk_sub9 (is := [0, 1]) hP rfl) (hD.sub [0, 1] rfl rfl) hS dX12_lookNumber_108 ⟨hF.symm, (show ((-1) ≤ mo_foundAt_24.toInt ∧ mo_foundAt_24.toInt ≤ 7) from by omega)⟩
      · have k_4 : ¬ x3_24.toInt < 0 := wk_nlt c_4
        rw [if_neg c_4] at hF
        refine lv_aload_n hx hb dX12_lookNumber_28 rfl (lv_at hl 2 rfl) ?_
        refine va_get (D := D) (ci := 12) (v := .int mo_foundAt_24) (C := RX12) (T := TX12) (N := 44) hx hb htb inX12 hown hK hP 0 rfl rfl 17 (by decide) (htb _ tw_780) (fun _ h9 => h9) rfl dX12_lookNumber_29 ?_
        refine lv_iconst (v := (-1)) hx hb dX12_lookNumber_32 (by decide) ?_
        refine lv_icmp_ne (tgt := 108) hx hb dX12_lookNumber_33 (by decide) (fun c_5 => ?_) (fun c_5 => ?_)
        · have k_5 : ¬ mo_foundAt_24.toInt = (-1) := wk_neq c_5
          rw [if_neg c_5] at hF
          rw [pm2_mk x2_24 (x3_24, mo_foundAt_24, mo_foundLooks_24, mo_foundLane_24), pm2_mk x3_24 (mo_foundAt_24, mo_foundLooks_24, mo_foundLane_24), pm2_mk mo_foundAt_24 (mo_foundLooks_24, mo_foundLane_24), pm2_mk mo_foundLooks_24 mo_foundLane_24] at hF
          refine W.widen (k := 0) (n := 0) (by decide) (by decide) ?_
          exact hret (mo_foundAt_24, mo_foundLooks_24, mo_foundLane_24) _ _ _ 108 (wk_sub9 (is := [0, 1]) hP rfl) (hD.sub [0, 1] rfl rfl) hS dX12_lookNumber_108 ⟨hF.symm, (show ((-1) ≤ mo_foundAt_24.toInt ∧ mo_foundAt_24.toInt ≤ 7) from by omega)⟩
        · have k_5 : mo_foundAt_24.toInt = (-1) := wk_eq c_5
          rw [if_pos c_5] at hF
          refine lv_aload_n hx hb dX12_lookNumber_36 rfl (lv_at hl 2 rfl) ?_
          refine lv_iload_n hx hb dX12_lookNumber_37 rfl (lv_at hl 1 rfl) ?_
          refine lv_iload_n hx hb dX12_lookNumber_38 rfl (lv_at hl 0 rfl) ?_
          refine wk_iV (As := [.int x2_24, .int x3_24]) (rest := []) (wc := [(mo, .inr (12, [.ref mpage, .int mo_pageMany, .int mo_law, .int mo_many, .int mo_asked, .int mo_looksAll, .int mo_changes, .int mo_rowsRead, .ref mkeys, .ref mvalues, .ref mheights, .ref mheats, .int mo_secondMany, .ref msecondKeys, .ref msecondValues, .ref msecondHeights, .ref msecondHeats, .int mo_foundAt_24, .int mo_foundLooks_24, .int mo_foundLane_24, .int mo_bestsDone, .ref msaved, .ref mbestHeights, .int mo_seenMany, .ref msights, .ref mby, .int mo_seedNow, .int mo_keptRow, .int mo_keptMany, .int mo_keptSecond, .int mo_keptAsked, .int mo_keptLooks, .int mo_keptChanges, .int mo_keptSeen, .ref mkeptKeys, .ref mkeptValues, .ref mkeptHeights, .ref mkeptHeats, .ref mkeptKeys2, .ref mkeptValues2, .ref mkeptHeights2, .ref mkeptHeats2, .ref mkeptSights, .long mo_hash])), (mheights, .inl (cy, 8, .inl mheights_a))]) (wr := []) (n := 2) ⟨hx, hb, hml, hown, htb⟩ (c_X12_nextIn l D cy mo mpage mkeys mvalues mheights mheats msecondKeys msecondValues msecondHeights msecondHeats msaved mbestHeights msights mby mkeptKeys mkeptValues mkeptHeights mkeptHeats mkeptKeys2 mkeptValues2 mkeptHeights2 mkeptHeats2 mkeptSights mo_pageMany mo_law mo_many mo_asked mo_looksAll mo_changes mo_rowsRead mo_secondMany mo_foundAt_24 mo_foundLooks_24 mo_foundLane_24 mo_bestsDone mo_seenMany mo_seedNow mo_keptRow mo_keptMany mo_keptSecond mo_keptAsked mo_keptLooks mo_keptChanges mo_keptSeen mo_hash mheights_a x2_24 x3_24 (show 0 ≤ mo_pageMany.toInt ∧ mo_pageMany.toInt ≤ 44 from by omega) (show 0 ≤ mo_many.toInt ∧ mo_many.toInt ≤ 8 from by omega) (show 0 ≤ mo_secondMany.toInt ∧ mo_secondMany.toInt ≤ 8 from by omega) (show (-1) ≤ mo_foundAt_24.toInt ∧ mo_foundAt_24.toInt ≤ 7 from by omega) (show 0 ≤ mo_seenMany.toInt ∧ mo_seenMany.toInt ≤ 6 from by omega) (show 0 ≤ mo_keptMany.toInt ∧ mo_keptMany.toInt ≤ 8 from by omega) (show 0 ≤ mo_keptSecond.toInt ∧ mo_keptSecond.toInt ≤ 8 from by omega) (show 0 ≤ mo_keptSeen.toInt ∧ mo_keptSeen.toInt ≤ 6 from by omega) (show (-1) ≤ x2_24.toInt ∧ x2_24.toInt ≤ 7 from by omega)) tw_985 tw_982 tw_984 tw_33 tw_71 rfl rfl (by decide +kernel) ⟨Nat.le_of_ble_eq_true rfl, Nat.le_of_ble_eq_true rfl⟩ hK hP hD hS hA [0, 1] [] rfl rfl rfl rfl (by decide) 0 (ci := 12) rfl rfl rfl hl.1 rfl (Nat.le_of_ble_eq_true rfl) dX12_lookNumber_39 ⟨Nat.le_of_ble_eq_true rfl, Nat.le_of_ble_eq_true rfl⟩ (fun r_6 u_7 H locs hw_8 hP hD hS => ?_)
          refine W.widen (k := 0) (n := 0) (by decide) (by decide) ?_
          obtain ⟨hw_8, k_9, k_10, k_11⟩ := hw_8
          have hw_8 : r_6 = (fn_X12_nextIn mo_many mheights_a x2_24 x3_24) := hw_8
          subst hw_8
          have k_9 : ((-1) ≤ (fn_X12_nextIn mo_many mheights_a x2_24 x3_24).toInt ∧ (fn_X12_nextIn mo_many mheights_a x2_24 x3_24).toInt ≤ 7) := k_9
          have k_10 : ((fn_X12_nextIn mo_many mheights_a x2_24 x3_24).toInt < mo_many.toInt ∨ (fn_X12_nextIn mo_many mheights_a x2_24 x3_24).toInt = -1) := k_10
          have k_11 : ((fn_X12_nextIn mo_many mheights_a x2_24 x3_24).toInt = -1 ∨ x2_24.toInt < (fn_X12_nextIn mo_many mheights_a x2_24 x3_24).toInt) := k_11
          have hP : va_P D classes [(mo, .inr (12, [.ref mpage, .int mo_pageMany, .int mo_law, .int mo_many, .int mo_asked, .int mo_looksAll, .int mo_changes, .int mo_rowsRead, .ref mkeys, .ref mvalues, .ref mheights, .ref mheats, .int mo_secondMany, .ref msecondKeys, .ref msecondValues, .ref msecondHeights, .ref msecondHeats, .int mo_foundAt_24, .int mo_foundLooks_24, .int mo_foundLane_24, .int mo_bestsDone, .ref msaved, .ref mbestHeights, .int mo_seenMany, .ref msights, .ref mby, .int mo_seedNow, .int mo_keptRow, .int mo_keptMany, .int mo_keptSecond, .int mo_keptAsked, .int mo_keptLooks, .int mo_keptChanges, .int mo_keptSeen, .ref mkeptKeys, .ref mkeptValues, .ref mkeptHeights, .ref mkeptHeats, .ref mkeptKeys2, .ref mkeptValues2, .ref mkeptHeights2, .ref mkeptHeats2, .ref mkeptSights, .long mo_hash])), (mheights, .inl (cy, 8, .inl mheights_a))] H := hP
          have hD : va_D A [(mo, .inr (12, [.ref mpage, .int mo_pageMany, .int mo_law, .int mo_many, .int mo_asked, .int mo_looksAll, .int mo_changes, .int mo_rowsRead, .ref mkeys, .ref mvalues, .ref mheights, .ref mheats, .int mo_secondMany, .ref msecondKeys, .ref msecondValues, .ref msecondHeights, .ref msecondHeats, .int mo_foundAt_24, .int mo_foundLooks_24, .int mo_foundLane_24, .int mo_bestsDone, .ref msaved, .ref mbestHeights, .int mo_seenMany, .ref msights, .ref mby, .int mo_seedNow, .int mo_keptRow, .int mo_keptMany, .int mo_keptSecond, .int mo_keptAsked, .int mo_keptLooks, .int mo_keptChanges, .int mo_keptSeen, .ref mkeptKeys, .ref mkeptValues, .ref mkeptHeights, .ref mkeptHeats, .ref mkeptKeys2, .ref mkeptValues2, .ref mkeptHeights2, .ref mkeptHeats2, .ref mkeptSights, .long mo_hash])), (mheights, .inl (cy, 8, .inl mheights_a))] := hD
          refine lv_istore (lv' := [(4, .int (fn_X12_nextIn mo_many mheights_a x2_24 x3_24)), (3, .int x3_24), (2, .int x2_24), (0, .ref mo), (1, .int a)]) hx hb dX12_lookNumber_42 hl (by decide) rfl (fun ls hl => ?_)
          refine lv_aload_n hx hb dX12_lookNumber_44 rfl (lv_at hl 3 rfl) ?_
          refine lv_dup hx hb dX12_lookNumber_45 rfl ?_
          refine va_get (D := D) (ci := 12) (v := .int mo_foundLooks_24) (C := RX12) (T := TX12) (N := 44) hx hb htb inX12 hown hK hP 0 rfl rfl 18 (by decide) (htb _ tw_781) (fun _ h9 => h9) rfl dX12_lookNumber_46 ?_
          refine lv_iload hx hb dX12_lookNumber_49 (lv_at hl 0 rfl) ?_
          refine lv_iconst (v := (-1)) hx hb dX12_lookNumber_51 (by decide) ?_
          refine lv_icmp_ne (tgt := 59) hx hb dX12_lookNumber_52 (by decide) (fun c_12 => ?_) (fun c_12 => ?_)
          · have k_12 : ¬ (fn_X12_nextIn mo_many mheights_a x2_24 x3_24).toInt = (-1) := wk_neq c_12
            rw [if_neg c_12] at hF
            refine lv_iconst (v := 1) hx hb dX12_lookNumber_59 (by decide) ?_
            refine lv_iadd hx hb dX12_lookNumber_60 ?_
            refine va_put (D := D) (ci := 12) (v := .int (mo_foundLooks_24 + 1)) (ty := .int) (C := RX12) (T := TX12) (N := 44) hx hb htb inX12 tyX12 tyX12_ok nmX12 hown hK hP hD hS 0 rfl rfl 18 (by decide) (htb _ tw_781) (fun _ h9 => h9) rfl (by decide +kernel) rfl rfl (Nat.le_of_ble_eq_true rfl) dX12_lookNumber_61 (fun H locs hP hD hS => ?_)
            have hP : va_P D classes [(mo, .inr (12, [.ref mpage, .int mo_pageMany, .int mo_law, .int mo_many, .int mo_asked, .int mo_looksAll, .int mo_changes, .int mo_rowsRead, .ref mkeys, .ref mvalues, .ref mheights, .ref mheats, .int mo_secondMany, .ref msecondKeys, .ref msecondValues, .ref msecondHeights, .ref msecondHeats, .int mo_foundAt_24, .int (mo_foundLooks_24 + 1), .int mo_foundLane_24, .int mo_bestsDone, .ref msaved, .ref mbestHeights, .int mo_seenMany, .ref msights, .ref mby, .int mo_seedNow, .int mo_keptRow, .int mo_keptMany, .int mo_keptSecond, .int mo_keptAsked, .int mo_keptLooks, .int mo_keptChanges, .int mo_keptSeen, .ref mkeptKeys, .ref mkeptValues, .ref mkeptHeights, .ref mkeptHeats, .ref mkeptKeys2, .ref mkeptValues2, .ref mkeptHeights2, .ref mkeptHeats2, .ref mkeptSights, .long mo_hash])), (mheights, .inl (cy, 8, .inl mheights_a))] H := hP
            have hD : va_D A [(mo, .inr (12, [.ref mpage, .int mo_pageMany, .int mo_law, .int mo_many, .int mo_asked, .int mo_looksAll, .int mo_changes, .int mo_rowsRead, .ref mkeys, .ref mvalues, .ref mheights, .ref mheats, .int mo_secondMany, .ref msecondKeys, .ref msecondValues, .ref msecondHeights, .ref msecondHeats, .int mo_foundAt_24, .int (mo_foundLooks_24 + 1), .int mo_foundLane_24, .int mo_bestsDone, .ref msaved, .ref mbestHeights, .int mo_seenMany, .ref msights, .ref mby, .int mo_seedNow, .int mo_keptRow, .int mo_keptMany, .int mo_keptSecond, .int mo_keptAsked, .int mo_keptLooks, .int mo_keptChanges, .int mo_keptSeen, .ref mkeptKeys, .ref mkeptValues, .ref mkeptHeights, .ref mkeptHeats, .ref mkeptKeys2, .ref mkeptValues2, .ref mkeptHeights2, .ref mkeptHeats2, .ref mkeptSights, .long mo_hash])), (mheights, .inl (cy, 8, .inl mheights_a))] := hD
            refine lv_iload hx hb dX12_lookNumber_64 (lv_at hl 0 rfl) ?_
            refine lv_iload_n hx hb dX12_lookNumber_66 rfl (lv_at hl 4 rfl) ?_
            refine lv_icmp_ne (tgt := 84) hx hb dX12_lookNumber_67 (by decide) (fun c_13 => ?_) (fun c_13 => ?_)
            · have k_13 : ¬ (fn_X12_nextIn mo_many mheights_a x2_24 x3_24).toInt = a.toInt := wk_neq c_13
              rw [if_neg c_13] at hF
              refine lv_iload hx hb dX12_lookNumber_84 (lv_at hl 0 rfl) ?_
              refine lv_iconst (v := (-1)) hx hb dX12_lookNumber_86 (by decide) ?_
              refine lv_icmp_eq (tgt := 102) hx hb dX12_lookNumber_87 (by decide) (fun c_14 => ?_) (fun c_14 => ?_)
              · have k_14 : (fn_X12_nextIn mo_many mheights_a x2_24 x3_24).toInt = (-1) := wk_eq c_14
                rw [if_pos c_14] at hF
                exfalso; omega
              · have k_14 : ¬ (fn_X12_nextIn mo_many mheights_a x2_24 x3_24).toInt = (-1) := wk_neq c_14
                rw [if_neg c_14] at hF
                refine lv_iload hx hb dX12_lookNumber_90 (lv_at hl 0 rfl) ?_
                refine lv_iload_n hx hb dX12_lookNumber_92 rfl (lv_at hl 4 rfl) ?_
                refine lv_icmp_ge (tgt := 102) hx hb dX12_lookNumber_93 (by decide) (fun c_15 => ?_) (fun c_15 => ?_)
                · have k_15 : a.toInt ≤ (fn_X12_nextIn mo_many mheights_a x2_24 x3_24).toInt := wk_le c_15
                  rw [if_pos c_15] at hF
                  refine lv_iinc (v := (x3_24 + (-1))) (lv' := [(3, .int (x3_24 + (-1))), (4, .int (fn_X12_nextIn mo_many mheights_a x2_24 x3_24)), (2, .int x2_24), (0, .ref mo), (1, .int a)]) hx hb dX12_lookNumber_102 hl (k := 1) rfl rfl (by decide) rfl (fun ls hl => ?_)
                  have k_16 : (x3_24 + (-1)).toInt = x3_24.toInt + (-1) := wk_add x3_24.toInt (-1) rfl rfl (by have h9 := wk_rng x3_24; omega) (by have h9 := wk_rng x3_24; omega)
                  refine lv_goto (tgt := 24) hx hb dX12_lookNumber_105 (by decide) ?_
                  have k_17 := wk_rng x2_24
                  have k_18 := wk_rng (x3_24 + (-1))
                  have k_19 := wk_rng mo_foundAt_24
                  have k_20 := wk_rng (mo_foundLooks_24 + 1)
                  have k_21 := wk_rng mo_foundLane_24
                  exact ih_24 x2_24 (x3_24 + (-1)) mo_foundAt_24 (mo_foundLooks_24 + 1) mo_foundLane_24 _ _ _ (show (-1) ≤ x2_24.toInt ∧ x2_24.toInt ≤ 7 from by omega) (show (-1) ≤ mo_foundAt_24.toInt ∧ mo_foundAt_24.toInt ≤ 7 from by omega) (show (7 - x2_24.toInt) * 2147483648 + (((((x3_24 + (-1)).toInt + 1).toNat : Nat) : Int)) + (7 - mo_foundAt_24.toInt) < ((fu_24 : Nat) : Int) from by omega) hF hP hD hS (lv_sub hl [0, 2, 3, 4] rfl)
                · have k_15 : ¬ a.toInt ≤ (fn_X12_nextIn mo_many mheights_a x2_24 x3_24).toInt := wk_nle c_15
                  rw [if_neg c_15] at hF
                  refine lv_iload hx hb dX12_lookNumber_96 (lv_at hl 0 rfl) ?_
                  refine lv_istore_n (lv' := [(2, .int (fn_X12_nextIn mo_many mheights_a x2_24 x3_24)), (4, .int (fn_X12_nextIn mo_many mheights_a x2_24 x3_24)), (3, .int x3_24), (0, .ref mo), (1, .int a)]) hx hb dX12_lookNumber_98 rfl hl (by decide) rfl (fun ls hl => ?_)
                  refine lv_goto (tgt := 105) hx hb dX12_lookNumber_99 (by decide) ?_
                  refine lv_goto (tgt := 24) hx hb dX12_lookNumber_105 (by decide) ?_
                  have k_22 := wk_rng (fn_X12_nextIn mo_many mheights_a x2_24 x3_24)
                  have k_23 := wk_rng x3_24
                  have k_24 := wk_rng mo_foundAt_24
                  have k_25 := wk_rng (mo_foundLooks_24 + 1)
                  have k_26 := wk_rng mo_foundLane_24
                  exact ih_24 (fn_X12_nextIn mo_many mheights_a x2_24 x3_24) x3_24 mo_foundAt_24 (mo_foundLooks_24 + 1) mo_foundLane_24 _ _ _ (show (-1) ≤ (fn_X12_nextIn mo_many mheights_a x2_24 x3_24).toInt ∧ (fn_X12_nextIn mo_many mheights_a x2_24 x3_24).toInt ≤ 7 from by omega) (show (-1) ≤ mo_foundAt_24.toInt ∧ mo_foundAt_24.toInt ≤ 7 from by omega) (show (7 - (fn_X12_nextIn mo_many mheights_a x2_24 x3_24).toInt) * 2147483648 + ((((x3_24.toInt + 1).toNat : Nat) : Int)) + (7 - mo_foundAt_24.toInt) < ((fu_24 : Nat) : Int) from by omega) hF hP hD hS (lv_sub hl [2, 0, 3, 4] rfl)
            · have k_13 : (fn_X12_nextIn mo_many mheights_a x2_24 x3_24).toInt = a.toInt := wk_eq c_13
              rw [if_pos c_13] at hF
              refine lv_aload_n hx hb dX12_lookNumber_70 rfl (lv_at hl 3 rfl) ?_
              refine lv_iload hx hb dX12_lookNumber_71 (lv_at hl 0 rfl) ?_
              refine va_put (D := D) (ci := 12) (v := .int (fn_X12_nextIn mo_many mheights_a x2_24 x3_24)) (ty := .int) (C := RX12) (T := TX12) (N := 44) hx hb htb inX12 tyX12 tyX12_ok nmX12 hown hK hP hD hS 0 rfl rfl 17 (by decide) (htb _ tw_780) (fun _ h9 => h9) rfl (by decide +kernel) rfl rfl (Nat.le_of_ble_eq_true rfl) dX12_lookNumber_73 (fun H locs hP hD hS => ?_)
              have hP : va_P D classes [(mo, .inr (12, [.ref mpage, .int mo_pageMany, .int mo_law, .int mo_many, .int mo_asked, .int mo_looksAll, .int mo_changes, .int mo_rowsRead, .ref mkeys, .ref mvalues, .ref mheights, .ref mheats, .int mo_secondMany, .ref msecondKeys, .ref msecondValues, .ref msecondHeights, .ref msecondHeats, .int (fn_X12_nextIn mo_many mheights_a x2_24 x3_24), .int (mo_foundLooks_24 + 1), .int mo_foundLane_24, .int mo_bestsDone, .ref msaved, .ref mbestHeights, .int mo_seenMany, .ref msights, .ref mby, .int mo_seedNow, .int mo_keptRow, .int mo_keptMany, .int mo_keptSecond, .int mo_keptAsked, .int mo_keptLooks, .int mo_keptChanges, .int mo_keptSeen, .ref mkeptKeys, .ref mkeptValues, .ref mkeptHeights, .ref mkeptHeats, .ref mkeptKeys2, .ref mkeptValues2, .ref mkeptHeights2, .ref mkeptHeats2, .ref mkeptSights, .long mo_hash])), (mheights, .inl (cy, 8, .inl mheights_a))] H := hP
              have hD : va_D A [(mo, .inr (12, [.ref mpage, .int mo_pageMany, .int mo_law, .int mo_many, .int mo_asked, .int mo_looksAll, .int mo_changes, .int mo_rowsRead, .ref mkeys, .ref mvalues, .ref mheights, .ref mheats, .int mo_secondMany, .ref msecondKeys, .ref msecondValues, .ref msecondHeights, .ref msecondHeats, .int (fn_X12_nextIn mo_many mheights_a x2_24 x3_24), .int (mo_foundLooks_24 + 1), .int mo_foundLane_24, .int mo_bestsDone, .ref msaved, .ref mbestHeights, .int mo_seenMany, .ref msights, .ref mby, .int mo_seedNow, .int mo_keptRow, .int mo_keptMany, .int mo_keptSecond, .int mo_keptAsked, .int mo_keptLooks, .int mo_keptChanges, .int mo_keptSeen, .ref mkeptKeys, .ref mkeptValues, .ref mkeptHeights, .ref mkeptHeats, .ref mkeptKeys2, .ref mkeptValues2, .ref mkeptHeights2, .ref mkeptHeats2, .ref mkeptSights, .long mo_hash])), (mheights, .inl (cy, 8, .inl mheights_a))] := hD
              refine lv_aload_n hx hb dX12_lookNumber_76 rfl (lv_at hl 3 rfl) ?_
              refine lv_iload_n hx hb dX12_lookNumber_77 rfl (lv_at hl 1 rfl) ?_
              refine va_put (D := D) (ci := 12) (v := .int x3_24) (ty := .int) (C := RX12) (T := TX12) (N := 44) hx hb htb inX12 tyX12 tyX12_ok nmX12 hown hK hP hD hS 0 rfl rfl 19 (by decide) (htb _ tw_782) (fun _ h9 => h9) rfl (by decide +kernel) rfl rfl (Nat.le_of_ble_eq_true rfl) dX12_lookNumber_78 (fun H locs hP hD hS => ?_)
              have hP : va_P D classes [(mo, .inr (12, [.ref mpage, .int mo_pageMany, .int mo_law, .int mo_many, .int mo_asked, .int mo_looksAll, .int mo_changes, .int mo_rowsRead, .ref mkeys, .ref mvalues, .ref mheights, .ref mheats, .int mo_secondMany, .ref msecondKeys, .ref msecondValues, .ref msecondHeights, .ref msecondHeats, .int (fn_X12_nextIn mo_many mheights_a x2_24 x3_24), .int (mo_foundLooks_24 + 1), .int x3_24, .int mo_bestsDone, .ref msaved, .ref mbestHeights, .int mo_seenMany, .ref msights, .ref mby, .int mo_seedNow, .int mo_keptRow, .int mo_keptMany, .int mo_keptSecond, .int mo_keptAsked, .int mo_keptLooks, .int mo_keptChanges, .int mo_keptSeen, .ref mkeptKeys, .ref mkeptValues, .ref mkeptHeights, .ref mkeptHeats, .ref mkeptKeys2, .ref mkeptValues2, .ref mkeptHeights2, .ref mkeptHeats2, .ref mkeptSights, .long mo_hash])), (mheights, .inl (cy, 8, .inl mheights_a))] H := hP
              have hD : va_D A [(mo, .inr (12, [.ref mpage, .int mo_pageMany, .int mo_law, .int mo_many, .int mo_asked, .int mo_looksAll, .int mo_changes, .int mo_rowsRead, .ref mkeys, .ref mvalues, .ref mheights, .ref mheats, .int mo_secondMany, .ref msecondKeys, .ref msecondValues, .ref msecondHeights, .ref msecondHeats, .int (fn_X12_nextIn mo_many mheights_a x2_24 x3_24), .int (mo_foundLooks_24 + 1), .int x3_24, .int mo_bestsDone, .ref msaved, .ref mbestHeights, .int mo_seenMany, .ref msights, .ref mby, .int mo_seedNow, .int mo_keptRow, .int mo_keptMany, .int mo_keptSecond, .int mo_keptAsked, .int mo_keptLooks, .int mo_keptChanges, .int mo_keptSeen, .ref mkeptKeys, .ref mkeptValues, .ref mkeptHeights, .ref mkeptHeats, .ref mkeptKeys2, .ref mkeptValues2, .ref mkeptHeights2, .ref mkeptHeats2, .ref mkeptSights, .long mo_hash])), (mheights, .inl (cy, 8, .inl mheights_a))] := hD
              refine lv_goto (tgt := 105) hx hb dX12_lookNumber_81 (by decide) ?_
              refine lv_goto (tgt := 24) hx hb dX12_lookNumber_105 (by decide) ?_
              have k_27 := wk_rng x2_24
              have k_28 := wk_rng x3_24
              have k_29 := wk_rng (fn_X12_nextIn mo_many mheights_a x2_24 x3_24)
              have k_30 := wk_rng (mo_foundLooks_24 + 1)
              have k_31 := wk_rng x3_24
              exact ih_24 x2_24 x3_24 (fn_X12_nextIn mo_many mheights_a x2_24 x3_24) (mo_foundLooks_24 + 1) x3_24 _ _ _ (show (-1) ≤ x2_24.toInt ∧ x2_24.toInt ≤ 7 from by omega) (show (-1) ≤ (fn_X12_nextIn mo_many mheights_a x2_24 x3_24).toInt ∧ (fn_X12_nextIn mo_many mheights_a x2_24 x3_24).toInt ≤ 7 from by omega) (show (7 - x2_24.toInt) * 2147483648 + ((((x3_24.toInt + 1).toNat : Nat) : Int)) + (7 - (fn_X12_nextIn mo_many mheights_a x2_24 x3_24).toInt) < ((fu_24 : Nat) : Int) from by omega) hF hP hD hS (lv_sub hl [1, 2, 3, 4] rfl)
          · have k_12 : (fn_X12_nextIn mo_many mheights_a x2_24 x3_24).toInt = (-1) := wk_eq c_12
            rw [if_pos c_12] at hF
            refine lv_iconst (v := 0) hx hb dX12_lookNumber_55 (by decide) ?_
            refine lv_goto (tgt := 60) hx hb dX12_lookNumber_56 (by decide) ?_
            refine lv_iadd hx hb dX12_lookNumber_60 ?_
            have k_32 : (mo_foundLooks_24 + 0).toInt = mo_foundLooks_24.toInt + 0 := wk_add mo_foundLooks_24.toInt 0 rfl rfl (by have h9 := wk_rng mo_foundLooks_24; omega) (by have h9 := wk_rng mo_foundLooks_24; omega)
            refine va_put (D := D) (ci := 12) (v := .int (mo_foundLooks_24 + 0)) (ty := .int) (C := RX12) (T := TX12) (N := 44) hx hb htb inX12 tyX12 tyX12_ok nmX12 hown hK hP hD hS 0 rfl rfl 18 (by decide) (htb _ tw_781) (fun _ h9 => h9) rfl (by decide +kernel) rfl rfl (Nat.le_of_ble_eq_true rfl) dX12_lookNumber_61 (fun H locs hP hD hS => ?_)
            have hP : va_P D classes [(mo, .inr (12, [.ref mpage, .int mo_pageMany, .int mo_law, .int mo_many, .int mo_asked, .int mo_looksAll, .int mo_changes, .int mo_rowsRead, .ref mkeys, .ref mvalues, .ref mheights, .ref mheats, .int mo_secondMany, .ref msecondKeys, .ref msecondValues, .ref msecondHeights, .ref msecondHeats, .int mo_foundAt_24, .int (mo_foundLooks_24 + 0), .int mo_foundLane_24, .int mo_bestsDone, .ref msaved, .ref mbestHeights, .int mo_seenMany, .ref msights, .ref mby, .int mo_seedNow, .int mo_keptRow, .int mo_keptMany, .int mo_keptSecond, .int mo_keptAsked, .int mo_keptLooks, .int mo_keptChanges, .int mo_keptSeen, .ref mkeptKeys, .ref mkeptValues, .ref mkeptHeights, .ref mkeptHeats, .ref mkeptKeys2, .ref mkeptValues2, .ref mkeptHeights2, .ref mkeptHeats2, .ref mkeptSights, .long mo_hash])), (mheights, .inl (cy, 8, .inl mheights_a))] H := hP
            have hD : va_D A [(mo, .inr (12, [.ref mpage, .int mo_pageMany, .int mo_law, .int mo_many, .int mo_asked, .int mo_looksAll, .int mo_changes, .int mo_rowsRead, .ref mkeys, .ref mvalues, .ref mheights, .ref mheats, .int mo_secondMany, .ref msecondKeys, .ref msecondValues, .ref msecondHeights, .ref msecondHeats, .int mo_foundAt_24, .int (mo_foundLooks_24 + 0), .int mo_foundLane_24, .int mo_bestsDone, .ref msaved, .ref mbestHeights, .int mo_seenMany, .ref msights, .ref mby, .int mo_seedNow, .int mo_keptRow, .int mo_keptMany, .int mo_keptSecond, .int mo_keptAsked, .int mo_keptLooks, .int mo_keptChanges, .int mo_keptSeen, .ref mkeptKeys, .ref mkeptValues, .ref mkeptHeights, .ref mkeptHeats, .ref mkeptKeys2, .ref mkeptValues2, .ref mkeptHeights2, .ref mkeptHeats2, .ref mkeptSights, .long mo_hash])), (mheights, .inl (cy, 8, .inl mheights_a))] := hD
            refine lv_iload hx hb dX12_lookNumber_64 (lv_at hl 0 rfl) ?_
            refine lv_iload_n hx hb dX12_lookNumber_66 rfl (lv_at hl 4 rfl) ?_
            refine lv_icmp_ne (tgt := 84) hx hb dX12_lookNumber_67 (by decide) (fun c_33 => ?_) (fun c_33 => ?_)
            · have k_33 : ¬ (fn_X12_nextIn mo_many mheights_a x2_24 x3_24).toInt = a.toInt := wk_neq c_33
              rw [if_neg c_33] at hF
              refine lv_iload hx hb dX12_lookNumber_84 (lv_at hl 0 rfl) ?_
              refine lv_iconst (v := (-1)) hx hb dX12_lookNumber_86 (by decide) ?_
              refine lv_icmp_eq (tgt := 102) hx hb dX12_lookNumber_87 (by decide) (fun c_34 => ?_) (fun c_34 => ?_)
              · have k_34 : (fn_X12_nextIn mo_many mheights_a x2_24 x3_24).toInt = (-1) := wk_eq c_34
                rw [if_pos c_34] at hF
                refine lv_iinc (v := (x3_24 + (-1))) (lv' := [(3, .int (x3_24 + (-1))), (4, .int (fn_X12_nextIn mo_many mheights_a x2_24 x3_24)), (2, .int x2_24), (0, .ref mo), (1, .int a)]) hx hb dX12_lookNumber_102 hl (k := 1) rfl rfl (by decide) rfl (fun ls hl => ?_)
                have k_35 : (x3_24 + (-1)).toInt = x3_24.toInt + (-1) := wk_add x3_24.toInt (-1) rfl rfl (by have h9 := wk_rng x3_24; omega) (by have h9 := wk_rng x3_24; omega)
                refine lv_goto (tgt := 24) hx hb dX12_lookNumber_105 (by decide) ?_
                have k_36 := wk_rng x2_24
                have k_37 := wk_rng (x3_24 + (-1))
                have k_38 := wk_rng mo_foundAt_24
                have k_39 := wk_rng (mo_foundLooks_24 + 0)
                have k_40 := wk_rng mo_foundLane_24
                exact ih_24 x2_24 (x3_24 + (-1)) mo_foundAt_24 (mo_foundLooks_24 + 0) mo_foundLane_24 _ _ _ (show (-1) ≤ x2_24.toInt ∧ x2_24.toInt ≤ 7 from by omega) (show (-1) ≤ mo_foundAt_24.toInt ∧ mo_foundAt_24.toInt ≤ 7 from by omega) (show (7 - x2_24.toInt) * 2147483648 + (((((x3_24 + (-1)).toInt + 1).toNat : Nat) : Int)) + (7 - mo_foundAt_24.toInt) < ((fu_24 : Nat) : Int) from by omega) hF hP hD hS (lv_sub hl [0, 2, 3, 4] rfl)
              · have k_34 : ¬ (fn_X12_nextIn mo_many mheights_a x2_24 x3_24).toInt = (-1) := wk_neq c_34
                rw [if_neg c_34] at hF
                exfalso; omega
            · have k_33 : (fn_X12_nextIn mo_many mheights_a x2_24 x3_24).toInt = a.toInt := wk_eq c_33
              rw [if_pos c_33] at hF
              refine lv_aload_n hx hb dX12_lookNumber_70 rfl (lv_at hl 3 rfl) ?_
              refine lv_iload hx hb dX12_lookNumber_71 (lv_at hl 0 rfl) ?_
              refine va_put (D := D) (ci := 12) (v := .int (fn_X12_nextIn mo_many mheights_a x2_24 x3_24)) (ty := .int) (C := RX12) (T := TX12) (N := 44) hx hb htb inX12 tyX12 tyX12_ok nmX12 hown hK hP hD hS 0 rfl rfl 17 (by decide) (htb _ tw_780) (fun _ h9 => h9) rfl (by decide +kernel) rfl rfl (Nat.le_of_ble_eq_true rfl) dX12_lookNumber_73 (fun H locs hP hD hS => ?_)
              have hP : va_P D classes [(mo, .inr (12, [.ref mpage, .int mo_pageMany, .int mo_law, .int mo_many, .int mo_asked, .int mo_looksAll, .int mo_changes, .int mo_rowsRead, .ref mkeys, .ref mvalues, .ref mheights, .ref mheats, .int mo_secondMany, .ref msecondKeys, .ref msecondValues, .ref msecondHeights, .ref msecondHeats, .int (fn_X12_nextIn mo_many mheights_a x2_24 x3_24), .int (mo_foundLooks_24 + 0), .int mo_foundLane_24, .int mo_bestsDone, .ref msaved, .ref mbestHeights, .int mo_seenMany, .ref msights, .ref mby, .int mo_seedNow, .int mo_keptRow, .int mo_keptMany, .int mo_keptSecond, .int mo_keptAsked, .int mo_keptLooks, .int mo_keptChanges, .int mo_keptSeen, .ref mkeptKeys, .ref mkeptValues, .ref mkeptHeights, .ref mkeptHeats, .ref mkeptKeys2, .ref mkeptValues2, .ref mkeptHeights2, .ref mkeptHeats2, .ref mkeptSights, .long mo_hash])), (mheights, .inl (cy, 8, .inl mheights_a))] H := hP
              have hD : va_D A [(mo, .inr (12, [.ref mpage, .int mo_pageMany, .int mo_law, .int mo_many, .int mo_asked, .int mo_looksAll, .int mo_changes, .int mo_rowsRead, .ref mkeys, .ref mvalues, .ref mheights, .ref mheats, .int mo_secondMany, .ref msecondKeys, .ref msecondValues, .ref msecondHeights, .ref msecondHeats, .int (fn_X12_nextIn mo_many mheights_a x2_24 x3_24), .int (mo_foundLooks_24 + 0), .int mo_foundLane_24, .int mo_bestsDone, .ref msaved, .ref mbestHeights, .int mo_seenMany, .ref msights, .ref mby, .int mo_seedNow, .int mo_keptRow, .int mo_keptMany, .int mo_keptSecond, .int mo_keptAsked, .int mo_keptLooks, .int mo_keptChanges, .int mo_keptSeen, .ref mkeptKeys, .ref mkeptValues, .ref mkeptHeights, .ref mkeptHeats, .ref mkeptKeys2, .ref mkeptValues2, .ref mkeptHeights2, .ref mkeptHeats2, .ref mkeptSights, .long mo_hash])), (mheights, .inl (cy, 8, .inl mheights_a))] := hD
              refine lv_aload_n hx hb dX12_lookNumber_76 rfl (lv_at hl 3 rfl) ?_
              refine lv_iload_n hx hb dX12_lookNumber_77 rfl (lv_at hl 1 rfl) ?_
              refine va_put (D := D) (ci := 12) (v := .int x3_24) (ty := .int) (C := RX12) (T := TX12) (N := 44) hx hb htb inX12 tyX12 tyX12_ok nmX12 hown hK hP hD hS 0 rfl rfl 19 (by decide) (htb _ tw_782) (fun _ h9 => h9) rfl (by decide +kernel) rfl rfl (Nat.le_of_ble_eq_true rfl) dX12_lookNumber_78 (fun H locs hP hD hS => ?_)
              have hP : va_P D classes [(mo, .inr (12, [.ref mpage, .int mo_pageMany, .int mo_law, .int mo_many, .int mo_asked, .int mo_looksAll, .int mo_changes, .int mo_rowsRead, .ref mkeys, .ref mvalues, .ref mheights, .ref mheats, .int mo_secondMany, .ref msecondKeys, .ref msecondValues, .ref msecondHeights, .ref msecondHeats, .int (fn_X12_nextIn mo_many mheights_a x2_24 x3_24), .int (mo_foundLooks_24 + 0), .int x3_24, .int mo_bestsDone, .ref msaved, .ref mbestHeights, .int mo_seenMany, .ref msights, .ref mby, .int mo_seedNow, .int mo_keptRow, .int mo_keptMany, .int mo_keptSecond, .int mo_keptAsked, .int mo_keptLooks, .int mo_keptChanges, .int mo_keptSeen, .ref mkeptKeys, .ref mkeptValues, .ref mkeptHeights, .ref mkeptHeats, .ref mkeptKeys2, .ref mkeptValues2, .ref mkeptHeights2, .ref mkeptHeats2, .ref mkeptSights, .long mo_hash])), (mheights, .inl (cy, 8, .inl mheights_a))] H := hP
              have hD : va_D A [(mo, .inr (12, [.ref mpage, .int mo_pageMany, .int mo_law, .int mo_many, .int mo_asked, .int mo_looksAll, .int mo_changes, .int mo_rowsRead, .ref mkeys, .ref mvalues, .ref mheights, .ref mheats, .int mo_secondMany, .ref msecondKeys, .ref msecondValues, .ref msecondHeights, .ref msecondHeats, .int (fn_X12_nextIn mo_many mheights_a x2_24 x3_24), .int (mo_foundLooks_24 + 0), .int x3_24, .int mo_bestsDone, .ref msaved, .ref mbestHeights, .int mo_seenMany, .ref msights, .ref mby, .int mo_seedNow, .int mo_keptRow, .int mo_keptMany, .int mo_keptSecond, .int mo_keptAsked, .int mo_keptLooks, .int mo_keptChanges, .int mo_keptSeen, .ref mkeptKeys, .ref mkeptValues, .ref mkeptHeights, .ref mkeptHeats, .ref mkeptKeys2, .ref mkeptValues2, .ref mkeptHeights2, .ref mkeptHeats2, .ref mkeptSights, .long mo_hash])), (mheights, .inl (cy, 8, .inl mheights_a))] := hD
              refine lv_goto (tgt := 105) hx hb dX12_lookNumber_81 (by decide) ?_
              refine lv_goto (tgt := 24) hx hb dX12_lookNumber_105 (by decide) ?_
              have k_41 := wk_rng x2_24
              have k_42 := wk_rng x3_24
              have k_43 := wk_rng (fn_X12_nextIn mo_many mheights_a x2_24 x3_24)
              have k_44 := wk_rng (mo_foundLooks_24 + 0)
              have k_45 := wk_rng x3_24
              exact ih_24 x2_24 x3_24 (fn_X12_nextIn mo_many mheights_a x2_24 x3_24) (mo_foundLooks_24 + 0) x3_24 _ _ _ (show (-1) ≤ x2_24.toInt ∧ x2_24.toInt ≤ 7 from by omega) (show (-1) ≤ (fn_X12_nextIn mo_many mheights_a x2_24 x3_24).toInt ∧ (fn_X12_nextIn mo_many mheights_a x2_24 x3_24).toInt ≤ 7 from by omega) (show (7 - x2_24.toInt) * 2147483648 + ((((x3_24.toInt + 1).toNat : Nat) : Int)) + (7 - (fn_X12_nextIn mo_many mheights_a x2_24 x3_24).toInt) < ((fu_24 : Nat) : Int) from by omega) hF hP hD hS (lv_sub hl [1, 2, 3, 4] rfl)
  have k_46 := wk_rng ((fn_X12_lanes mo_many mheights_a) - 1)
  exact hlp_24 42949672960 (-1) ((fn_X12_lanes mo_many mheights_a) - 1) (-1) 0 (-1) _ _ _ (show (-1) ≤ (-1) ∧ (-1) ≤ 7 from by omega) (show (-1) ≤ (-1) ∧ (-1) ≤ 7 from by omega) (show (7 - (-1)) * 2147483648 + ((((((fn_X12_lanes mo_many mheights_a) - 1).toInt + 1).toNat : Nat) : Int)) + (7 - (-1)) < ((42949672960 : Nat) : Int) from by omega) hF hP hD hS (lv_sub hl [0, 1, 2, 3] rfl)
def fn_X12_tellFound (mo_foundAt : Int32) (mo_foundLooks : Int32) (mo_foundLane : Int32) (mvalues_a : Nat → Int32) (a : Int32) : Int32 := (if a = 0 then mo_foundAt else (if a = 1 then mo_foundLooks else (if a = 2 then mo_foundLane else (if mo_foundAt = (-1) then (-1) else (mvalues_a mo_foundAt.toNatClampNeg)))))
theorem dX12_tellFound_0 : decode cX12_tellFound 0 = .ok (.iload_n 1, 1) := by decide +kernel
theorem dX12_tellFound_1 : decode cX12_tellFound 1 = .ok (.ifCond .ne 10, 3) := by decide +kernel
theorem dX12_tellFound_4 : decode cX12_tellFound 4 = .ok (.aload_n 0, 1) := by decide +kernel
theorem dX12_tellFound_5 : decode cX12_tellFound 5 = .ok (.getfield 158, 3) := by decide +kernel
theorem dX12_tellFound_8 : decode cX12_tellFound 8 = .ok (.goto 48, 3) := by decide +kernel
theorem dX12_tellFound_11 : decode cX12_tellFound 11 = .ok (.iload_n 1, 1) := by decide +kernel
theorem dX12_tellFound_12 : decode cX12_tellFound 12 = .ok (.iconst 1, 1) := by decide +kernel
theorem dX12_tellFound_13 : decode cX12_tellFound 13 = .ok (.if_icmp .ne 10, 3) := by decide +kernel
theorem dX12_tellFound_16 : decode cX12_tellFound 16 = .ok (.aload_n 0, 1) := by decide +kernel
theorem dX12_tellFound_17 : decode cX12_tellFound 17 = .ok (.getfield 161, 3) := by decide +kernel
theorem dX12_tellFound_20 : decode cX12_tellFound 20 = .ok (.goto 36, 3) := by decide +kernel
theorem dX12_tellFound_23 : decode cX12_tellFound 23 = .ok (.iload_n 1, 1) := by decide +kernel
theorem dX12_tellFound_24 : decode cX12_tellFound 24 = .ok (.iconst 2, 1) := by decide +kernel
theorem dX12_tellFound_25 : decode cX12_tellFound 25 = .ok (.if_icmp .ne 10, 3) := by decide +kernel
theorem dX12_tellFound_28 : decode cX12_tellFound 28 = .ok (.aload_n 0, 1) := by decide +kernel
theorem dX12_tellFound_29 : decode cX12_tellFound 29 = .ok (.getfield 164, 3) := by decide +kernel
theorem dX12_tellFound_32 : decode cX12_tellFound 32 = .ok (.goto 24, 3) := by decide +kernel
theorem dX12_tellFound_35 : decode cX12_tellFound 35 = .ok (.aload_n 0, 1) := by decide +kernel
theorem dX12_tellFound_36 : decode cX12_tellFound 36 = .ok (.getfield 158, 3) := by decide +kernel
theorem dX12_tellFound_39 : decode cX12_tellFound 39 = .ok (.iconst (-1), 1) := by decide +kernel
theorem dX12_tellFound_40 : decode cX12_tellFound 40 = .ok (.if_icmp .ne 7, 3) := by decide +kernel
theorem dX12_tellFound_43 : decode cX12_tellFound 43 = .ok (.iconst (-1), 1) := by decide +kernel
theorem dX12_tellFound_44 : decode cX12_tellFound 44 = .ok (.goto 12, 3) := by decide +kernel
theorem dX12_tellFound_47 : decode cX12_tellFound 47 = .ok (.aload_n 0, 1) := by decide +kernel
theorem dX12_tellFound_48 : decode cX12_tellFound 48 = .ok (.getfield 16, 3) := by decide +kernel
theorem dX12_tellFound_51 : decode cX12_tellFound 51 = .ok (.aload_n 0, 1) := by decide +kernel
theorem dX12_tellFound_52 : decode cX12_tellFound 52 = .ok (.getfield 158, 3) := by decide +kernel
theorem dX12_tellFound_55 : decode cX12_tellFound 55 = .ok (.iaload, 1) := by decide +kernel
theorem dX12_tellFound_56 : decode cX12_tellFound 56 = .ok (.ireturn, 1) := by decide +kernel
set_option maxHeartbeats 4000000 in
set_option maxRecDepth 100000 in
theorem c_X12_tellFound (l : Launch) (D : va_G) (cy : ClassId) (mo mpage mkeys mvalues mheights mheats msecondKeys msecondValues msecondHeights msecondHeats msaved mbestHeights msights mby mkeptKeys mkeptValues mkeptHeights mkeptHeats mkeptKeys2 mkeptValues2 mkeptHeights2 mkeptHeats2 mkeptSights : Nat) (mo_pageMany : Int32) (mo_law : Int32) (mo_many : Int32) (mo_asked : Int32) (mo_looksAll : Int32) (mo_changes : Int32) (mo_rowsRead : Int32) (mo_secondMany : Int32) (mo_foundAt : Int32) (mo_foundLooks : Int32) (mo_foundLane : Int32) (mo_bestsDone : Int32) (mo_seenMany : Int32) (mo_seedNow : Int32) (mo_keptRow : Int32) (mo_keptMany : Int32) (mo_keptSecond : Int32) (mo_keptAsked : Int32) (mo_keptLooks : Int32) (mo_keptChanges : Int32) (mo_keptSeen : Int32) (mo_hash : Int64) (mvalues_a : Nat → Int32) (a : Int32) (g_0 : 0 ≤ mo_pageMany.toInt ∧ mo_pageMany.toInt ≤ 44) (g_1 : 0 ≤ mo_many.toInt ∧ mo_many.toInt ≤ 8) (g_2 : 0 ≤ mo_secondMany.toInt ∧ mo_secondMany.toInt ≤ 8) (g_3 : (-1) ≤ mo_foundAt.toInt ∧ mo_foundAt.toInt ≤ 7) (g_4 : 0 ≤ mo_seenMany.toInt ∧ mo_seenMany.toInt ≤ 6) (g_5 : 0 ≤ mo_keptMany.toInt ∧ mo_keptMany.toInt ≤ 8) (g_6 : 0 ≤ mo_keptSecond.toInt ∧ mo_keptSecond.toInt ≤ 8) (g_7 : 0 ≤ mo_keptSeen.toInt ∧ mo_keptSeen.toInt ≤ 6) : wk_Ci l yX12_tellFound cX12_tellFound 2 (some .int) { frames := 0, cells := 0, slots := 0, locals := 0 } D cy [.ref mo, .int a] [(mo, .inr (12, [.ref mpage, .int mo_pageMany, .int mo_law, .int mo_many, .int mo_asked, .int mo_looksAll, .int mo_changes, .int mo_rowsRead, .ref mkeys, .ref mvalues, .ref mheights, .ref mheats, .int mo_secondMany, .ref msecondKeys, .ref msecondValues, .ref msecondHeights, .ref msecondHeats, .int mo_foundAt, .int mo_foundLooks, .int mo_foundLane, .int mo_bestsDone, .ref msaved, .ref mbestHeights, .int mo_seenMany, .ref msights, .ref mby, .int mo_seedNow, .int mo_keptRow, .int mo_keptMany, .int mo_keptSecond, .int mo_keptAsked, .int mo_keptLooks, .int mo_keptChanges, .int mo_keptSeen, .ref mkeptKeys, .ref mkeptValues, .ref mkeptHeights, .ref mkeptHeats, .ref mkeptKeys2, .ref mkeptValues2, .ref mkeptHeights2, .ref mkeptHeats2, .ref mkeptSights, .long mo_hash])), (mvalues, .inl (cy, 8, .inl mvalues_a))] 0 0 (fun (r : Int32) (u : Unit) => r = (fn_X12_tellFound mo_foundAt mo_foundLooks mo_foundLane mvalues_a a)) (fun u => [(mo, .inr (12, [.ref mpage, .int mo_pageMany, .int mo_law, .int mo_many, .int mo_asked, .int mo_looksAll, .int mo_changes, .int mo_rowsRead, .ref mkeys, .ref mvalues, .ref mheights, .ref mheats, .int mo_secondMany, .ref msecondKeys, .ref msecondValues, .ref msecondHeights, .ref msecondHeats, .int mo_foundAt, .int mo_foundLooks, .int mo_foundLane, .int mo_bestsDone, .ref msaved, .ref mbestHeights, .int mo_seenMany, .ref msights, .ref mby, .int mo_seedNow, .int mo_keptRow, .int mo_keptMany, .int mo_keptSecond, .int mo_keptAsked, .int mo_keptLooks, .int mo_keptChanges, .int mo_keptSeen, .ref mkeptKeys, .ref mkeptValues, .ref mkeptHeights, .ref mkeptHeats, .ref mkeptKeys2, .ref mkeptValues2, .ref mkeptHeights2, .ref mkeptHeats2, .ref mkeptSights, .long mo_hash])), (mvalues, .inl (cy, 8, .inl mvalues_a))]) := by
  refine wk_mk2Ci (by decide) (Nat.le_of_ble_eq_true rfl) ?_
  intro p e s m args below meth c A ls Q B hA hK hP hD hS hl hret
  obtain ⟨hx, hb, hr, hlocks, hml, hown, htb, hin⟩ := B
  have hl : lv_has ls 2 [(0, .ref mo), (1, .int a)] := hl
  have hF : (fn_X12_tellFound mo_foundAt mo_foundLooks mo_foundLane mvalues_a a) = (fn_X12_tellFound mo_foundAt mo_foundLooks mo_foundLane mvalues_a a) := rfl
  conv at hF => rhs; unfold fn_X12_tellFound
  refine lv_iload_n hx hb dX12_tellFound_0 rfl (lv_at hl 1 rfl) ?_
  refine lv_if_ne (tgt := 11) hx hb dX12_tellFound_1 (by decide) (fun c_1 => ?_) (fun c_1 => ?_)
  · have k_1 : ¬ a.toInt = 0 := wk_neq c_1
    rw [if_neg c_1] at hF
    refine lv_iload_n hx hb dX12_tellFound_11 rfl (lv_at hl 1 rfl) ?_
    refine lv_iconst (v := 1) hx hb dX12_tellFound_12 (by decide) ?_
    refine lv_icmp_ne (tgt := 23) hx hb dX12_tellFound_13 (by decide) (fun c_2 => ?_) (fun c_2 => ?_)
    · have k_2 : ¬ a.toInt = 1 := wk_neq c_2
      rw [if_neg c_2] at hF
      refine lv_iload_n hx hb dX12_tellFound_23 rfl (lv_at hl 1 rfl) ?_
      refine lv_iconst (v := 2) hx hb dX12_tellFound_24 (by decide) ?_
      refine lv_icmp_ne (tgt := 35) hx hb dX12_tellFound_25 (by decide) (fun c_3 => ?_) (fun c_3 => ?_)
      · have k_3 : ¬ a.toInt = 2 := wk_neq c_3
        rw [if_neg c_3] at hF
        refine lv_aload_n hx hb dX12_tellFound_35 rfl (lv_at hl 0 rfl) ?_
        refine va_get (D := D) (ci := 12) (v := .int mo_foundAt) (C := RX12) (T := TX12) (N := 44) hx hb htb inX12 hown hK hP 0 rfl rfl 17 (by decide) (htb _ tw_780) (fun _ h9 => h9) rfl dX12_tellFound_36 ?_
        refine lv_iconst (v := (-1)) hx hb dX12_tellFound_39 (by decide) ?_
        refine lv_icmp_ne (tgt := 47) hx hb dX12_tellFound_40 (by decide) (fun c_4 => ?_) (fun c_4 => ?_)
        · have k_4 : ¬ mo_foundAt.toInt = (-1) := wk_neq c_4
          rw [if_neg c_4] at hF
          refine lv_aload_n hx hb dX12_tellFound_47 rfl (lv_at hl 0 rfl) ?_
          refine va_get (D := D) (ci := 12) (v := .ref mvalues) (C := RX12) (T := TX12) (N := 44) hx hb htb inX12 hown hK hP 0 rfl rfl 9 (by decide) (htb _ tw_772) (fun _ h9 => h9) rfl dX12_tellFound_48 ?_
          refine lv_aload_n hx hb dX12_tellFound_51 rfl (lv_at hl 0 rfl) ?_
          refine va_get (D := D) (ci := 12) (v := .int mo_foundAt) (C := RX12) (T := TX12) (N := 44) hx hb htb inX12 hown hK hP 0 rfl rfl 17 (by decide) (htb _ tw_780) (fun _ h9 => h9) rfl dX12_tellFound_52 ?_
          refine va_iald hx hb hK hP 1 0 rfl rfl (show vp_in mo_foundAt 8 from vp_in_iff.mpr (show 0 ≤ mo_foundAt.toInt ∧ mo_foundAt.toInt < ((8 : Nat) : Int) from by omega)) dX12_tellFound_55 ?_
          refine W.widen (k := 0) (n := 0) (by decide) (by decide) ?_
          exact hret (mvalues_a mo_foundAt.toNatClampNeg) () _ _ _ 56 (wk_sub9 (is := [0, 1]) hP rfl) (hD.sub [0, 1] rfl rfl) hS dX12_tellFound_56 hF.symm
        · have k_4 : mo_foundAt.toInt = (-1) := wk_eq c_4
          rw [if_pos c_4] at hF
          refine lv_iconst (v := (-1)) hx hb dX12_tellFound_43 (by decide) ?_
          refine lv_goto (tgt := 56) hx hb dX12_tellFound_44 (by decide) ?_
          refine W.widen (k := 0) (n := 0) (by decide) (by decide) ?_
          exact hret (-1) () _ _ _ 56 (wk_sub9 (is := [0, 1]) hP rfl) (hD.sub [0, 1] rfl rfl) hS dX12_tellFound_56 hF.symm
      · have k_3 : a.toInt = 2 := wk_eq c_3
        rw [if_pos c_3] at hF
        refine lv_aload_n hx hb dX12_tellFound_28 rfl (lv_at hl 0 rfl) ?_
        refine va_get (D := D) (ci := 12) (v := .int mo_foundLane) (C := RX12) (T := TX12) (N := 44) hx hb htb inX12 hown hK hP 0 rfl rfl 19 (by decide) (htb _ tw_782) (fun _ h9 => h9) rfl dX12_tellFound_29 ?_
        refine lv_goto (tgt := 56) hx hb dX12_tellFound_32 (by decide) ?_
        refine W.widen (k := 0) (n := 0) (by decide) (by decide) ?_
        exact hret mo_foundLane () _ _ _ 56 (wk_sub9 (is := [0, 1]) hP rfl) (hD.sub [0, 1] rfl rfl) hS dX12_tellFound_56 hF.symm
    · have k_2 : a.toInt = 1 := wk_eq c_2
      rw [if_pos c_2] at hF
      refine lv_aload_n hx hb dX12_tellFound_16 rfl (lv_at hl 0 rfl) ?_
      refine va_get (D := D) (ci := 12) (v := .int mo_foundLooks) (C := RX12) (T := TX12) (N := 44) hx hb htb inX12 hown hK hP 0 rfl rfl 18 (by decide) (htb _ tw_781) (fun _ h9 => h9) rfl dX12_tellFound_17 ?_
      refine lv_goto (tgt := 56) hx hb dX12_tellFound_20 (by decide) ?_
      refine W.widen (k := 0) (n := 0) (by decide) (by decide) ?_
      exact hret mo_foundLooks () _ _ _ 56 (wk_sub9 (is := [0, 1]) hP rfl) (hD.sub [0, 1] rfl rfl) hS dX12_tellFound_56 hF.symm
  · have k_1 : a.toInt = 0 := wk_eq c_1
    rw [if_pos c_1] at hF
    refine lv_aload_n hx hb dX12_tellFound_4 rfl (lv_at hl 0 rfl) ?_
    refine va_get (D := D) (ci := 12) (v := .int mo_foundAt) (C := RX12) (T := TX12) (N := 44) hx hb htb inX12 hown hK hP 0 rfl rfl 17 (by decide) (htb _ tw_780) (fun _ h9 => h9) rfl dX12_tellFound_5 ?_
    refine lv_goto (tgt := 56) hx hb dX12_tellFound_8 (by decide) ?_
    refine W.widen (k := 0) (n := 0) (by decide) (by decide) ?_
    exact hret mo_foundAt () _ _ _ 56 (wk_sub9 (is := [0, 1]) hP rfl) (hD.sub [0, 1] rfl rfl) hS dX12_tellFound_56 hF.symm
