def lp_X12_divides_2_4 (a : Int32) : Nat → Int32 → Int32 → Int32 × Int32
  | 0, _, _ => default
  | fu_4 + 1, x2_4, x3_4 => (if x3_4 ≤ 0 then (x2_4, x3_4) else (if (x3_4 - x3_4 / 2 * 2) = 0 then (lp_X12_divides_2_4 a fu_4 (x2_4 + 1) (x3_4 / 2)) else (x2_4, x3_4)))
termination_by n => n
def fn_X12_divides_2 (a : Int32) : Int32 := (pm2 (lp_X12_divides_2_4 a 4294967296 0 a) (fun x2_4 x3_4 => x2_4))
theorem dX12_divides_0 : decode cX12_divides 0 = .ok (.iconst 0, 1) := by decide +kernel
theorem dX12_divides_1 : decode cX12_divides 1 = .ok (.istore_n 2, 1) := by decide +kernel
theorem dX12_divides_2 : decode cX12_divides 2 = .ok (.iload_n 1, 1) := by decide +kernel
theorem dX12_divides_3 : decode cX12_divides 3 = .ok (.istore_n 3, 1) := by decide +kernel
theorem dX12_divides_4 : decode cX12_divides 4 = .ok (.iload_n 3, 1) := by decide +kernel
theorem dX12_divides_5 : decode cX12_divides 5 = .ok (.ifCond .le 19, 3) := by decide +kernel
theorem dX12_divides_8 : decode cX12_divides 8 = .ok (.iload_n 3, 1) := by decide +kernel
theorem dX12_divides_9 : decode cX12_divides 9 = .ok (.iload_n 0, 1) := by decide +kernel
theorem dX12_divides_10 : decode cX12_divides 10 = .ok (.irem, 1) := by decide +kernel
theorem dX12_divides_11 : decode cX12_divides 11 = .ok (.ifCond .ne 13, 3) := by decide +kernel
theorem dX12_divides_14 : decode cX12_divides 14 = .ok (.iinc 2 1, 3) := by decide +kernel
theorem dX12_divides_17 : decode cX12_divides 17 = .ok (.iload_n 3, 1) := by decide +kernel
theorem dX12_divides_18 : decode cX12_divides 18 = .ok (.iload_n 0, 1) := by decide +kernel
theorem dX12_divides_19 : decode cX12_divides 19 = .ok (.idiv, 1) := by decide +kernel
theorem dX12_divides_20 : decode cX12_divides 20 = .ok (.istore_n 3, 1) := by decide +kernel
theorem dX12_divides_21 : decode cX12_divides 21 = .ok (.goto (-17), 3) := by decide +kernel
theorem dX12_divides_24 : decode cX12_divides 24 = .ok (.iload_n 2, 1) := by decide +kernel
theorem dX12_divides_25 : decode cX12_divides 25 = .ok (.ireturn, 1) := by decide +kernel
set_option maxHeartbeats 4000000 in
set_option maxRecDepth 100000 in
theorem c_X12_divides_2 (l : Launch) (D : va_G) (cy : ClassId)  (a : Int32)  : wk_Ci l yX12_divides cX12_divides 4 (some .int) { frames := 0, cells := 0, slots := 0, locals := 0 } D cy [.int 2, .int a] [] 0 0 (fun (r : Int32) (u : Unit) => r = (fn_X12_divides_2 a)) (fun u => []) := by
  refine wk_mk2Ci (by decide) (Nat.le_of_ble_eq_true rfl) ?_
  intro p e s m args below meth c A ls Q B hA hK hP hD hS hl hret
  obtain ⟨hx, hb, hr, hlocks, hml, hown, htb, hin⟩ := B
  have hl : lv_has ls 4 [(0, .int 2), (1, .int a)] := hl
  have hF : (fn_X12_divides_2 a) = (fn_X12_divides_2 a) := rfl
  conv at hF => rhs; unfold fn_X12_divides_2
  refine lv_iconst (v := 0) hx hb dX12_divides_0 (by decide) ?_
  refine lv_istore_n (lv' := [(2, .int 0), (0, .int 2), (1, .int a)]) hx hb dX12_divides_1 rfl hl (by decide) rfl (fun ls hl => ?_)
  refine lv_iload_n hx hb dX12_divides_2 rfl (lv_at hl 2 rfl) ?_
  refine lv_istore_n (lv' := [(3, .int a), (2, .int 0), (0, .int 2), (1, .int a)]) hx hb dX12_divides_3 rfl hl (by decide) rfl (fun ls hl => ?_)
  have hlp_4 : ∀ (fu_4 : Nat) (x2_4 : Int32) (x3_4 : Int32) (H : Heap) (locs : List Loc) (ls : Array Slot), x3_4.toInt + 2147483648 < (fu_4 : Int) → ((fn_X12_divides_2 a) = (pm2 (lp_X12_divides_2_4 a fu_4 x2_4 x3_4) (fun x2_4 x3_4 => x2_4))) → va_P D classes [] H → va_D A [] → va_S A s.heap H locs → lv_has ls 4 [(3, .int x3_4), (2, .int x2_4), (0, .int 2), (1, .int a)] → W p l e { frames := 0, cells := 0, slots := 0, locals := 0 } s m args below meth c H locs 0 0 Q (F0 m 4 ls []) := by
    intro fu_4
    induction fu_4 with
    | zero =>
      intro x2_4 x3_4 H locs ls hm hF hP hD hS hl
      have := wk_rng x2_4; have := wk_rng x3_4; exfalso; omega
    | succ fu_4 ih_4 =>
      intro x2_4 x3_4 H locs ls hm hF hP hD hS hl
      rw [lp_X12_divides_2_4] at hF
      refine lv_iload_n hx hb dX12_divides_4 rfl (lv_at hl 0 rfl) ?_
      refine lv_if_le (tgt := 24) hx hb dX12_divides_5 (by decide) (fun c_1 => ?_) (fun c_1 => ?_)
      · have k_1 : x3_4.toInt ≤ 0 := wk_le c_1
        replace hF := hF.trans (pm2_p1 c_1)
        rw [pm2_mk x2_4 x3_4] at hF
        refine lv_iload_n hx hb dX12_divides_24 rfl (lv_at hl 1 rfl) ?_
        refine W.widen (k := 0) (n := 0) (by decide) (by decide) ?_
        exact hret x2_4 () _ _ _ 25 (wk_sub9 (is := []) hP rfl) (hD.sub [] rfl rfl) hS dX12_divides_25 hF.symm
      · have k_1 : ¬ x3_4.toInt ≤ 0 := wk_nle c_1
        replace hF := hF.trans (pm2_n1 c_1)
        refine lv_iload_n hx hb dX12_divides_8 rfl (lv_at hl 0 rfl) ?_
        refine lv_iload_n hx hb dX12_divides_9 rfl (lv_at hl 2 rfl) ?_
        refine lv_irem hx hb dX12_divides_10 (by decide) ?_
        have k_2 : (x3_4 - x3_4 / 2 * 2).toInt = x3_4.toInt % 2 := wk_rem 2 rfl (by omega) (by decide)
        refine lv_if_ne (tgt := 24) hx hb dX12_divides_11 (by decide) (fun c_3 => ?_) (fun c_3 => ?_)
        · have k_3 : ¬ (x3_4 - x3_4 / 2 * 2).toInt = 0 := wk_neq c_3
          replace hF := hF.trans (pm2_n1 c_3)
          rw [pm2_mk x2_4 x3_4] at hF
          refine lv_iload_n hx hb dX12_divides_24 rfl (lv_at hl 1 rfl) ?_
          refine W.widen (k := 0) (n := 0) (by decide) (by decide) ?_
          exact hret x2_4 () _ _ _ 25 (wk_sub9 (is := []) hP rfl) (hD.sub [] rfl rfl) hS dX12_divides_25 hF.symm
        · have k_3 : (x3_4 - x3_4 / 2 * 2).toInt = 0 := wk_eq c_3
          replace hF := hF.trans (pm2_p1 c_3)
          refine lv_iinc (v := (x2_4 + 1)) (lv' := [(2, .int (x2_4 + 1)), (3, .int x3_4), (0, .int 2), (1, .int a)]) hx hb dX12_divides_14 hl (k := 1) rfl rfl (by decide) rfl (fun ls hl => ?_)
          refine lv_iload_n hx hb dX12_divides_17 rfl (lv_at hl 1 rfl) ?_
          refine lv_iload_n hx hb dX12_divides_18 rfl (lv_at hl 2 rfl) ?_
          refine lv_idiv hx hb dX12_divides_19 (by decide) ?_
          have k_4 : (x3_4 / 2).toInt = x3_4.toInt / 2 := wk_div 2 rfl (by omega) (by decide)
          refine lv_istore_n (lv' := [(3, .int (x3_4 / 2)), (2, .int (x2_4 + 1)), (0, .int 2), (1, .int a)]) hx hb dX12_divides_20 rfl hl (by decide) rfl (fun ls hl => ?_)
          refine lv_goto (tgt := 4) hx hb dX12_divides_21 (by decide) ?_
          have k_5 := wk_rng (x2_4 + 1)
          have k_6 := wk_rng (x3_4 / 2)
          exact ih_4 (x2_4 + 1) (x3_4 / 2) _ _ _  (show (x3_4 / 2).toInt + 2147483648 < ((fu_4 : Nat) : Int) from by omega) hF hP hD hS (lv_sub hl [0, 1, 2, 3] rfl)
  have k_7 := wk_rng a
  exact hlp_4 4294967296 0 a _ _ _  (show a.toInt + 2147483648 < ((4294967296 : Nat) : Int) from by omega) hF hP hD hS (lv_sub hl [0, 1, 2, 3] rfl)
def lp_X12_divides_3_4 (a : Int32) : Nat → Int32 → Int32 → Int32 × Int32
  | 0, _, _ => default
  | fu_4 + 1, x2_4, x3_4 => (if x3_4 ≤ 0 then (x2_4, x3_4) else (if (x3_4 - x3_4 / 3 * 3) = 0 then (lp_X12_divides_3_4 a fu_4 (x2_4 + 1) (x3_4 / 3)) else (x2_4, x3_4)))
termination_by n => n
def fn_X12_divides_3 (a : Int32) : Int32 := (pm2 (lp_X12_divides_3_4 a 4294967296 0 a) (fun x2_4 x3_4 => x2_4))
set_option maxHeartbeats 4000000 in
set_option maxRecDepth 100000 in
theorem c_X12_divides_3 (l : Launch) (D : va_G) (cy : ClassId)  (a : Int32)  : wk_Ci l yX12_divides cX12_divides 4 (some .int) { frames := 0, cells := 0, slots := 0, locals := 0 } D cy [.int 3, .int a] [] 0 0 (fun (r : Int32) (u : Unit) => r = (fn_X12_divides_3 a)) (fun u => []) := by
  refine wk_mk2Ci (by decide) (Nat.le_of_ble_eq_true rfl) ?_
  intro p e s m args below meth c A ls Q B hA hK hP hD hS hl hret
  obtain ⟨hx, hb, hr, hlocks, hml, hown, htb, hin⟩ := B
  have hl : lv_has ls 4 [(0, .int 3), (1, .int a)] := hl
  have hF : (fn_X12_divides_3 a) = (fn_X12_divides_3 a) := rfl
  conv at hF => rhs; unfold fn_X12_divides_3
  refine lv_iconst (v := 0) hx hb dX12_divides_0 (by decide) ?_
  refine lv_istore_n (lv' := [(2, .int 0), (0, .int 3), (1, .int a)]) hx hb dX12_divides_1 rfl hl (by decide) rfl (fun ls hl => ?_)
  refine lv_iload_n hx hb dX12_divides_2 rfl (lv_at hl 2 rfl) ?_
  refine lv_istore_n (lv' := [(3, .int a), (2, .int 0), (0, .int 3), (1, .int a)]) hx hb dX12_divides_3 rfl hl (by decide) rfl (fun ls hl => ?_)
  have hlp_4 : ∀ (fu_4 : Nat) (x2_4 : Int32) (x3_4 : Int32) (H : Heap) (locs : List Loc) (ls : Array Slot), x3_4.toInt + 2147483648 < (fu_4 : Int) → ((fn_X12_divides_3 a) = (pm2 (lp_X12_divides_3_4 a fu_4 x2_4 x3_4) (fun x2_4 x3_4 => x2_4))) → va_P D classes [] H → va_D A [] → va_S A s.heap H locs → lv_has ls 4 [(3, .int x3_4), (2, .int x2_4), (0, .int 3), (1, .int a)] → W p l e { frames := 0, cells := 0, slots := 0, locals := 0 } s m args below meth c H locs 0 0 Q (F0 m 4 ls []) := by
    intro fu_4
    induction fu_4 with
    | zero =>
      intro x2_4 x3_4 H locs ls hm hF hP hD hS hl
      have := wk_rng x2_4; have := wk_rng x3_4; exfalso; omega
    | succ fu_4 ih_4 =>
      intro x2_4 x3_4 H locs ls hm hF hP hD hS hl
      rw [lp_X12_divides_3_4] at hF
      refine lv_iload_n hx hb dX12_divides_4 rfl (lv_at hl 0 rfl) ?_
      refine lv_if_le (tgt := 24) hx hb dX12_divides_5 (by decide) (fun c_1 => ?_) (fun c_1 => ?_)
      · have k_1 : x3_4.toInt ≤ 0 := wk_le c_1
        replace hF := hF.trans (pm2_p1 c_1)
        rw [pm2_mk x2_4 x3_4] at hF
        refine lv_iload_n hx hb dX12_divides_24 rfl (lv_at hl 1 rfl) ?_
        refine W.widen (k := 0) (n := 0) (by decide) (by decide) ?_
        exact hret x2_4 () _ _ _ 25 (wk_sub9 (is := []) hP rfl) (hD.sub [] rfl rfl) hS dX12_divides_25 hF.symm
      · have k_1 : ¬ x3_4.toInt ≤ 0 := wk_nle c_1
        replace hF := hF.trans (pm2_n1 c_1)
        refine lv_iload_n hx hb dX12_divides_8 rfl (lv_at hl 0 rfl) ?_
        refine lv_iload_n hx hb dX12_divides_9 rfl (lv_at hl 2 rfl) ?_
        refine lv_irem hx hb dX12_divides_10 (by decide) ?_
        have k_2 : (x3_4 - x3_4 / 3 * 3).toInt = x3_4.toInt % 3 := wk_rem 3 rfl (by omega) (by decide)
        refine lv_if_ne (tgt := 24) hx hb dX12_divides_11 (by decide) (fun c_3 => ?_) (fun c_3 => ?_)
        · have k_3 : ¬ (x3_4 - x3_4 / 3 * 3).toInt = 0 := wk_neq c_3
          replace hF := hF.trans (pm2_n1 c_3)
          rw [pm2_mk x2_4 x3_4] at hF
          refine lv_iload_n hx hb dX12_divides_24 rfl (lv_at hl 1 rfl) ?_
          refine W.widen (k := 0) (n := 0) (by decide) (by decide) ?_
          exact hret x2_4 () _ _ _ 25 (wk_sub9 (is := []) hP rfl) (hD.sub [] rfl rfl) hS dX12_divides_25 hF.symm
        · have k_3 : (x3_4 - x3_4 / 3 * 3).toInt = 0 := wk_eq c_3
          replace hF := hF.trans (pm2_p1 c_3)
          refine lv_iinc (v := (x2_4 + 1)) (lv' := [(2, .int (x2_4 + 1)), (3, .int x3_4), (0, .int 3), (1, .int a)]) hx hb dX12_divides_14 hl (k := 1) rfl rfl (by decide) rfl (fun ls hl => ?_)
          refine lv_iload_n hx hb dX12_divides_17 rfl (lv_at hl 1 rfl) ?_
          refine lv_iload_n hx hb dX12_divides_18 rfl (lv_at hl 2 rfl) ?_
          refine lv_idiv hx hb dX12_divides_19 (by decide) ?_
          have k_4 : (x3_4 / 3).toInt = x3_4.toInt / 3 := wk_div 3 rfl (by omega) (by decide)
          refine lv_istore_n (lv' := [(3, .int (x3_4 / 3)), (2, .int (x2_4 + 1)), (0, .int 3), (1, .int a)]) hx hb dX12_divides_20 rfl hl (by decide) rfl (fun ls hl => ?_)
          refine lv_goto (tgt := 4) hx hb dX12_divides_21 (by decide) ?_
          have k_5 := wk_rng (x2_4 + 1)
          have k_6 := wk_rng (x3_4 / 3)
          exact ih_4 (x2_4 + 1) (x3_4 / 3) _ _ _  (show (x3_4 / 3).toInt + 2147483648 < ((fu_4 : Nat) : Int) from by omega) hF hP hD hS (lv_sub hl [0, 1, 2, 3] rfl)
  have k_7 := wk_rng a
  exact hlp_4 4294967296 0 a _ _ _  (show a.toInt + 2147483648 < ((4294967296 : Nat) : Int) from by omega) hF hP hD hS (lv_sub hl [0, 1, 2, 3] rfl)
def fn_X12_heightBy (mo_law : Int32) (mkeys_a : Nat → Int32) (mheights_a : Nat → Int32) (a : Int32) : Int32 := (if mo_law = 1 then (fn_X12_topped (1 + (fn_X12_divides_2 ((mkeys_a a.toNatClampNeg) + 1)))) else (if mo_law = 2 then (1 + ((((mkeys_a a.toNatClampNeg) / 10) + ((mkeys_a a.toNatClampNeg) - (mkeys_a a.toNatClampNeg) / 10 * 10)) - (((mkeys_a a.toNatClampNeg) / 10) + ((mkeys_a a.toNatClampNeg) - (mkeys_a a.toNatClampNeg) / 10 * 10)) / 4 * 4)) else (if mo_law = 3 then (fn_X12_topped (1 + (fn_X12_divides_2 (a + 1)))) else (if mo_law = 4 then (fn_X12_topped (1 + (fn_X12_divides_3 ((mkeys_a a.toNatClampNeg) + 1)))) else (mheights_a a.toNatClampNeg)))))
theorem dX12_heightBy_0 : decode cX12_heightBy 0 = .ok (.aload_n 0, 1) := by decide +kernel
theorem dX12_heightBy_1 : decode cX12_heightBy 1 = .ok (.getfield 13, 3) := by decide +kernel
theorem dX12_heightBy_4 : decode cX12_heightBy 4 = .ok (.iload_n 1, 1) := by decide +kernel
theorem dX12_heightBy_5 : decode cX12_heightBy 5 = .ok (.iaload, 1) := by decide +kernel
theorem dX12_heightBy_6 : decode cX12_heightBy 6 = .ok (.istore_n 2, 1) := by decide +kernel
theorem dX12_heightBy_7 : decode cX12_heightBy 7 = .ok (.aload_n 0, 1) := by decide +kernel
theorem dX12_heightBy_8 : decode cX12_heightBy 8 = .ok (.getfield 118, 3) := by decide +kernel
theorem dX12_heightBy_11 : decode cX12_heightBy 11 = .ok (.tableswitch 82 1 4 #[29, 42, 56, 69], 29) := by decide +kernel
theorem dX12_heightBy_40 : decode cX12_heightBy 40 = .ok (.iconst 1, 1) := by decide +kernel
theorem dX12_heightBy_41 : decode cX12_heightBy 41 = .ok (.iconst 2, 1) := by decide +kernel
theorem dX12_heightBy_42 : decode cX12_heightBy 42 = .ok (.iload_n 2, 1) := by decide +kernel
theorem dX12_heightBy_43 : decode cX12_heightBy 43 = .ok (.iconst 1, 1) := by decide +kernel
theorem dX12_heightBy_44 : decode cX12_heightBy 44 = .ok (.iadd, 1) := by decide +kernel
theorem dX12_heightBy_45 : decode cX12_heightBy 45 = .ok (.invokestatic 145, 3) := by decide +kernel
theorem dX12_heightBy_48 : decode cX12_heightBy 48 = .ok (.iadd, 1) := by decide +kernel
theorem dX12_heightBy_49 : decode cX12_heightBy 49 = .ok (.invokestatic 149, 3) := by decide +kernel
theorem dX12_heightBy_52 : decode cX12_heightBy 52 = .ok (.ireturn, 1) := by decide +kernel
theorem dX12_heightBy_53 : decode cX12_heightBy 53 = .ok (.iconst 1, 1) := by decide +kernel
theorem dX12_heightBy_54 : decode cX12_heightBy 54 = .ok (.iload_n 2, 1) := by decide +kernel
theorem dX12_heightBy_55 : decode cX12_heightBy 55 = .ok (.bipush 10, 2) := by decide +kernel
theorem dX12_heightBy_57 : decode cX12_heightBy 57 = .ok (.idiv, 1) := by decide +kernel
theorem dX12_heightBy_58 : decode cX12_heightBy 58 = .ok (.iload_n 2, 1) := by decide +kernel
theorem dX12_heightBy_59 : decode cX12_heightBy 59 = .ok (.bipush 10, 2) := by decide +kernel
theorem dX12_heightBy_61 : decode cX12_heightBy 61 = .ok (.irem, 1) := by decide +kernel
theorem dX12_heightBy_62 : decode cX12_heightBy 62 = .ok (.iadd, 1) := by decide +kernel
theorem dX12_heightBy_63 : decode cX12_heightBy 63 = .ok (.iconst 4, 1) := by decide +kernel
theorem dX12_heightBy_64 : decode cX12_heightBy 64 = .ok (.irem, 1) := by decide +kernel
theorem dX12_heightBy_65 : decode cX12_heightBy 65 = .ok (.iadd, 1) := by decide +kernel
theorem dX12_heightBy_66 : decode cX12_heightBy 66 = .ok (.ireturn, 1) := by decide +kernel
theorem dX12_heightBy_67 : decode cX12_heightBy 67 = .ok (.iconst 1, 1) := by decide +kernel
theorem dX12_heightBy_68 : decode cX12_heightBy 68 = .ok (.iconst 2, 1) := by decide +kernel
theorem dX12_heightBy_69 : decode cX12_heightBy 69 = .ok (.iload_n 1, 1) := by decide +kernel
theorem dX12_heightBy_70 : decode cX12_heightBy 70 = .ok (.iconst 1, 1) := by decide +kernel
theorem dX12_heightBy_71 : decode cX12_heightBy 71 = .ok (.iadd, 1) := by decide +kernel
theorem dX12_heightBy_72 : decode cX12_heightBy 72 = .ok (.invokestatic 145, 3) := by decide +kernel
theorem dX12_heightBy_75 : decode cX12_heightBy 75 = .ok (.iadd, 1) := by decide +kernel
theorem dX12_heightBy_76 : decode cX12_heightBy 76 = .ok (.invokestatic 149, 3) := by decide +kernel
theorem dX12_heightBy_79 : decode cX12_heightBy 79 = .ok (.ireturn, 1) := by decide +kernel
theorem dX12_heightBy_80 : decode cX12_heightBy 80 = .ok (.iconst 1, 1) := by decide +kernel
theorem dX12_heightBy_81 : decode cX12_heightBy 81 = .ok (.iconst 3, 1) := by decide +kernel
theorem dX12_heightBy_82 : decode cX12_heightBy 82 = .ok (.iload_n 2, 1) := by decide +kernel
theorem dX12_heightBy_83 : decode cX12_heightBy 83 = .ok (.iconst 1, 1) := by decide +kernel
theorem dX12_heightBy_84 : decode cX12_heightBy 84 = .ok (.iadd, 1) := by decide +kernel
theorem dX12_heightBy_85 : decode cX12_heightBy 85 = .ok (.invokestatic 145, 3) := by decide +kernel
theorem dX12_heightBy_88 : decode cX12_heightBy 88 = .ok (.iadd, 1) := by decide +kernel
theorem dX12_heightBy_89 : decode cX12_heightBy 89 = .ok (.invokestatic 149, 3) := by decide +kernel
theorem dX12_heightBy_92 : decode cX12_heightBy 92 = .ok (.ireturn, 1) := by decide +kernel
theorem dX12_heightBy_93 : decode cX12_heightBy 93 = .ok (.aload_n 0, 1) := by decide +kernel
theorem dX12_heightBy_94 : decode cX12_heightBy 94 = .ok (.getfield 19, 3) := by decide +kernel
theorem dX12_heightBy_97 : decode cX12_heightBy 97 = .ok (.iload_n 1, 1) := by decide +kernel
theorem dX12_heightBy_98 : decode cX12_heightBy 98 = .ok (.iaload, 1) := by decide +kernel
theorem dX12_heightBy_99 : decode cX12_heightBy 99 = .ok (.ireturn, 1) := by decide +kernel
set_option maxHeartbeats 4000000 in
set_option maxRecDepth 100000 in
theorem c_X12_heightBy (l : Launch) (D : va_G) (cy : ClassId) (mo mpage mkeys mvalues mheights mheats msecondKeys msecondValues msecondHeights msecondHeats msaved mbestHeights msights mby mkeptKeys mkeptValues mkeptHeights mkeptHeats mkeptKeys2 mkeptValues2 mkeptHeights2 mkeptHeats2 mkeptSights : Nat) (mo_pageMany : Int32) (mo_law : Int32) (mo_many : Int32) (mo_asked : Int32) (mo_looksAll : Int32) (mo_changes : Int32) (mo_rowsRead : Int32) (mo_secondMany : Int32) (mo_foundAt : Int32) (mo_foundLooks : Int32) (mo_foundLane : Int32) (mo_bestsDone : Int32) (mo_seenMany : Int32) (mo_seedNow : Int32) (mo_keptRow : Int32) (mo_keptMany : Int32) (mo_keptSecond : Int32) (mo_keptAsked : Int32) (mo_keptLooks : Int32) (mo_keptChanges : Int32) (mo_keptSeen : Int32) (mo_hash : Int64) (mkeys_a : Nat → Int32) (mheights_a : Nat → Int32) (a : Int32) (g_0 : 0 ≤ mo_pageMany.toInt ∧ mo_pageMany.toInt ≤ 44) (g_1 : 0 ≤ mo_many.toInt ∧ mo_many.toInt ≤ 8) (g_2 : 0 ≤ mo_secondMany.toInt ∧ mo_secondMany.toInt ≤ 8) (g_3 : (-1) ≤ mo_foundAt.toInt ∧ mo_foundAt.toInt ≤ 7) (g_4 : 0 ≤ mo_seenMany.toInt ∧ mo_seenMany.toInt ≤ 6) (g_5 : 0 ≤ mo_keptMany.toInt ∧ mo_keptMany.toInt ≤ 8) (g_6 : 0 ≤ mo_keptSecond.toInt ∧ mo_keptSecond.toInt ≤ 8) (g_7 : 0 ≤ mo_keptSeen.toInt ∧ mo_keptSeen.toInt ≤ 6) (g_8 : 0 ≤ a.toInt ∧ a.toInt ≤ 7) : wk_Ci l yX12_heightBy cX12_heightBy 3 (some .int) { frames := 1, cells := 0, slots := 0, locals := 23 } D cy [.ref mo, .int a] [(mo, .inr (12, [.ref mpage, .int mo_pageMany, .int mo_law, .int mo_many, .int mo_asked, .int mo_looksAll, .int mo_changes, .int mo_rowsRead, .ref mkeys, .ref mvalues, .ref mheights, .ref mheats, .int mo_secondMany, .ref msecondKeys, .ref msecondValues, .ref msecondHeights, .ref msecondHeats, .int mo_foundAt, .int mo_foundLooks, .int mo_foundLane, .int mo_bestsDone, .ref msaved, .ref mbestHeights, .int mo_seenMany, .ref msights, .ref mby, .int mo_seedNow, .int mo_keptRow, .int mo_keptMany, .int mo_keptSecond, .int mo_keptAsked, .int mo_keptLooks, .int mo_keptChanges, .int mo_keptSeen, .ref mkeptKeys, .ref mkeptValues, .ref mkeptHeights, .ref mkeptHeats, .ref mkeptKeys2, .ref mkeptValues2, .ref mkeptHeights2, .ref mkeptHeats2, .ref mkeptSights, .long mo_hash])), (mkeys, .inl (cy, 8, .inl mkeys_a)), (mheights, .inl (cy, 8, .inl mheights_a))] 0 0 (fun (r : Int32) (u : Unit) => r = (fn_X12_heightBy mo_law mkeys_a mheights_a a)) (fun u => [(mo, .inr (12, [.ref mpage, .int mo_pageMany, .int mo_law, .int mo_many, .int mo_asked, .int mo_looksAll, .int mo_changes, .int mo_rowsRead, .ref mkeys, .ref mvalues, .ref mheights, .ref mheats, .int mo_secondMany, .ref msecondKeys, .ref msecondValues, .ref msecondHeights, .ref msecondHeats, .int mo_foundAt, .int mo_foundLooks, .int mo_foundLane, .int mo_bestsDone, .ref msaved, .ref mbestHeights, .int mo_seenMany, .ref msights, .ref mby, .int mo_seedNow, .int mo_keptRow, .int mo_keptMany, .int mo_keptSecond, .int mo_keptAsked, .int mo_keptLooks, .int mo_keptChanges, .int mo_keptSeen, .ref mkeptKeys, .ref mkeptValues, .ref mkeptHeights, .ref mkeptHeats, .ref mkeptKeys2, .ref mkeptValues2, .ref mkeptHeights2, .ref mkeptHeats2, .ref mkeptSights, .long mo_hash])), (mkeys, .inl (cy, 8, .inl mkeys_a)), (mheights, .inl (cy, 8, .inl mheights_a))]) := by
  refine wk_mk2Ci (by decide) (Nat.le_of_ble_eq_true rfl) ?_
  intro p e s m args below meth c A ls Q B hA hK hP hD hS hl hret
  obtain ⟨hx, hb, hr, hlocks, hml, hown, htb, hin⟩ := B
  have hl : lv_has ls 3 [(0, .ref mo), (1, .int a)] := hl
  have hF : (fn_X12_heightBy mo_law mkeys_a mheights_a a) = (fn_X12_heightBy mo_law mkeys_a mheights_a a) := rfl
  conv at hF => rhs; unfold fn_X12_heightBy
  refine lv_aload_n hx hb dX12_heightBy_0 rfl (lv_at hl 0 rfl) ?_
  refine va_get (D := D) (ci := 12) (v := .ref mkeys) (C := RX12) (T := TX12) (N := 44) hx hb htb inX12 hown hK hP 0 rfl rfl 8 (by decide) (htb _ tw_771) (fun _ h9 => h9) rfl dX12_heightBy_1 ?_
  refine lv_iload_n hx hb dX12_heightBy_4 rfl (lv_at hl 1 rfl) ?_
  refine va_iald hx hb hK hP 1 0 rfl rfl (show vp_in a 8 from vp_in_iff.mpr (show 0 ≤ a.toInt ∧ a.toInt < ((8 : Nat) : Int) from by omega)) dX12_heightBy_5 ?_
  refine lv_istore_n (lv' := [(2, .int (mkeys_a a.toNatClampNeg)), (0, .ref mo), (1, .int a)]) hx hb dX12_heightBy_6 rfl hl (by decide) rfl (fun ls hl => ?_)
  refine lv_aload_n hx hb dX12_heightBy_7 rfl (lv_at hl 1 rfl) ?_
  refine va_get (D := D) (ci := 12) (v := .int mo_law) (C := RX12) (T := TX12) (N := 44) hx hb htb inX12 hown hK hP 0 rfl rfl 2 (by decide) (htb _ tw_765) (fun _ h9 => h9) rfl dX12_heightBy_8 ?_
  by_cases c_1 : mo_law = 1
  · refine wk_toi c_1 ?_
    replace hF := hF.trans (if_pos c_1)
    have k_1 : mo_law.toInt = 1 := wk_eq c_1
    refine lv_tableIn (off := 29) (tgt := 40) hx hb dX12_heightBy_11 (by decide) (by decide) (by decide) (by decide) ?_
    refine lv_iconst (v := 1) hx hb dX12_heightBy_40 (by decide) ?_
    refine lv_iconst (v := 2) hx hb dX12_heightBy_41 (by decide) ?_
    refine lv_iload_n hx hb dX12_heightBy_42 rfl (lv_at hl 0 rfl) ?_
    refine lv_iconst (v := 1) hx hb dX12_heightBy_43 (by decide) ?_
    refine lv_iadd hx hb dX12_heightBy_44 ?_
    refine wk_iS (As := [.int 2, .int ((mkeys_a a.toNatClampNeg) + 1)]) (rest := [.int 1]) (wc := []) (wr := [(mo, .inr (12, [.ref mpage, .int mo_pageMany, .int mo_law, .int mo_many, .int mo_asked, .int mo_looksAll, .int mo_changes, .int mo_rowsRead, .ref mkeys, .ref mvalues, .ref mheights, .ref mheats, .int mo_secondMany, .ref msecondKeys, .ref msecondValues, .ref msecondHeights, .ref msecondHeats, .int mo_foundAt, .int mo_foundLooks, .int mo_foundLane, .int mo_bestsDone, .ref msaved, .ref mbestHeights, .int mo_seenMany, .ref msights, .ref mby, .int mo_seedNow, .int mo_keptRow, .int mo_keptMany, .int mo_keptSecond, .int mo_keptAsked, .int mo_keptLooks, .int mo_keptChanges, .int mo_keptSeen, .ref mkeptKeys, .ref mkeptValues, .ref mkeptHeights, .ref mkeptHeats, .ref mkeptKeys2, .ref mkeptValues2, .ref mkeptHeights2, .ref mkeptHeats2, .ref mkeptSights, .long mo_hash])), (mkeys, .inl (cy, 8, .inl mkeys_a)), (mheights, .inl (cy, 8, .inl mheights_a))]) (n := 2) ⟨hx, hb, hml, hown, htb⟩ (c_X12_divides_2 l D cy   ((mkeys_a a.toNatClampNeg) + 1) ) tw_953 tw_951 tw_952 tw_71 rfl rfl (by decide +kernel) ⟨Nat.le_of_ble_eq_true rfl, Nat.le_of_ble_eq_true rfl⟩ hK hP hD hS hA [] [0, 1, 2] rfl rfl rfl rfl (by decide) rfl hl.1 rfl (Nat.le_of_ble_eq_true rfl) dX12_heightBy_45 ⟨Nat.le_of_ble_eq_true rfl, Nat.le_of_ble_eq_true rfl⟩ (fun r_2 u_3 H locs hw_4 hP hD hS => ?_)
    refine W.widen (k := 0) (n := 0) (by decide) (by decide) ?_
    have hw_4 : r_2 = (fn_X12_divides_2 ((mkeys_a a.toNatClampNeg) + 1)) := hw_4
    subst hw_4
    have hP : va_P D classes [(mo, .inr (12, [.ref mpage, .int mo_pageMany, .int mo_law, .int mo_many, .int mo_asked, .int mo_looksAll, .int mo_changes, .int mo_rowsRead, .ref mkeys, .ref mvalues, .ref mheights, .ref mheats, .int mo_secondMany, .ref msecondKeys, .ref msecondValues, .ref msecondHeights, .ref msecondHeats, .int mo_foundAt, .int mo_foundLooks, .int mo_foundLane, .int mo_bestsDone, .ref msaved, .ref mbestHeights, .int mo_seenMany, .ref msights, .ref mby, .int mo_seedNow, .int mo_keptRow, .int mo_keptMany, .int mo_keptSecond, .int mo_keptAsked, .int mo_keptLooks, .int mo_keptChanges, .int mo_keptSeen, .ref mkeptKeys, .ref mkeptValues, .ref mkeptHeights, .ref mkeptHeats, .ref mkeptKeys2, .ref mkeptValues2, .ref mkeptHeights2, .ref mkeptHeats2, .ref mkeptSights, .long mo_hash])), (mkeys, .inl (cy, 8, .inl mkeys_a)), (mheights, .inl (cy, 8, .inl mheights_a))] H := hP
    have hD : va_D A [(mo, .inr (12, [.ref mpage, .int mo_pageMany, .int mo_law, .int mo_many, .int mo_asked, .int mo_looksAll, .int mo_changes, .int mo_rowsRead, .ref mkeys, .ref mvalues, .ref mheights, .ref mheats, .int mo_secondMany, .ref msecondKeys, .ref msecondValues, .ref msecondHeights, .ref msecondHeats, .int mo_foundAt, .int mo_foundLooks, .int mo_foundLane, .int mo_bestsDone, .ref msaved, .ref mbestHeights, .int mo_seenMany, .ref msights, .ref mby, .int mo_seedNow, .int mo_keptRow, .int mo_keptMany, .int mo_keptSecond, .int mo_keptAsked, .int mo_keptLooks, .int mo_keptChanges, .int mo_keptSeen, .ref mkeptKeys, .ref mkeptValues, .ref mkeptHeights, .ref mkeptHeats, .ref mkeptKeys2, .ref mkeptValues2, .ref mkeptHeights2, .ref mkeptHeats2, .ref mkeptSights, .long mo_hash])), (mkeys, .inl (cy, 8, .inl mkeys_a)), (mheights, .inl (cy, 8, .inl mheights_a))] := hD
    refine lv_iadd hx hb dX12_heightBy_48 ?_
    refine wk_iS (As := [.int (1 + (fn_X12_divides_2 ((mkeys_a a.toNatClampNeg) + 1)))]) (rest := []) (wc := []) (wr := [(mo, .inr (12, [.ref mpage, .int mo_pageMany, .int mo_law, .int mo_many, .int mo_asked, .int mo_looksAll, .int mo_changes, .int mo_rowsRead, .ref mkeys, .ref mvalues, .ref mheights, .ref mheats, .int mo_secondMany, .ref msecondKeys, .ref msecondValues, .ref msecondHeights, .ref msecondHeats, .int mo_foundAt, .int mo_foundLooks, .int mo_foundLane, .int mo_bestsDone, .ref msaved, .ref mbestHeights, .int mo_seenMany, .ref msights, .ref mby, .int mo_seedNow, .int mo_keptRow, .int mo_keptMany, .int mo_keptSecond, .int mo_keptAsked, .int mo_keptLooks, .int mo_keptChanges, .int mo_keptSeen, .ref mkeptKeys, .ref mkeptValues, .ref mkeptHeights, .ref mkeptHeats, .ref mkeptKeys2, .ref mkeptValues2, .ref mkeptHeights2, .ref mkeptHeats2, .ref mkeptSights, .long mo_hash])), (mkeys, .inl (cy, 8, .inl mkeys_a)), (mheights, .inl (cy, 8, .inl mheights_a))]) (n := 1) ⟨hx, hb, hml, hown, htb⟩ (c_X12_topped l D cy   (1 + (fn_X12_divides_2 ((mkeys_a a.toNatClampNeg) + 1))) ) tw_956 tw_954 tw_955 tw_71 rfl rfl (by decide +kernel) ⟨Nat.le_of_ble_eq_true rfl, Nat.le_of_ble_eq_true rfl⟩ hK hP hD hS hA [] [0, 1, 2] rfl rfl rfl rfl (by decide) rfl hl.1 rfl (Nat.le_of_ble_eq_true rfl) dX12_heightBy_49 ⟨Nat.le_of_ble_eq_true rfl, Nat.le_of_ble_eq_true rfl⟩ (fun r_5 u_6 H locs hw_7 hP hD hS => ?_)
    refine W.widen (k := 0) (n := 0) (by decide) (by decide) ?_
    have hw_7 : r_5 = (fn_X12_topped (1 + (fn_X12_divides_2 ((mkeys_a a.toNatClampNeg) + 1)))) := hw_7
    subst hw_7
    have hP : va_P D classes [(mo, .inr (12, [.ref mpage, .int mo_pageMany, .int mo_law, .int mo_many, .int mo_asked, .int mo_looksAll, .int mo_changes, .int mo_rowsRead, .ref mkeys, .ref mvalues, .ref mheights, .ref mheats, .int mo_secondMany, .ref msecondKeys, .ref msecondValues, .ref msecondHeights, .ref msecondHeats, .int mo_foundAt, .int mo_foundLooks, .int mo_foundLane, .int mo_bestsDone, .ref msaved, .ref mbestHeights, .int mo_seenMany, .ref msights, .ref mby, .int mo_seedNow, .int mo_keptRow, .int mo_keptMany, .int mo_keptSecond, .int mo_keptAsked, .int mo_keptLooks, .int mo_keptChanges, .int mo_keptSeen, .ref mkeptKeys, .ref mkeptValues, .ref mkeptHeights, .ref mkeptHeats, .ref mkeptKeys2, .ref mkeptValues2, .ref mkeptHeights2, .ref mkeptHeats2, .ref mkeptSights, .long mo_hash])), (mkeys, .inl (cy, 8, .inl mkeys_a)), (mheights, .inl (cy, 8, .inl mheights_a))] H := hP
    have hD : va_D A [(mo, .inr (12, [.ref mpage, .int mo_pageMany, .int mo_law, .int mo_many, .int mo_asked, .int mo_looksAll, .int mo_changes, .int mo_rowsRead, .ref mkeys, .ref mvalues, .ref mheights, .ref mheats, .int mo_secondMany, .ref msecondKeys, .ref msecondValues, .ref msecondHeights, .ref msecondHeats, .int mo_foundAt, .int mo_foundLooks, .int mo_foundLane, .int mo_bestsDone, .ref msaved, .ref mbestHeights, .int mo_seenMany, .ref msights, .ref mby, .int mo_seedNow, .int mo_keptRow, .int mo_keptMany, .int mo_keptSecond, .int mo_keptAsked, .int mo_keptLooks, .int mo_keptChanges, .int mo_keptSeen, .ref mkeptKeys, .ref mkeptValues, .ref mkeptHeights, .ref mkeptHeats, .ref mkeptKeys2, .ref mkeptValues2, .ref mkeptHeights2, .ref mkeptHeats2, .ref mkeptSights, .long mo_hash])), (mkeys, .inl (cy, 8, .inl mkeys_a)), (mheights, .inl (cy, 8, .inl mheights_a))] := hD
    refine W.widen (k := 0) (n := 0) (by decide) (by decide) ?_
    exact hret (fn_X12_topped (1 + (fn_X12_divides_2 ((mkeys_a a.toNatClampNeg) + 1)))) () _ _ _ 52 (wk_sub9 (is := [0, 1, 2]) hP rfl) (hD.sub [0, 1, 2] rfl rfl) hS dX12_heightBy_52 hF.symm
  replace hF := hF.trans (if_neg c_1)
  have k_1 : ¬ mo_law.toInt = 1 := wk_neq c_1
  by_cases c_8 : mo_law = 2
  · refine wk_toi c_8 ?_
    replace hF := hF.trans (if_pos c_8)
    have k_8 : mo_law.toInt = 2 := wk_eq c_8
    refine lv_tableIn (off := 42) (tgt := 53) hx hb dX12_heightBy_11 (by decide) (by decide) (by decide) (by decide) ?_
    refine lv_iconst (v := 1) hx hb dX12_heightBy_53 (by decide) ?_
    refine lv_iload_n hx hb dX12_heightBy_54 rfl (lv_at hl 0 rfl) ?_
    refine lv_bipush (v := 10) hx hb dX12_heightBy_55 (by decide) ?_
    refine lv_idiv hx hb dX12_heightBy_57 (by decide) ?_
    refine lv_iload_n hx hb dX12_heightBy_58 rfl (lv_at hl 0 rfl) ?_
    refine lv_bipush (v := 10) hx hb dX12_heightBy_59 (by decide) ?_
    refine lv_irem hx hb dX12_heightBy_61 (by decide) ?_
    refine lv_iadd hx hb dX12_heightBy_62 ?_
    refine lv_iconst (v := 4) hx hb dX12_heightBy_63 (by decide) ?_
    refine lv_irem hx hb dX12_heightBy_64 (by decide) ?_
    refine lv_iadd hx hb dX12_heightBy_65 ?_
    refine W.widen (k := 0) (n := 0) (by decide) (by decide) ?_
    exact hret (1 + ((((mkeys_a a.toNatClampNeg) / 10) + ((mkeys_a a.toNatClampNeg) - (mkeys_a a.toNatClampNeg) / 10 * 10)) - (((mkeys_a a.toNatClampNeg) / 10) + ((mkeys_a a.toNatClampNeg) - (mkeys_a a.toNatClampNeg) / 10 * 10)) / 4 * 4)) () _ _ _ 66 (wk_sub9 (is := [0, 1, 2]) hP rfl) (hD.sub [0, 1, 2] rfl rfl) hS dX12_heightBy_66 hF.symm
  replace hF := hF.trans (if_neg c_8)
  have k_8 : ¬ mo_law.toInt = 2 := wk_neq c_8
  by_cases c_9 : mo_law = 3
  · refine wk_toi c_9 ?_
    replace hF := hF.trans (if_pos c_9)
    have k_9 : mo_law.toInt = 3 := wk_eq c_9
    refine lv_tableIn (off := 56) (tgt := 67) hx hb dX12_heightBy_11 (by decide) (by decide) (by decide) (by decide) ?_
    refine lv_iconst (v := 1) hx hb dX12_heightBy_67 (by decide) ?_
    refine lv_iconst (v := 2) hx hb dX12_heightBy_68 (by decide) ?_
    refine lv_iload_n hx hb dX12_heightBy_69 rfl (lv_at hl 2 rfl) ?_
    refine lv_iconst (v := 1) hx hb dX12_heightBy_70 (by decide) ?_
    refine lv_iadd hx hb dX12_heightBy_71 ?_
    have k_10 : (a + 1).toInt = a.toInt + 1 := wk_add a.toInt 1 rfl rfl (by omega) (by omega)
    refine wk_iS (As := [.int 2, .int (a + 1)]) (rest := [.int 1]) (wc := []) (wr := [(mo, .inr (12, [.ref mpage, .int mo_pageMany, .int mo_law, .int mo_many, .int mo_asked, .int mo_looksAll, .int mo_changes, .int mo_rowsRead, .ref mkeys, .ref mvalues, .ref mheights, .ref mheats, .int mo_secondMany, .ref msecondKeys, .ref msecondValues, .ref msecondHeights, .ref msecondHeats, .int mo_foundAt, .int mo_foundLooks, .int mo_foundLane, .int mo_bestsDone, .ref msaved, .ref mbestHeights, .int mo_seenMany, .ref msights, .ref mby, .int mo_seedNow, .int mo_keptRow, .int mo_keptMany, .int mo_keptSecond, .int mo_keptAsked, .int mo_keptLooks, .int mo_keptChanges, .int mo_keptSeen, .ref mkeptKeys, .ref mkeptValues, .ref mkeptHeights, .ref mkeptHeats, .ref mkeptKeys2, .ref mkeptValues2, .ref mkeptHeights2, .ref mkeptHeats2, .ref mkeptSights, .long mo_hash])), (mkeys, .inl (cy, 8, .inl mkeys_a)), (mheights, .inl (cy, 8, .inl mheights_a))]) (n := 2) ⟨hx, hb, hml, hown, htb⟩ (c_X12_divides_2 l D cy   (a + 1) ) tw_953 tw_951 tw_952 tw_71 rfl rfl (by decide +kernel) ⟨Nat.le_of_ble_eq_true rfl, Nat.le_of_ble_eq_true rfl⟩ hK hP hD hS hA [] [0, 1, 2] rfl rfl rfl rfl (by decide) rfl hl.1 rfl (Nat.le_of_ble_eq_true rfl) dX12_heightBy_72 ⟨Nat.le_of_ble_eq_true rfl, Nat.le_of_ble_eq_true rfl⟩ (fun r_11 u_12 H locs hw_13 hP hD hS => ?_)
    refine W.widen (k := 0) (n := 0) (by decide) (by decide) ?_
    have hw_13 : r_11 = (fn_X12_divides_2 (a + 1)) := hw_13
    subst hw_13
    have hP : va_P D classes [(mo, .inr (12, [.ref mpage, .int mo_pageMany, .int mo_law, .int mo_many, .int mo_asked, .int mo_looksAll, .int mo_changes, .int mo_rowsRead, .ref mkeys, .ref mvalues, .ref mheights, .ref mheats, .int mo_secondMany, .ref msecondKeys, .ref msecondValues, .ref msecondHeights, .ref msecondHeats, .int mo_foundAt, .int mo_foundLooks, .int mo_foundLane, .int mo_bestsDone, .ref msaved, .ref mbestHeights, .int mo_seenMany, .ref msights, .ref mby, .int mo_seedNow, .int mo_keptRow, .int mo_keptMany, .int mo_keptSecond, .int mo_keptAsked, .int mo_keptLooks, .int mo_keptChanges, .int mo_keptSeen, .ref mkeptKeys, .ref mkeptValues, .ref mkeptHeights, .ref mkeptHeats, .ref mkeptKeys2, .ref mkeptValues2, .ref mkeptHeights2, .ref mkeptHeats2, .ref mkeptSights, .long mo_hash])), (mkeys, .inl (cy, 8, .inl mkeys_a)), (mheights, .inl (cy, 8, .inl mheights_a))] H := hP
    have hD : va_D A [(mo, .inr (12, [.ref mpage, .int mo_pageMany, .int mo_law, .int mo_many, .int mo_asked, .int mo_looksAll, .int mo_changes, .int mo_rowsRead, .ref mkeys, .ref mvalues, .ref mheights, .ref mheats, .int mo_secondMany, .ref msecondKeys, .ref msecondValues, .ref msecondHeights, .ref msecondHeats, .int mo_foundAt, .int mo_foundLooks, .int mo_foundLane, .int mo_bestsDone, .ref msaved, .ref mbestHeights, .int mo_seenMany, .ref msights, .ref mby, .int mo_seedNow, .int mo_keptRow, .int mo_keptMany, .int mo_keptSecond, .int mo_keptAsked, .int mo_keptLooks, .int mo_keptChanges, .int mo_keptSeen, .ref mkeptKeys, .ref mkeptValues, .ref mkeptHeights, .ref mkeptHeats, .ref mkeptKeys2, .ref mkeptValues2, .ref mkeptHeights2, .ref mkeptHeats2, .ref mkeptSights, .long mo_hash])), (mkeys, .inl (cy, 8, .inl mkeys_a)), (mheights, .inl (cy, 8, .inl mheights_a))] := hD
    refine lv_iadd hx hb dX12_heightBy_75 ?_
    refine wk_iS (As := [.int (1 + (fn_X12_divides_2 (a + 1)))]) (rest := []) (wc := []) (wr := [(mo, .inr (12, [.ref mpage, .int mo_pageMany, .int mo_law, .int mo_many, .int mo_asked, .int mo_looksAll, .int mo_changes, .int mo_rowsRead, .ref mkeys, .ref mvalues, .ref mheights, .ref mheats, .int mo_secondMany, .ref msecondKeys, .ref msecondValues, .ref msecondHeights, .ref msecondHeats, .int mo_foundAt, .int mo_foundLooks, .int mo_foundLane, .int mo_bestsDone, .ref msaved, .ref mbestHeights, .int mo_seenMany, .ref msights, .ref mby, .int mo_seedNow, .int mo_keptRow, .int mo_keptMany, .int mo_keptSecond, .int mo_keptAsked, .int mo_keptLooks, .int mo_keptChanges, .int mo_keptSeen, .ref mkeptKeys, .ref mkeptValues, .ref mkeptHeights, .ref mkeptHeats, .ref mkeptKeys2, .ref mkeptValues2, .ref mkeptHeights2, .ref mkeptHeats2, .ref mkeptSights, .long mo_hash])), (mkeys, .inl (cy, 8, .inl mkeys_a)), (mheights, .inl (cy, 8, .inl mheights_a))]) (n := 1) ⟨hx, hb, hml, hown, htb⟩ (c_X12_topped l D cy   (1 + (fn_X12_divides_2 (a + 1))) ) tw_956 tw_954 tw_955 tw_71 rfl rfl (by decide +kernel) ⟨Nat.le_of_ble_eq_true rfl, Nat.le_of_ble_eq_true rfl⟩ hK hP hD hS hA [] [0, 1, 2] rfl rfl rfl rfl (by decide) rfl hl.1 rfl (Nat.le_of_ble_eq_true rfl) dX12_heightBy_76 ⟨Nat.le_of_ble_eq_true rfl, Nat.le_of_ble_eq_true rfl⟩ (fun r_14 u_15 H locs hw_16 hP hD hS => ?_)
    refine W.widen (k := 0) (n := 0) (by decide) (by decide) ?_
    have hw_16 : r_14 = (fn_X12_topped (1 + (fn_X12_divides_2 (a + 1)))) := hw_16
    subst hw_16
    have hP : va_P D classes [(mo, .inr (12, [.ref mpage, .int mo_pageMany, .int mo_law, .int mo_many, .int mo_asked, .int mo_looksAll, .int mo_changes, .int mo_rowsRead, .ref mkeys, .ref mvalues, .ref mheights, .ref mheats, .int mo_secondMany, .ref msecondKeys, .ref msecondValues, .ref msecondHeights, .ref msecondHeats, .int mo_foundAt, .int mo_foundLooks, .int mo_foundLane, .int mo_bestsDone, .ref msaved, .ref mbestHeights, .int mo_seenMany, .ref msights, .ref mby, .int mo_seedNow, .int mo_keptRow, .int mo_keptMany, .int mo_keptSecond, .int mo_keptAsked, .int mo_keptLooks, .int mo_keptChanges, .int mo_keptSeen, .ref mkeptKeys, .ref mkeptValues, .ref mkeptHeights, .ref mkeptHeats, .ref mkeptKeys2, .ref mkeptValues2, .ref mkeptHeights2, .ref mkeptHeats2, .ref mkeptSights, .long mo_hash])), (mkeys, .inl (cy, 8, .inl mkeys_a)), (mheights, .inl (cy, 8, .inl mheights_a))] H := hP
    have hD : va_D A [(mo, .inr (12, [.ref mpage, .int mo_pageMany, .int mo_law, .int mo_many, .int mo_asked, .int mo_looksAll, .int mo_changes, .int mo_rowsRead, .ref mkeys, .ref mvalues, .ref mheights, .ref mheats, .int mo_secondMany, .ref msecondKeys, .ref msecondValues, .ref msecondHeights, .ref msecondHeats, .int mo_foundAt, .int mo_foundLooks, .int mo_foundLane, .int mo_bestsDone, .ref msaved, .ref mbestHeights, .int mo_seenMany, .ref msights, .ref mby, .int mo_seedNow, .int mo_keptRow, .int mo_keptMany, .int mo_keptSecond, .int mo_keptAsked, .int mo_keptLooks, .int mo_keptChanges, .int mo_keptSeen, .ref mkeptKeys, .ref mkeptValues, .ref mkeptHeights, .ref mkeptHeats, .ref mkeptKeys2, .ref mkeptValues2, .ref mkeptHeights2, .ref mkeptHeats2, .ref mkeptSights, .long mo_hash])), (mkeys, .inl (cy, 8, .inl mkeys_a)), (mheights, .inl (cy, 8, .inl mheights_a))] := hD
    refine W.widen (k := 0) (n := 0) (by decide) (by decide) ?_
    exact hret (fn_X12_topped (1 + (fn_X12_divides_2 (a + 1)))) () _ _ _ 79 (wk_sub9 (is := [0, 1, 2]) hP rfl) (hD.sub [0, 1, 2] rfl rfl) hS dX12_heightBy_79 hF.symm
  replace hF := hF.trans (if_neg c_9)
  have k_9 : ¬ mo_law.toInt = 3 := wk_neq c_9
  by_cases c_17 : mo_law = 4
  · refine wk_toi c_17 ?_
    replace hF := hF.trans (if_pos c_17)
    have k_17 : mo_law.toInt = 4 := wk_eq c_17
    refine lv_tableIn (off := 69) (tgt := 80) hx hb dX12_heightBy_11 (by decide) (by decide) (by decide) (by decide) ?_
    refine lv_iconst (v := 1) hx hb dX12_heightBy_80 (by decide) ?_
    refine lv_iconst (v := 3) hx hb dX12_heightBy_81 (by decide) ?_
    refine lv_iload_n hx hb dX12_heightBy_82 rfl (lv_at hl 0 rfl) ?_
    refine lv_iconst (v := 1) hx hb dX12_heightBy_83 (by decide) ?_
    refine lv_iadd hx hb dX12_heightBy_84 ?_
    refine wk_iS (As := [.int 3, .int ((mkeys_a a.toNatClampNeg) + 1)]) (rest := [.int 1]) (wc := []) (wr := [(mo, .inr (12, [.ref mpage, .int mo_pageMany, .int mo_law, .int mo_many, .int mo_asked, .int mo_looksAll, .int mo_changes, .int mo_rowsRead, .ref mkeys, .ref mvalues, .ref mheights, .ref mheats, .int mo_secondMany, .ref msecondKeys, .ref msecondValues, .ref msecondHeights, .ref msecondHeats, .int mo_foundAt, .int mo_foundLooks, .int mo_foundLane, .int mo_bestsDone, .ref msaved, .ref mbestHeights, .int mo_seenMany, .ref msights, .ref mby, .int mo_seedNow, .int mo_keptRow, .int mo_keptMany, .int mo_keptSecond, .int mo_keptAsked, .int mo_keptLooks, .int mo_keptChanges, .int mo_keptSeen, .ref mkeptKeys, .ref mkeptValues, .ref mkeptHeights, .ref mkeptHeats, .ref mkeptKeys2, .ref mkeptValues2, .ref mkeptHeights2, .ref mkeptHeats2, .ref mkeptSights, .long mo_hash])), (mkeys, .inl (cy, 8, .inl mkeys_a)), (mheights, .inl (cy, 8, .inl mheights_a))]) (n := 2) ⟨hx, hb, hml, hown, htb⟩ (c_X12_divides_3 l D cy   ((mkeys_a a.toNatClampNeg) + 1) ) tw_953 tw_951 tw_952 tw_71 rfl rfl (by decide +kernel) ⟨Nat.le_of_ble_eq_true rfl, Nat.le_of_ble_eq_true rfl⟩ hK hP hD hS hA [] [0, 1, 2] rfl rfl rfl rfl (by decide) rfl hl.1 rfl (Nat.le_of_ble_eq_true rfl) dX12_heightBy_85 ⟨Nat.le_of_ble_eq_true rfl, Nat.le_of_ble_eq_true rfl⟩ (fun r_18 u_19 H locs hw_20 hP hD hS => ?_)
    refine W.widen (k := 0) (n := 0) (by decide) (by decide) ?_
    have hw_20 : r_18 = (fn_X12_divides_3 ((mkeys_a a.toNatClampNeg) + 1)) := hw_20
    subst hw_20
    have hP : va_P D classes [(mo, .inr (12, [.ref mpage, .int mo_pageMany, .int mo_law, .int mo_many, .int mo_asked, .int mo_looksAll, .int mo_changes, .int mo_rowsRead, .ref mkeys, .ref mvalues, .ref mheights, .ref mheats, .int mo_secondMany, .ref msecondKeys, .ref msecondValues, .ref msecondHeights, .ref msecondHeats, .int mo_foundAt, .int mo_foundLooks, .int mo_foundLane, .int mo_bestsDone, .ref msaved, .ref mbestHeights, .int mo_seenMany, .ref msights, .ref mby, .int mo_seedNow, .int mo_keptRow, .int mo_keptMany, .int mo_keptSecond, .int mo_keptAsked, .int mo_keptLooks, .int mo_keptChanges, .int mo_keptSeen, .ref mkeptKeys, .ref mkeptValues, .ref mkeptHeights, .ref mkeptHeats, .ref mkeptKeys2, .ref mkeptValues2, .ref mkeptHeights2, .ref mkeptHeats2, .ref mkeptSights, .long mo_hash])), (mkeys, .inl (cy, 8, .inl mkeys_a)), (mheights, .inl (cy, 8, .inl mheights_a))] H := hP
    have hD : va_D A [(mo, .inr (12, [.ref mpage, .int mo_pageMany, .int mo_law, .int mo_many, .int mo_asked, .int mo_looksAll, .int mo_changes, .int mo_rowsRead, .ref mkeys, .ref mvalues, .ref mheights, .ref mheats, .int mo_secondMany, .ref msecondKeys, .ref msecondValues, .ref msecondHeights, .ref msecondHeats, .int mo_foundAt, .int mo_foundLooks, .int mo_foundLane, .int mo_bestsDone, .ref msaved, .ref mbestHeights, .int mo_seenMany, .ref msights, .ref mby, .int mo_seedNow, .int mo_keptRow, .int mo_keptMany, .int mo_keptSecond, .int mo_keptAsked, .int mo_keptLooks, .int mo_keptChanges, .int mo_keptSeen, .ref mkeptKeys, .ref mkeptValues, .ref mkeptHeights, .ref mkeptHeats, .ref mkeptKeys2, .ref mkeptValues2, .ref mkeptHeights2, .ref mkeptHeats2, .ref mkeptSights, .long mo_hash])), (mkeys, .inl (cy, 8, .inl mkeys_a)), (mheights, .inl (cy, 8, .inl mheights_a))] := hD
    refine lv_iadd hx hb dX12_heightBy_88 ?_
    refine wk_iS (As := [.int (1 + (fn_X12_divides_3 ((mkeys_a a.toNatClampNeg) + 1)))]) (rest := []) (wc := []) (wr := [(mo, .inr (12, [.ref mpage, .int mo_pageMany, .int mo_law, .int mo_many, .int mo_asked, .int mo_looksAll, .int mo_changes, .int mo_rowsRead, .ref mkeys, .ref mvalues, .ref mheights, .ref mheats, .int mo_secondMany, .ref msecondKeys, .ref msecondValues, .ref msecondHeights, .ref msecondHeats, .int mo_foundAt, .int mo_foundLooks, .int mo_foundLane, .int mo_bestsDone, .ref msaved, .ref mbestHeights, .int mo_seenMany, .ref msights, .ref mby, .int mo_seedNow, .int mo_keptRow, .int mo_keptMany, .int mo_keptSecond, .int mo_keptAsked, .int mo_keptLooks, .int mo_keptChanges, .int mo_keptSeen, .ref mkeptKeys, .ref mkeptValues, .ref mkeptHeights, .ref mkeptHeats, .ref mkeptKeys2, .ref mkeptValues2, .ref mkeptHeights2, .ref mkeptHeats2, .ref mkeptSights, .long mo_hash])), (mkeys, .inl (cy, 8, .inl mkeys_a)), (mheights, .inl (cy, 8, .inl mheights_a))]) (n := 1) ⟨hx, hb, hml, hown, htb⟩ (c_X12_topped l D cy   (1 + (fn_X12_divides_3 ((mkeys_a a.toNatClampNeg) + 1))) ) tw_956 tw_954 tw_955 tw_71 rfl rfl (by decide +kernel) ⟨Nat.le_of_ble_eq_true rfl, Nat.le_of_ble_eq_true rfl⟩ hK hP hD hS hA [] [0, 1, 2] rfl rfl rfl rfl (by decide) rfl hl.1 rfl (Nat.le_of_ble_eq_true rfl) dX12_heightBy_89 ⟨Nat.le_of_ble_eq_true rfl, Nat.le_of_ble_eq_true rfl⟩ (fun r_21 u_22 H locs hw_23 hP hD hS => ?_)
    refine W.widen (k := 0) (n := 0) (by decide) (by decide) ?_
    have hw_23 : r_21 = (fn_X12_topped (1 + (fn_X12_divides_3 ((mkeys_a a.toNatClampNeg) + 1)))) := hw_23
    subst hw_23
    have hP : va_P D classes [(mo, .inr (12, [.ref mpage, .int mo_pageMany, .int mo_law, .int mo_many, .int mo_asked, .int mo_looksAll, .int mo_changes, .int mo_rowsRead, .ref mkeys, .ref mvalues, .ref mheights, .ref mheats, .int mo_secondMany, .ref msecondKeys, .ref msecondValues, .ref msecondHeights, .ref msecondHeats, .int mo_foundAt, .int mo_foundLooks, .int mo_foundLane, .int mo_bestsDone, .ref msaved, .ref mbestHeights, .int mo_seenMany, .ref msights, .ref mby, .int mo_seedNow, .int mo_keptRow, .int mo_keptMany, .int mo_keptSecond, .int mo_keptAsked, .int mo_keptLooks, .int mo_keptChanges, .int mo_keptSeen, .ref mkeptKeys, .ref mkeptValues, .ref mkeptHeights, .ref mkeptHeats, .ref mkeptKeys2, .ref mkeptValues2, .ref mkeptHeights2, .ref mkeptHeats2, .ref mkeptSights, .long mo_hash])), (mkeys, .inl (cy, 8, .inl mkeys_a)), (mheights, .inl (cy, 8, .inl mheights_a))] H := hP
    have hD : va_D A [(mo, .inr (12, [.ref mpage, .int mo_pageMany, .int mo_law, .int mo_many, .int mo_asked, .int mo_looksAll, .int mo_changes, .int mo_rowsRead, .ref mkeys, .ref mvalues, .ref mheights, .ref mheats, .int mo_secondMany, .ref msecondKeys, .ref msecondValues, .ref msecondHeights, .ref msecondHeats, .int mo_foundAt, .int mo_foundLooks, .int mo_foundLane, .int mo_bestsDone, .ref msaved, .ref mbestHeights, .int mo_seenMany, .ref msights, .ref mby, .int mo_seedNow, .int mo_keptRow, .int mo_keptMany, .int mo_keptSecond, .int mo_keptAsked, .int mo_keptLooks, .int mo_keptChanges, .int mo_keptSeen, .ref mkeptKeys, .ref mkeptValues, .ref mkeptHeights, .ref mkeptHeats, .ref mkeptKeys2, .ref mkeptValues2, .ref mkeptHeights2, .ref mkeptHeats2, .ref mkeptSights, .long mo_hash])), (mkeys, .inl (cy, 8, .inl mkeys_a)), (mheights, .inl (cy, 8, .inl mheights_a))] := hD
    refine W.widen (k := 0) (n := 0) (by decide) (by decide) ?_
    exact hret (fn_X12_topped (1 + (fn_X12_divides_3 ((mkeys_a a.toNatClampNeg) + 1)))) () _ _ _ 92 (wk_sub9 (is := [0, 1, 2]) hP rfl) (hD.sub [0, 1, 2] rfl rfl) hS dX12_heightBy_92 hF.symm
  replace hF := hF.trans (if_neg c_17)
  have k_17 : ¬ mo_law.toInt = 4 := wk_neq c_17
  refine lv_tableOut (tgt := 93) hx hb dX12_heightBy_11 (show mo_law.toInt < 1 ∨ 4 < mo_law.toInt from by omega) (by decide) ?_
  refine lv_aload_n hx hb dX12_heightBy_93 rfl (lv_at hl 1 rfl) ?_
  refine va_get (D := D) (ci := 12) (v := .ref mheights) (C := RX12) (T := TX12) (N := 44) hx hb htb inX12 hown hK hP 0 rfl rfl 10 (by decide) (htb _ tw_773) (fun _ h9 => h9) rfl dX12_heightBy_94 ?_
  refine lv_iload_n hx hb dX12_heightBy_97 rfl (lv_at hl 2 rfl) ?_
  refine va_iald hx hb hK hP 2 0 rfl rfl (show vp_in a 8 from vp_in_iff.mpr (show 0 ≤ a.toInt ∧ a.toInt < ((8 : Nat) : Int) from by omega)) dX12_heightBy_98 ?_
  refine W.widen (k := 0) (n := 0) (by decide) (by decide) ?_
  exact hret (mheights_a a.toNatClampNeg) () _ _ _ 99 (wk_sub9 (is := [0, 1, 2]) hP rfl) (hD.sub [0, 1, 2] rfl rfl) hS dX12_heightBy_99 hF.symm
def lp_X12_layHeights_2 (mo_law : Int32) (mo_many : Int32) (mkeys_a : Nat → Int32) (mheights_a : Nat → Int32) : Nat → Int32 → (Nat → Int32) → Int32 × (Nat → Int32)
  | 0, _, _ => default
  | fu_2 + 1, x1_2, mheights_a_2 => (if mo_many ≤ x1_2 then (x1_2, mheights_a_2) else (lp_X12_layHeights_2 mo_law mo_many mkeys_a mheights_a fu_2 (x1_2 + 1) (upd mheights_a_2 x1_2.toNatClampNeg (fn_X12_heightBy mo_law mkeys_a mheights_a_2 x1_2))))
termination_by n => n
def fn_X12_layHeights (mo_law : Int32) (mo_many : Int32) (mkeys_a : Nat → Int32) (mheights_a : Nat → Int32) : (Nat → Int32) := (pm2 (lp_X12_layHeights_2 mo_law mo_many mkeys_a mheights_a 10 0 mheights_a) (fun x1_2 mheights_a_2 => mheights_a_2))
theorem dX12_layHeights_0 : decode cX12_layHeights 0 = .ok (.iconst 0, 1) := by decide +kernel
theorem dX12_layHeights_1 : decode cX12_layHeights 1 = .ok (.istore_n 1, 1) := by decide +kernel
theorem dX12_layHeights_2 : decode cX12_layHeights 2 = .ok (.iload_n 1, 1) := by decide +kernel
theorem dX12_layHeights_3 : decode cX12_layHeights 3 = .ok (.aload_n 0, 1) := by decide +kernel
theorem dX12_layHeights_4 : decode cX12_layHeights 4 = .ok (.getfield 121, 3) := by decide +kernel
theorem dX12_layHeights_7 : decode cX12_layHeights 7 = .ok (.if_icmp .ge 20, 3) := by decide +kernel
theorem dX12_layHeights_10 : decode cX12_layHeights 10 = .ok (.aload_n 0, 1) := by decide +kernel
theorem dX12_layHeights_11 : decode cX12_layHeights 11 = .ok (.getfield 19, 3) := by decide +kernel
theorem dX12_layHeights_14 : decode cX12_layHeights 14 = .ok (.iload_n 1, 1) := by decide +kernel
theorem dX12_layHeights_15 : decode cX12_layHeights 15 = .ok (.aload_n 0, 1) := by decide +kernel
theorem dX12_layHeights_16 : decode cX12_layHeights 16 = .ok (.iload_n 1, 1) := by decide +kernel
theorem dX12_layHeights_17 : decode cX12_layHeights 17 = .ok (.invokevirtual 152, 3) := by decide +kernel
theorem dX12_layHeights_20 : decode cX12_layHeights 20 = .ok (.iastore, 1) := by decide +kernel
theorem dX12_layHeights_21 : decode cX12_layHeights 21 = .ok (.iinc 1 1, 3) := by decide +kernel
theorem dX12_layHeights_24 : decode cX12_layHeights 24 = .ok (.goto (-22), 3) := by decide +kernel
theorem dX12_layHeights_27 : decode cX12_layHeights 27 = .ok (.return_, 1) := by decide +kernel
set_option maxHeartbeats 4000000 in
set_option maxRecDepth 100000 in
theorem c_X12_layHeights (l : Launch) (D : va_G) (cy : ClassId) (mo mpage mkeys mvalues mheights mheats msecondKeys msecondValues msecondHeights msecondHeats msaved mbestHeights msights mby mkeptKeys mkeptValues mkeptHeights mkeptHeats mkeptKeys2 mkeptValues2 mkeptHeights2 mkeptHeats2 mkeptSights : Nat) (mo_pageMany : Int32) (mo_law : Int32) (mo_many : Int32) (mo_asked : Int32) (mo_looksAll : Int32) (mo_changes : Int32) (mo_rowsRead : Int32) (mo_secondMany : Int32) (mo_foundAt : Int32) (mo_foundLooks : Int32) (mo_foundLane : Int32) (mo_bestsDone : Int32) (mo_seenMany : Int32) (mo_seedNow : Int32) (mo_keptRow : Int32) (mo_keptMany : Int32) (mo_keptSecond : Int32) (mo_keptAsked : Int32) (mo_keptLooks : Int32) (mo_keptChanges : Int32) (mo_keptSeen : Int32) (mo_hash : Int64) (mkeys_a : Nat → Int32) (mheights_a : Nat → Int32)  (g_0 : 0 ≤ mo_pageMany.toInt ∧ mo_pageMany.toInt ≤ 44) (g_1 : 0 ≤ mo_many.toInt ∧ mo_many.toInt ≤ 8) (g_2 : 0 ≤ mo_secondMany.toInt ∧ mo_secondMany.toInt ≤ 8) (g_3 : (-1) ≤ mo_foundAt.toInt ∧ mo_foundAt.toInt ≤ 7) (g_4 : 0 ≤ mo_seenMany.toInt ∧ mo_seenMany.toInt ≤ 6) (g_5 : 0 ≤ mo_keptMany.toInt ∧ mo_keptMany.toInt ≤ 8) (g_6 : 0 ≤ mo_keptSecond.toInt ∧ mo_keptSecond.toInt ≤ 8) (g_7 : 0 ≤ mo_keptSeen.toInt ∧ mo_keptSeen.toInt ≤ 6) : wk_Cv l yX12_layHeights cX12_layHeights 2 none { frames := 2, cells := 0, slots := 0, locals := 45 } D cy [.ref mo] [(mo, .inr (12, [.ref mpage, .int mo_pageMany, .int mo_law, .int mo_many, .int mo_asked, .int mo_looksAll, .int mo_changes, .int mo_rowsRead, .ref mkeys, .ref mvalues, .ref mheights, .ref mheats, .int mo_secondMany, .ref msecondKeys, .ref msecondValues, .ref msecondHeights, .ref msecondHeats, .int mo_foundAt, .int mo_foundLooks, .int mo_foundLane, .int mo_bestsDone, .ref msaved, .ref mbestHeights, .int mo_seenMany, .ref msights, .ref mby, .int mo_seedNow, .int mo_keptRow, .int mo_keptMany, .int mo_keptSecond, .int mo_keptAsked, .int mo_keptLooks, .int mo_keptChanges, .int mo_keptSeen, .ref mkeptKeys, .ref mkeptValues, .ref mkeptHeights, .ref mkeptHeats, .ref mkeptKeys2, .ref mkeptValues2, .ref mkeptHeights2, .ref mkeptHeats2, .ref mkeptSights, .long mo_hash])), (mkeys, .inl (cy, 8, .inl mkeys_a)), (mheights, .inl (cy, 8, .inl mheights_a))] 0 0 (fun (u : (Nat → Int32)) => u = (fn_X12_layHeights mo_law mo_many mkeys_a mheights_a)) (fun u => [(mo, .inr (12, [.ref mpage, .int mo_pageMany, .int mo_law, .int mo_many, .int mo_asked, .int mo_looksAll, .int mo_changes, .int mo_rowsRead, .ref mkeys, .ref mvalues, .ref mheights, .ref mheats, .int mo_secondMany, .ref msecondKeys, .ref msecondValues, .ref msecondHeights, .ref msecondHeats, .int mo_foundAt, .int mo_foundLooks, .int mo_foundLane, .int mo_bestsDone, .ref msaved, .ref mbestHeights, .int mo_seenMany, .ref msights, .ref mby, .int mo_seedNow, .int mo_keptRow, .int mo_keptMany, .int mo_keptSecond, .int mo_keptAsked, .int mo_keptLooks, .int mo_keptChanges, .int mo_keptSeen, .ref mkeptKeys, .ref mkeptValues, .ref mkeptHeights, .ref mkeptHeats, .ref mkeptKeys2, .ref mkeptValues2, .ref mkeptHeights2, .ref mkeptHeats2, .ref mkeptSights, .long mo_hash])), (mkeys, .inl (cy, 8, .inl mkeys_a)), (mheights, .inl (cy, 8, .inl u))]) := by
  refine wk_mk2Cv (by decide) (Nat.le_of_ble_eq_true rfl) ?_
  intro p e s m args below meth c A ls Q B hA hK hP hD hS hl hret
  obtain ⟨hx, hb, hr, hlocks, hml, hown, htb, hin⟩ := B
  have hl : lv_has ls 2 [(0, .ref mo)] := hl
  have hF : (fn_X12_layHeights mo_law mo_many mkeys_a mheights_a) = (fn_X12_layHeights mo_law mo_many mkeys_a mheights_a) := rfl
  conv at hF => rhs; unfold fn_X12_layHeights
  refine lv_iconst (v := 0) hx hb dX12_layHeights_0 (by decide) ?_
  refine lv_istore_n (lv' := [(1, .int 0), (0, .ref mo)]) hx hb dX12_layHeights_1 rfl hl (by decide) rfl (fun ls hl => ?_)
  have hlp_2 : ∀ (fu_2 : Nat) (x1_2 : Int32) (mheights_a_2 : Nat → Int32) (H : Heap) (locs : List Loc) (ls : Array Slot), (0 ≤ x1_2.toInt ∧ x1_2.toInt ≤ 8) → 8 - x1_2.toInt < (fu_2 : Int) → ((fn_X12_layHeights mo_law mo_many mkeys_a mheights_a) = (pm2 (lp_X12_layHeights_2 mo_law mo_many mkeys_a mheights_a fu_2 x1_2 mheights_a_2) (fun x1_2 mheights_a_2 => mheights_a_2))) → va_P D classes [(mo, .inr (12, [.ref mpage, .int mo_pageMany, .int mo_law, .int mo_many, .int mo_asked, .int mo_looksAll, .int mo_changes, .int mo_rowsRead, .ref mkeys, .ref mvalues, .ref mheights, .ref mheats, .int mo_secondMany, .ref msecondKeys, .ref msecondValues, .ref msecondHeights, .ref msecondHeats, .int mo_foundAt, .int mo_foundLooks, .int mo_foundLane, .int mo_bestsDone, .ref msaved, .ref mbestHeights, .int mo_seenMany, .ref msights, .ref mby, .int mo_seedNow, .int mo_keptRow, .int mo_keptMany, .int mo_keptSecond, .int mo_keptAsked, .int mo_keptLooks, .int mo_keptChanges, .int mo_keptSeen, .ref mkeptKeys, .ref mkeptValues, .ref mkeptHeights, .ref mkeptHeats, .ref mkeptKeys2, .ref mkeptValues2, .ref mkeptHeights2, .ref mkeptHeats2, .ref mkeptSights, .long mo_hash])), (mkeys, .inl (cy, 8, .inl mkeys_a)), (mheights, .inl (cy, 8, .inl mheights_a_2))] H → va_D A [(mo, .inr (12, [.ref mpage, .int mo_pageMany, .int mo_law, .int mo_many, .int mo_asked, .int mo_looksAll, .int mo_changes, .int mo_rowsRead, .ref mkeys, .ref mvalues, .ref mheights, .ref mheats, .int mo_secondMany, .ref msecondKeys, .ref msecondValues, .ref msecondHeights, .ref msecondHeats, .int mo_foundAt, .int mo_foundLooks, .int mo_foundLane, .int mo_bestsDone, .ref msaved, .ref mbestHeights, .int mo_seenMany, .ref msights, .ref mby, .int mo_seedNow, .int mo_keptRow, .int mo_keptMany, .int mo_keptSecond, .int mo_keptAsked, .int mo_keptLooks, .int mo_keptChanges, .int mo_keptSeen, .ref mkeptKeys, .ref mkeptValues, .ref mkeptHeights, .ref mkeptHeats, .ref mkeptKeys2, .ref mkeptValues2, .ref mkeptHeights2, .ref mkeptHeats2, .ref mkeptSights, .long mo_hash])), (mkeys, .inl (cy, 8, .inl mkeys_a)), (mheights, .inl (cy, 8, .inl mheights_a_2))] → va_S A s.heap H locs → lv_has ls 2 [(1, .int x1_2), (0, .ref mo)] → W p l e { frames := 2, cells := 0, slots := 0, locals := 45 } s m args below meth c H locs 0 0 Q (F0 m 2 ls []) := by
    intro fu_2
    induction fu_2 with
    | zero =>
      intro x1_2 mheights_a_2 H locs ls hi_2_0 hm hF hP hD hS hl
      exfalso; omega
    | succ fu_2 ih_2 =>
      intro x1_2 mheights_a_2 H locs ls hi_2_0 hm hF hP hD hS hl
      rw [lp_X12_layHeights_2] at hF
      refine lv_iload_n hx hb dX12_layHeights_2 rfl (lv_at hl 0 rfl) ?_
      refine lv_aload_n hx hb dX12_layHeights_3 rfl (lv_at hl 1 rfl) ?_
      refine va_get (D := D) (ci := 12) (v := .int mo_many) (C := RX12) (T := TX12) (N := 44) hx hb htb inX12 hown hK hP 0 rfl rfl 3 (by decide) (htb _ tw_766) (fun _ h9 => h9) rfl dX12_layHeights_4 ?_
      refine lv_icmp_ge (tgt := 27) hx hb dX12_layHeights_7 (by decide) (fun c_1 => ?_) (fun c_1 => ?_)
      · have k_1 : mo_many.toInt ≤ x1_2.toInt := wk_le c_1
        replace hF := hF.trans (pm2_p1 c_1)
        rw [pm2_mk x1_2 mheights_a_2] at hF
        refine W.widen (k := 0) (n := 0) (by decide) (by decide) ?_
        exact hret mheights_a_2 _ _ _ 27 (wk_sub9 (is := [0, 1, 2]) hP rfl) (hD.sub [0, 1, 2] rfl rfl) hS dX12_layHeights_27 hF.symm
      · have k_1 : ¬ mo_many.toInt ≤ x1_2.toInt := wk_nle c_1
        replace hF := hF.trans (pm2_n1 c_1)
        refine lv_aload_n hx hb dX12_layHeights_10 rfl (lv_at hl 1 rfl) ?_
        refine va_get (D := D) (ci := 12) (v := .ref mheights) (C := RX12) (T := TX12) (N := 44) hx hb htb inX12 hown hK hP 0 rfl rfl 10 (by decide) (htb _ tw_773) (fun _ h9 => h9) rfl dX12_layHeights_11 ?_
        refine lv_iload_n hx hb dX12_layHeights_14 rfl (lv_at hl 0 rfl) ?_
        refine lv_aload_n hx hb dX12_layHeights_15 rfl (lv_at hl 1 rfl) ?_
        refine lv_iload_n hx hb dX12_layHeights_16 rfl (lv_at hl 0 rfl) ?_
        refine wk_iV (As := [.int x1_2]) (rest := [.int x1_2, .ref mheights]) (wc := [(mo, .inr (12, [.ref mpage, .int mo_pageMany, .int mo_law, .int mo_many, .int mo_asked, .int mo_looksAll, .int mo_changes, .int mo_rowsRead, .ref mkeys, .ref mvalues, .ref mheights, .ref mheats, .int mo_secondMany, .ref msecondKeys, .ref msecondValues, .ref msecondHeights, .ref msecondHeats, .int mo_foundAt, .int mo_foundLooks, .int mo_foundLane, .int mo_bestsDone, .ref msaved, .ref mbestHeights, .int mo_seenMany, .ref msights, .ref mby, .int mo_seedNow, .int mo_keptRow, .int mo_keptMany, .int mo_keptSecond, .int mo_keptAsked, .int mo_keptLooks, .int mo_keptChanges, .int mo_keptSeen, .ref mkeptKeys, .ref mkeptValues, .ref mkeptHeights, .ref mkeptHeats, .ref mkeptKeys2, .ref mkeptValues2, .ref mkeptHeights2, .ref mkeptHeats2, .ref mkeptSights, .long mo_hash])), (mkeys, .inl (cy, 8, .inl mkeys_a)), (mheights, .inl (cy, 8, .inl mheights_a_2))]) (wr := []) (n := 1) ⟨hx, hb, hml, hown, htb⟩ (c_X12_heightBy l D cy mo mpage mkeys mvalues mheights mheats msecondKeys msecondValues msecondHeights msecondHeats msaved mbestHeights msights mby mkeptKeys mkeptValues mkeptHeights mkeptHeats mkeptKeys2 mkeptValues2 mkeptHeights2 mkeptHeats2 mkeptSights mo_pageMany mo_law mo_many mo_asked mo_looksAll mo_changes mo_rowsRead mo_secondMany mo_foundAt mo_foundLooks mo_foundLane mo_bestsDone mo_seenMany mo_seedNow mo_keptRow mo_keptMany mo_keptSecond mo_keptAsked mo_keptLooks mo_keptChanges mo_keptSeen mo_hash mkeys_a mheights_a_2 x1_2 (show 0 ≤ mo_pageMany.toInt ∧ mo_pageMany.toInt ≤ 44 from by omega) (show 0 ≤ mo_many.toInt ∧ mo_many.toInt ≤ 8 from by omega) (show 0 ≤ mo_secondMany.toInt ∧ mo_secondMany.toInt ≤ 8 from by omega) (show (-1) ≤ mo_foundAt.toInt ∧ mo_foundAt.toInt ≤ 7 from by omega) (show 0 ≤ mo_seenMany.toInt ∧ mo_seenMany.toInt ≤ 6 from by omega) (show 0 ≤ mo_keptMany.toInt ∧ mo_keptMany.toInt ≤ 8 from by omega) (show 0 ≤ mo_keptSecond.toInt ∧ mo_keptSecond.toInt ≤ 8 from by omega) (show 0 ≤ mo_keptSeen.toInt ∧ mo_keptSeen.toInt ≤ 6 from by omega) (show 0 ≤ x1_2.toInt ∧ x1_2.toInt ≤ 7 from by omega)) tw_950 tw_947 tw_949 tw_28 tw_71 rfl rfl (by decide +kernel) ⟨Nat.le_of_ble_eq_true rfl, Nat.le_of_ble_eq_true rfl⟩ hK hP hD hS hA [0, 1, 2] [] rfl rfl rfl rfl (by decide) 0 (ci := 12) rfl rfl rfl hl.1 rfl (Nat.le_of_ble_eq_true rfl) dX12_layHeights_17 ⟨Nat.le_of_ble_eq_true rfl, Nat.le_of_ble_eq_true rfl⟩ (fun r_2 u_3 H locs hw_4 hP hD hS => ?_)
        refine W.widen (k := 0) (n := 0) (by decide) (by decide) ?_
        have hw_4 : r_2 = (fn_X12_heightBy mo_law mkeys_a mheights_a_2 x1_2) := hw_4
        subst hw_4
        have hP : va_P D classes [(mo, .inr (12, [.ref mpage, .int mo_pageMany, .int mo_law, .int mo_many, .int mo_asked, .int mo_looksAll, .int mo_changes, .int mo_rowsRead, .ref mkeys, .ref mvalues, .ref mheights, .ref mheats, .int mo_secondMany, .ref msecondKeys, .ref msecondValues, .ref msecondHeights, .ref msecondHeats, .int mo_foundAt, .int mo_foundLooks, .int mo_foundLane, .int mo_bestsDone, .ref msaved, .ref mbestHeights, .int mo_seenMany, .ref msights, .ref mby, .int mo_seedNow, .int mo_keptRow, .int mo_keptMany, .int mo_keptSecond, .int mo_keptAsked, .int mo_keptLooks, .int mo_keptChanges, .int mo_keptSeen, .ref mkeptKeys, .ref mkeptValues, .ref mkeptHeights, .ref mkeptHeats, .ref mkeptKeys2, .ref mkeptValues2, .ref mkeptHeights2, .ref mkeptHeats2, .ref mkeptSights, .long mo_hash])), (mkeys, .inl (cy, 8, .inl mkeys_a)), (mheights, .inl (cy, 8, .inl mheights_a_2))] H := hP
        have hD : va_D A [(mo, .inr (12, [.ref mpage, .int mo_pageMany, .int mo_law, .int mo_many, .int mo_asked, .int mo_looksAll, .int mo_changes, .int mo_rowsRead, .ref mkeys, .ref mvalues, .ref mheights, .ref mheats, .int mo_secondMany, .ref msecondKeys, .ref msecondValues, .ref msecondHeights, .ref msecondHeats, .int mo_foundAt, .int mo_foundLooks, .int mo_foundLane, .int mo_bestsDone, .ref msaved, .ref mbestHeights, .int mo_seenMany, .ref msights, .ref mby, .int mo_seedNow, .int mo_keptRow, .int mo_keptMany, .int mo_keptSecond, .int mo_keptAsked, .int mo_keptLooks, .int mo_keptChanges, .int mo_keptSeen, .ref mkeptKeys, .ref mkeptValues, .ref mkeptHeights, .ref mkeptHeats, .ref mkeptKeys2, .ref mkeptValues2, .ref mkeptHeights2, .ref mkeptHeats2, .ref mkeptSights, .long mo_hash])), (mkeys, .inl (cy, 8, .inl mkeys_a)), (mheights, .inl (cy, 8, .inl mheights_a_2))] := hD
        refine va_iast hx hb hK hP hD hS 2 0 rfl rfl (show vp_in x1_2 8 from vp_in_iff.mpr (show 0 ≤ x1_2.toInt ∧ x1_2.toInt < ((8 : Nat) : Int) from by omega)) dX12_layHeights_20 (fun H locs hP hD hS => ?_)
        have hP : va_P D classes [(mo, .inr (12, [.ref mpage, .int mo_pageMany, .int mo_law, .int mo_many, .int mo_asked, .int mo_looksAll, .int mo_changes, .int mo_rowsRead, .ref mkeys, .ref mvalues, .ref mheights, .ref mheats, .int mo_secondMany, .ref msecondKeys, .ref msecondValues, .ref msecondHeights, .ref msecondHeats, .int mo_foundAt, .int mo_foundLooks, .int mo_foundLane, .int mo_bestsDone, .ref msaved, .ref mbestHeights, .int mo_seenMany, .ref msights, .ref mby, .int mo_seedNow, .int mo_keptRow, .int mo_keptMany, .int mo_keptSecond, .int mo_keptAsked, .int mo_keptLooks, .int mo_keptChanges, .int mo_keptSeen, .ref mkeptKeys, .ref mkeptValues, .ref mkeptHeights, .ref mkeptHeats, .ref mkeptKeys2, .ref mkeptValues2, .ref mkeptHeights2, .ref mkeptHeats2, .ref mkeptSights, .long mo_hash])), (mkeys, .inl (cy, 8, .inl mkeys_a)), (mheights, .inl (cy, 8, .inl (upd mheights_a_2 x1_2.toNatClampNeg (fn_X12_heightBy mo_law mkeys_a mheights_a_2 x1_2))))] H := hP
        have hD : va_D A [(mo, .inr (12, [.ref mpage, .int mo_pageMany, .int mo_law, .int mo_many, .int mo_asked, .int mo_looksAll, .int mo_changes, .int mo_rowsRead, .ref mkeys, .ref mvalues, .ref mheights, .ref mheats, .int mo_secondMany, .ref msecondKeys, .ref msecondValues, .ref msecondHeights, .ref msecondHeats, .int mo_foundAt, .int mo_foundLooks, .int mo_foundLane, .int mo_bestsDone, .ref msaved, .ref mbestHeights, .int mo_seenMany, .ref msights, .ref mby, .int mo_seedNow, .int mo_keptRow, .int mo_keptMany, .int mo_keptSecond, .int mo_keptAsked, .int mo_keptLooks, .int mo_keptChanges, .int mo_keptSeen, .ref mkeptKeys, .ref mkeptValues, .ref mkeptHeights, .ref mkeptHeats, .ref mkeptKeys2, .ref mkeptValues2, .ref mkeptHeights2, .ref mkeptHeats2, .ref mkeptSights, .long mo_hash])), (mkeys, .inl (cy, 8, .inl mkeys_a)), (mheights, .inl (cy, 8, .inl (upd mheights_a_2 x1_2.toNatClampNeg (fn_X12_heightBy mo_law mkeys_a mheights_a_2 x1_2))))] := hD
        refine lv_iinc (v := (x1_2 + 1)) (lv' := [(1, .int (x1_2 + 1)), (0, .ref mo)]) hx hb dX12_layHeights_21 hl (k := 0) rfl rfl (by decide) rfl (fun ls hl => ?_)
        have k_5 : (x1_2 + 1).toInt = x1_2.toInt + 1 := wk_add x1_2.toInt 1 rfl rfl (by omega) (by omega)
        refine lv_goto (tgt := 2) hx hb dX12_layHeights_24 (by decide) ?_
        exact ih_2 (x1_2 + 1) (upd mheights_a_2 x1_2.toNatClampNeg (fn_X12_heightBy mo_law mkeys_a mheights_a_2 x1_2)) _ _ _ (show 0 ≤ (x1_2 + 1).toInt ∧ (x1_2 + 1).toInt ≤ 8 from by omega) (show 8 - (x1_2 + 1).toInt < ((fu_2 : Nat) : Int) from by omega) hF hP hD hS (lv_sub hl [0, 1] rfl)
  exact hlp_2 10 0 mheights_a _ _ _ (show 0 ≤ 0 ∧ 0 ≤ 8 from by omega) (show 8 - 0 < ((10 : Nat) : Int) from by omega) hF hP hD hS (lv_sub hl [0, 1] rfl)
