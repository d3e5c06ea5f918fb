def lp_X9_alike_5 (trc_a : Nat → Int32) (a : Int32) (b : Int32) : Nat → Int32 → Int32 → Int32 × Int32
  | 0, _, _ => default
  | fu_5 + 1, x3_5, x4_5 => (if (4 : Int32) < x4_5 then (x3_5, x4_5) else (if ((a >>> ((x4_5 - 1) &&& 31)) &&& 1) = 1 then (if (trc_a x4_5.toNatClampNeg) = b then (lp_X9_alike_5 trc_a a b fu_5 (x3_5 + 1) (x4_5 + 1)) else (lp_X9_alike_5 trc_a a b fu_5 (x3_5 + 0) (x4_5 + 1))) else (lp_X9_alike_5 trc_a a b fu_5 (x3_5 + 0) (x4_5 + 1))))
termination_by n => n
def fn_X9_alike (trc_a : Nat → Int32) (a : Int32) (b : Int32) : Int32 := (pm2 (lp_X9_alike_5 trc_a a b 6 0 1) (fun x3_5 x4_5 => x3_5))
theorem dX9_alike_0 : decode cX9_alike 0 = .ok (.iconst 0, 1) := by decide +kernel
theorem dX9_alike_1 : decode cX9_alike 1 = .ok (.istore_n 3, 1) := by decide +kernel
theorem dX9_alike_2 : decode cX9_alike 2 = .ok (.iconst 1, 1) := by decide +kernel
theorem dX9_alike_3 : decode cX9_alike 3 = .ok (.istore 4, 2) := by decide +kernel
theorem dX9_alike_5 : decode cX9_alike 5 = .ok (.iload 4, 2) := by decide +kernel
theorem dX9_alike_7 : decode cX9_alike 7 = .ok (.iconst 4, 1) := by decide +kernel
theorem dX9_alike_8 : decode cX9_alike 8 = .ok (.if_icmp .gt 52, 3) := by decide +kernel
theorem dX9_alike_11 : decode cX9_alike 11 = .ok (.iload_n 1, 1) := by decide +kernel
theorem dX9_alike_12 : decode cX9_alike 12 = .ok (.iload 4, 2) := by decide +kernel
theorem dX9_alike_14 : decode cX9_alike 14 = .ok (.iconst 1, 1) := by decide +kernel
theorem dX9_alike_15 : decode cX9_alike 15 = .ok (.isub, 1) := by decide +kernel
theorem dX9_alike_16 : decode cX9_alike 16 = .ok (.ishr, 1) := by decide +kernel
theorem dX9_alike_17 : decode cX9_alike 17 = .ok (.iconst 1, 1) := by decide +kernel
theorem dX9_alike_18 : decode cX9_alike 18 = .ok (.iand, 1) := by decide +kernel
theorem dX9_alike_19 : decode cX9_alike 19 = .ok (.iconst 1, 1) := by decide +kernel
theorem dX9_alike_20 : decode cX9_alike 20 = .ok (.if_icmp .ne 7, 3) := by decide +kernel
theorem dX9_alike_23 : decode cX9_alike 23 = .ok (.iconst 1, 1) := by decide +kernel
theorem dX9_alike_24 : decode cX9_alike 24 = .ok (.goto 4, 3) := by decide +kernel
theorem dX9_alike_27 : decode cX9_alike 27 = .ok (.iconst 0, 1) := by decide +kernel
theorem dX9_alike_28 : decode cX9_alike 28 = .ok (.istore 5, 2) := by decide +kernel
theorem dX9_alike_30 : decode cX9_alike 30 = .ok (.iload_n 3, 1) := by decide +kernel
theorem dX9_alike_31 : decode cX9_alike 31 = .ok (.iload 5, 2) := by decide +kernel
theorem dX9_alike_33 : decode cX9_alike 33 = .ok (.ifCond .eq 18, 3) := by decide +kernel
theorem dX9_alike_36 : decode cX9_alike 36 = .ok (.aload_n 0, 1) := by decide +kernel
theorem dX9_alike_37 : decode cX9_alike 37 = .ok (.getfield 25, 3) := by decide +kernel
theorem dX9_alike_40 : decode cX9_alike 40 = .ok (.iload 4, 2) := by decide +kernel
theorem dX9_alike_42 : decode cX9_alike 42 = .ok (.iaload, 1) := by decide +kernel
theorem dX9_alike_43 : decode cX9_alike 43 = .ok (.iload_n 2, 1) := by decide +kernel
theorem dX9_alike_44 : decode cX9_alike 44 = .ok (.if_icmp .ne 7, 3) := by decide +kernel
theorem dX9_alike_47 : decode cX9_alike 47 = .ok (.iconst 1, 1) := by decide +kernel
theorem dX9_alike_48 : decode cX9_alike 48 = .ok (.goto 4, 3) := by decide +kernel
theorem dX9_alike_51 : decode cX9_alike 51 = .ok (.iconst 0, 1) := by decide +kernel
theorem dX9_alike_52 : decode cX9_alike 52 = .ok (.iadd, 1) := by decide +kernel
theorem dX9_alike_53 : decode cX9_alike 53 = .ok (.istore_n 3, 1) := by decide +kernel
theorem dX9_alike_54 : decode cX9_alike 54 = .ok (.iinc 4 1, 3) := by decide +kernel
theorem dX9_alike_57 : decode cX9_alike 57 = .ok (.goto (-52), 3) := by decide +kernel
theorem dX9_alike_60 : decode cX9_alike 60 = .ok (.iload_n 3, 1) := by decide +kernel
theorem dX9_alike_61 : decode cX9_alike 61 = .ok (.ireturn, 1) := by decide +kernel
set_option maxHeartbeats 4000000 in
set_option maxRecDepth 100000 in
theorem c_X9_alike (l : Launch) (D : va_G) (cy : ClassId) (tr trw tra trb trc : Nat) (tr_least : Int32) (tr_bestLinks : Int32) (tr_changeNumber : Int32) (tr_changeHeight : Int32) (trc_a : Nat → Int32) (a : Int32) (b : Int32)  : wk_Ci l yX9_alike cX9_alike 6 (some .int) { frames := 0, cells := 0, slots := 0, locals := 0 } D cy [.ref tr, .int a, .int b] [(tr, .inr (9, [.ref trw, .ref tra, .ref trb, .ref trc, .int tr_least, .int tr_bestLinks, .int tr_changeNumber, .int tr_changeHeight])), (trc, .inl (cy, 5, .inl trc_a))] 0 0 (fun (r : Int32) (u : Unit) => r = (fn_X9_alike trc_a a b)) (fun u => [(tr, .inr (9, [.ref trw, .ref tra, .ref trb, .ref trc, .int tr_least, .int tr_bestLinks, .int tr_changeNumber, .int tr_changeHeight])), (trc, .inl (cy, 5, .inl trc_a))]) := by
  refine wk_mk2Ci (by decide) (Nat.le_of_ble_eq_true rfl) ?_
  intro p e s m args below meth c A ls Q B hA hK hP hD hS hl hret
  obtain ⟨hx, hb, hr, hlocks, hml, hown, htb, hin⟩ := B
  have hl : lv_has ls 6 [(0, .ref tr), (1, .int a), (2, .int b)] := hl
  have hF : (fn_X9_alike trc_a a b) = (fn_X9_alike trc_a a b) := rfl
  conv at hF => rhs; unfold fn_X9_alike
  refine lv_iconst (v := 0) hx hb dX9_alike_0 (by decide) ?_
  refine lv_istore_n (lv' := [(3, .int 0), (0, .ref tr), (1, .int a), (2, .int b)]) hx hb dX9_alike_1 rfl hl (by decide) rfl (fun ls hl => ?_)
  refine lv_iconst (v := 1) hx hb dX9_alike_2 (by decide) ?_
  refine lv_istore (lv' := [(4, .int 1), (3, .int 0), (0, .ref tr), (1, .int a), (2, .int b)]) hx hb dX9_alike_3 hl (by decide) rfl (fun ls hl => ?_)
  have hlp_5 : ∀ (fu_5 : Nat) (x3_5 : Int32) (x4_5 : Int32) (H : Heap) (locs : List Loc) (ls : Array Slot), (1 ≤ x4_5.toInt ∧ x4_5.toInt ≤ 5) → 5 - x4_5.toInt < (fu_5 : Int) → ((fn_X9_alike trc_a a b) = (pm2 (lp_X9_alike_5 trc_a a b fu_5 x3_5 x4_5) (fun x3_5 x4_5 => x3_5))) → va_P D classes [(tr, .inr (9, [.ref trw, .ref tra, .ref trb, .ref trc, .int tr_least, .int tr_bestLinks, .int tr_changeNumber, .int tr_changeHeight])), (trc, .inl (cy, 5, .inl trc_a))] H → va_D A [(tr, .inr (9, [.ref trw, .ref tra, .ref trb, .ref trc, .int tr_least, .int tr_bestLinks, .int tr_changeNumber, .int tr_changeHeight])), (trc, .inl (cy, 5, .inl trc_a))] → va_S A s.heap H locs → lv_has ls 6 [(4, .int x4_5), (3, .int x3_5), (0, .ref tr), (1, .int a), (2, .int b)] → W p l e { frames := 0, cells := 0, slots := 0, locals := 0 } s m args below meth c H locs 0 0 Q (F0 m 5 ls []) := by
    intro fu_5
    induction fu_5 with
    | zero =>
      intro x3_5 x4_5 H locs ls hi_5_0 hm hF hP hD hS hl
      exfalso; omega
    | succ fu_5 ih_5 =>
      intro x3_5 x4_5 H locs ls hi_5_0 hm hF hP hD hS hl
      rw [lp_X9_alike_5] at hF
      refine lv_iload hx hb dX9_alike_5 (lv_at hl 0 rfl) ?_
      refine lv_iconst (v := 4) hx hb dX9_alike_7 (by decide) ?_
      refine lv_icmp_gt (tgt := 60) hx hb dX9_alike_8 (by decide) (fun c_1 => ?_) (fun c_1 => ?_)
      · have k_1 : 4 < x4_5.toInt := wk_lt c_1
        replace hF := hF.trans (pm2_p1 c_1)
        rw [pm2_mk x3_5 x4_5] at hF
        refine lv_iload_n hx hb dX9_alike_60 rfl (lv_at hl 1 rfl) ?_
        refine W.widen (k := 0) (n := 0) (by decide) (by decide) ?_
        exact hret x3_5 () _ _ _ 61 (wk_sub9 (is := [0, 1]) hP rfl) (hD.sub [0, 1] rfl rfl) hS dX9_alike_61 hF.symm
      · have k_1 : ¬ 4 < x4_5.toInt := wk_nlt c_1
        replace hF := hF.trans (pm2_n1 c_1)
        refine lv_iload_n hx hb dX9_alike_11 rfl (lv_at hl 3 rfl) ?_
        refine lv_iload hx hb dX9_alike_12 (lv_at hl 0 rfl) ?_
        refine lv_iconst (v := 1) hx hb dX9_alike_14 (by decide) ?_
        refine lv_isub hx hb dX9_alike_15 ?_
        have k_2 : (x4_5 - 1).toInt = x4_5.toInt - 1 := wk_sub x4_5.toInt 1 rfl rfl (by omega) (by omega)
        refine lv_ishr hx hb dX9_alike_16 ?_
        refine lv_iconst (v := 1) hx hb dX9_alike_17 (by decide) ?_
        refine lv_iand hx hb dX9_alike_18 ?_
        refine lv_iconst (v := 1) hx hb dX9_alike_19 (by decide) ?_
        refine lv_icmp_ne (tgt := 27) hx hb dX9_alike_20 (by decide) (fun c_3 => ?_) (fun c_3 => ?_)
        · have k_3 : ¬ ((a >>> ((x4_5 - 1) &&& 31)) &&& 1).toInt = 1 := wk_neq c_3
          replace hF := hF.trans (pm2_n1 c_3)
          refine lv_iconst (v := 0) hx hb dX9_alike_27 (by decide) ?_
          refine lv_istore (lv' := [(5, .int 0), (4, .int x4_5), (3, .int x3_5), (0, .ref tr), (1, .int a), (2, .int b)]) hx hb dX9_alike_28 hl (by decide) rfl (fun ls hl => ?_)
          refine lv_iload_n hx hb dX9_alike_30 rfl (lv_at hl 2 rfl) ?_
          refine lv_iload hx hb dX9_alike_31 (lv_at hl 0 rfl) ?_
          refine lv_if_eq (tgt := 51) hx hb dX9_alike_33 (by decide) (fun _ => ?_) (fun c_4 => absurd (by decide) c_4)
          refine lv_iconst (v := 0) hx hb dX9_alike_51 (by decide) ?_
          refine lv_iadd hx hb dX9_alike_52 ?_
          refine lv_istore_n (lv' := [(3, .int (x3_5 + 0)), (5, .int 0), (4, .int x4_5), (0, .ref tr), (1, .int a), (2, .int b)]) hx hb dX9_alike_53 rfl hl (by decide) rfl (fun ls hl => ?_)
          refine lv_iinc (v := (x4_5 + 1)) (lv' := [(4, .int (x4_5 + 1)), (3, .int (x3_5 + 0)), (5, .int 0), (0, .ref tr), (1, .int a), (2, .int b)]) hx hb dX9_alike_54 hl (k := 2) rfl rfl (by decide) rfl (fun ls hl => ?_)
          have k_5 : (x4_5 + 1).toInt = x4_5.toInt + 1 := wk_add x4_5.toInt 1 rfl rfl (by omega) (by omega)
          refine lv_goto (tgt := 5) hx hb dX9_alike_57 (by decide) ?_
          exact ih_5 (x3_5 + 0) (x4_5 + 1) _ _ _ (show 1 ≤ (x4_5 + 1).toInt ∧ (x4_5 + 1).toInt ≤ 5 from by omega) (show 5 - (x4_5 + 1).toInt < ((fu_5 : Nat) : Int) from by omega) hF hP hD hS (lv_sub hl [0, 1, 3, 4, 5] rfl)
        · have k_3 : ((a >>> ((x4_5 - 1) &&& 31)) &&& 1).toInt = 1 := wk_eq c_3
          replace hF := hF.trans (pm2_p1 c_3)
          refine lv_iconst (v := 1) hx hb dX9_alike_23 (by decide) ?_
          refine lv_goto (tgt := 28) hx hb dX9_alike_24 (by decide) ?_
          refine lv_istore (lv' := [(5, .int 1), (4, .int x4_5), (3, .int x3_5), (0, .ref tr), (1, .int a), (2, .int b)]) hx hb dX9_alike_28 hl (by decide) rfl (fun ls hl => ?_)
          refine lv_iload_n hx hb dX9_alike_30 rfl (lv_at hl 2 rfl) ?_
          refine lv_iload hx hb dX9_alike_31 (lv_at hl 0 rfl) ?_
          refine lv_if_eq (tgt := 51) hx hb dX9_alike_33 (by decide) (fun c_6 => absurd c_6 (by decide)) (fun _ => ?_)
          refine lv_aload_n hx hb dX9_alike_36 rfl (lv_at hl 3 rfl) ?_
          refine va_get (D := D) (ci := 9) (v := .ref trc) (C := RX9) (T := TX9) (N := 8) hx hb htb inX9 hown hK hP 0 rfl rfl 3 (by decide) (htb _ tw_226) (fun _ h9 => h9) rfl dX9_alike_37 ?_
          refine lv_iload hx hb dX9_alike_40 (lv_at hl 1 rfl) ?_
          refine va_iald hx hb hK hP 1 0 rfl rfl (show vp_in x4_5 5 from vp_in_iff.mpr (show 0 ≤ x4_5.toInt ∧ x4_5.toInt < ((5 : Nat) : Int) from by omega)) dX9_alike_42 ?_
          refine lv_iload_n hx hb dX9_alike_43 rfl (lv_at hl 5 rfl) ?_
          refine lv_icmp_ne (tgt := 51) hx hb dX9_alike_44 (by decide) (fun c_7 => ?_) (fun c_7 => ?_)
          · have k_7 : ¬ (trc_a x4_5.toNatClampNeg).toInt = b.toInt := wk_neq c_7
            replace hF := hF.trans (pm2_n1 c_7)
            refine lv_iconst (v := 0) hx hb dX9_alike_51 (by decide) ?_
            refine lv_iadd hx hb dX9_alike_52 ?_
            refine lv_istore_n (lv' := [(3, .int (x3_5 + 0)), (5, .int 1), (4, .int x4_5), (0, .ref tr), (1, .int a), (2, .int b)]) hx hb dX9_alike_53 rfl hl (by decide) rfl (fun ls hl => ?_)
            refine lv_iinc (v := (x4_5 + 1)) (lv' := [(4, .int (x4_5 + 1)), (3, .int (x3_5 + 0)), (5, .int 1), (0, .ref tr), (1, .int a), (2, .int b)]) hx hb dX9_alike_54 hl (k := 2) rfl rfl (by decide) rfl (fun ls hl => ?_)
            have k_8 : (x4_5 + 1).toInt = x4_5.toInt + 1 := wk_add x4_5.toInt 1 rfl rfl (by omega) (by omega)
            refine lv_goto (tgt := 5) hx hb dX9_alike_57 (by decide) ?_
            exact ih_5 (x3_5 + 0) (x4_5 + 1) _ _ _ (show 1 ≤ (x4_5 + 1).toInt ∧ (x4_5 + 1).toInt ≤ 5 from by omega) (show 5 - (x4_5 + 1).toInt < ((fu_5 : Nat) : Int) from by omega) hF hP hD hS (lv_sub hl [0, 1, 3, 4, 5] rfl)
          · have k_7 : (trc_a x4_5.toNatClampNeg).toInt = b.toInt := wk_eq c_7
            replace hF := hF.trans (pm2_p1 c_7)
            refine lv_iconst (v := 1) hx hb dX9_alike_47 (by decide) ?_
            refine lv_goto (tgt := 52) hx hb dX9_alike_48 (by decide) ?_
            refine lv_iadd hx hb dX9_alike_52 ?_
            refine lv_istore_n (lv' := [(3, .int (x3_5 + 1)), (5, .int 1), (4, .int x4_5), (0, .ref tr), (1, .int a), (2, .int b)]) hx hb dX9_alike_53 rfl hl (by decide) rfl (fun ls hl => ?_)
            refine lv_iinc (v := (x4_5 + 1)) (lv' := [(4, .int (x4_5 + 1)), (3, .int (x3_5 + 1)), (5, .int 1), (0, .ref tr), (1, .int a), (2, .int b)]) hx hb dX9_alike_54 hl (k := 2) rfl rfl (by decide) rfl (fun ls hl => ?_)
            have k_9 : (x4_5 + 1).toInt = x4_5.toInt + 1 := wk_add x4_5.toInt 1 rfl rfl (by omega) (by omega)
            refine lv_goto (tgt := 5) hx hb dX9_alike_57 (by decide) ?_
            exact ih_5 (x3_5 + 1) (x4_5 + 1) _ _ _ (show 1 ≤ (x4_5 + 1).toInt ∧ (x4_5 + 1).toInt ≤ 5 from by omega) (show 5 - (x4_5 + 1).toInt < ((fu_5 : Nat) : Int) from by omega) hF hP hD hS (lv_sub hl [0, 1, 3, 4, 5] rfl)
  exact hlp_5 6 0 1 _ _ _ (show 1 ≤ 1 ∧ 1 ≤ 5 from by omega) (show 5 - 1 < ((6 : Nat) : Int) from by omega) hF hP hD hS (lv_sub hl [0, 1, 2, 3, 4] rfl)
def lp_X9_leftAtWorst_6 (trw_number : Int32) (trw_lane : Int32) (trw_looks : Int32) (tra_a : Nat → Int32) (trc_a : Nat → Int32) (ro_size : Int32) (rok_a : Nat → Int32) (a : Int32) (b : Int32) (d : Int32) : Nat → Int32 → Int32 → Int32 → Int32 → (Nat → Int32) → (Nat → Int32) → Int32 × Int32 × Int32 × Int32 × (Nat → Int32) × (Nat → Int32)
  | 0, _, _, _, _, _, _ => default
  | fu_6 + 1, x6_6, trw_number_6, trw_lane_6, trw_looks_6, tra_a_6, trc_a_6 => (if (4 : Int32) < x6_6 then (x6_6, trw_number_6, trw_lane_6, trw_looks_6, tra_a_6, trc_a_6) else (pm2 (fn_X10_go trw_number_6 trw_lane_6 trw_looks_6 ro_size rok_a (upd tra_a_6 a.toNatClampNeg x6_6) (-1) d) (fun o_5 t_ => (pm2 (t_) (fun o_6 o_7 => (lp_X9_leftAtWorst_6 trw_number trw_lane trw_looks tra_a trc_a ro_size rok_a a b d fu_6 (x6_6 + 1) o_5 o_6 o_7 (upd tra_a_6 a.toNatClampNeg x6_6) (upd trc_a_6 x6_6.toNatClampNeg o_7)))))))
termination_by n => n
def lp_X9_leftAtWorst_58 (trw_number : Int32) (trw_lane : Int32) (trw_looks : Int32) (tra_a : Nat → Int32) (trc_a : Nat → Int32) (ro_size : Int32) (rok_a : Nat → Int32) (a : Int32) (b : Int32) (d : Int32) (x6_6 : Int32) (trw_number_6 : Int32) (trw_lane_6 : Int32) (trw_looks_6 : Int32) (tra_a_6 : Nat → Int32) (trc_a_6 : Nat → Int32) : Nat → Int32 → Int32 → Int32 × Int32
  | 0, _, _ => default
  | fu_58 + 1, x5_58, x6_58 => (if (4 : Int32) < x6_58 then (x5_58, x6_58) else (lp_X9_leftAtWorst_58 trw_number trw_lane trw_looks tra_a trc_a ro_size rok_a a b d x6_6 trw_number_6 trw_lane_6 trw_looks_6 tra_a_6 trc_a_6 fu_58 (if x5_58 < (fn_X9_alike trc_a_6 b (trc_a_6 x6_58.toNatClampNeg)) then (fn_X9_alike trc_a_6 b (trc_a_6 x6_58.toNatClampNeg)) else x5_58) (x6_58 + 1)))
termination_by n => n
def fn_X9_leftAtWorst (trw_number : Int32) (trw_lane : Int32) (trw_looks : Int32) (tra_a : Nat → Int32) (trc_a : Nat → Int32) (ro_size : Int32) (rok_a : Nat → Int32) (a : Int32) (b : Int32) (d : Int32) : Int32 × Int32 × Int32 × Int32 × (Nat → Int32) × (Nat → Int32) := (pm2 (lp_X9_leftAtWorst_6 trw_number trw_lane trw_looks tra_a trc_a ro_size rok_a a b d 6 1 trw_number trw_lane trw_looks tra_a trc_a) (fun x6_6 t_ => (pm2 (t_) (fun trw_number_6 t_ => (pm2 (t_) (fun trw_lane_6 t_ => (pm2 (t_) (fun trw_looks_6 t_ => (pm2 (t_) (fun tra_a_6 trc_a_6 => (pm2 (lp_X9_leftAtWorst_58 trw_number trw_lane trw_looks tra_a trc_a ro_size rok_a a b d x6_6 trw_number_6 trw_lane_6 trw_looks_6 tra_a_6 trc_a_6 6 0 1) (fun x5_58 x6_58 => (x5_58, trw_number_6, trw_lane_6, trw_looks_6, tra_a_6, trc_a_6)))))))))))))
theorem dX9_leftAtWorst_0 : decode cX9_leftAtWorst 0 = .ok (.iconst 0, 1) := by decide +kernel
theorem dX9_leftAtWorst_1 : decode cX9_leftAtWorst 1 = .ok (.istore 5, 2) := by decide +kernel
theorem dX9_leftAtWorst_3 : decode cX9_leftAtWorst 3 = .ok (.iconst 1, 1) := by decide +kernel
theorem dX9_leftAtWorst_4 : decode cX9_leftAtWorst 4 = .ok (.istore 6, 2) := by decide +kernel
theorem dX9_leftAtWorst_6 : decode cX9_leftAtWorst 6 = .ok (.iload 6, 2) := by decide +kernel
theorem dX9_leftAtWorst_8 : decode cX9_leftAtWorst 8 = .ok (.iconst 4, 1) := by decide +kernel
theorem dX9_leftAtWorst_9 : decode cX9_leftAtWorst 9 = .ok (.if_icmp .gt 46, 3) := by decide +kernel
theorem dX9_leftAtWorst_12 : decode cX9_leftAtWorst 12 = .ok (.aload_n 0, 1) := by decide +kernel
theorem dX9_leftAtWorst_13 : decode cX9_leftAtWorst 13 = .ok (.getfield 18, 3) := by decide +kernel
theorem dX9_leftAtWorst_16 : decode cX9_leftAtWorst 16 = .ok (.iload_n 2, 1) := by decide +kernel
theorem dX9_leftAtWorst_17 : decode cX9_leftAtWorst 17 = .ok (.iload 6, 2) := by decide +kernel
theorem dX9_leftAtWorst_19 : decode cX9_leftAtWorst 19 = .ok (.iastore, 1) := by decide +kernel
theorem dX9_leftAtWorst_20 : decode cX9_leftAtWorst 20 = .ok (.aload_n 0, 1) := by decide +kernel
theorem dX9_leftAtWorst_21 : decode cX9_leftAtWorst 21 = .ok (.getfield 12, 3) := by decide +kernel
theorem dX9_leftAtWorst_24 : decode cX9_leftAtWorst 24 = .ok (.aload_n 1, 1) := by decide +kernel
theorem dX9_leftAtWorst_25 : decode cX9_leftAtWorst 25 = .ok (.aload_n 0, 1) := by decide +kernel
theorem dX9_leftAtWorst_26 : decode cX9_leftAtWorst 26 = .ok (.getfield 18, 3) := by decide +kernel
theorem dX9_leftAtWorst_29 : decode cX9_leftAtWorst 29 = .ok (.iconst (-1), 1) := by decide +kernel
theorem dX9_leftAtWorst_30 : decode cX9_leftAtWorst 30 = .ok (.iload 4, 2) := by decide +kernel
theorem dX9_leftAtWorst_32 : decode cX9_leftAtWorst 32 = .ok (.invokevirtual 40, 3) := by decide +kernel
theorem dX9_leftAtWorst_35 : decode cX9_leftAtWorst 35 = .ok (.aload_n 0, 1) := by decide +kernel
theorem dX9_leftAtWorst_36 : decode cX9_leftAtWorst 36 = .ok (.getfield 25, 3) := by decide +kernel
theorem dX9_leftAtWorst_39 : decode cX9_leftAtWorst 39 = .ok (.iload 6, 2) := by decide +kernel
theorem dX9_leftAtWorst_41 : decode cX9_leftAtWorst 41 = .ok (.aload_n 0, 1) := by decide +kernel
theorem dX9_leftAtWorst_42 : decode cX9_leftAtWorst 42 = .ok (.getfield 12, 3) := by decide +kernel
theorem dX9_leftAtWorst_45 : decode cX9_leftAtWorst 45 = .ok (.getfield 44, 3) := by decide +kernel
theorem dX9_leftAtWorst_48 : decode cX9_leftAtWorst 48 = .ok (.iastore, 1) := by decide +kernel
theorem dX9_leftAtWorst_49 : decode cX9_leftAtWorst 49 = .ok (.iinc 6 1, 3) := by decide +kernel
theorem dX9_leftAtWorst_52 : decode cX9_leftAtWorst 52 = .ok (.goto (-46), 3) := by decide +kernel
theorem dX9_leftAtWorst_55 : decode cX9_leftAtWorst 55 = .ok (.iconst 1, 1) := by decide +kernel
theorem dX9_leftAtWorst_56 : decode cX9_leftAtWorst 56 = .ok (.istore 6, 2) := by decide +kernel
theorem dX9_leftAtWorst_58 : decode cX9_leftAtWorst 58 = .ok (.iload 6, 2) := by decide +kernel
theorem dX9_leftAtWorst_60 : decode cX9_leftAtWorst 60 = .ok (.iconst 4, 1) := by decide +kernel
theorem dX9_leftAtWorst_61 : decode cX9_leftAtWorst 61 = .ok (.if_icmp .gt 28, 3) := by decide +kernel
theorem dX9_leftAtWorst_64 : decode cX9_leftAtWorst 64 = .ok (.iload 5, 2) := by decide +kernel
theorem dX9_leftAtWorst_66 : decode cX9_leftAtWorst 66 = .ok (.aload_n 0, 1) := by decide +kernel
theorem dX9_leftAtWorst_67 : decode cX9_leftAtWorst 67 = .ok (.iload_n 3, 1) := by decide +kernel
theorem dX9_leftAtWorst_68 : decode cX9_leftAtWorst 68 = .ok (.aload_n 0, 1) := by decide +kernel
theorem dX9_leftAtWorst_69 : decode cX9_leftAtWorst 69 = .ok (.getfield 25, 3) := by decide +kernel
theorem dX9_leftAtWorst_72 : decode cX9_leftAtWorst 72 = .ok (.iload 6, 2) := by decide +kernel
theorem dX9_leftAtWorst_74 : decode cX9_leftAtWorst 74 = .ok (.iaload, 1) := by decide +kernel
theorem dX9_leftAtWorst_75 : decode cX9_leftAtWorst 75 = .ok (.invokevirtual 106, 3) := by decide +kernel
theorem dX9_leftAtWorst_78 : decode cX9_leftAtWorst 78 = .ok (.invokestatic 110, 3) := by decide +kernel
theorem dX9_leftAtWorst_81 : decode cX9_leftAtWorst 81 = .ok (.istore 5, 2) := by decide +kernel
theorem dX9_leftAtWorst_83 : decode cX9_leftAtWorst 83 = .ok (.iinc 6 1, 3) := by decide +kernel
theorem dX9_leftAtWorst_86 : decode cX9_leftAtWorst 86 = .ok (.goto (-28), 3) := by decide +kernel
theorem dX9_leftAtWorst_89 : decode cX9_leftAtWorst 89 = .ok (.iload 5, 2) := by decide +kernel
theorem dX9_leftAtWorst_91 : decode cX9_leftAtWorst 91 = .ok (.ireturn, 1) := by decide +kernel
set_option maxHeartbeats 4000000 in
set_option maxRecDepth 100000 in
theorem c_X9_leftAtWorst (l : Launch) (D : va_G) (cy : ClassId) (tr trw tra trb trc ro rok rov roh rot : Nat) (tr_least : Int32) (tr_bestLinks : Int32) (tr_changeNumber : Int32) (tr_changeHeight : Int32) (trw_number : Int32) (trw_lane : Int32) (trw_looks : Int32) (tra_a : Nat → Int32) (trc_a : Nat → Int32) (ro_size : Int32) (rok_a : Nat → Int32) (a : Int32) (b : Int32) (d : Int32) (g_0 : (-1) ≤ trw_number.toInt ∧ trw_number.toInt ≤ 7) (g_1 : 0 ≤ ro_size.toInt ∧ ro_size.toInt ≤ 8) (g_2 : 0 ≤ a.toInt ∧ a.toInt ≤ 7) : wk_Ci l yX9_leftAtWorst cX9_leftAtWorst 7 (some .int) { frames := 3, cells := 0, slots := 0, locals := 65 } D cy [.ref tr, .ref ro, .int a, .int b, .int d] [(tr, .inr (9, [.ref trw, .ref tra, .ref trb, .ref trc, .int tr_least, .int tr_bestLinks, .int tr_changeNumber, .int tr_changeHeight])), (trw, .inr (10, [.int trw_number, .int trw_lane, .int trw_looks])), (tra, .inl (cy, 8, .inl tra_a)), (trc, .inl (cy, 5, .inl trc_a)), (ro, .inr (8, [.ref rok, .ref rov, .ref roh, .ref rot, .int ro_size])), (rok, .inl (cy, 8, .inl rok_a))] 0 0 (fun (r : Int32) (u : Int32 × Int32 × Int32 × (Nat → Int32) × (Nat → Int32)) => (r, u) = (fn_X9_leftAtWorst trw_number trw_lane trw_looks tra_a trc_a ro_size rok_a a b d) ∧ ((-1) ≤ u.1.toInt ∧ u.1.toInt ≤ 7)) (fun u => [(tr, .inr (9, [.ref trw, .ref tra, .ref trb, .ref trc, .int tr_least, .int tr_bestLinks, .int tr_changeNumber, .int tr_changeHeight])), (trw, .inr (10, [.int u.1, .int u.2.1, .int u.2.2.1])), (tra, .inl (cy, 8, .inl u.2.2.2.1)), (trc, .inl (cy, 5, .inl u.2.2.2.2)), (ro, .inr (8, [.ref rok, .ref rov, .ref roh, .ref rot, .int ro_size])), (rok, .inl (cy, 8, .inl rok_a))]) := by
  refine wk_mk2Ci (by decide) (Nat.le_of_ble_eq_true rfl) ?_
  intro p e s m args below meth c A ls Q B hA hK hP hD hS hl hret
  obtain ⟨hx, hb, hr, hlocks, hml, hown, htb, hin⟩ := B
  have hl : lv_has ls 7 [(0, .ref tr), (1, .ref ro), (2, .int a), (3, .int b), (4, .int d)] := hl
  have hF : (fn_X9_leftAtWorst trw_number trw_lane trw_looks tra_a trc_a ro_size rok_a a b d) = (fn_X9_leftAtWorst trw_number trw_lane trw_looks tra_a trc_a ro_size rok_a a b d) := rfl
  conv at hF => rhs; unfold fn_X9_leftAtWorst
  refine lv_iconst (v := 0) hx hb dX9_leftAtWorst_0 (by decide) ?_
  refine lv_istore (lv' := [(5, .int 0), (0, .ref tr), (1, .ref ro), (2, .int a), (3, .int b), (4, .int d)]) hx hb dX9_leftAtWorst_1 hl (by decide) rfl (fun ls hl => ?_)
  refine lv_iconst (v := 1) hx hb dX9_leftAtWorst_3 (by decide) ?_
  refine lv_istore (lv' := [(6, .int 1), (5, .int 0), (0, .ref tr), (1, .ref ro), (2, .int a), (3, .int b), (4, .int d)]) hx hb dX9_leftAtWorst_4 hl (by decide) rfl (fun ls hl => ?_)
  have hlp_6 : ∀ (fu_6 : Nat) (x6_6 : Int32) (trw_number_6 : Int32) (trw_lane_6 : Int32) (trw_looks_6 : Int32) (tra_a_6 : Nat → Int32) (trc_a_6 : Nat → Int32) (H : Heap) (locs : List Loc) (ls : Array Slot), (1 ≤ x6_6.toInt ∧ x6_6.toInt ≤ 5) → ((-1) ≤ trw_number_6.toInt ∧ trw_number_6.toInt ≤ 7) → 5 - x6_6.toInt < (fu_6 : Int) → ((fn_X9_leftAtWorst trw_number trw_lane trw_looks tra_a trc_a ro_size rok_a a b d) = (pm2 (lp_X9_leftAtWorst_6 trw_number trw_lane trw_looks tra_a trc_a ro_size rok_a a b d fu_6 x6_6 trw_number_6 trw_lane_6 trw_looks_6 tra_a_6 trc_a_6) (fun x6_6 t_ => (pm2 (t_) (fun trw_number_6 t_ => (pm2 (t_) (fun trw_lane_6 t_ => (pm2 (t_) (fun trw_looks_6 t_ => (pm2 (t_) (fun tra_a_6 trc_a_6 => (pm2 (lp_X9_leftAtWorst_58 trw_number trw_lane trw_looks tra_a trc_a ro_size rok_a a b d x6_6 trw_number_6 trw_lane_6 trw_looks_6 tra_a_6 trc_a_6 6 0 1) (fun x5_58 x6_58 => (x5_58, trw_number_6, trw_lane_6, trw_looks_6, tra_a_6, trc_a_6)))))))))))))) → va_P D classes [(tr, .inr (9, [.ref trw, .ref tra, .ref trb, .ref trc, .int tr_least, .int tr_bestLinks, .int tr_changeNumber, .int tr_changeHeight])), (trw, .inr (10, [.int trw_number_6, .int trw_lane_6, .int trw_looks_6])), (tra, .inl (cy, 8, .inl tra_a_6)), (trc, .inl (cy, 5, .inl trc_a_6)), (ro, .inr (8, [.ref rok, .ref rov, .ref roh, .ref rot, .int ro_size])), (rok, .inl (cy, 8, .inl rok_a))] H → va_D A [(tr, .inr (9, [.ref trw, .ref tra, .ref trb, .ref trc, .int tr_least, .int tr_bestLinks, .int tr_changeNumber, .int tr_changeHeight])), (trw, .inr (10, [.int trw_number_6, .int trw_lane_6, .int trw_looks_6])), (tra, .inl (cy, 8, .inl tra_a_6)), (trc, .inl (cy, 5, .inl trc_a_6)), (ro, .inr (8, [.ref rok, .ref rov, .ref roh, .ref rot, .int ro_size])), (rok, .inl (cy, 8, .inl rok_a))] → va_S A s.heap H locs → lv_has ls 7 [(6, .int x6_6), (5, .int 0), (0, .ref tr), (1, .ref ro), (2, .int a), (3, .int b), (4, .int d)] → W p l e { frames := 3, cells := 0, slots := 0, locals := 65 } s m args below meth c H locs 0 0 Q (F0 m 6 ls []) := by
    intro fu_6
    induction fu_6 with
    | zero =>
      intro x6_6 trw_number_6 trw_lane_6 trw_looks_6 tra_a_6 trc_a_6 H locs ls hi_6_0 hi_6_1 hm hF hP hD hS hl
      exfalso; omega
    | succ fu_6 ih_6 =>
      intro x6_6 trw_number_6 trw_lane_6 trw_looks_6 tra_a_6 trc_a_6 H locs ls hi_6_0 hi_6_1 hm hF hP hD hS hl
      rw [lp_X9_leftAtWorst_6] at hF
      refine lv_iload hx hb dX9_leftAtWorst_6 (lv_at hl 0 rfl) ?_
      refine lv_iconst (v := 4) hx hb dX9_leftAtWorst_8 (by decide) ?_
      refine lv_icmp_gt (tgt := 55) hx hb dX9_leftAtWorst_9 (by decide) (fun c_1 => ?_) (fun c_1 => ?_)
      · have k_1 : 4 < x6_6.toInt := wk_lt c_1
        replace hF := hF.trans (pm2_p1 c_1)
        rw [pm2_mk x6_6 (trw_number_6, trw_lane_6, trw_looks_6, tra_a_6, trc_a_6), pm2_mk trw_number_6 (trw_lane_6, trw_looks_6, tra_a_6, trc_a_6), pm2_mk trw_lane_6 (trw_looks_6, tra_a_6, trc_a_6), pm2_mk trw_looks_6 (tra_a_6, trc_a_6), pm2_mk tra_a_6 trc_a_6] at hF
        refine lv_iconst (v := 1) hx hb dX9_leftAtWorst_55 (by decide) ?_
        refine lv_istore (lv' := [(6, .int 1), (5, .int 0), (0, .ref tr), (1, .ref ro), (2, .int a), (3, .int b), (4, .int d)]) hx hb dX9_leftAtWorst_56 hl (by decide) rfl (fun ls hl => ?_)
        have hlp_58 : ∀ (fu_58 : Nat) (x5_58 : Int32) (x6_58 : Int32) (H : Heap) (locs : List Loc) (ls : Array Slot), (1 ≤ x6_58.toInt ∧ x6_58.toInt ≤ 5) → 5 - x6_58.toInt < (fu_58 : Int) → ((fn_X9_leftAtWorst trw_number trw_lane trw_looks tra_a trc_a ro_size rok_a a b d) = (pm2 (lp_X9_leftAtWorst_58 trw_number trw_lane trw_looks tra_a trc_a ro_size rok_a a b d x6_6 trw_number_6 trw_lane_6 trw_looks_6 tra_a_6 trc_a_6 fu_58 x5_58 x6_58) (fun x5_58 x6_58 => (x5_58, trw_number_6, trw_lane_6, trw_looks_6, tra_a_6, trc_a_6)))) → va_P D classes [(tr, .inr (9, [.ref trw, .ref tra, .ref trb, .ref trc, .int tr_least, .int tr_bestLinks, .int tr_changeNumber, .int tr_changeHeight])), (trw, .inr (10, [.int trw_number_6, .int trw_lane_6, .int trw_looks_6])), (tra, .inl (cy, 8, .inl tra_a_6)), (trc, .inl (cy, 5, .inl trc_a_6)), (ro, .inr (8, [.ref rok, .ref rov, .ref roh, .ref rot, .int ro_size])), (rok, .inl (cy, 8, .inl rok_a))] H → va_D A [(tr, .inr (9, [.ref trw, .ref tra, .ref trb, .ref trc, .int tr_least, .int tr_bestLinks, .int tr_changeNumber, .int tr_changeHeight])), (trw, .inr (10, [.int trw_number_6, .int trw_lane_6, .int trw_looks_6])), (tra, .inl (cy, 8, .inl tra_a_6)), (trc, .inl (cy, 5, .inl trc_a_6)), (ro, .inr (8, [.ref rok, .ref rov, .ref roh, .ref rot, .int ro_size])), (rok, .inl (cy, 8, .inl rok_a))] → va_S A s.heap H locs → lv_has ls 7 [(6, .int x6_58), (5, .int x5_58), (0, .ref tr), (1, .ref ro), (2, .int a), (3, .int b), (4, .int d)] → W p l e { frames := 3, cells := 0, slots := 0, locals := 65 } s m args below meth c H locs 0 0 Q (F0 m 58 ls []) := by
          intro fu_58
          induction fu_58 with
          | zero =>
            intro x5_58 x6_58 H locs ls hi_58_0 hm hF hP hD hS hl
            exfalso; omega
          | succ fu_58 ih_58 =>
            intro x5_58 x6_58 H locs ls hi_58_0 hm hF hP hD hS hl
            rw [lp_X9_leftAtWorst_58] at hF
            refine lv_iload hx hb dX9_leftAtWorst_58 (lv_at hl 0 rfl) ?_
            refine lv_iconst (v := 4) hx hb dX9_leftAtWorst_60 (by decide) ?_
            refine lv_icmp_gt (tgt := 89) hx hb dX9_leftAtWorst_61 (by decide) (fun c_2 => ?_) (fun c_2 => ?_)
            · have k_2 : 4 < x6_58.toInt := wk_lt c_2
              replace hF := hF.trans (pm2_p1 c_2)
              rw [pm2_mk x5_58 x6_58] at hF
              refine lv_iload hx hb dX9_leftAtWorst_89 (lv_at hl 1 rfl) ?_
              refine W.widen (k := 0) (n := 0) (by decide) (by decide) ?_
              exact hret x5_58 (trw_number_6, trw_lane_6, trw_looks_6, tra_a_6, trc_a_6) _ _ _ 91 (wk_sub9 (is := [0, 1, 2, 3, 4, 5]) hP rfl) (hD.sub [0, 1, 2, 3, 4, 5] rfl rfl) hS dX9_leftAtWorst_91 ⟨hF.symm, (show ((-1) ≤ trw_number_6.toInt ∧ trw_number_6.toInt ≤ 7) from by omega)⟩
            · have k_2 : ¬ 4 < x6_58.toInt := wk_nlt c_2
              replace hF := hF.trans (pm2_n1 c_2)
              refine lv_iload hx hb dX9_leftAtWorst_64 (lv_at hl 1 rfl) ?_
              refine lv_aload_n hx hb dX9_leftAtWorst_66 rfl (lv_at hl 2 rfl) ?_
              refine lv_iload_n hx hb dX9_leftAtWorst_67 rfl (lv_at hl 5 rfl) ?_
              refine lv_aload_n hx hb dX9_leftAtWorst_68 rfl (lv_at hl 2 rfl) ?_
              refine va_get (D := D) (ci := 9) (v := .ref trc) (C := RX9) (T := TX9) (N := 8) hx hb htb inX9 hown hK hP 0 rfl rfl 3 (by decide) (htb _ tw_226) (fun _ h9 => h9) rfl dX9_leftAtWorst_69 ?_
              refine lv_iload hx hb dX9_leftAtWorst_72 (lv_at hl 0 rfl) ?_
              refine va_iald hx hb hK hP 3 0 rfl rfl (show vp_in x6_58 5 from vp_in_iff.mpr (show 0 ≤ x6_58.toInt ∧ x6_58.toInt < ((5 : Nat) : Int) from by omega)) dX9_leftAtWorst_74 ?_
              refine wk_iV (As := [.int b, .int (trc_a_6 x6_58.toNatClampNeg)]) (rest := [.int x5_58]) (wc := [(tr, .inr (9, [.ref trw, .ref tra, .ref trb, .ref trc, .int tr_least, .int tr_bestLinks, .int tr_changeNumber, .int tr_changeHeight])), (trc, .inl (cy, 5, .inl trc_a_6))]) (wr := [(trw, .inr (10, [.int trw_number_6, .int trw_lane_6, .int trw_looks_6])), (tra, .inl (cy, 8, .inl tra_a_6)), (ro, .inr (8, [.ref rok, .ref rov, .ref roh, .ref rot, .int ro_size])), (rok, .inl (cy, 8, .inl rok_a))]) (n := 2) ⟨hx, hb, hml, hown, htb⟩ (c_X9_alike l D cy tr trw tra trb trc tr_least tr_bestLinks tr_changeNumber tr_changeHeight trc_a_6 b (trc_a_6 x6_58.toNatClampNeg) ) tw_529 tw_526 tw_528 tw_12 tw_70 rfl rfl (by decide +kernel) ⟨Nat.le_of_ble_eq_true rfl, Nat.le_of_ble_eq_true rfl⟩ hK hP hD hS hA [0, 3] [1, 2, 4, 5] rfl rfl rfl rfl (by decide) 0 (ci := 9) rfl rfl rfl hl.1 rfl (Nat.le_of_ble_eq_true rfl) dX9_leftAtWorst_75 ⟨Nat.le_of_ble_eq_true rfl, Nat.le_of_ble_eq_true rfl⟩ (fun r_3 u_4 H locs hw_5 hP hD hS => ?_)
              refine W.widen (k := 0) (n := 0) (by decide) (by decide) ?_
              have hw_5 : r_3 = (fn_X9_alike trc_a_6 b (trc_a_6 x6_58.toNatClampNeg)) := hw_5
              subst hw_5
              have hP : va_P D classes [(trw, .inr (10, [.int trw_number_6, .int trw_lane_6, .int trw_looks_6])), (tra, .inl (cy, 8, .inl tra_a_6)), (ro, .inr (8, [.ref rok, .ref rov, .ref roh, .ref rot, .int ro_size])), (rok, .inl (cy, 8, .inl rok_a)), (tr, .inr (9, [.ref trw, .ref tra, .ref trb, .ref trc, .int tr_least, .int tr_bestLinks, .int tr_changeNumber, .int tr_changeHeight])), (trc, .inl (cy, 5, .inl trc_a_6))] H := hP
              have hD : va_D A [(trw, .inr (10, [.int trw_number_6, .int trw_lane_6, .int trw_looks_6])), (tra, .inl (cy, 8, .inl tra_a_6)), (ro, .inr (8, [.ref rok, .ref rov, .ref roh, .ref rot, .int ro_size])), (rok, .inl (cy, 8, .inl rok_a)), (tr, .inr (9, [.ref trw, .ref tra, .ref trb, .ref trc, .int tr_least, .int tr_bestLinks, .int tr_changeNumber, .int tr_changeHeight])), (trc, .inl (cy, 5, .inl trc_a_6))] := hD
              refine va_mmax hx hb (hml.trans hl.1.symm) hown (htb _ tw_530) (htb _ tw_495) (htb _ tw_77) (htb _ tw_496) (Nat.le_of_ble_eq_true rfl) (Nat.le_of_ble_eq_true rfl) (Nat.le_of_ble_eq_true rfl) (Nat.le_of_ble_eq_true rfl) dX9_leftAtWorst_78 ?_
              refine lv_istore (lv' := [(5, .int (if x5_58 < (fn_X9_alike trc_a_6 b (trc_a_6 x6_58.toNatClampNeg)) then (fn_X9_alike trc_a_6 b (trc_a_6 x6_58.toNatClampNeg)) else x5_58)), (6, .int x6_58), (0, .ref tr), (1, .ref ro), (2, .int a), (3, .int b), (4, .int d)]) hx hb dX9_leftAtWorst_81 hl (by decide) rfl (fun ls hl => ?_)
              refine lv_iinc (v := (x6_58 + 1)) (lv' := [(6, .int (x6_58 + 1)), (5, .int (if x5_58 < (fn_X9_alike trc_a_6 b (trc_a_6 x6_58.toNatClampNeg)) then (fn_X9_alike trc_a_6 b (trc_a_6 x6_58.toNatClampNeg)) else x5_58)), (0, .ref tr), (1, .ref ro), (2, .int a), (3, .int b), (4, .int d)]) hx hb dX9_leftAtWorst_83 hl (k := 1) rfl rfl (by decide) rfl (fun ls hl => ?_)
              have k_6 : (x6_58 + 1).toInt = x6_58.toInt + 1 := wk_add x6_58.toInt 1 rfl rfl (by omega) (by omega)
              refine lv_goto (tgt := 58) hx hb dX9_leftAtWorst_86 (by decide) ?_
              exact ih_58 (if x5_58 < (fn_X9_alike trc_a_6 b (trc_a_6 x6_58.toNatClampNeg)) then (fn_X9_alike trc_a_6 b (trc_a_6 x6_58.toNatClampNeg)) else x5_58) (x6_58 + 1) _ _ _ (show 1 ≤ (x6_58 + 1).toInt ∧ (x6_58 + 1).toInt ≤ 5 from by omega) (show 5 - (x6_58 + 1).toInt < ((fu_58 : Nat) : Int) from by omega) hF (wk_sub9 (is := [4, 0, 1, 5, 2, 3]) hP rfl) (hD.sub [4, 0, 1, 5, 2, 3] rfl rfl) hS (lv_sub hl [0, 1, 2, 3, 4, 5, 6] rfl)
        exact hlp_58 6 0 1 _ _ _ (show 1 ≤ 1 ∧ 1 ≤ 5 from by omega) (show 5 - 1 < ((6 : Nat) : Int) from by omega) hF hP hD hS (lv_sub hl [0, 1, 2, 3, 4, 5, 6] rfl)
      · have k_1 : ¬ 4 < x6_6.toInt := wk_nlt c_1
        replace hF := hF.trans (pm2_n1 c_1)
        refine lv_aload_n hx hb dX9_leftAtWorst_12 rfl (lv_at hl 2 rfl) ?_
        refine va_get (D := D) (ci := 9) (v := .ref tra) (C := RX9) (T := TX9) (N := 8) hx hb htb inX9 hown hK hP 0 rfl rfl 1 (by decide) (htb _ tw_224) (fun _ h9 => h9) rfl dX9_leftAtWorst_13 ?_
        refine lv_iload_n hx hb dX9_leftAtWorst_16 rfl (lv_at hl 4 rfl) ?_
        refine lv_iload hx hb dX9_leftAtWorst_17 (lv_at hl 0 rfl) ?_
        refine va_iast hx hb hK hP hD hS 2 0 rfl rfl (show vp_in a 8 from vp_in_iff.mpr (show 0 ≤ a.toInt ∧ a.toInt < ((8 : Nat) : Int) from by omega)) dX9_leftAtWorst_19 (fun H locs hP hD hS => ?_)
        have hP : va_P D classes [(tr, .inr (9, [.ref trw, .ref tra, .ref trb, .ref trc, .int tr_least, .int tr_bestLinks, .int tr_changeNumber, .int tr_changeHeight])), (trw, .inr (10, [.int trw_number_6, .int trw_lane_6, .int trw_looks_6])), (tra, .inl (cy, 8, .inl (upd tra_a_6 a.toNatClampNeg x6_6))), (trc, .inl (cy, 5, .inl trc_a_6)), (ro, .inr (8, [.ref rok, .ref rov, .ref roh, .ref rot, .int ro_size])), (rok, .inl (cy, 8, .inl rok_a))] H := hP
        have hD : va_D A [(tr, .inr (9, [.ref trw, .ref tra, .ref trb, .ref trc, .int tr_least, .int tr_bestLinks, .int tr_changeNumber, .int tr_changeHeight])), (trw, .inr (10, [.int trw_number_6, .int trw_lane_6, .int trw_looks_6])), (tra, .inl (cy, 8, .inl (upd tra_a_6 a.toNatClampNeg x6_6))), (trc, .inl (cy, 5, .inl trc_a_6)), (ro, .inr (8, [.ref rok, .ref rov, .ref roh, .ref rot, .int ro_size])), (rok, .inl (cy, 8, .inl rok_a))] := hD
        refine lv_aload_n hx hb dX9_leftAtWorst_20 rfl (lv_at hl 2 rfl) ?_
        refine va_get (D := D) (ci := 9) (v := .ref trw) (C := RX9) (T := TX9) (N := 8) hx hb htb inX9 hown hK hP 0 rfl rfl 0 (by decide) (htb _ tw_223) (fun _ h9 => h9) rfl dX9_leftAtWorst_21 ?_
        refine lv_aload_n hx hb dX9_leftAtWorst_24 rfl (lv_at hl 3 rfl) ?_
        refine lv_aload_n hx hb dX9_leftAtWorst_25 rfl (lv_at hl 2 rfl) ?_
        refine va_get (D := D) (ci := 9) (v := .ref tra) (C := RX9) (T := TX9) (N := 8) hx hb htb inX9 hown hK hP 0 rfl rfl 1 (by decide) (htb _ tw_224) (fun _ h9 => h9) rfl dX9_leftAtWorst_26 ?_
        refine lv_iconst (v := (-1)) hx hb dX9_leftAtWorst_29 (by decide) ?_
        refine lv_iload hx hb dX9_leftAtWorst_30 (lv_at hl 6 rfl) ?_
        refine wk_vV (As := [.ref ro, .ref tra, .int (-1), .int d]) (rest := []) (wc := [(trw, .inr (10, [.int trw_number_6, .int trw_lane_6, .int trw_looks_6])), (ro, .inr (8, [.ref rok, .ref rov, .ref roh, .ref rot, .int ro_size])), (rok, .inl (cy, 8, .inl rok_a)), (tra, .inl (cy, 8, .inl (upd tra_a_6 a.toNatClampNeg x6_6)))]) (wr := [(tr, .inr (9, [.ref trw, .ref tra, .ref trb, .ref trc, .int tr_least, .int tr_bestLinks, .int tr_changeNumber, .int tr_changeHeight])), (trc, .inl (cy, 5, .inl trc_a_6))]) (n := 4) ⟨hx, hb, hml, hown, htb⟩ (c_X10_go l D cy trw ro rok rov roh rot tra trw_number_6 trw_lane_6 trw_looks_6 ro_size rok_a (upd tra_a_6 a.toNatClampNeg x6_6) (-1) d (show (-1) ≤ trw_number_6.toInt ∧ trw_number_6.toInt ≤ 7 from by omega) (show 0 ≤ ro_size.toInt ∧ ro_size.toInt ≤ 8 from by omega)) tw_489 tw_516 tw_487 tw_488 tw_69 rfl rfl (by decide +kernel) ⟨Nat.le_of_ble_eq_true rfl, Nat.le_of_ble_eq_true rfl⟩ hK hP hD hS hA [1, 4, 5, 2] [0, 3] rfl rfl rfl rfl (by decide) 0 (ci := 10) rfl rfl rfl hl.1 rfl (Nat.le_of_ble_eq_true rfl) dX9_leftAtWorst_32 ⟨Nat.le_of_ble_eq_true rfl, Nat.le_of_ble_eq_true rfl⟩ (fun u_8 H locs hw_9 hP hD hS => ?_)
        refine W.widen (k := 0) (n := 0) (by decide) (by decide) ?_
        obtain ⟨o_10, o_11, o_12⟩ := u_8
        obtain ⟨hw_9, k_13⟩ := hw_9
        have hw_9 : (o_10, o_11, o_12) = (fn_X10_go trw_number_6 trw_lane_6 trw_looks_6 ro_size rok_a (upd tra_a_6 a.toNatClampNeg x6_6) (-1) d) := hw_9
        have k_13 : ((-1) ≤ o_10.toInt ∧ o_10.toInt ≤ 7) := k_13
        rw [← hw_9] at hF
        rw [pm2_mk o_10 (o_11, o_12), pm2_mk o_11 o_12] at hF
        have hP : va_P D classes [(tr, .inr (9, [.ref trw, .ref tra, .ref trb, .ref trc, .int tr_least, .int tr_bestLinks, .int tr_changeNumber, .int tr_changeHeight])), (trc, .inl (cy, 5, .inl trc_a_6)), (trw, .inr (10, [.int o_10, .int o_11, .int o_12])), (ro, .inr (8, [.ref rok, .ref rov, .ref roh, .ref rot, .int ro_size])), (rok, .inl (cy, 8, .inl rok_a)), (tra, .inl (cy, 8, .inl (upd tra_a_6 a.toNatClampNeg x6_6)))] H := hP
        have hD : va_D A [(tr, .inr (9, [.ref trw, .ref tra, .ref trb, .ref trc, .int tr_least, .int tr_bestLinks, .int tr_changeNumber, .int tr_changeHeight])), (trc, .inl (cy, 5, .inl trc_a_6)), (trw, .inr (10, [.int o_10, .int o_11, .int o_12])), (ro, .inr (8, [.ref rok, .ref rov, .ref roh, .ref rot, .int ro_size])), (rok, .inl (cy, 8, .inl rok_a)), (tra, .inl (cy, 8, .inl (upd tra_a_6 a.toNatClampNeg x6_6)))] := hD
        refine lv_aload_n hx hb dX9_leftAtWorst_35 rfl (lv_at hl 2 rfl) ?_
        refine va_get (D := D) (ci := 9) (v := .ref trc) (C := RX9) (T := TX9) (N := 8) hx hb htb inX9 hown hK hP 0 rfl rfl 3 (by decide) (htb _ tw_226) (fun _ h9 => h9) rfl dX9_leftAtWorst_36 ?_
        refine lv_iload hx hb dX9_leftAtWorst_39 (lv_at hl 0 rfl) ?_
        refine lv_aload_n hx hb dX9_leftAtWorst_41 rfl (lv_at hl 2 rfl) ?_
        refine va_get (D := D) (ci := 9) (v := .ref trw) (C := RX9) (T := TX9) (N := 8) hx hb htb inX9 hown hK hP 0 rfl rfl 0 (by decide) (htb _ tw_223) (fun _ h9 => h9) rfl dX9_leftAtWorst_42 ?_
        refine va_get (D := D) (ci := 10) (v := .int o_12) (C := RX10) (T := TX10) (N := 3) hx hb htb inX10 hown hK hP 2 rfl rfl 2 (by decide) (htb _ tw_205) (fun _ h9 => h9) rfl dX9_leftAtWorst_45 ?_
        refine va_iast hx hb hK hP hD hS 1 0 rfl rfl (show vp_in x6_6 5 from vp_in_iff.mpr (show 0 ≤ x6_6.toInt ∧ x6_6.toInt < ((5 : Nat) : Int) from by omega)) dX9_leftAtWorst_48 (fun H locs hP hD hS => ?_)
        have hP : va_P D classes [(tr, .inr (9, [.ref trw, .ref tra, .ref trb, .ref trc, .int tr_least, .int tr_bestLinks, .int tr_changeNumber, .int tr_changeHeight])), (trc, .inl (cy, 5, .inl (upd trc_a_6 x6_6.toNatClampNeg o_12))), (trw, .inr (10, [.int o_10, .int o_11, .int o_12])), (ro, .inr (8, [.ref rok, .ref rov, .ref roh, .ref rot, .int ro_size])), (rok, .inl (cy, 8, .inl rok_a)), (tra, .inl (cy, 8, .inl (upd tra_a_6 a.toNatClampNeg x6_6)))] H := hP
        have hD : va_D A [(tr, .inr (9, [.ref trw, .ref tra, .ref trb, .ref trc, .int tr_least, .int tr_bestLinks, .int tr_changeNumber, .int tr_changeHeight])), (trc, .inl (cy, 5, .inl (upd trc_a_6 x6_6.toNatClampNeg o_12))), (trw, .inr (10, [.int o_10, .int o_11, .int o_12])), (ro, .inr (8, [.ref rok, .ref rov, .ref roh, .ref rot, .int ro_size])), (rok, .inl (cy, 8, .inl rok_a)), (tra, .inl (cy, 8, .inl (upd tra_a_6 a.toNatClampNeg x6_6)))] := hD
        refine lv_iinc (v := (x6_6 + 1)) (lv' := [(6, .int (x6_6 + 1)), (5, .int 0), (0, .ref tr), (1, .ref ro), (2, .int a), (3, .int b), (4, .int d)]) hx hb dX9_leftAtWorst_49 hl (k := 0) rfl rfl (by decide) rfl (fun ls hl => ?_)
        have k_14 : (x6_6 + 1).toInt = x6_6.toInt + 1 := wk_add x6_6.toInt 1 rfl rfl (by omega) (by omega)
        refine lv_goto (tgt := 6) hx hb dX9_leftAtWorst_52 (by decide) ?_
        exact ih_6 (x6_6 + 1) o_10 o_11 o_12 (upd tra_a_6 a.toNatClampNeg x6_6) (upd trc_a_6 x6_6.toNatClampNeg o_12) _ _ _ (show 1 ≤ (x6_6 + 1).toInt ∧ (x6_6 + 1).toInt ≤ 5 from by omega) (show (-1) ≤ o_10.toInt ∧ o_10.toInt ≤ 7 from by omega) (show 5 - (x6_6 + 1).toInt < ((fu_6 : Nat) : Int) from by omega) hF (wk_sub9 (is := [0, 2, 5, 1, 3, 4]) hP rfl) (hD.sub [0, 2, 5, 1, 3, 4] rfl rfl) hS (lv_sub hl [0, 1, 2, 3, 4, 5, 6] rfl)
  exact hlp_6 6 1 trw_number trw_lane trw_looks tra_a trc_a _ _ _ (show 1 ≤ 1 ∧ 1 ≤ 5 from by omega) (show (-1) ≤ trw_number.toInt ∧ trw_number.toInt ≤ 7 from by omega) (show 5 - 1 < ((6 : Nat) : Int) from by omega) hF hP hD hS (lv_sub hl [0, 1, 2, 3, 4, 5, 6] rfl)
