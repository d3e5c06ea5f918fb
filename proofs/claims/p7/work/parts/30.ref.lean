theorem dX12_in_0 : decode cX12_in 0 = .ok (.lload_n 0, 1) := by decide +kernel
theorem dX12_in_1 : decode cX12_in 1 = .ok (.lload_n 2, 1) := by decide +kernel
theorem dX12_in_2 : decode cX12_in 2 = .ok (.lcmp, 1) := by decide +kernel
theorem dX12_in_3 : decode cX12_in 3 = .ok (.ifCond .lt 14, 3) := by decide +kernel
theorem dX12_in_6 : decode cX12_in 6 = .ok (.lload_n 0, 1) := by decide +kernel
theorem dX12_in_7 : decode cX12_in 7 = .ok (.lload 4, 2) := by decide +kernel
theorem dX12_in_9 : decode cX12_in 9 = .ok (.lcmp, 1) := by decide +kernel
theorem dX12_in_10 : decode cX12_in 10 = .ok (.ifCond .gt 7, 3) := by decide +kernel
theorem dX12_in_13 : decode cX12_in 13 = .ok (.iconst 1, 1) := by decide +kernel
theorem dX12_in_14 : decode cX12_in 14 = .ok (.goto 4, 3) := by decide +kernel
theorem dX12_in_17 : decode cX12_in 17 = .ok (.iconst 0, 1) := by decide +kernel
theorem dX12_in_18 : decode cX12_in 18 = .ok (.ireturn, 1) := by decide +kernel
set_option maxHeartbeats 4000000 in
set_option maxRecDepth 100000 in
theorem c_X12_in (l : Launch) (D : va_G) (cy : ClassId)  (v : Int64) (lo : Int64) (hi : Int64)  : wk_Ci l yX12_in cX12_in 6 (some .boolean) { frames := 0, cells := 0, slots := 0, locals := 0 } D cy [.long v, .long lo, .long hi] [] 0 0 (fun (r : Int32) (u : Unit) => r = (wk_in v lo hi) ∧ (r = 0 ∨ r = 1)) (fun u => []) := by
  refine wk_mk2Cz (by decide) (Nat.le_of_ble_eq_true rfl) ?_
  intro p e s m args below meth c A ls Q B hA hK hP hD hS hl hret
  obtain ⟨hx, hb, hr, hlocks, hml, hown, htb, hin⟩ := B
  have hl : lv_has ls 6 [(0, .long v), (2, .long lo), (4, .long hi)] := hl
  refine lv_lload_n hx hb dX12_in_0 rfl (lv_at hl 0 rfl) ?_
  refine lv_lload_n hx hb dX12_in_1 rfl (lv_at hl 1 rfl) ?_
  refine W.lcmp hx hb dX12_in_2 ?_
  refine lv_if_lt (tgt := 17) hx hb dX12_in_3 (by decide) (fun c_1 => ?_) (fun c_1 => ?_)
  · have k_1 : v.toInt < lo.toInt := Int64.lt_iff_toInt_lt.mp ((lg_cmp_lt v lo).mp c_1)
    refine lv_iconst (v := 0) hx hb dX12_in_17 (by decide) ?_
    exact hret 0 () _ _ _ 18 rfl hP hD hS dX12_in_18 ⟨(if_neg (by omega)).symm, Or.inl rfl⟩
  · have k_1 : ¬ v.toInt < lo.toInt := fun h9 => c_1 ((lg_cmp_lt v lo).mpr (Int64.lt_iff_toInt_lt.mpr h9))
    refine lv_lload_n hx hb dX12_in_6 rfl (lv_at hl 0 rfl) ?_
    refine lv_lload hx hb dX12_in_7 (lv_at hl 2 rfl) ?_
    refine W.lcmp hx hb dX12_in_9 ?_
    refine lv_if_gt (tgt := 17) hx hb dX12_in_10 (by decide) (fun c_2 => ?_) (fun c_2 => ?_)
    · have k_2 : hi.toInt < v.toInt := Int64.lt_iff_toInt_lt.mp ((lg_cmp_gt v hi).mp c_2)
      refine lv_iconst (v := 0) hx hb dX12_in_17 (by decide) ?_
      exact hret 0 () _ _ _ 18 rfl hP hD hS dX12_in_18 ⟨(if_neg (by omega)).symm, Or.inl rfl⟩
    · have k_2 : ¬ hi.toInt < v.toInt := fun h9 => c_2 ((lg_cmp_gt v hi).mpr (Int64.lt_iff_toInt_lt.mpr h9))
      refine lv_iconst (v := 1) hx hb dX12_in_13 (by decide) ?_
      refine lv_goto (tgt := 18) hx hb dX12_in_14 (by decide) ?_
      exact hret 1 () _ _ _ 18 rfl hP hD hS dX12_in_18 ⟨(if_pos (by omega)).symm, Or.inr rfl⟩
def lp_X12_copy_2 (af_a : Nat → Int32) (au_a : Nat → Int32) : Nat → Int32 → (Nat → Int32) → Int32 × (Nat → Int32)
  | 0, _, _ => default
  | fu_2 + 1, x2_2, au_a_2 => (if (8 : Int32) ≤ x2_2 then (x2_2, au_a_2) else (lp_X12_copy_2 af_a au_a fu_2 (x2_2 + 1) (upd au_a_2 x2_2.toNatClampNeg (af_a x2_2.toNatClampNeg))))
termination_by n => n
def fn_X12_copy (af_a : Nat → Int32) (au_a : Nat → Int32) : (Nat → Int32) := (pm2 (lp_X12_copy_2 af_a au_a 10 0 au_a) (fun x2_2 au_a_2 => au_a_2))
theorem dX12_copy_0 : decode cX12_copy 0 = .ok (.iconst 0, 1) := by decide +kernel
theorem dX12_copy_1 : decode cX12_copy 1 = .ok (.istore_n 2, 1) := by decide +kernel
theorem dX12_copy_2 : decode cX12_copy 2 = .ok (.iload_n 2, 1) := by decide +kernel
theorem dX12_copy_3 : decode cX12_copy 3 = .ok (.aload_n 0, 1) := by decide +kernel
theorem dX12_copy_4 : decode cX12_copy 4 = .ok (.arraylength, 1) := by decide +kernel
theorem dX12_copy_5 : decode cX12_copy 5 = .ok (.if_icmp .ge 15, 3) := by decide +kernel
theorem dX12_copy_8 : decode cX12_copy 8 = .ok (.aload_n 1, 1) := by decide +kernel
theorem dX12_copy_9 : decode cX12_copy 9 = .ok (.iload_n 2, 1) := by decide +kernel
theorem dX12_copy_10 : decode cX12_copy 10 = .ok (.aload_n 0, 1) := by decide +kernel
theorem dX12_copy_11 : decode cX12_copy 11 = .ok (.iload_n 2, 1) := by decide +kernel
theorem dX12_copy_12 : decode cX12_copy 12 = .ok (.iaload, 1) := by decide +kernel
theorem dX12_copy_13 : decode cX12_copy 13 = .ok (.iastore, 1) := by decide +kernel
theorem dX12_copy_14 : decode cX12_copy 14 = .ok (.iinc 2 1, 3) := by decide +kernel
theorem dX12_copy_17 : decode cX12_copy 17 = .ok (.goto (-15), 3) := by decide +kernel
theorem dX12_copy_20 : decode cX12_copy 20 = .ok (.return_, 1) := by decide +kernel
set_option maxHeartbeats 4000000 in
set_option maxRecDepth 100000 in
theorem c_X12_copy (l : Launch) (D : va_G) (cy : ClassId) (af au : Nat) (af_a : Nat → Int32) (au_a : Nat → Int32)   : wk_Cv l yX12_copy cX12_copy 3 none { frames := 0, cells := 0, slots := 0, locals := 0 } D cy [.ref af, .ref au] [(af, .inl (cy, 8, .inl af_a)), (au, .inl (cy, 8, .inl au_a))] 0 0 (fun (u : (Nat → Int32)) => u = (fn_X12_copy af_a au_a)) (fun u => [(af, .inl (cy, 8, .inl af_a)), (au, .inl (cy, 8, .inl u))]) := by
  refine wk_mk2Cv (by decide) (Nat.le_of_ble_eq_true rfl) ?_
  intro p e s m args below meth c A ls Q B hA hK hP hD hS hl hret
  obtain ⟨hx, hb, hr, hlocks, hml, hown, htb, hin⟩ := B
  have hl : lv_has ls 3 [(0, .ref af), (1, .ref au)] := hl
  have hF : (fn_X12_copy af_a au_a) = (fn_X12_copy af_a au_a) := rfl
  conv at hF => rhs; unfold fn_X12_copy
  refine lv_iconst (v := 0) hx hb dX12_copy_0 (by decide) ?_
  refine lv_istore_n (lv' := [(2, .int 0), (0, .ref af), (1, .ref au)]) hx hb dX12_copy_1 rfl hl (by decide) rfl (fun ls hl => ?_)
  have hlp_2 : ∀ (fu_2 : Nat) (x2_2 : Int32) (au_a_2 : Nat → Int32) (H : Heap) (locs : List Loc) (ls : Array Slot), (0 ≤ x2_2.toInt ∧ x2_2.toInt ≤ 8) → 8 - x2_2.toInt < (fu_2 : Int) → ((fn_X12_copy af_a au_a) = (pm2 (lp_X12_copy_2 af_a au_a fu_2 x2_2 au_a_2) (fun x2_2 au_a_2 => au_a_2))) → va_P D classes [(af, .inl (cy, 8, .inl af_a)), (au, .inl (cy, 8, .inl au_a_2))] H → va_D A [(af, .inl (cy, 8, .inl af_a)), (au, .inl (cy, 8, .inl au_a_2))] → va_S A s.heap H locs → lv_has ls 3 [(2, .int x2_2), (0, .ref af), (1, .ref au)] → W p l e { frames := 0, cells := 0, slots := 0, locals := 0 } s m args below meth c H locs 0 0 Q (F0 m 2 ls []) := by
    intro fu_2
    induction fu_2 with
    | zero =>
      intro x2_2 au_a_2 H locs ls hi_2_0 hm hF hP hD hS hl
      exfalso; omega
    | succ fu_2 ih_2 =>
      intro x2_2 au_a_2 H locs ls hi_2_0 hm hF hP hD hS hl
      rw [lp_X12_copy_2] at hF
      refine lv_iload_n hx hb dX12_copy_2 rfl (lv_at hl 0 rfl) ?_
      refine lv_aload_n hx hb dX12_copy_3 rfl (lv_at hl 1 rfl) ?_
      refine va_alen (v := 8) hx hb hK hP 0 0 rfl rfl rfl dX12_copy_4 ?_
      refine lv_icmp_ge (tgt := 20) hx hb dX12_copy_5 (by decide) (fun c_1 => ?_) (fun c_1 => ?_)
      · have k_1 : 8 ≤ x2_2.toInt := wk_le c_1
        replace hF := hF.trans (pm2_p1 c_1)
        rw [pm2_mk x2_2 au_a_2] at hF
        refine W.widen (k := 0) (n := 0) (by decide) (by decide) ?_
        exact hret au_a_2 _ _ _ 20 (wk_sub9 (is := [0, 1]) hP rfl) (hD.sub [0, 1] rfl rfl) hS dX12_copy_20 hF.symm
      · have k_1 : ¬ 8 ≤ x2_2.toInt := wk_nle c_1
        replace hF := hF.trans (pm2_n1 c_1)
        refine lv_aload_n hx hb dX12_copy_8 rfl (lv_at hl 2 rfl) ?_
        refine lv_iload_n hx hb dX12_copy_9 rfl (lv_at hl 0 rfl) ?_
        refine lv_aload_n hx hb dX12_copy_10 rfl (lv_at hl 1 rfl) ?_
        refine lv_iload_n hx hb dX12_copy_11 rfl (lv_at hl 0 rfl) ?_
        refine va_iald hx hb hK hP 0 0 rfl rfl (show vp_in x2_2 8 from vp_in_iff.mpr (show 0 ≤ x2_2.toInt ∧ x2_2.toInt < ((8 : Nat) : Int) from by omega)) dX12_copy_12 ?_
        refine va_iast hx hb hK hP hD hS 1 0 rfl rfl (show vp_in x2_2 8 from vp_in_iff.mpr (show 0 ≤ x2_2.toInt ∧ x2_2.toInt < ((8 : Nat) : Int) from by omega)) dX12_copy_13 (fun H locs hP hD hS => ?_)
        have hP : va_P D classes [(af, .inl (cy, 8, .inl af_a)), (au, .inl (cy, 8, .inl (upd au_a_2 x2_2.toNatClampNeg (af_a x2_2.toNatClampNeg))))] H := hP
        have hD : va_D A [(af, .inl (cy, 8, .inl af_a)), (au, .inl (cy, 8, .inl (upd au_a_2 x2_2.toNatClampNeg (af_a x2_2.toNatClampNeg))))] := hD
        refine lv_iinc (v := (x2_2 + 1)) (lv' := [(2, .int (x2_2 + 1)), (0, .ref af), (1, .ref au)]) hx hb dX12_copy_14 hl (k := 0) rfl rfl (by decide) rfl (fun ls hl => ?_)
        have k_2 : (x2_2 + 1).toInt = x2_2.toInt + 1 := wk_add x2_2.toInt 1 rfl rfl (by omega) (by omega)
        refine lv_goto (tgt := 2) hx hb dX12_copy_17 (by decide) ?_
        exact ih_2 (x2_2 + 1) (upd au_a_2 x2_2.toNatClampNeg (af_a x2_2.toNatClampNeg)) _ _ _ (show 0 ≤ (x2_2 + 1).toInt ∧ (x2_2 + 1).toInt ≤ 8 from by omega) (show 8 - (x2_2 + 1).toInt < ((fu_2 : Nat) : Int) from by omega) hF hP hD hS (lv_sub hl [0, 1, 2] rfl)
  exact hlp_2 10 0 au_a _ _ _ (show 0 ≤ 0 ∧ 0 ≤ 8 from by omega) (show 8 - 0 < ((10 : Nat) : Int) from by omega) hF hP hD hS (lv_sub hl [0, 1, 2] rfl)
def lp_X12_copy_w_2 (af_a : Nat → Int32) (au_a : Nat → Int32) : Nat → Int32 → (Nat → Int32) → Int32 × (Nat → Int32)
  | 0, _, _ => default
  | fu_2 + 1, x2_2, au_a_2 => (if (18 : Int32) ≤ x2_2 then (x2_2, au_a_2) else (lp_X12_copy_w_2 af_a au_a fu_2 (x2_2 + 1) (upd au_a_2 x2_2.toNatClampNeg (af_a x2_2.toNatClampNeg))))
termination_by n => n
def fn_X12_copy_w (af_a : Nat → Int32) (au_a : Nat → Int32) : (Nat → Int32) := (pm2 (lp_X12_copy_w_2 af_a au_a 20 0 au_a) (fun x2_2 au_a_2 => au_a_2))
set_option maxHeartbeats 4000000 in
set_option maxRecDepth 100000 in
theorem c_X12_copy_w (l : Launch) (D : va_G) (cy : ClassId) (af au : Nat) (af_a : Nat → Int32) (au_a : Nat → Int32)   : wk_Cv l yX12_copy cX12_copy 3 none { frames := 0, cells := 0, slots := 0, locals := 0 } D cy [.ref af, .ref au] [(af, .inl (cy, 18, .inl af_a)), (au, .inl (cy, 18, .inl au_a))] 0 0 (fun (u : (Nat → Int32)) => u = (fn_X12_copy_w af_a au_a)) (fun u => [(af, .inl (cy, 18, .inl af_a)), (au, .inl (cy, 18, .inl u))]) := by
  refine wk_mk2Cv (by decide) (Nat.le_of_ble_eq_true rfl) ?_
  intro p e s m args below meth c A ls Q B hA hK hP hD hS hl hret
  obtain ⟨hx, hb, hr, hlocks, hml, hown, htb, hin⟩ := B
  have hl : lv_has ls 3 [(0, .ref af), (1, .ref au)] := hl
  have hF : (fn_X12_copy_w af_a au_a) = (fn_X12_copy_w af_a au_a) := rfl
  conv at hF => rhs; unfold fn_X12_copy_w
  refine lv_iconst (v := 0) hx hb dX12_copy_0 (by decide) ?_
  refine lv_istore_n (lv' := [(2, .int 0), (0, .ref af), (1, .ref au)]) hx hb dX12_copy_1 rfl hl (by decide) rfl (fun ls hl => ?_)
  have hlp_2 : ∀ (fu_2 : Nat) (x2_2 : Int32) (au_a_2 : Nat → Int32) (H : Heap) (locs : List Loc) (ls : Array Slot), (0 ≤ x2_2.toInt ∧ x2_2.toInt ≤ 18) → 18 - x2_2.toInt < (fu_2 : Int) → ((fn_X12_copy_w af_a au_a) = (pm2 (lp_X12_copy_w_2 af_a au_a fu_2 x2_2 au_a_2) (fun x2_2 au_a_2 => au_a_2))) → va_P D classes [(af, .inl (cy, 18, .inl af_a)), (au, .inl (cy, 18, .inl au_a_2))] H → va_D A [(af, .inl (cy, 18, .inl af_a)), (au, .inl (cy, 18, .inl au_a_2))] → va_S A s.heap H locs → lv_has ls 3 [(2, .int x2_2), (0, .ref af), (1, .ref au)] → W p l e { frames := 0, cells := 0, slots := 0, locals := 0 } s m args below meth c H locs 0 0 Q (F0 m 2 ls []) := by
    intro fu_2
    induction fu_2 with
    | zero =>
      intro x2_2 au_a_2 H locs ls hi_2_0 hm hF hP hD hS hl
      exfalso; omega
    | succ fu_2 ih_2 =>
      intro x2_2 au_a_2 H locs ls hi_2_0 hm hF hP hD hS hl
      rw [lp_X12_copy_w_2] at hF
      refine lv_iload_n hx hb dX12_copy_2 rfl (lv_at hl 0 rfl) ?_
      refine lv_aload_n hx hb dX12_copy_3 rfl (lv_at hl 1 rfl) ?_
      refine va_alen (v := 18) hx hb hK hP 0 0 rfl rfl rfl dX12_copy_4 ?_
      refine lv_icmp_ge (tgt := 20) hx hb dX12_copy_5 (by decide) (fun c_1 => ?_) (fun c_1 => ?_)
      · have k_1 : 18 ≤ x2_2.toInt := wk_le c_1
        replace hF := hF.trans (pm2_p1 c_1)
        rw [pm2_mk x2_2 au_a_2] at hF
        refine W.widen (k := 0) (n := 0) (by decide) (by decide) ?_
        exact hret au_a_2 _ _ _ 20 (wk_sub9 (is := [0, 1]) hP rfl) (hD.sub [0, 1] rfl rfl) hS dX12_copy_20 hF.symm
      · have k_1 : ¬ 18 ≤ x2_2.toInt := wk_nle c_1
        replace hF := hF.trans (pm2_n1 c_1)
        refine lv_aload_n hx hb dX12_copy_8 rfl (lv_at hl 2 rfl) ?_
        refine lv_iload_n hx hb dX12_copy_9 rfl (lv_at hl 0 rfl) ?_
        refine lv_aload_n hx hb dX12_copy_10 rfl (lv_at hl 1 rfl) ?_
        refine lv_iload_n hx hb dX12_copy_11 rfl (lv_at hl 0 rfl) ?_
        refine va_iald hx hb hK hP 0 0 rfl rfl (show vp_in x2_2 18 from vp_in_iff.mpr (show 0 ≤ x2_2.toInt ∧ x2_2.toInt < ((18 : Nat) : Int) from by omega)) dX12_copy_12 ?_
        refine va_iast hx hb hK hP hD hS 1 0 rfl rfl (show vp_in x2_2 18 from vp_in_iff.mpr (show 0 ≤ x2_2.toInt ∧ x2_2.toInt < ((18 : Nat) : Int) from by omega)) dX12_copy_13 (fun H locs hP hD hS => ?_)
        have hP : va_P D classes [(af, .inl (cy, 18, .inl af_a)), (au, .inl (cy, 18, .inl (upd au_a_2 x2_2.toNatClampNeg (af_a x2_2.toNatClampNeg))))] H := hP
        have hD : va_D A [(af, .inl (cy, 18, .inl af_a)), (au, .inl (cy, 18, .inl (upd au_a_2 x2_2.toNatClampNeg (af_a x2_2.toNatClampNeg))))] := hD
        refine lv_iinc (v := (x2_2 + 1)) (lv' := [(2, .int (x2_2 + 1)), (0, .ref af), (1, .ref au)]) hx hb dX12_copy_14 hl (k := 0) rfl rfl (by decide) rfl (fun ls hl => ?_)
        have k_2 : (x2_2 + 1).toInt = x2_2.toInt + 1 := wk_add x2_2.toInt 1 rfl rfl (by omega) (by omega)
        refine lv_goto (tgt := 2) hx hb dX12_copy_17 (by decide) ?_
        exact ih_2 (x2_2 + 1) (upd au_a_2 x2_2.toNatClampNeg (af_a x2_2.toNatClampNeg)) _ _ _ (show 0 ≤ (x2_2 + 1).toInt ∧ (x2_2 + 1).toInt ≤ 18 from by omega) (show 18 - (x2_2 + 1).toInt < ((fu_2 : Nat) : Int) from by omega) hF hP hD hS (lv_sub hl [0, 1, 2] rfl)
  exact hlp_2 20 0 au_a _ _ _ (show 0 ≤ 0 ∧ 0 ≤ 18 from by omega) (show 18 - 0 < ((20 : Nat) : Int) from by omega) hF hP hD hS (lv_sub hl [0, 1, 2] rfl)
def fn_X12_letter (mo_pageMany : Int32) (mpage_a : Nat → Int32) (a : Int32) : Int32 × Int32 × (Nat → Int32) := (if (wk_in a.toInt64 1 126) = 0 then ((-102), mo_pageMany, mpage_a) else (if mo_pageMany = 44 then ((-104), mo_pageMany, mpage_a) else ((mo_pageMany + 1), (mo_pageMany + 1), (upd mpage_a mo_pageMany.toNatClampNeg a))))
theorem dX12_letter_0 : decode cX12_letter 0 = .ok (.iload_n 1, 1) := by decide +kernel
theorem dX12_letter_1 : decode cX12_letter 1 = .ok (.i2l, 1) := by decide +kernel
theorem dX12_letter_2 : decode cX12_letter 2 = .ok (.lconst 1, 1) := by decide +kernel
theorem dX12_letter_3 : decode cX12_letter 3 = .ok (.ldc2_w 80, 3) := by decide +kernel
theorem dX12_letter_6 : decode cX12_letter 6 = .ok (.invokestatic 82, 3) := by decide +kernel
theorem dX12_letter_9 : decode cX12_letter 9 = .ok (.ifCond .ne 6, 3) := by decide +kernel
theorem dX12_letter_12 : decode cX12_letter 12 = .ok (.bipush (-102), 2) := by decide +kernel
theorem dX12_letter_14 : decode cX12_letter 14 = .ok (.ireturn, 1) := by decide +kernel
theorem dX12_letter_15 : decode cX12_letter 15 = .ok (.aload_n 0, 1) := by decide +kernel
theorem dX12_letter_16 : decode cX12_letter 16 = .ok (.getfield 86, 3) := by decide +kernel
theorem dX12_letter_19 : decode cX12_letter 19 = .ok (.bipush 44, 2) := by decide +kernel
theorem dX12_letter_21 : decode cX12_letter 21 = .ok (.if_icmp .ne 6, 3) := by decide +kernel
theorem dX12_letter_24 : decode cX12_letter 24 = .ok (.bipush (-104), 2) := by decide +kernel
theorem dX12_letter_26 : decode cX12_letter 26 = .ok (.ireturn, 1) := by decide +kernel
theorem dX12_letter_27 : decode cX12_letter 27 = .ok (.aload_n 0, 1) := by decide +kernel
theorem dX12_letter_28 : decode cX12_letter 28 = .ok (.getfield 7, 3) := by decide +kernel
theorem dX12_letter_31 : decode cX12_letter 31 = .ok (.aload_n 0, 1) := by decide +kernel
theorem dX12_letter_32 : decode cX12_letter 32 = .ok (.getfield 86, 3) := by decide +kernel
theorem dX12_letter_35 : decode cX12_letter 35 = .ok (.iload_n 1, 1) := by decide +kernel
theorem dX12_letter_36 : decode cX12_letter 36 = .ok (.iastore, 1) := by decide +kernel
theorem dX12_letter_37 : decode cX12_letter 37 = .ok (.aload_n 0, 1) := by decide +kernel
theorem dX12_letter_38 : decode cX12_letter 38 = .ok (.dup, 1) := by decide +kernel
theorem dX12_letter_39 : decode cX12_letter 39 = .ok (.getfield 86, 3) := by decide +kernel
theorem dX12_letter_42 : decode cX12_letter 42 = .ok (.iconst 1, 1) := by decide +kernel
theorem dX12_letter_43 : decode cX12_letter 43 = .ok (.iadd, 1) := by decide +kernel
theorem dX12_letter_44 : decode cX12_letter 44 = .ok (.putfield 86, 3) := by decide +kernel
theorem dX12_letter_47 : decode cX12_letter 47 = .ok (.aload_n 0, 1) := by decide +kernel
theorem dX12_letter_48 : decode cX12_letter 48 = .ok (.getfield 86, 3) := by decide +kernel
theorem dX12_letter_51 : decode cX12_letter 51 = .ok (.ireturn, 1) := by decide +kernel
set_option maxHeartbeats 4000000 in
set_option maxRecDepth 100000 in
theorem c_X12_letter (l : Launch) (D : va_G) (cy : ClassId) (mo mpage mkeys mvalues mheights mheats msecondKeys msecondValues msecondHeights msecondHeats msaved mbestHeights msights mby mkeptKeys mkeptValues mkeptHeights mkeptHeats mkeptKeys2 mkeptValues2 mkeptHeights2 mkeptHeats2 mkeptSights : Nat) (mo_pageMany : Int32) (mo_law : Int32) (mo_many : Int32) (mo_asked : Int32) (mo_looksAll : Int32) (mo_changes : Int32) (mo_rowsRead : Int32) (mo_secondMany : Int32) (mo_foundAt : Int32) (mo_foundLooks : Int32) (mo_foundLane : Int32) (mo_bestsDone : Int32) (mo_seenMany : Int32) (mo_seedNow : Int32) (mo_keptRow : Int32) (mo_keptMany : Int32) (mo_keptSecond : Int32) (mo_keptAsked : Int32) (mo_keptLooks : Int32) (mo_keptChanges : Int32) (mo_keptSeen : Int32) (mo_hash : Int64) (mpage_a : Nat → Int32) (a : Int32) (g_0 : 0 ≤ mo_pageMany.toInt ∧ mo_pageMany.toInt ≤ 44) (g_1 : 0 ≤ mo_many.toInt ∧ mo_many.toInt ≤ 8) (g_2 : 0 ≤ mo_secondMany.toInt ∧ mo_secondMany.toInt ≤ 8) (g_3 : (-1) ≤ mo_foundAt.toInt ∧ mo_foundAt.toInt ≤ 7) (g_4 : 0 ≤ mo_seenMany.toInt ∧ mo_seenMany.toInt ≤ 6) (g_5 : 0 ≤ mo_keptMany.toInt ∧ mo_keptMany.toInt ≤ 8) (g_6 : 0 ≤ mo_keptSecond.toInt ∧ mo_keptSecond.toInt ≤ 8) (g_7 : 0 ≤ mo_keptSeen.toInt ∧ mo_keptSeen.toInt ≤ 6) : wk_Ci l yX12_letter cX12_letter 2 (some .int) { frames := 1, cells := 0, slots := 0, locals := 25 } D cy [.ref mo, .int a] [(mo, .inr (12, [.ref mpage, .int mo_pageMany, .int mo_law, .int mo_many, .int mo_asked, .int mo_looksAll, .int mo_changes, .int mo_rowsRead, .ref mkeys, .ref mvalues, .ref mheights, .ref mheats, .int mo_secondMany, .ref msecondKeys, .ref msecondValues, .ref msecondHeights, .ref msecondHeats, .int mo_foundAt, .int mo_foundLooks, .int mo_foundLane, .int mo_bestsDone, .ref msaved, .ref mbestHeights, .int mo_seenMany, .ref msights, .ref mby, .int mo_seedNow, .int mo_keptRow, .int mo_keptMany, .int mo_keptSecond, .int mo_keptAsked, .int mo_keptLooks, .int mo_keptChanges, .int mo_keptSeen, .ref mkeptKeys, .ref mkeptValues, .ref mkeptHeights, .ref mkeptHeats, .ref mkeptKeys2, .ref mkeptValues2, .ref mkeptHeights2, .ref mkeptHeats2, .ref mkeptSights, .long mo_hash])), (mpage, .inl (cy, 44, .inl mpage_a))] 0 0 (fun (r : Int32) (u : Int32 × (Nat → Int32)) => (r, u) = (fn_X12_letter mo_pageMany mpage_a a) ∧ (0 ≤ u.1.toInt ∧ u.1.toInt ≤ 44)) (fun u => [(mo, .inr (12, [.ref mpage, .int u.1, .int mo_law, .int mo_many, .int mo_asked, .int mo_looksAll, .int mo_changes, .int mo_rowsRead, .ref mkeys, .ref mvalues, .ref mheights, .ref mheats, .int mo_secondMany, .ref msecondKeys, .ref msecondValues, .ref msecondHeights, .ref msecondHeats, .int mo_foundAt, .int mo_foundLooks, .int mo_foundLane, .int mo_bestsDone, .ref msaved, .ref mbestHeights, .int mo_seenMany, .ref msights, .ref mby, .int mo_seedNow, .int mo_keptRow, .int mo_keptMany, .int mo_keptSecond, .int mo_keptAsked, .int mo_keptLooks, .int mo_keptChanges, .int mo_keptSeen, .ref mkeptKeys, .ref mkeptValues, .ref mkeptHeights, .ref mkeptHeats, .ref mkeptKeys2, .ref mkeptValues2, .ref mkeptHeights2, .ref mkeptHeats2, .ref mkeptSights, .long mo_hash])), (mpage, .inl (cy, 44, .inl u.2))]) := by
  refine wk_mk2Ci (by decide) (Nat.le_of_ble_eq_true rfl) ?_
  intro p e s m args below meth c A ls Q B hA hK hP hD hS hl hret
  obtain ⟨hx, hb, hr, hlocks, hml, hown, htb, hin⟩ := B
  have hl : lv_has ls 2 [(0, .ref mo), (1, .int a)] := hl
  have hF : (fn_X12_letter mo_pageMany mpage_a a) = (fn_X12_letter mo_pageMany mpage_a a) := rfl
  conv at hF => rhs; unfold fn_X12_letter
  refine lv_iload_n hx hb dX12_letter_0 rfl (lv_at hl 1 rfl) ?_
  refine lv_i2l (v := a.toInt64) hx hb dX12_letter_1 rfl ?_
  refine lv_lconst (v := 1) hx hb dX12_letter_2 (by decide) ?_
  refine lv_ldc2 (v := 126) hx hb hown (htb _ tw_900) dX12_letter_3 ?_
  refine wk_iS (As := [.long a.toInt64, .long 1, .long 126]) (rest := []) (wc := []) (wr := [(mo, .inr (12, [.ref mpage, .int mo_pageMany, .int mo_law, .int mo_many, .int mo_asked, .int mo_looksAll, .int mo_changes, .int mo_rowsRead, .ref mkeys, .ref mvalues, .ref mheights, .ref mheats, .int mo_secondMany, .ref msecondKeys, .ref msecondValues, .ref msecondHeights, .ref msecondHeats, .int mo_foundAt, .int mo_foundLooks, .int mo_foundLane, .int mo_bestsDone, .ref msaved, .ref mbestHeights, .int mo_seenMany, .ref msights, .ref mby, .int mo_seedNow, .int mo_keptRow, .int mo_keptMany, .int mo_keptSecond, .int mo_keptAsked, .int mo_keptLooks, .int mo_keptChanges, .int mo_keptSeen, .ref mkeptKeys, .ref mkeptValues, .ref mkeptHeights, .ref mkeptHeats, .ref mkeptKeys2, .ref mkeptValues2, .ref mkeptHeights2, .ref mkeptHeats2, .ref mkeptSights, .long mo_hash])), (mpage, .inl (cy, 44, .inl mpage_a))]) (n := 3) ⟨hx, hb, hml, hown, htb⟩ (c_X12_in l D cy   a.toInt64 1 126 ) tw_903 tw_901 tw_902 tw_71 rfl rfl (by decide +kernel) ⟨Nat.le_of_ble_eq_true rfl, Nat.le_of_ble_eq_true rfl⟩ hK hP hD hS hA [] [0, 1] rfl rfl rfl rfl (by decide) rfl hl.1 rfl (Nat.le_of_ble_eq_true rfl) dX12_letter_6 ⟨Nat.le_of_ble_eq_true rfl, Nat.le_of_ble_eq_true rfl⟩ (fun r_1 u_2 H locs hw_3 hP hD hS => ?_)
  refine W.widen (k := 0) (n := 0) (by decide) (by decide) ?_
  obtain ⟨hw_3, k_4⟩ := hw_3
  have hw_3 : r_1 = (wk_in a.toInt64 1 126) := hw_3
  subst hw_3
  have k_4 : ((wk_in a.toInt64 1 126) = 0 ∨ (wk_in a.toInt64 1 126) = 1) := k_4
  have k_5 : 0 ≤ (wk_in a.toInt64 1 126).toInt ∧ (wk_in a.toInt64 1 126).toInt ≤ 1 := wk_b01 (by assumption)
  have hP : va_P D classes [(mo, .inr (12, [.ref mpage, .int mo_pageMany, .int mo_law, .int mo_many, .int mo_asked, .int mo_looksAll, .int mo_changes, .int mo_rowsRead, .ref mkeys, .ref mvalues, .ref mheights, .ref mheats, .int mo_secondMany, .ref msecondKeys, .ref msecondValues, .ref msecondHeights, .ref msecondHeats, .int mo_foundAt, .int mo_foundLooks, .int mo_foundLane, .int mo_bestsDone, .ref msaved, .ref mbestHeights, .int mo_seenMany, .ref msights, .ref mby, .int mo_seedNow, .int mo_keptRow, .int mo_keptMany, .int mo_keptSecond, .int mo_keptAsked, .int mo_keptLooks, .int mo_keptChanges, .int mo_keptSeen, .ref mkeptKeys, .ref mkeptValues, .ref mkeptHeights, .ref mkeptHeats, .ref mkeptKeys2, .ref mkeptValues2, .ref mkeptHeights2, .ref mkeptHeats2, .ref mkeptSights, .long mo_hash])), (mpage, .inl (cy, 44, .inl mpage_a))] H := hP
  have hD : va_D A [(mo, .inr (12, [.ref mpage, .int mo_pageMany, .int mo_law, .int mo_many, .int mo_asked, .int mo_looksAll, .int mo_changes, .int mo_rowsRead, .ref mkeys, .ref mvalues, .ref mheights, .ref mheats, .int mo_secondMany, .ref msecondKeys, .ref msecondValues, .ref msecondHeights, .ref msecondHeats, .int mo_foundAt, .int mo_foundLooks, .int mo_foundLane, .int mo_bestsDone, .ref msaved, .ref mbestHeights, .int mo_seenMany, .ref msights, .ref mby, .int mo_seedNow, .int mo_keptRow, .int mo_keptMany, .int mo_keptSecond, .int mo_keptAsked, .int mo_keptLooks, .int mo_keptChanges, .int mo_keptSeen, .ref mkeptKeys, .ref mkeptValues, .ref mkeptHeights, .ref mkeptHeats, .ref mkeptKeys2, .ref mkeptValues2, .ref mkeptHeights2, .ref mkeptHeats2, .ref mkeptSights, .long mo_hash])), (mpage, .inl (cy, 44, .inl mpage_a))] := hD
  refine lv_if_ne (tgt := 15) hx hb dX12_letter_9 (by decide) (fun c_6 => ?_) (fun c_6 => ?_)
  · have k_6 : 1 ≤ a.toInt ∧ a.toInt ≤ 126 := by have h9 := wk_in1 c_6; simp only [wk_64] at h9; exact h9
    replace hF := hF.trans (if_neg c_6)
    refine lv_aload_n hx hb dX12_letter_15 rfl (lv_at hl 0 rfl) ?_
    refine va_get (D := D) (ci := 12) (v := .int mo_pageMany) (C := RX12) (T := TX12) (N := 44) hx hb htb inX12 hown hK hP 0 rfl rfl 1 (by decide) (htb _ tw_764) (fun _ h9 => h9) rfl dX12_letter_16 ?_
    refine lv_bipush (v := 44) hx hb dX12_letter_19 (by decide) ?_
    refine lv_icmp_ne (tgt := 27) hx hb dX12_letter_21 (by decide) (fun c_7 => ?_) (fun c_7 => ?_)
    · have k_7 : ¬ mo_pageMany.toInt = 44 := wk_neq c_7
      replace hF := hF.trans (if_neg c_7)
      refine lv_aload_n hx hb dX12_letter_27 rfl (lv_at hl 0 rfl) ?_
      refine va_get (D := D) (ci := 12) (v := .ref mpage) (C := RX12) (T := TX12) (N := 44) hx hb htb inX12 hown hK hP 0 rfl rfl 0 (by decide) (htb _ tw_763) (fun _ h9 => h9) rfl dX12_letter_28 ?_
      refine lv_aload_n hx hb dX12_letter_31 rfl (lv_at hl 0 rfl) ?_
      refine va_get (D := D) (ci := 12) (v := .int mo_pageMany) (C := RX12) (T := TX12) (N := 44) hx hb htb inX12 hown hK hP 0 rfl rfl 1 (by decide) (htb _ tw_764) (fun _ h9 => h9) rfl dX12_letter_32 ?_
      refine lv_iload_n hx hb dX12_letter_35 rfl (lv_at hl 1 rfl) ?_
      refine va_iast hx hb hK hP hD hS 1 0 rfl rfl (show vp_in mo_pageMany 44 from vp_in_iff.mpr (show 0 ≤ mo_pageMany.toInt ∧ mo_pageMany.toInt < ((44 : Nat) : Int) from by omega)) dX12_letter_36 (fun H locs hP hD hS => ?_)
      have hP : va_P D classes [(mo, .inr (12, [.ref mpage, .int mo_pageMany, .int mo_law, .int mo_many, .int mo_asked, .int mo_looksAll, .int mo_changes, .int mo_rowsRead, .ref mkeys, .ref mvalues, .ref mheights, .ref mheats, .int mo_secondMany, .ref msecondKeys, .ref msecondValues, .ref msecondHeights, .ref msecondHeats, .int mo_foundAt, .int mo_foundLooks, .int mo_foundLane, .int mo_bestsDone, .ref msaved, .ref mbestHeights, .int mo_seenMany, .ref msights, .ref mby, .int mo_seedNow, .int mo_keptRow, .int mo_keptMany, .int mo_keptSecond, .int mo_keptAsked, .int mo_keptLooks, .int mo_keptChanges, .int mo_keptSeen, .ref mkeptKeys, .ref mkeptValues, .ref mkeptHeights, .ref mkeptHeats, .ref mkeptKeys2, .ref mkeptValues2, .ref mkeptHeights2, .ref mkeptHeats2, .ref mkeptSights, .long mo_hash])), (mpage, .inl (cy, 44, .inl (upd mpage_a mo_pageMany.toNatClampNeg a)))] H := hP
      have hD : va_D A [(mo, .inr (12, [.ref mpage, .int mo_pageMany, .int mo_law, .int mo_many, .int mo_asked, .int mo_looksAll, .int mo_changes, .int mo_rowsRead, .ref mkeys, .ref mvalues, .ref mheights, .ref mheats, .int mo_secondMany, .ref msecondKeys, .ref msecondValues, .ref msecondHeights, .ref msecondHeats, .int mo_foundAt, .int mo_foundLooks, .int mo_foundLane, .int mo_bestsDone, .ref msaved, .ref mbestHeights, .int mo_seenMany, .ref msights, .ref mby, .int mo_seedNow, .int mo_keptRow, .int mo_keptMany, .int mo_keptSecond, .int mo_keptAsked, .int mo_keptLooks, .int mo_keptChanges, .int mo_keptSeen, .ref mkeptKeys, .ref mkeptValues, .ref mkeptHeights, .ref mkeptHeats, .ref mkeptKeys2, .ref mkeptValues2, .ref mkeptHeights2, .ref mkeptHeats2, .ref mkeptSights, .long mo_hash])), (mpage, .inl (cy, 44, .inl (upd mpage_a mo_pageMany.toNatClampNeg a)))] := hD
      refine lv_aload_n hx hb dX12_letter_37 rfl (lv_at hl 0 rfl) ?_
      refine lv_dup hx hb dX12_letter_38 rfl ?_
      refine va_get (D := D) (ci := 12) (v := .int mo_pageMany) (C := RX12) (T := TX12) (N := 44) hx hb htb inX12 hown hK hP 0 rfl rfl 1 (by decide) (htb _ tw_764) (fun _ h9 => h9) rfl dX12_letter_39 ?_
      refine lv_iconst (v := 1) hx hb dX12_letter_42 (by decide) ?_
      refine lv_iadd hx hb dX12_letter_43 ?_
      have k_8 : (mo_pageMany + 1).toInt = mo_pageMany.toInt + 1 := wk_add mo_pageMany.toInt 1 rfl rfl (by omega) (by omega)
      refine va_put (D := D) (ci := 12) (v := .int (mo_pageMany + 1)) (ty := .int) (C := RX12) (T := TX12) (N := 44) hx hb htb inX12 tyX12 tyX12_ok nmX12 hown hK hP hD hS 0 rfl rfl 1 (by decide) (htb _ tw_764) (fun _ h9 => h9) rfl (by decide +kernel) rfl rfl (Nat.le_of_ble_eq_true rfl) dX12_letter_44 (fun H locs hP hD hS => ?_)
      have hP : va_P D classes [(mo, .inr (12, [.ref mpage, .int (mo_pageMany + 1), .int mo_law, .int mo_many, .int mo_asked, .int mo_looksAll, .int mo_changes, .int mo_rowsRead, .ref mkeys, .ref mvalues, .ref mheights, .ref mheats, .int mo_secondMany, .ref msecondKeys, .ref msecondValues, .ref msecondHeights, .ref msecondHeats, .int mo_foundAt, .int mo_foundLooks, .int mo_foundLane, .int mo_bestsDone, .ref msaved, .ref mbestHeights, .int mo_seenMany, .ref msights, .ref mby, .int mo_seedNow, .int mo_keptRow, .int mo_keptMany, .int mo_keptSecond, .int mo_keptAsked, .int mo_keptLooks, .int mo_keptChanges, .int mo_keptSeen, .ref mkeptKeys, .ref mkeptValues, .ref mkeptHeights, .ref mkeptHeats, .ref mkeptKeys2, .ref mkeptValues2, .ref mkeptHeights2, .ref mkeptHeats2, .ref mkeptSights, .long mo_hash])), (mpage, .inl (cy, 44, .inl (upd mpage_a mo_pageMany.toNatClampNeg a)))] H := hP
      have hD : va_D A [(mo, .inr (12, [.ref mpage, .int (mo_pageMany + 1), .int mo_law, .int mo_many, .int mo_asked, .int mo_looksAll, .int mo_changes, .int mo_rowsRead, .ref mkeys, .ref mvalues, .ref mheights, .ref mheats, .int mo_secondMany, .ref msecondKeys, .ref msecondValues, .ref msecondHeights, .ref msecondHeats, .int mo_foundAt, .int mo_foundLooks, .int mo_foundLane, .int mo_bestsDone, .ref msaved, .ref mbestHeights, .int mo_seenMany, .ref msights, .ref mby, .int mo_seedNow, .int mo_keptRow, .int mo_keptMany, .int mo_keptSecond, .int mo_keptAsked, .int mo_keptLooks, .int mo_keptChanges, .int mo_keptSeen, .ref mkeptKeys, .ref mkeptValues, .ref mkeptHeights, .ref mkeptHeats, .ref mkeptKeys2, .ref mkeptValues2, .ref mkeptHeights2, .ref mkeptHeats2, .ref mkeptSights, .long mo_hash])), (mpage, .inl (cy, 44, .inl (upd mpage_a mo_pageMany.toNatClampNeg a)))] := hD
      refine lv_aload_n hx hb dX12_letter_47 rfl (lv_at hl 0 rfl) ?_
      refine va_get (D := D) (ci := 12) (v := .int (mo_pageMany + 1)) (C := RX12) (T := TX12) (N := 44) hx hb htb inX12 hown hK hP 0 rfl rfl 1 (by decide) (htb _ tw_764) (fun _ h9 => h9) rfl dX12_letter_48 ?_
      refine W.widen (k := 0) (n := 0) (by decide) (by decide) ?_
      exact hret (mo_pageMany + 1) ((mo_pageMany + 1), (upd mpage_a mo_pageMany.toNatClampNeg a)) _ _ _ 51 (wk_sub9 (is := [0, 1]) hP rfl) (hD.sub [0, 1] rfl rfl) hS dX12_letter_51 ⟨hF.symm, (show (0 ≤ (mo_pageMany + 1).toInt ∧ (mo_pageMany + 1).toInt ≤ 44) from by omega)⟩
    · have k_7 : mo_pageMany.toInt = 44 := wk_eq c_7
      replace hF := hF.trans (if_pos c_7)
      refine lv_bipush (v := (-104)) hx hb dX12_letter_24 (by decide) ?_
      refine W.widen (k := 0) (n := 0) (by decide) (by decide) ?_
      exact hret (-104) (mo_pageMany, mpage_a) _ _ _ 26 (wk_sub9 (is := [0, 1]) hP rfl) (hD.sub [0, 1] rfl rfl) hS dX12_letter_26 ⟨hF.symm, (show (0 ≤ mo_pageMany.toInt ∧ mo_pageMany.toInt ≤ 44) from by omega)⟩
  · have k_6 : ¬ (1 ≤ a.toInt ∧ a.toInt ≤ 126) := by have h9 := wk_in0 c_6; simp only [wk_64] at h9; exact h9
    replace hF := hF.trans (if_pos c_6)
    refine lv_bipush (v := (-102)) hx hb dX12_letter_12 (by decide) ?_
    refine W.widen (k := 0) (n := 0) (by decide) (by decide) ?_
    exact hret (-102) (mo_pageMany, mpage_a) _ _ _ 14 (wk_sub9 (is := [0, 1]) hP rfl) (hD.sub [0, 1] rfl rfl) hS dX12_letter_14 ⟨hF.symm, (show (0 ≤ mo_pageMany.toInt ∧ mo_pageMany.toInt ≤ 44) from by omega)⟩
def fn_X12_blank (mo_pageMany : Int32) : Int32 × Int32 := (mo_pageMany, 0)
theorem dX12_blank_0 : decode cX12_blank 0 = .ok (.aload_n 0, 1) := by decide +kernel
theorem dX12_blank_1 : decode cX12_blank 1 = .ok (.getfield 86, 3) := by decide +kernel
theorem dX12_blank_4 : decode cX12_blank 4 = .ok (.istore_n 1, 1) := by decide +kernel
theorem dX12_blank_5 : decode cX12_blank 5 = .ok (.aload_n 0, 1) := by decide +kernel
theorem dX12_blank_6 : decode cX12_blank 6 = .ok (.iconst 0, 1) := by decide +kernel
theorem dX12_blank_7 : decode cX12_blank 7 = .ok (.putfield 86, 3) := by decide +kernel
theorem dX12_blank_10 : decode cX12_blank 10 = .ok (.iload_n 1, 1) := by decide +kernel
theorem dX12_blank_11 : decode cX12_blank 11 = .ok (.ireturn, 1) := by decide +kernel
set_option maxHeartbeats 4000000 in
set_option maxRecDepth 100000 in
theorem c_X12_blank (l : Launch) (D : va_G) (cy : ClassId) (mo mpage mkeys mvalues mheights mheats msecondKeys msecondValues msecondHeights msecondHeats msaved mbestHeights msights mby mkeptKeys mkeptValues mkeptHeights mkeptHeats mkeptKeys2 mkeptValues2 mkeptHeights2 mkeptHeats2 mkeptSights : Nat) (mo_pageMany : Int32) (mo_law : Int32) (mo_many : Int32) (mo_asked : Int32) (mo_looksAll : Int32) (mo_changes : Int32) (mo_rowsRead : Int32) (mo_secondMany : Int32) (mo_foundAt : Int32) (mo_foundLooks : Int32) (mo_foundLane : Int32) (mo_bestsDone : Int32) (mo_seenMany : Int32) (mo_seedNow : Int32) (mo_keptRow : Int32) (mo_keptMany : Int32) (mo_keptSecond : Int32) (mo_keptAsked : Int32) (mo_keptLooks : Int32) (mo_keptChanges : Int32) (mo_keptSeen : Int32) (mo_hash : Int64)  (g_0 : 0 ≤ mo_pageMany.toInt ∧ mo_pageMany.toInt ≤ 44) (g_1 : 0 ≤ mo_many.toInt ∧ mo_many.toInt ≤ 8) (g_2 : 0 ≤ mo_secondMany.toInt ∧ mo_secondMany.toInt ≤ 8) (g_3 : (-1) ≤ mo_foundAt.toInt ∧ mo_foundAt.toInt ≤ 7) (g_4 : 0 ≤ mo_seenMany.toInt ∧ mo_seenMany.toInt ≤ 6) (g_5 : 0 ≤ mo_keptMany.toInt ∧ mo_keptMany.toInt ≤ 8) (g_6 : 0 ≤ mo_keptSecond.toInt ∧ mo_keptSecond.toInt ≤ 8) (g_7 : 0 ≤ mo_keptSeen.toInt ∧ mo_keptSeen.toInt ≤ 6) : wk_Ci l yX12_blank cX12_blank 2 (some .int) { frames := 0, cells := 0, slots := 0, locals := 0 } D cy [.ref mo] [(mo, .inr (12, [.ref mpage, .int mo_pageMany, .int mo_law, .int mo_many, .int mo_asked, .int mo_looksAll, .int mo_changes, .int mo_rowsRead, .ref mkeys, .ref mvalues, .ref mheights, .ref mheats, .int mo_secondMany, .ref msecondKeys, .ref msecondValues, .ref msecondHeights, .ref msecondHeats, .int mo_foundAt, .int mo_foundLooks, .int mo_foundLane, .int mo_bestsDone, .ref msaved, .ref mbestHeights, .int mo_seenMany, .ref msights, .ref mby, .int mo_seedNow, .int mo_keptRow, .int mo_keptMany, .int mo_keptSecond, .int mo_keptAsked, .int mo_keptLooks, .int mo_keptChanges, .int mo_keptSeen, .ref mkeptKeys, .ref mkeptValues, .ref mkeptHeights, .ref mkeptHeats, .ref mkeptKeys2, .ref mkeptValues2, .ref mkeptHeights2, .ref mkeptHeats2, .ref mkeptSights, .long mo_hash]))] 0 0 (fun (r : Int32) (u : Int32) => (r, u) = (fn_X12_blank mo_pageMany) ∧ (0 ≤ u.toInt ∧ u.toInt ≤ 44)) (fun u => [(mo, .inr (12, [.ref mpage, .int u, .int mo_law, .int mo_many, .int mo_asked, .int mo_looksAll, .int mo_changes, .int mo_rowsRead, .ref mkeys, .ref mvalues, .ref mheights, .ref mheats, .int mo_secondMany, .ref msecondKeys, .ref msecondValues, .ref msecondHeights, .ref msecondHeats, .int mo_foundAt, .int mo_foundLooks, .int mo_foundLane, .int mo_bestsDone, .ref msaved, .ref mbestHeights, .int mo_seenMany, .ref msights, .ref mby, .int mo_seedNow, .int mo_keptRow, .int mo_keptMany, .int mo_keptSecond, .int mo_keptAsked, .int mo_keptLooks, .int mo_keptChanges, .int mo_keptSeen, .ref mkeptKeys, .ref mkeptValues, .ref mkeptHeights, .ref mkeptHeats, .ref mkeptKeys2, .ref mkeptValues2, .ref mkeptHeights2, .ref mkeptHeats2, .ref mkeptSights, .long mo_hash]))]) := by
  refine wk_mk2Ci (by decide) (Nat.le_of_ble_eq_true rfl) ?_
  intro p e s m args below meth c A ls Q B hA hK hP hD hS hl hret
  obtain ⟨hx, hb, hr, hlocks, hml, hown, htb, hin⟩ := B
  have hl : lv_has ls 2 [(0, .ref mo)] := hl
  have hF : (fn_X12_blank mo_pageMany) = (fn_X12_blank mo_pageMany) := rfl
  conv at hF => rhs; unfold fn_X12_blank
  refine lv_aload_n hx hb dX12_blank_0 rfl (lv_at hl 0 rfl) ?_
  refine va_get (D := D) (ci := 12) (v := .int mo_pageMany) (C := RX12) (T := TX12) (N := 44) hx hb htb inX12 hown hK hP 0 rfl rfl 1 (by decide) (htb _ tw_764) (fun _ h9 => h9) rfl dX12_blank_1 ?_
  refine lv_istore_n (lv' := [(1, .int mo_pageMany), (0, .ref mo)]) hx hb dX12_blank_4 rfl hl (by decide) rfl (fun ls hl => ?_)
  refine lv_aload_n hx hb dX12_blank_5 rfl (lv_at hl 1 rfl) ?_
  refine lv_iconst (v := 0) hx hb dX12_blank_6 (by decide) ?_
  refine va_put (D := D) (ci := 12) (v := .int 0) (ty := .int) (C := RX12) (T := TX12) (N := 44) hx hb htb inX12 tyX12 tyX12_ok nmX12 hown hK hP hD hS 0 rfl rfl 1 (by decide) (htb _ tw_764) (fun _ h9 => h9) rfl (by decide +kernel) rfl rfl (Nat.le_of_ble_eq_true rfl) dX12_blank_7 (fun H locs hP hD hS => ?_)
  have hP : va_P D classes [(mo, .inr (12, [.ref mpage, .int 0, .int mo_law, .int mo_many, .int mo_asked, .int mo_looksAll, .int mo_changes, .int mo_rowsRead, .ref mkeys, .ref mvalues, .ref mheights, .ref mheats, .int mo_secondMany, .ref msecondKeys, .ref msecondValues, .ref msecondHeights, .ref msecondHeats, .int mo_foundAt, .int mo_foundLooks, .int mo_foundLane, .int mo_bestsDone, .ref msaved, .ref mbestHeights, .int mo_seenMany, .ref msights, .ref mby, .int mo_seedNow, .int mo_keptRow, .int mo_keptMany, .int mo_keptSecond, .int mo_keptAsked, .int mo_keptLooks, .int mo_keptChanges, .int mo_keptSeen, .ref mkeptKeys, .ref mkeptValues, .ref mkeptHeights, .ref mkeptHeats, .ref mkeptKeys2, .ref mkeptValues2, .ref mkeptHeights2, .ref mkeptHeats2, .ref mkeptSights, .long mo_hash]))] H := hP
  have hD : va_D A [(mo, .inr (12, [.ref mpage, .int 0, .int mo_law, .int mo_many, .int mo_asked, .int mo_looksAll, .int mo_changes, .int mo_rowsRead, .ref mkeys, .ref mvalues, .ref mheights, .ref mheats, .int mo_secondMany, .ref msecondKeys, .ref msecondValues, .ref msecondHeights, .ref msecondHeats, .int mo_foundAt, .int mo_foundLooks, .int mo_foundLane, .int mo_bestsDone, .ref msaved, .ref mbestHeights, .int mo_seenMany, .ref msights, .ref mby, .int mo_seedNow, .int mo_keptRow, .int mo_keptMany, .int mo_keptSecond, .int mo_keptAsked, .int mo_keptLooks, .int mo_keptChanges, .int mo_keptSeen, .ref mkeptKeys, .ref mkeptValues, .ref mkeptHeights, .ref mkeptHeats, .ref mkeptKeys2, .ref mkeptValues2, .ref mkeptHeights2, .ref mkeptHeats2, .ref mkeptSights, .long mo_hash]))] := hD
  refine lv_iload_n hx hb dX12_blank_10 rfl (lv_at hl 0 rfl) ?_
  refine W.widen (k := 0) (n := 0) (by decide) (by decide) ?_
  exact hret mo_pageMany 0 _ _ _ 11 (wk_sub9 (is := [0]) hP rfl) (hD.sub [0] rfl rfl) hS dX12_blank_11 ⟨hF.symm, (show (0 ≤ 0 ∧ 0 ≤ 44) from by omega)⟩
def fn_X12_lawBy (a : Int32) : Int32 := (if a = 100 then 4 else (if a = 101 then 3 else (if a = 104 then 1 else (if a = 115 then 2 else (if a = 116 then 0 else (-1))))))
theorem dX12_lawBy_0 : decode cX12_lawBy 0 = .ok (.iload_n 0, 1) := by decide +kernel
theorem dX12_lawBy_1 : decode cX12_lawBy 1 = .ok (.lookupswitch 61 #[(100, 59), (101, 57), (104, 53), (115, 55), (116, 51)], 51) := by decide +kernel
theorem dX12_lawBy_52 : decode cX12_lawBy 52 = .ok (.iconst 0, 1) := by decide +kernel
theorem dX12_lawBy_53 : decode cX12_lawBy 53 = .ok (.ireturn, 1) := by decide +kernel
theorem dX12_lawBy_54 : decode cX12_lawBy 54 = .ok (.iconst 1, 1) := by decide +kernel
theorem dX12_lawBy_55 : decode cX12_lawBy 55 = .ok (.ireturn, 1) := by decide +kernel
theorem dX12_lawBy_56 : decode cX12_lawBy 56 = .ok (.iconst 2, 1) := by decide +kernel
theorem dX12_lawBy_57 : decode cX12_lawBy 57 = .ok (.ireturn, 1) := by decide +kernel
theorem dX12_lawBy_58 : decode cX12_lawBy 58 = .ok (.iconst 3, 1) := by decide +kernel
theorem dX12_lawBy_59 : decode cX12_lawBy 59 = .ok (.ireturn, 1) := by decide +kernel
theorem dX12_lawBy_60 : decode cX12_lawBy 60 = .ok (.iconst 4, 1) := by decide +kernel
theorem dX12_lawBy_61 : decode cX12_lawBy 61 = .ok (.ireturn, 1) := by decide +kernel
theorem dX12_lawBy_62 : decode cX12_lawBy 62 = .ok (.iconst (-1), 1) := by decide +kernel
theorem dX12_lawBy_63 : decode cX12_lawBy 63 = .ok (.ireturn, 1) := by decide +kernel
set_option maxHeartbeats 4000000 in
set_option maxRecDepth 100000 in
theorem c_X12_lawBy (l : Launch) (D : va_G) (cy : ClassId)  (a : Int32)  : wk_Ci l yX12_lawBy cX12_lawBy 1 (some .int) { frames := 0, cells := 0, slots := 0, locals := 0 } D cy [.int a] [] 0 0 (fun (r : Int32) (u : Unit) => r = (fn_X12_lawBy a) ∧ ((-1) ≤ r.toInt ∧ r.toInt ≤ 4)) (fun u => []) := by
  refine wk_mk2Ci (by decide) (Nat.le_of_ble_eq_true rfl) ?_
  intro p e s m args below meth c A ls Q B hA hK hP hD hS hl hret
  obtain ⟨hx, hb, hr, hlocks, hml, hown, htb, hin⟩ := B
  have hl : lv_has ls 1 [(0, .int a)] := hl
  have hF : (fn_X12_lawBy a) = (fn_X12_lawBy a) := rfl
  conv at hF => rhs; unfold fn_X12_lawBy
  refine lv_iload_n hx hb dX12_lawBy_0 rfl (lv_at hl 0 rfl) ?_
  by_cases c_1 : a = 100
  · refine wk_toi c_1 ?_
    replace hF := hF.trans (if_pos c_1)
    have k_1 : a.toInt = 100 := wk_eq c_1
    refine lv_lookup (off := 59) (tgt := 60) hx hb dX12_lawBy_1 (by decide) (by decide) (by decide) ?_
    refine lv_iconst (v := 4) hx hb dX12_lawBy_60 (by decide) ?_
    refine W.widen (k := 0) (n := 0) (by decide) (by decide) ?_
    exact hret 4 () _ _ _ 61 (wk_sub9 (is := []) hP rfl) (hD.sub [] rfl rfl) hS dX12_lawBy_61 ⟨hF.symm, (show ((-1) ≤ 4 ∧ 4 ≤ 4) from by omega)⟩
  replace hF := hF.trans (if_neg c_1)
  have k_1 : ¬ a.toInt = 100 := wk_neq c_1
  by_cases c_2 : a = 101
  · refine wk_toi c_2 ?_
    replace hF := hF.trans (if_pos c_2)
    have k_2 : a.toInt = 101 := wk_eq c_2
    refine lv_lookup (off := 57) (tgt := 58) hx hb dX12_lawBy_1 (by decide) (by decide) (by decide) ?_
    refine lv_iconst (v := 3) hx hb dX12_lawBy_58 (by decide) ?_
    refine W.widen (k := 0) (n := 0) (by decide) (by decide) ?_
    exact hret 3 () _ _ _ 59 (wk_sub9 (is := []) hP rfl) (hD.sub [] rfl rfl) hS dX12_lawBy_59 ⟨hF.symm, (show ((-1) ≤ 3 ∧ 3 ≤ 4) from by omega)⟩
  replace hF := hF.trans (if_neg c_2)
  have k_2 : ¬ a.toInt = 101 := wk_neq c_2
  by_cases c_3 : a = 104
  · refine wk_toi c_3 ?_
    replace hF := hF.trans (if_pos c_3)
    have k_3 : a.toInt = 104 := wk_eq c_3
    refine lv_lookup (off := 53) (tgt := 54) hx hb dX12_lawBy_1 (by decide) (by decide) (by decide) ?_
    refine lv_iconst (v := 1) hx hb dX12_lawBy_54 (by decide) ?_
    refine W.widen (k := 0) (n := 0) (by decide) (by decide) ?_
    exact hret 1 () _ _ _ 55 (wk_sub9 (is := []) hP rfl) (hD.sub [] rfl rfl) hS dX12_lawBy_55 ⟨hF.symm, (show ((-1) ≤ 1 ∧ 1 ≤ 4) from by omega)⟩
  replace hF := hF.trans (if_neg c_3)
  have k_3 : ¬ a.toInt = 104 := wk_neq c_3
  by_cases c_4 : a = 115
  · refine wk_toi c_4 ?_
    replace hF := hF.trans (if_pos c_4)
    have k_4 : a.toInt = 115 := wk_eq c_4
    refine lv_lookup (off := 55) (tgt := 56) hx hb dX12_lawBy_1 (by decide) (by decide) (by decide) ?_
    refine lv_iconst (v := 2) hx hb dX12_lawBy_56 (by decide) ?_
    refine W.widen (k := 0) (n := 0) (by decide) (by decide) ?_
    exact hret 2 () _ _ _ 57 (wk_sub9 (is := []) hP rfl) (hD.sub [] rfl rfl) hS dX12_lawBy_57 ⟨hF.symm, (show ((-1) ≤ 2 ∧ 2 ≤ 4) from by omega)⟩
  replace hF := hF.trans (if_neg c_4)
  have k_4 : ¬ a.toInt = 115 := wk_neq c_4
  by_cases c_5 : a = 116
  · refine wk_toi c_5 ?_
    replace hF := hF.trans (if_pos c_5)
    have k_5 : a.toInt = 116 := wk_eq c_5
    refine lv_lookup (off := 51) (tgt := 52) hx hb dX12_lawBy_1 (by decide) (by decide) (by decide) ?_
    refine lv_iconst (v := 0) hx hb dX12_lawBy_52 (by decide) ?_
    refine W.widen (k := 0) (n := 0) (by decide) (by decide) ?_
    exact hret 0 () _ _ _ 53 (wk_sub9 (is := []) hP rfl) (hD.sub [] rfl rfl) hS dX12_lawBy_53 ⟨hF.symm, (show ((-1) ≤ 0 ∧ 0 ≤ 4) from by omega)⟩
  replace hF := hF.trans (if_neg c_5)
  have k_5 : ¬ a.toInt = 116 := wk_neq c_5
  refine lv_lookup (off := 61) (tgt := 62) hx hb dX12_lawBy_1 (by decide) ((lv_osw c_1 rfl).trans ((lv_osw c_2 rfl).trans ((lv_osw c_3 rfl).trans ((lv_osw c_4 rfl).trans ((lv_osw c_5 rfl).trans rfl))))) (by decide) ?_
  refine lv_iconst (v := (-1)) hx hb dX12_lawBy_62 (by decide) ?_
  refine W.widen (k := 0) (n := 0) (by decide) (by decide) ?_
  exact hret (-1) () _ _ _ 63 (wk_sub9 (is := []) hP rfl) (hD.sub [] rfl rfl) hS dX12_lawBy_63 ⟨hF.symm, (show ((-1) ≤ (-1) ∧ (-1) ≤ 4) from by omega)⟩
def fn_X12_signOf (a : Int32) : Int32 := (if a = 0 then 116 else (if a = 1 then 104 else (if a = 2 then 115 else (if a = 3 then 101 else 100))))
theorem dX12_signOf_0 : decode cX12_signOf 0 = .ok (.iload_n 0, 1) := by decide +kernel
theorem dX12_signOf_1 : decode cX12_signOf 1 = .ok (.ifCond .ne 8, 3) := by decide +kernel
theorem dX12_signOf_4 : decode cX12_signOf 4 = .ok (.bipush 116, 2) := by decide +kernel
theorem dX12_signOf_6 : decode cX12_signOf 6 = .ok (.goto 35, 3) := by decide +kernel
theorem dX12_signOf_9 : decode cX12_signOf 9 = .ok (.iload_n 0, 1) := by decide +kernel
theorem dX12_signOf_10 : decode cX12_signOf 10 = .ok (.iconst 1, 1) := by decide +kernel
theorem dX12_signOf_11 : decode cX12_signOf 11 = .ok (.if_icmp .ne 8, 3) := by decide +kernel
theorem dX12_signOf_14 : decode cX12_signOf 14 = .ok (.bipush 104, 2) := by decide +kernel
theorem dX12_signOf_16 : decode cX12_signOf 16 = .ok (.goto 25, 3) := by decide +kernel
theorem dX12_signOf_19 : decode cX12_signOf 19 = .ok (.iload_n 0, 1) := by decide +kernel
theorem dX12_signOf_20 : decode cX12_signOf 20 = .ok (.iconst 2, 1) := by decide +kernel
theorem dX12_signOf_21 : decode cX12_signOf 21 = .ok (.if_icmp .ne 8, 3) := by decide +kernel
theorem dX12_signOf_24 : decode cX12_signOf 24 = .ok (.bipush 115, 2) := by decide +kernel
theorem dX12_signOf_26 : decode cX12_signOf 26 = .ok (.goto 15, 3) := by decide +kernel
theorem dX12_signOf_29 : decode cX12_signOf 29 = .ok (.iload_n 0, 1) := by decide +kernel
theorem dX12_signOf_30 : decode cX12_signOf 30 = .ok (.iconst 3, 1) := by decide +kernel
theorem dX12_signOf_31 : decode cX12_signOf 31 = .ok (.if_icmp .ne 8, 3) := by decide +kernel
theorem dX12_signOf_34 : decode cX12_signOf 34 = .ok (.bipush 101, 2) := by decide +kernel
theorem dX12_signOf_36 : decode cX12_signOf 36 = .ok (.goto 5, 3) := by decide +kernel
theorem dX12_signOf_39 : decode cX12_signOf 39 = .ok (.bipush 100, 2) := by decide +kernel
theorem dX12_signOf_41 : decode cX12_signOf 41 = .ok (.ireturn, 1) := by decide +kernel
set_option maxHeartbeats 4000000 in
set_option maxRecDepth 100000 in
theorem c_X12_signOf (l : Launch) (D : va_G) (cy : ClassId)  (a : Int32)  : wk_Ci l yX12_signOf cX12_signOf 1 (some .int) { frames := 0, cells := 0, slots := 0, locals := 0 } D cy [.int a] [] 0 0 (fun (r : Int32) (u : Unit) => r = (fn_X12_signOf a)) (fun u => []) := by
  refine wk_mk2Ci (by decide) (Nat.le_of_ble_eq_true rfl) ?_
  intro p e s m args below meth c A ls Q B hA hK hP hD hS hl hret
  obtain ⟨hx, hb, hr, hlocks, hml, hown, htb, hin⟩ := B
  have hl : lv_has ls 1 [(0, .int a)] := hl
  have hF : (fn_X12_signOf a) = (fn_X12_signOf a) := rfl
  conv at hF => rhs; unfold fn_X12_signOf
  refine lv_iload_n hx hb dX12_signOf_0 rfl (lv_at hl 0 rfl) ?_
  refine lv_if_ne (tgt := 9) hx hb dX12_signOf_1 (by decide) (fun c_1 => ?_) (fun c_1 => ?_)
  · have k_1 : ¬ a.toInt = 0 := wk_neq c_1
    replace hF := hF.trans (if_neg c_1)
    refine lv_iload_n hx hb dX12_signOf_9 rfl (lv_at hl 0 rfl) ?_
    refine lv_iconst (v := 1) hx hb dX12_signOf_10 (by decide) ?_
    refine lv_icmp_ne (tgt := 19) hx hb dX12_signOf_11 (by decide) (fun c_2 => ?_) (fun c_2 => ?_)
    · have k_2 : ¬ a.toInt = 1 := wk_neq c_2
      replace hF := hF.trans (if_neg c_2)
      refine lv_iload_n hx hb dX12_signOf_19 rfl (lv_at hl 0 rfl) ?_
      refine lv_iconst (v := 2) hx hb dX12_signOf_20 (by decide) ?_
      refine lv_icmp_ne (tgt := 29) hx hb dX12_signOf_21 (by decide) (fun c_3 => ?_) (fun c_3 => ?_)
      · have k_3 : ¬ a.toInt = 2 := wk_neq c_3
        replace hF := hF.trans (if_neg c_3)
        refine lv_iload_n hx hb dX12_signOf_29 rfl (lv_at hl 0 rfl) ?_
        refine lv_iconst (v := 3) hx hb dX12_signOf_30 (by decide) ?_
        refine lv_icmp_ne (tgt := 39) hx hb dX12_signOf_31 (by decide) (fun c_4 => ?_) (fun c_4 => ?_)
        · have k_4 : ¬ a.toInt = 3 := wk_neq c_4
          replace hF := hF.trans (if_neg c_4)
          refine lv_bipush (v := 100) hx hb dX12_signOf_39 (by decide) ?_
          refine W.widen (k := 0) (n := 0) (by decide) (by decide) ?_
          exact hret 100 () _ _ _ 41 (wk_sub9 (is := []) hP rfl) (hD.sub [] rfl rfl) hS dX12_signOf_41 hF.symm
        · have k_4 : a.toInt = 3 := wk_eq c_4
          replace hF := hF.trans (if_pos c_4)
          refine lv_bipush (v := 101) hx hb dX12_signOf_34 (by decide) ?_
          refine lv_goto (tgt := 41) hx hb dX12_signOf_36 (by decide) ?_
          refine W.widen (k := 0) (n := 0) (by decide) (by decide) ?_
          exact hret 101 () _ _ _ 41 (wk_sub9 (is := []) hP rfl) (hD.sub [] rfl rfl) hS dX12_signOf_41 hF.symm
      · have k_3 : a.toInt = 2 := wk_eq c_3
        replace hF := hF.trans (if_pos c_3)
        refine lv_bipush (v := 115) hx hb dX12_signOf_24 (by decide) ?_
        refine lv_goto (tgt := 41) hx hb dX12_signOf_26 (by decide) ?_
        refine W.widen (k := 0) (n := 0) (by decide) (by decide) ?_
        exact hret 115 () _ _ _ 41 (wk_sub9 (is := []) hP rfl) (hD.sub [] rfl rfl) hS dX12_signOf_41 hF.symm
    · have k_2 : a.toInt = 1 := wk_eq c_2
      replace hF := hF.trans (if_pos c_2)
      refine lv_bipush (v := 104) hx hb dX12_signOf_14 (by decide) ?_
      refine lv_goto (tgt := 41) hx hb dX12_signOf_16 (by decide) ?_
      refine W.widen (k := 0) (n := 0) (by decide) (by decide) ?_
      exact hret 104 () _ _ _ 41 (wk_sub9 (is := []) hP rfl) (hD.sub [] rfl rfl) hS dX12_signOf_41 hF.symm
  · have k_1 : a.toInt = 0 := wk_eq c_1
    replace hF := hF.trans (if_pos c_1)
    refine lv_bipush (v := 116) hx hb dX12_signOf_4 (by decide) ?_
    refine lv_goto (tgt := 41) hx hb dX12_signOf_6 (by decide) ?_
    refine W.widen (k := 0) (n := 0) (by decide) (by decide) ?_
    exact hret 116 () _ _ _ 41 (wk_sub9 (is := []) hP rfl) (hD.sub [] rfl rfl) hS dX12_signOf_41 hF.symm
def fn_X12_topped (a : Int32) : Int32 := (if a ≤ 4 then a else 4)
theorem dX12_topped_0 : decode cX12_topped 0 = .ok (.iload_n 0, 1) := by decide +kernel
theorem dX12_topped_1 : decode cX12_topped 1 = .ok (.iconst 4, 1) := by decide +kernel
theorem dX12_topped_2 : decode cX12_topped 2 = .ok (.if_icmp .le 7, 3) := by decide +kernel
theorem dX12_topped_5 : decode cX12_topped 5 = .ok (.iconst 4, 1) := by decide +kernel
theorem dX12_topped_6 : decode cX12_topped 6 = .ok (.goto 4, 3) := by decide +kernel
theorem dX12_topped_9 : decode cX12_topped 9 = .ok (.iload_n 0, 1) := by decide +kernel
theorem dX12_topped_10 : decode cX12_topped 10 = .ok (.ireturn, 1) := by decide +kernel
set_option maxHeartbeats 4000000 in
set_option maxRecDepth 100000 in
theorem c_X12_topped (l : Launch) (D : va_G) (cy : ClassId)  (a : Int32)  : wk_Ci l yX12_topped cX12_topped 1 (some .int) { frames := 0, cells := 0, slots := 0, locals := 0 } D cy [.int a] [] 0 0 (fun (r : Int32) (u : Unit) => r = (fn_X12_topped a)) (fun u => []) := by
  refine wk_mk2Ci (by decide) (Nat.le_of_ble_eq_true rfl) ?_
  intro p e s m args below meth c A ls Q B hA hK hP hD hS hl hret
  obtain ⟨hx, hb, hr, hlocks, hml, hown, htb, hin⟩ := B
  have hl : lv_has ls 1 [(0, .int a)] := hl
  have hF : (fn_X12_topped a) = (fn_X12_topped a) := rfl
  conv at hF => rhs; unfold fn_X12_topped
  refine lv_iload_n hx hb dX12_topped_0 rfl (lv_at hl 0 rfl) ?_
  refine lv_iconst (v := 4) hx hb dX12_topped_1 (by decide) ?_
  refine lv_icmp_le (tgt := 9) hx hb dX12_topped_2 (by decide) (fun c_1 => ?_) (fun c_1 => ?_)
  · have k_1 : a.toInt ≤ 4 := wk_le c_1
    replace hF := hF.trans (if_pos c_1)
    refine lv_iload_n hx hb dX12_topped_9 rfl (lv_at hl 0 rfl) ?_
    refine W.widen (k := 0) (n := 0) (by decide) (by decide) ?_
    exact hret a () _ _ _ 10 (wk_sub9 (is := []) hP rfl) (hD.sub [] rfl rfl) hS dX12_topped_10 hF.symm
  · have k_1 : ¬ a.toInt ≤ 4 := wk_nle c_1
    replace hF := hF.trans (if_neg c_1)
    refine lv_iconst (v := 4) hx hb dX12_topped_5 (by decide) ?_
    refine lv_goto (tgt := 10) hx hb dX12_topped_6 (by decide) ?_
    refine W.widen (k := 0) (n := 0) (by decide) (by decide) ?_
    exact hret 4 () _ _ _ 10 (wk_sub9 (is := []) hP rfl) (hD.sub [] rfl rfl) hS dX12_topped_10 hF.symm
def fn_X12_lacks (mo_many : Int32) : Int32 := (if mo_many = 0 then 1 else 0)
theorem dX12_lacks_0 : decode cX12_lacks 0 = .ok (.aload_n 0, 1) := by decide +kernel
theorem dX12_lacks_1 : decode cX12_lacks 1 = .ok (.getfield 121, 3) := by decide +kernel
theorem dX12_lacks_4 : decode cX12_lacks 4 = .ok (.ifCond .ne 7, 3) := by decide +kernel
theorem dX12_lacks_7 : decode cX12_lacks 7 = .ok (.iconst 1, 1) := by decide +kernel
theorem dX12_lacks_8 : decode cX12_lacks 8 = .ok (.goto 4, 3) := by decide +kernel
theorem dX12_lacks_11 : decode cX12_lacks 11 = .ok (.iconst 0, 1) := by decide +kernel
theorem dX12_lacks_12 : decode cX12_lacks 12 = .ok (.ireturn, 1) := by decide +kernel
set_option maxHeartbeats 4000000 in
set_option maxRecDepth 100000 in
theorem c_X12_lacks (l : Launch) (D : va_G) (cy : ClassId) (mo mpage mkeys mvalues mheights mheats msecondKeys msecondValues msecondHeights msecondHeats msaved mbestHeights msights mby mkeptKeys mkeptValues mkeptHeights mkeptHeats mkeptKeys2 mkeptValues2 mkeptHeights2 mkeptHeats2 mkeptSights : Nat) (mo_pageMany : Int32) (mo_law : Int32) (mo_many : Int32) (mo_asked : Int32) (mo_looksAll : Int32) (mo_changes : Int32) (mo_rowsRead : Int32) (mo_secondMany : Int32) (mo_foundAt : Int32) (mo_foundLooks : Int32) (mo_foundLane : Int32) (mo_bestsDone : Int32) (mo_seenMany : Int32) (mo_seedNow : Int32) (mo_keptRow : Int32) (mo_keptMany : Int32) (mo_keptSecond : Int32) (mo_keptAsked : Int32) (mo_keptLooks : Int32) (mo_keptChanges : Int32) (mo_keptSeen : Int32) (mo_hash : Int64)  (g_0 : 0 ≤ mo_pageMany.toInt ∧ mo_pageMany.toInt ≤ 44) (g_1 : 0 ≤ mo_many.toInt ∧ mo_many.toInt ≤ 8) (g_2 : 0 ≤ mo_secondMany.toInt ∧ mo_secondMany.toInt ≤ 8) (g_3 : (-1) ≤ mo_foundAt.toInt ∧ mo_foundAt.toInt ≤ 7) (g_4 : 0 ≤ mo_seenMany.toInt ∧ mo_seenMany.toInt ≤ 6) (g_5 : 0 ≤ mo_keptMany.toInt ∧ mo_keptMany.toInt ≤ 8) (g_6 : 0 ≤ mo_keptSecond.toInt ∧ mo_keptSecond.toInt ≤ 8) (g_7 : 0 ≤ mo_keptSeen.toInt ∧ mo_keptSeen.toInt ≤ 6) : wk_Ci l yX12_lacks cX12_lacks 1 (some .boolean) { frames := 0, cells := 0, slots := 0, locals := 0 } D cy [.ref mo] [(mo, .inr (12, [.ref mpage, .int mo_pageMany, .int mo_law, .int mo_many, .int mo_asked, .int mo_looksAll, .int mo_changes, .int mo_rowsRead, .ref mkeys, .ref mvalues, .ref mheights, .ref mheats, .int mo_secondMany, .ref msecondKeys, .ref msecondValues, .ref msecondHeights, .ref msecondHeats, .int mo_foundAt, .int mo_foundLooks, .int mo_foundLane, .int mo_bestsDone, .ref msaved, .ref mbestHeights, .int mo_seenMany, .ref msights, .ref mby, .int mo_seedNow, .int mo_keptRow, .int mo_keptMany, .int mo_keptSecond, .int mo_keptAsked, .int mo_keptLooks, .int mo_keptChanges, .int mo_keptSeen, .ref mkeptKeys, .ref mkeptValues, .ref mkeptHeights, .ref mkeptHeats, .ref mkeptKeys2, .ref mkeptValues2, .ref mkeptHeights2, .ref mkeptHeats2, .ref mkeptSights, .long mo_hash]))] 0 0 (fun (r : Int32) (u : Unit) => r = (fn_X12_lacks mo_many) ∧ (r = 0 ∨ r = 1) ∧ (wk_or (r.toInt = 0) (mo_many.toInt = 0)) ∧ (wk_or (r.toInt = 1) (1 ≤ mo_many.toInt))) (fun u => [(mo, .inr (12, [.ref mpage, .int mo_pageMany, .int mo_law, .int mo_many, .int mo_asked, .int mo_looksAll, .int mo_changes, .int mo_rowsRead, .ref mkeys, .ref mvalues, .ref mheights, .ref mheats, .int mo_secondMany, .ref msecondKeys, .ref msecondValues, .ref msecondHeights, .ref msecondHeats, .int mo_foundAt, .int mo_foundLooks, .int mo_foundLane, .int mo_bestsDone, .ref msaved, .ref mbestHeights, .int mo_seenMany, .ref msights, .ref mby, .int mo_seedNow, .int mo_keptRow, .int mo_keptMany, .int mo_keptSecond, .int mo_keptAsked, .int mo_keptLooks, .int mo_keptChanges, .int mo_keptSeen, .ref mkeptKeys, .ref mkeptValues, .ref mkeptHeights, .ref mkeptHeats, .ref mkeptKeys2, .ref mkeptValues2, .ref mkeptHeights2, .ref mkeptHeats2, .ref mkeptSights, .long mo_hash]))]) := by
  refine wk_mk2Cz (by decide) (Nat.le_of_ble_eq_true rfl) ?_
  intro p e s m args below meth c A ls Q B hA hK hP hD hS hl hret
  obtain ⟨hx, hb, hr, hlocks, hml, hown, htb, hin⟩ := B
  have hl : lv_has ls 1 [(0, .ref mo)] := hl
  have hF : (fn_X12_lacks mo_many) = (fn_X12_lacks mo_many) := rfl
  conv at hF => rhs; unfold fn_X12_lacks
  refine lv_aload_n hx hb dX12_lacks_0 rfl (lv_at hl 0 rfl) ?_
  refine va_get (D := D) (ci := 12) (v := .int mo_many) (C := RX12) (T := TX12) (N := 44) hx hb htb inX12 hown hK hP 0 rfl rfl 3 (by decide) (htb _ tw_766) (fun _ h9 => h9) rfl dX12_lacks_1 ?_
  refine lv_if_ne (tgt := 11) hx hb dX12_lacks_4 (by decide) (fun c_1 => ?_) (fun c_1 => ?_)
  · have k_1 : ¬ mo_many.toInt = 0 := wk_neq c_1
    replace hF := hF.trans (if_neg c_1)
    refine lv_iconst (v := 0) hx hb dX12_lacks_11 (by decide) ?_
    refine W.widen (k := 0) (n := 0) (by decide) (by decide) ?_
    exact hret 0 () _ _ _ 12 (wk_nb (by first | exact Or.inl rfl | exact Or.inr rfl | assumption)) (wk_sub9 (is := [0]) hP rfl) (hD.sub [0] rfl rfl) hS dX12_lacks_12 ⟨hF.symm, (by first | exact Or.inl rfl | exact Or.inr rfl | assumption), (wk_orI (show (0 : Int) = 0 ∨ (mo_many.toInt = 0) from by omega)), (wk_orI (show (0 : Int) = 1 ∨ (1 ≤ mo_many.toInt) from by omega))⟩
  · have k_1 : mo_many.toInt = 0 := wk_eq c_1
    replace hF := hF.trans (if_pos c_1)
    refine lv_iconst (v := 1) hx hb dX12_lacks_7 (by decide) ?_
    refine lv_goto (tgt := 12) hx hb dX12_lacks_8 (by decide) ?_
    refine W.widen (k := 0) (n := 0) (by decide) (by decide) ?_
    exact hret 1 () _ _ _ 12 (wk_nb (by first | exact Or.inl rfl | exact Or.inr rfl | assumption)) (wk_sub9 (is := [0]) hP rfl) (hD.sub [0] rfl rfl) hS dX12_lacks_12 ⟨hF.symm, (by first | exact Or.inl rfl | exact Or.inr rfl | assumption), (wk_orI (show (1 : Int) = 0 ∨ (mo_many.toInt = 0) from by omega)), (wk_orI (show (1 : Int) = 1 ∨ (1 ≤ mo_many.toInt) from by omega))⟩
def lp_X12_lanes_4 (mo_many : Int32) (mheights_a : Nat → Int32) : Nat → Int32 → Int32 → Int32 × Int32
  | 0, _, _ => default
  | fu_4 + 1, x1_4, x2_4 => (if mo_many ≤ x2_4 then (x1_4, x2_4) else (if (mheights_a x2_4.toNatClampNeg) ≤ x1_4 then (lp_X12_lanes_4 mo_many mheights_a fu_4 x1_4 (x2_4 + 1)) else (lp_X12_lanes_4 mo_many mheights_a fu_4 (mheights_a x2_4.toNatClampNeg) (x2_4 + 1))))
termination_by n => n
def fn_X12_lanes (mo_many : Int32) (mheights_a : Nat → Int32) : Int32 := (pm2 (lp_X12_lanes_4 mo_many mheights_a 10 0 0) (fun x1_4 x2_4 => x1_4))
theorem dX12_lanes_0 : decode cX12_lanes 0 = .ok (.iconst 0, 1) := by decide +kernel
theorem dX12_lanes_1 : decode cX12_lanes 1 = .ok (.istore_n 1, 1) := by decide +kernel
theorem dX12_lanes_2 : decode cX12_lanes 2 = .ok (.iconst 0, 1) := by decide +kernel
theorem dX12_lanes_3 : decode cX12_lanes 3 = .ok (.istore_n 2, 1) := by decide +kernel
theorem dX12_lanes_4 : decode cX12_lanes 4 = .ok (.iload_n 2, 1) := by decide +kernel
theorem dX12_lanes_5 : decode cX12_lanes 5 = .ok (.aload_n 0, 1) := by decide +kernel
theorem dX12_lanes_6 : decode cX12_lanes 6 = .ok (.getfield 121, 3) := by decide +kernel
theorem dX12_lanes_9 : decode cX12_lanes 9 = .ok (.if_icmp .ge 30, 3) := by decide +kernel
theorem dX12_lanes_12 : decode cX12_lanes 12 = .ok (.aload_n 0, 1) := by decide +kernel
theorem dX12_lanes_13 : decode cX12_lanes 13 = .ok (.getfield 19, 3) := by decide +kernel
theorem dX12_lanes_16 : decode cX12_lanes 16 = .ok (.iload_n 2, 1) := by decide +kernel
theorem dX12_lanes_17 : decode cX12_lanes 17 = .ok (.iaload, 1) := by decide +kernel
theorem dX12_lanes_18 : decode cX12_lanes 18 = .ok (.iload_n 1, 1) := by decide +kernel
theorem dX12_lanes_19 : decode cX12_lanes 19 = .ok (.if_icmp .le 12, 3) := by decide +kernel
theorem dX12_lanes_22 : decode cX12_lanes 22 = .ok (.aload_n 0, 1) := by decide +kernel
theorem dX12_lanes_23 : decode cX12_lanes 23 = .ok (.getfield 19, 3) := by decide +kernel
theorem dX12_lanes_26 : decode cX12_lanes 26 = .ok (.iload_n 2, 1) := by decide +kernel
theorem dX12_lanes_27 : decode cX12_lanes 27 = .ok (.iaload, 1) := by decide +kernel
theorem dX12_lanes_28 : decode cX12_lanes 28 = .ok (.goto 4, 3) := by decide +kernel
theorem dX12_lanes_31 : decode cX12_lanes 31 = .ok (.iload_n 1, 1) := by decide +kernel
theorem dX12_lanes_32 : decode cX12_lanes 32 = .ok (.istore_n 1, 1) := by decide +kernel
theorem dX12_lanes_33 : decode cX12_lanes 33 = .ok (.iinc 2 1, 3) := by decide +kernel
theorem dX12_lanes_36 : decode cX12_lanes 36 = .ok (.goto (-32), 3) := by decide +kernel
theorem dX12_lanes_39 : decode cX12_lanes 39 = .ok (.iload_n 1, 1) := by decide +kernel
theorem dX12_lanes_40 : decode cX12_lanes 40 = .ok (.ireturn, 1) := by decide +kernel
set_option maxHeartbeats 4000000 in
set_option maxRecDepth 100000 in
theorem c_X12_lanes (l : Launch) (D : va_G) (cy : ClassId) (mo mpage mkeys mvalues mheights mheats msecondKeys msecondValues msecondHeights msecondHeats msaved mbestHeights msights mby mkeptKeys mkeptValues mkeptHeights mkeptHeats mkeptKeys2 mkeptValues2 mkeptHeights2 mkeptHeats2 mkeptSights : Nat) (mo_pageMany : Int32) (mo_law : Int32) (mo_many : Int32) (mo_asked : Int32) (mo_looksAll : Int32) (mo_changes : Int32) (mo_rowsRead : Int32) (mo_secondMany : Int32) (mo_foundAt : Int32) (mo_foundLooks : Int32) (mo_foundLane : Int32) (mo_bestsDone : Int32) (mo_seenMany : Int32) (mo_seedNow : Int32) (mo_keptRow : Int32) (mo_keptMany : Int32) (mo_keptSecond : Int32) (mo_keptAsked : Int32) (mo_keptLooks : Int32) (mo_keptChanges : Int32) (mo_keptSeen : Int32) (mo_hash : Int64) (mheights_a : Nat → Int32)  (g_0 : 0 ≤ mo_pageMany.toInt ∧ mo_pageMany.toInt ≤ 44) (g_1 : 0 ≤ mo_many.toInt ∧ mo_many.toInt ≤ 8) (g_2 : 0 ≤ mo_secondMany.toInt ∧ mo_secondMany.toInt ≤ 8) (g_3 : (-1) ≤ mo_foundAt.toInt ∧ mo_foundAt.toInt ≤ 7) (g_4 : 0 ≤ mo_seenMany.toInt ∧ mo_seenMany.toInt ≤ 6) (g_5 : 0 ≤ mo_keptMany.toInt ∧ mo_keptMany.toInt ≤ 8) (g_6 : 0 ≤ mo_keptSecond.toInt ∧ mo_keptSecond.toInt ≤ 8) (g_7 : 0 ≤ mo_keptSeen.toInt ∧ mo_keptSeen.toInt ≤ 6) : wk_Ci l yX12_lanes cX12_lanes 3 (some .int) { frames := 0, cells := 0, slots := 0, locals := 0 } D cy [.ref mo] [(mo, .inr (12, [.ref mpage, .int mo_pageMany, .int mo_law, .int mo_many, .int mo_asked, .int mo_looksAll, .int mo_changes, .int mo_rowsRead, .ref mkeys, .ref mvalues, .ref mheights, .ref mheats, .int mo_secondMany, .ref msecondKeys, .ref msecondValues, .ref msecondHeights, .ref msecondHeats, .int mo_foundAt, .int mo_foundLooks, .int mo_foundLane, .int mo_bestsDone, .ref msaved, .ref mbestHeights, .int mo_seenMany, .ref msights, .ref mby, .int mo_seedNow, .int mo_keptRow, .int mo_keptMany, .int mo_keptSecond, .int mo_keptAsked, .int mo_keptLooks, .int mo_keptChanges, .int mo_keptSeen, .ref mkeptKeys, .ref mkeptValues, .ref mkeptHeights, .ref mkeptHeats, .ref mkeptKeys2, .ref mkeptValues2, .ref mkeptHeights2, .ref mkeptHeats2, .ref mkeptSights, .long mo_hash])), (mheights, .inl (cy, 8, .inl mheights_a))] 0 0 (fun (r : Int32) (u : Unit) => r = (fn_X12_lanes mo_many mheights_a)) (fun u => [(mo, .inr (12, [.ref mpage, .int mo_pageMany, .int mo_law, .int mo_many, .int mo_asked, .int mo_looksAll, .int mo_changes, .int mo_rowsRead, .ref mkeys, .ref mvalues, .ref mheights, .ref mheats, .int mo_secondMany, .ref msecondKeys, .ref msecondValues, .ref msecondHeights, .ref msecondHeats, .int mo_foundAt, .int mo_foundLooks, .int mo_foundLane, .int mo_bestsDone, .ref msaved, .ref mbestHeights, .int mo_seenMany, .ref msights, .ref mby, .int mo_seedNow, .int mo_keptRow, .int mo_keptMany, .int mo_keptSecond, .int mo_keptAsked, .int mo_keptLooks, .int mo_keptChanges, .int mo_keptSeen, .ref mkeptKeys, .ref mkeptValues, .ref mkeptHeights, .ref mkeptHeats, .ref mkeptKeys2, .ref mkeptValues2, .ref mkeptHeights2, .ref mkeptHeats2, .ref mkeptSights, .long mo_hash])), (mheights, .inl (cy, 8, .inl mheights_a))]) := by
  refine wk_mk2Ci (by decide) (Nat.le_of_ble_eq_true rfl) ?_
  intro p e s m args below meth c A ls Q B hA hK hP hD hS hl hret
  obtain ⟨hx, hb, hr, hlocks, hml, hown, htb, hin⟩ := B
  have hl : lv_has ls 3 [(0, .ref mo)] := hl
  have hF : (fn_X12_lanes mo_many mheights_a) = (fn_X12_lanes mo_many mheights_a) := rfl
  conv at hF => rhs; unfold fn_X12_lanes
  refine lv_iconst (v := 0) hx hb dX12_lanes_0 (by decide) ?_
  refine lv_istore_n (lv' := [(1, .int 0), (0, .ref mo)]) hx hb dX12_lanes_1 rfl hl (by decide) rfl (fun ls hl => ?_)
  refine lv_iconst (v := 0) hx hb dX12_lanes_2 (by decide) ?_
  refine lv_istore_n (lv' := [(2, .int 0), (1, .int 0), (0, .ref mo)]) hx hb dX12_lanes_3 rfl hl (by decide) rfl (fun ls hl => ?_)
  have hlp_4 : ∀ (fu_4 : Nat) (x1_4 : Int32) (x2_4 : Int32) (H : Heap) (locs : List Loc) (ls : Array Slot), (0 ≤ x2_4.toInt ∧ x2_4.toInt ≤ 8) → 8 - x2_4.toInt < (fu_4 : Int) → ((fn_X12_lanes mo_many mheights_a) = (pm2 (lp_X12_lanes_4 mo_many mheights_a fu_4 x1_4 x2_4) (fun x1_4 x2_4 => x1_4))) → va_P D classes [(mo, .inr (12, [.ref mpage, .int mo_pageMany, .int mo_law, .int mo_many, .int mo_asked, .int mo_looksAll, .int mo_changes, .int mo_rowsRead, .ref mkeys, .ref mvalues, .ref mheights, .ref mheats, .int mo_secondMany, .ref msecondKeys, .ref msecondValues, .ref msecondHeights, .ref msecondHeats, .int mo_foundAt, .int mo_foundLooks, .int mo_foundLane, .int mo_bestsDone, .ref msaved, .ref mbestHeights, .int mo_seenMany, .ref msights, .ref mby, .int mo_seedNow, .int mo_keptRow, .int mo_keptMany, .int mo_keptSecond, .int mo_keptAsked, .int mo_keptLooks, .int mo_keptChanges, .int mo_keptSeen, .ref mkeptKeys, .ref mkeptValues, .ref mkeptHeights, .ref mkeptHeats, .ref mkeptKeys2, .ref mkeptValues2, .ref mkeptHeights2, .ref mkeptHeats2, .ref mkeptSights, .long mo_hash])), (mheights, .inl (cy, 8, .inl mheights_a))] H → va_D A [(mo, .inr (12, [.ref mpage, .int mo_pageMany, .int mo_law, .int mo_many, .int mo_asked, .int mo_looksAll, .int mo_changes, .int mo_rowsRead, .ref mkeys, .ref mvalues, .ref mheights, .ref mheats, .int mo_secondMany, .ref msecondKeys, .ref msecondValues, .ref msecondHeights, .ref msecondHeats, .int mo_foundAt, .int mo_foundLooks, .int mo_foundLane, .int mo_bestsDone, .ref msaved, .ref mbestHeights, .int mo_seenMany, .ref msights, .ref mby, .int mo_seedNow, .int mo_keptRow, .int mo_keptMany, .int mo_keptSecond, .int mo_keptAsked, .int mo_keptLooks, .int mo_keptChanges, .int mo_keptSeen, .ref mkeptKeys, .ref mkeptValues, .ref mkeptHeights, .ref mkeptHeats, .ref mkeptKeys2, .ref mkeptValues2, .ref mkeptHeights2, .ref mkeptHeats2, .ref mkeptSights, .long mo_hash])), (mheights, .inl (cy, 8, .inl mheights_a))] → va_S A s.heap H locs → lv_has ls 3 [(2, .int x2_4), (1, .int x1_4), (0, .ref mo)] → W p l e { frames := 0, cells := 0, slots := 0, locals := 0 } s m args below meth c H locs 0 0 Q (F0 m 4 ls []) := by
    intro fu_4
    induction fu_4 with
    | zero =>
      intro x1_4 x2_4 H locs ls hi_4_0 hm hF hP hD hS hl
      exfalso; omega
    | succ fu_4 ih_4 =>
      intro x1_4 x2_4 H locs ls hi_4_0 hm hF hP hD hS hl
      rw [lp_X12_lanes_4] at hF
      refine lv_iload_n hx hb dX12_lanes_4 rfl (lv_at hl 0 rfl) ?_
      refine lv_aload_n hx hb dX12_lanes_5 rfl (lv_at hl 2 rfl) ?_
      refine va_get (D := D) (ci := 12) (v := .int mo_many) (C := RX12) (T := TX12) (N := 44) hx hb htb inX12 hown hK hP 0 rfl rfl 3 (by decide) (htb _ tw_766) (fun _ h9 => h9) rfl dX12_lanes_6 ?_
      refine lv_icmp_ge (tgt := 39) hx hb dX12_lanes_9 (by decide) (fun c_1 => ?_) (fun c_1 => ?_)
      · have k_1 : mo_many.toInt ≤ x2_4.toInt := wk_le c_1
        replace hF := hF.trans (pm2_p1 c_1)
        rw [pm2_mk x1_4 x2_4] at hF
        refine lv_iload_n hx hb dX12_lanes_39 rfl (lv_at hl 1 rfl) ?_
        refine W.widen (k := 0) (n := 0) (by decide) (by decide) ?_
        exact hret x1_4 () _ _ _ 40 (wk_sub9 (is := [0, 1]) hP rfl) (hD.sub [0, 1] rfl rfl) hS dX12_lanes_40 hF.symm
      · have k_1 : ¬ mo_many.toInt ≤ x2_4.toInt := wk_nle c_1
        replace hF := hF.trans (pm2_n1 c_1)
        refine lv_aload_n hx hb dX12_lanes_12 rfl (lv_at hl 2 rfl) ?_
        refine va_get (D := D) (ci := 12) (v := .ref mheights) (C := RX12) (T := TX12) (N := 44) hx hb htb inX12 hown hK hP 0 rfl rfl 10 (by decide) (htb _ tw_773) (fun _ h9 => h9) rfl dX12_lanes_13 ?_
        refine lv_iload_n hx hb dX12_lanes_16 rfl (lv_at hl 0 rfl) ?_
        refine va_iald hx hb hK hP 1 0 rfl rfl (show vp_in x2_4 8 from vp_in_iff.mpr (show 0 ≤ x2_4.toInt ∧ x2_4.toInt < ((8 : Nat) : Int) from by omega)) dX12_lanes_17 ?_
        refine lv_iload_n hx hb dX12_lanes_18 rfl (lv_at hl 1 rfl) ?_
        refine lv_icmp_le (tgt := 31) hx hb dX12_lanes_19 (by decide) (fun c_2 => ?_) (fun c_2 => ?_)
        · have k_2 : (mheights_a x2_4.toNatClampNeg).toInt ≤ x1_4.toInt := wk_le c_2
          replace hF := hF.trans (pm2_p1 c_2)
          refine lv_iload_n hx hb dX12_lanes_31 rfl (lv_at hl 1 rfl) ?_
          refine lv_istore_n (lv' := [(1, .int x1_4), (2, .int x2_4), (0, .ref mo)]) hx hb dX12_lanes_32 rfl hl (by decide) rfl (fun ls hl => ?_)
          refine lv_iinc (v := (x2_4 + 1)) (lv' := [(2, .int (x2_4 + 1)), (1, .int x1_4), (0, .ref mo)]) hx hb dX12_lanes_33 hl (k := 1) rfl rfl (by decide) rfl (fun ls hl => ?_)
          have k_3 : (x2_4 + 1).toInt = x2_4.toInt + 1 := wk_add x2_4.toInt 1 rfl rfl (by omega) (by omega)
          refine lv_goto (tgt := 4) hx hb dX12_lanes_36 (by decide) ?_
          exact ih_4 x1_4 (x2_4 + 1) _ _ _ (show 0 ≤ (x2_4 + 1).toInt ∧ (x2_4 + 1).toInt ≤ 8 from by omega) (show 8 - (x2_4 + 1).toInt < ((fu_4 : Nat) : Int) from by omega) hF hP hD hS (lv_sub hl [0, 1, 2] rfl)
        · have k_2 : ¬ (mheights_a x2_4.toNatClampNeg).toInt ≤ x1_4.toInt := wk_nle c_2
          replace hF := hF.trans (pm2_n1 c_2)
          refine lv_aload_n hx hb dX12_lanes_22 rfl (lv_at hl 2 rfl) ?_
          refine va_get (D := D) (ci := 12) (v := .ref mheights) (C := RX12) (T := TX12) (N := 44) hx hb htb inX12 hown hK hP 0 rfl rfl 10 (by decide) (htb _ tw_773) (fun _ h9 => h9) rfl dX12_lanes_23 ?_
          refine lv_iload_n hx hb dX12_lanes_26 rfl (lv_at hl 0 rfl) ?_
          refine va_iald hx hb hK hP 1 0 rfl rfl (show vp_in x2_4 8 from vp_in_iff.mpr (show 0 ≤ x2_4.toInt ∧ x2_4.toInt < ((8 : Nat) : Int) from by omega)) dX12_lanes_27 ?_
          refine lv_goto (tgt := 32) hx hb dX12_lanes_28 (by decide) ?_
          refine lv_istore_n (lv' := [(1, .int (mheights_a x2_4.toNatClampNeg)), (2, .int x2_4), (0, .ref mo)]) hx hb dX12_lanes_32 rfl hl (by decide) rfl (fun ls hl => ?_)
          refine lv_iinc (v := (x2_4 + 1)) (lv' := [(2, .int (x2_4 + 1)), (1, .int (mheights_a x2_4.toNatClampNeg)), (0, .ref mo)]) hx hb dX12_lanes_33 hl (k := 1) rfl rfl (by decide) rfl (fun ls hl => ?_)
          have k_4 : (x2_4 + 1).toInt = x2_4.toInt + 1 := wk_add x2_4.toInt 1 rfl rfl (by omega) (by omega)
          refine lv_goto (tgt := 4) hx hb dX12_lanes_36 (by decide) ?_
          exact ih_4 (mheights_a x2_4.toNatClampNeg) (x2_4 + 1) _ _ _ (show 0 ≤ (x2_4 + 1).toInt ∧ (x2_4 + 1).toInt ≤ 8 from by omega) (show 8 - (x2_4 + 1).toInt < ((fu_4 : Nat) : Int) from by omega) hF hP hD hS (lv_sub hl [0, 1, 2] rfl)
  exact hlp_4 10 0 0 _ _ _ (show 0 ≤ 0 ∧ 0 ≤ 8 from by omega) (show 8 - 0 < ((10 : Nat) : Int) from by omega) hF hP hD hS (lv_sub hl [0, 1, 2] rfl)
def lp_X12_nextIn_4 (mo_many : Int32) (mheights_a : Nat → Int32) (a : Int32) (b : Int32) : Nat → Int32 → Int32
  | 0, _ => default
  | fu_4 + 1, x3_4 => (if mo_many ≤ x3_4 then (-1) else (if (mheights_a x3_4.toNatClampNeg) ≤ b then (lp_X12_nextIn_4 mo_many mheights_a a b fu_4 (x3_4 + 1)) else x3_4))
termination_by n => n
def fn_X12_nextIn (mo_many : Int32) (mheights_a : Nat → Int32) (a : Int32) (b : Int32) : Int32 := (lp_X12_nextIn_4 mo_many mheights_a a b 10 (a + 1))
theorem dX12_nextIn_0 : decode cX12_nextIn 0 = .ok (.iload_n 1, 1) := by decide +kernel
theorem dX12_nextIn_1 : decode cX12_nextIn 1 = .ok (.iconst 1, 1) := by decide +kernel
theorem dX12_nextIn_2 : decode cX12_nextIn 2 = .ok (.iadd, 1) := by decide +kernel
theorem dX12_nextIn_3 : decode cX12_nextIn 3 = .ok (.istore_n 3, 1) := by decide +kernel
theorem dX12_nextIn_4 : decode cX12_nextIn 4 = .ok (.iload_n 3, 1) := by decide +kernel
theorem dX12_nextIn_5 : decode cX12_nextIn 5 = .ok (.aload_n 0, 1) := by decide +kernel
theorem dX12_nextIn_6 : decode cX12_nextIn 6 = .ok (.getfield 121, 3) := by decide +kernel
theorem dX12_nextIn_9 : decode cX12_nextIn 9 = .ok (.if_icmp .ge 21, 3) := by decide +kernel
theorem dX12_nextIn_12 : decode cX12_nextIn 12 = .ok (.aload_n 0, 1) := by decide +kernel
theorem dX12_nextIn_13 : decode cX12_nextIn 13 = .ok (.getfield 19, 3) := by decide +kernel
theorem dX12_nextIn_16 : decode cX12_nextIn 16 = .ok (.iload_n 3, 1) := by decide +kernel
theorem dX12_nextIn_17 : decode cX12_nextIn 17 = .ok (.iaload, 1) := by decide +kernel
theorem dX12_nextIn_18 : decode cX12_nextIn 18 = .ok (.iload_n 2, 1) := by decide +kernel
theorem dX12_nextIn_19 : decode cX12_nextIn 19 = .ok (.if_icmp .le 5, 3) := by decide +kernel
theorem dX12_nextIn_22 : decode cX12_nextIn 22 = .ok (.iload_n 3, 1) := by decide +kernel
theorem dX12_nextIn_23 : decode cX12_nextIn 23 = .ok (.ireturn, 1) := by decide +kernel
theorem dX12_nextIn_24 : decode cX12_nextIn 24 = .ok (.iinc 3 1, 3) := by decide +kernel
theorem dX12_nextIn_27 : decode cX12_nextIn 27 = .ok (.goto (-23), 3) := by decide +kernel
theorem dX12_nextIn_30 : decode cX12_nextIn 30 = .ok (.iconst (-1), 1) := by decide +kernel
theorem dX12_nextIn_31 : decode cX12_nextIn 31 = .ok (.ireturn, 1) := by decide +kernel
set_option maxHeartbeats 4000000 in
set_option maxRecDepth 100000 in
theorem c_X12_nextIn (l : Launch) (D : va_G) (cy : ClassId) (mo mpage mkeys mvalues mheights mheats msecondKeys msecondValues msecondHeights msecondHeats msaved mbestHeights msights mby mkeptKeys mkeptValues mkeptHeights mkeptHeats mkeptKeys2 mkeptValues2 mkeptHeights2 mkeptHeats2 mkeptSights : Nat) (mo_pageMany : Int32) (mo_law : Int32) (mo_many : Int32) (mo_asked : Int32) (mo_looksAll : Int32) (mo_changes : Int32) (mo_rowsRead : Int32) (mo_secondMany : Int32) (mo_foundAt : Int32) (mo_foundLooks : Int32) (mo_foundLane : Int32) (mo_bestsDone : Int32) (mo_seenMany : Int32) (mo_seedNow : Int32) (mo_keptRow : Int32) (mo_keptMany : Int32) (mo_keptSecond : Int32) (mo_keptAsked : Int32) (mo_keptLooks : Int32) (mo_keptChanges : Int32) (mo_keptSeen : Int32) (mo_hash : Int64) (mheights_a : Nat → Int32) (a : Int32) (b : Int32) (g_0 : 0 ≤ mo_pageMany.toInt ∧ mo_pageMany.toInt ≤ 44) (g_1 : 0 ≤ mo_many.toInt ∧ mo_many.toInt ≤ 8) (g_2 : 0 ≤ mo_secondMany.toInt ∧ mo_secondMany.toInt ≤ 8) (g_3 : (-1) ≤ mo_foundAt.toInt ∧ mo_foundAt.toInt ≤ 7) (g_4 : 0 ≤ mo_seenMany.toInt ∧ mo_seenMany.toInt ≤ 6) (g_5 : 0 ≤ mo_keptMany.toInt ∧ mo_keptMany.toInt ≤ 8) (g_6 : 0 ≤ mo_keptSecond.toInt ∧ mo_keptSecond.toInt ≤ 8) (g_7 : 0 ≤ mo_keptSeen.toInt ∧ mo_keptSeen.toInt ≤ 6) (g_8 : (-1) ≤ a.toInt ∧ a.toInt ≤ 7) : wk_Ci l yX12_nextIn cX12_nextIn 4 (some .int) { frames := 0, cells := 0, slots := 0, locals := 0 } D cy [.ref mo, .int a, .int b] [(mo, .inr (12, [.ref mpage, .int mo_pageMany, .int mo_law, .int mo_many, .int mo_asked, .int mo_looksAll, .int mo_changes, .int mo_rowsRead, .ref mkeys, .ref mvalues, .ref mheights, .ref mheats, .int mo_secondMany, .ref msecondKeys, .ref msecondValues, .ref msecondHeights, .ref msecondHeats, .int mo_foundAt, .int mo_foundLooks, .int mo_foundLane, .int mo_bestsDone, .ref msaved, .ref mbestHeights, .int mo_seenMany, .ref msights, .ref mby, .int mo_seedNow, .int mo_keptRow, .int mo_keptMany, .int mo_keptSecond, .int mo_keptAsked, .int mo_keptLooks, .int mo_keptChanges, .int mo_keptSeen, .ref mkeptKeys, .ref mkeptValues, .ref mkeptHeights, .ref mkeptHeats, .ref mkeptKeys2, .ref mkeptValues2, .ref mkeptHeights2, .ref mkeptHeats2, .ref mkeptSights, .long mo_hash])), (mheights, .inl (cy, 8, .inl mheights_a))] 0 0 (fun (r : Int32) (u : Unit) => r = (fn_X12_nextIn mo_many mheights_a a b) ∧ ((-1) ≤ r.toInt ∧ r.toInt ≤ 7) ∧ (r.toInt < mo_many.toInt) ∧ (r.toInt = -1 ∨ a.toInt < r.toInt)) (fun u => [(mo, .inr (12, [.ref mpage, .int mo_pageMany, .int mo_law, .int mo_many, .int mo_asked, .int mo_looksAll, .int mo_changes, .int mo_rowsRead, .ref mkeys, .ref mvalues, .ref mheights, .ref mheats, .int mo_secondMany, .ref msecondKeys, .ref msecondValues, .ref msecondHeights, .ref msecondHeats, .int mo_foundAt, .int mo_foundLooks, .int mo_foundLane, .int mo_bestsDone, .ref msaved, .ref mbestHeights, .int mo_seenMany, .ref msights, .ref mby, .int mo_seedNow, .int mo_keptRow, .int mo_keptMany, .int mo_keptSecond, .int mo_keptAsked, .int mo_keptLooks, .int mo_keptChanges, .int mo_keptSeen, .ref mkeptKeys, .ref mkeptValues, .ref mkeptHeights, .ref mkeptHeats, .ref mkeptKeys2, .ref mkeptValues2, .ref mkeptHeights2, .ref mkeptHeats2, .ref mkeptSights, .long mo_hash])), (mheights, .inl (cy, 8, .inl mheights_a))]) := by
  refine wk_mk2Ci (by decide) (Nat.le_of_ble_eq_true rfl) ?_
  intro p e s m args below meth c A ls Q B hA hK hP hD hS hl hret
  obtain ⟨hx, hb, hr, hlocks, hml, hown, htb, hin⟩ := B
  have hl : lv_has ls 4 [(0, .ref mo), (1, .int a), (2, .int b)] := hl
  have hF : (fn_X12_nextIn mo_many mheights_a a b) = (fn_X12_nextIn mo_many mheights_a a b) := rfl
  conv at hF => rhs; unfold fn_X12_nextIn
  refine lv_iload_n hx hb dX12_nextIn_0 rfl (lv_at hl 1 rfl) ?_
  refine lv_iconst (v := 1) hx hb dX12_nextIn_1 (by decide) ?_
  refine lv_iadd hx hb dX12_nextIn_2 ?_
  have k_1 : (a + 1).toInt = a.toInt + 1 := wk_add a.toInt 1 rfl rfl (by omega) (by omega)
  refine lv_istore_n (lv' := [(3, .int (a + 1)), (0, .ref mo), (1, .int a), (2, .int b)]) hx hb dX12_nextIn_3 rfl hl (by decide) rfl (fun ls hl => ?_)
  have hlp_4 : ∀ (fu_4 : Nat) (x3_4 : Int32) (H : Heap) (locs : List Loc) (ls : Array Slot), (0 ≤ x3_4.toInt ∧ x3_4.toInt ≤ 8) → (a.toInt < x3_4.toInt) → 8 - x3_4.toInt < (fu_4 : Int) → ((fn_X12_nextIn mo_many mheights_a a b) = lp_X12_nextIn_4 mo_many mheights_a a b fu_4 x3_4) → va_P D classes [(mo, .inr (12, [.ref mpage, .int mo_pageMany, .int mo_law, .int mo_many, .int mo_asked, .int mo_looksAll, .int mo_changes, .int mo_rowsRead, .ref mkeys, .ref mvalues, .ref mheights, .ref mheats, .int mo_secondMany, .ref msecondKeys, .ref msecondValues, .ref msecondHeights, .ref msecondHeats, .int mo_foundAt, .int mo_foundLooks, .int mo_foundLane, .int mo_bestsDone, .ref msaved, .ref mbestHeights, .int mo_seenMany, .ref msights, .ref mby, .int mo_seedNow, .int mo_keptRow, .int mo_keptMany, .int mo_keptSecond, .int mo_keptAsked, .int mo_keptLooks, .int mo_keptChanges, .int mo_keptSeen, .ref mkeptKeys, .ref mkeptValues, .ref mkeptHeights, .ref mkeptHeats, .ref mkeptKeys2, .ref mkeptValues2, .ref mkeptHeights2, .ref mkeptHeats2, .ref mkeptSights, .long mo_hash])), (mheights, .inl (cy, 8, .inl mheights_a))] H → va_D A [(mo, .inr (12, [.ref mpage, .int mo_pageMany, .int mo_law, .int mo_many, .int mo_asked, .int mo_looksAll, .int mo_changes, .int mo_rowsRead, .ref mkeys, .ref mvalues, .ref mheights, .ref mheats, .int mo_secondMany, .ref msecondKeys, .ref msecondValues, .ref msecondHeights, .ref msecondHeats, .int mo_foundAt, .int mo_foundLooks, .int mo_foundLane, .int mo_bestsDone, .ref msaved, .ref mbestHeights, .int mo_seenMany, .ref msights, .ref mby, .int mo_seedNow, .int mo_keptRow, .int mo_keptMany, .int mo_keptSecond, .int mo_keptAsked, .int mo_keptLooks, .int mo_keptChanges, .int mo_keptSeen, .ref mkeptKeys, .ref mkeptValues, .ref mkeptHeights, .ref mkeptHeats, .ref mkeptKeys2, .ref mkeptValues2, .ref mkeptHeights2, .ref mkeptHeats2, .ref mkeptSights, .long mo_hash])), (mheights, .inl (cy, 8, .inl mheights_a))] → va_S A s.heap H locs → lv_has ls 4 [(3, .int x3_4), (0, .ref mo), (1, .int a), (2, .int b)] → W p l e { frames := 0, cells := 0, slots := 0, locals := 0 } s m args below meth c H locs 0 0 Q (F0 m 4 ls []) := by
    intro fu_4
    induction fu_4 with
    | zero =>
      intro x3_4 H locs ls hi_4_0 hi_4_1 hm hF hP hD hS hl
      exfalso; omega
    | succ fu_4 ih_4 =>
      intro x3_4 H locs ls hi_4_0 hi_4_1 hm hF hP hD hS hl
      rw [lp_X12_nextIn_4] at hF
      refine lv_iload_n hx hb dX12_nextIn_4 rfl (lv_at hl 0 rfl) ?_
      refine lv_aload_n hx hb dX12_nextIn_5 rfl (lv_at hl 1 rfl) ?_
      refine va_get (D := D) (ci := 12) (v := .int mo_many) (C := RX12) (T := TX12) (N := 44) hx hb htb inX12 hown hK hP 0 rfl rfl 3 (by decide) (htb _ tw_766) (fun _ h9 => h9) rfl dX12_nextIn_6 ?_
      refine lv_icmp_ge (tgt := 30) hx hb dX12_nextIn_9 (by decide) (fun c_2 => ?_) (fun c_2 => ?_)
      · have k_2 : mo_many.toInt ≤ x3_4.toInt := wk_le c_2
        replace hF := hF.trans (if_pos c_2)
        refine lv_iconst (v := (-1)) hx hb dX12_nextIn_30 (by decide) ?_
        refine W.widen (k := 0) (n := 0) (by decide) (by decide) ?_
        exact hret (-1) () _ _ _ 31 (wk_sub9 (is := [0, 1]) hP rfl) (hD.sub [0, 1] rfl rfl) hS dX12_nextIn_31 ⟨hF.symm, (show ((-1) ≤ (-1) ∧ (-1) ≤ 7) from by omega), (show ((-1) < mo_many.toInt) from by omega), (show ((-1) = -1 ∨ a.toInt < (-1)) from by omega)⟩
      · have k_2 : ¬ mo_many.toInt ≤ x3_4.toInt := wk_nle c_2
        replace hF := hF.trans (if_neg c_2)
        refine lv_aload_n hx hb dX12_nextIn_12 rfl (lv_at hl 1 rfl) ?_
        refine va_get (D := D) (ci := 12) (v := .ref mheights) (C := RX12) (T := TX12) (N := 44) hx hb htb inX12 hown hK hP 0 rfl rfl 10 (by decide) (htb _ tw_773) (fun _ h9 => h9) rfl dX12_nextIn_13 ?_
        refine lv_iload_n hx hb dX12_nextIn_16 rfl (lv_at hl 0 rfl) ?_
        refine va_iald hx hb hK hP 1 0 rfl rfl (show vp_in x3_4 8 from vp_in_iff.mpr (show 0 ≤ x3_4.toInt ∧ x3_4.toInt < ((8 : Nat) : Int) from by omega)) dX12_nextIn_17 ?_
        refine lv_iload_n hx hb dX12_nextIn_18 rfl (lv_at hl 3 rfl) ?_
        refine lv_icmp_le (tgt := 24) hx hb dX12_nextIn_19 (by decide) (fun c_3 => ?_) (fun c_3 => ?_)
        · have k_3 : (mheights_a x3_4.toNatClampNeg).toInt ≤ b.toInt := wk_le c_3
          replace hF := hF.trans (if_pos c_3)
          refine lv_iinc (v := (x3_4 + 1)) (lv' := [(3, .int (x3_4 + 1)), (0, .ref mo), (1, .int a), (2, .int b)]) hx hb dX12_nextIn_24 hl (k := 0) rfl rfl (by decide) rfl (fun ls hl => ?_)
          have k_4 : (x3_4 + 1).toInt = x3_4.toInt + 1 := wk_add x3_4.toInt 1 rfl rfl (by omega) (by omega)
          refine lv_goto (tgt := 4) hx hb dX12_nextIn_27 (by decide) ?_
          exact ih_4 (x3_4 + 1) _ _ _ (show 0 ≤ (x3_4 + 1).toInt ∧ (x3_4 + 1).toInt ≤ 8 from by omega) (show a.toInt < (x3_4 + 1).toInt from by omega) (show 8 - (x3_4 + 1).toInt < ((fu_4 : Nat) : Int) from by omega) hF hP hD hS (lv_sub hl [0, 1, 2, 3] rfl)
        · have k_3 : ¬ (mheights_a x3_4.toNatClampNeg).toInt ≤ b.toInt := wk_nle c_3
          replace hF := hF.trans (if_neg c_3)
          refine lv_iload_n hx hb dX12_nextIn_22 rfl (lv_at hl 0 rfl) ?_
          refine W.widen (k := 0) (n := 0) (by decide) (by decide) ?_
          exact hret x3_4 () _ _ _ 23 (wk_sub9 (is := [0, 1]) hP rfl) (hD.sub [0, 1] rfl rfl) hS dX12_nextIn_23 ⟨hF.symm, (show ((-1) ≤ x3_4.toInt ∧ x3_4.toInt ≤ 7) from by omega), (show (x3_4.toInt < mo_many.toInt) from by omega), (show (x3_4.toInt = -1 ∨ a.toInt < x3_4.toInt) from by omega)⟩
  exact hlp_4 10 (a + 1) _ _ _ (show 0 ≤ (a + 1).toInt ∧ (a + 1).toInt ≤ 8 from by omega) (show a.toInt < (a + 1).toInt from by omega) (show 8 - (a + 1).toInt < ((10 : Nat) : Int) from by omega) hF hP hD hS (lv_sub hl [0, 1, 2, 3] rfl)
def fn_X12_widthOf (mo_many : Int32) (mheights_a : Nat → Int32) (a : Int32) (b : Int32) : Int32 := (if (fn_X12_nextIn mo_many mheights_a a b) = (-1) then (-1) else ((fn_X12_nextIn mo_many mheights_a a b) - a))
theorem dX12_widthOf_0 : decode cX12_widthOf 0 = .ok (.aload_n 0, 1) := by decide +kernel
theorem dX12_widthOf_1 : decode cX12_widthOf 1 = .ok (.iload_n 1, 1) := by decide +kernel
theorem dX12_widthOf_2 : decode cX12_widthOf 2 = .ok (.iload_n 2, 1) := by decide +kernel
theorem dX12_widthOf_3 : decode cX12_widthOf 3 = .ok (.invokevirtual 155, 3) := by decide +kernel
theorem dX12_widthOf_6 : decode cX12_widthOf 6 = .ok (.istore_n 3, 1) := by decide +kernel
theorem dX12_widthOf_7 : decode cX12_widthOf 7 = .ok (.iload_n 3, 1) := by decide +kernel
theorem dX12_widthOf_8 : decode cX12_widthOf 8 = .ok (.iconst (-1), 1) := by decide +kernel
theorem dX12_widthOf_9 : decode cX12_widthOf 9 = .ok (.if_icmp .ne 7, 3) := by decide +kernel
theorem dX12_widthOf_12 : decode cX12_widthOf 12 = .ok (.iconst (-1), 1) := by decide +kernel
theorem dX12_widthOf_13 : decode cX12_widthOf 13 = .ok (.goto 6, 3) := by decide +kernel
theorem dX12_widthOf_16 : decode cX12_widthOf 16 = .ok (.iload_n 3, 1) := by decide +kernel
theorem dX12_widthOf_17 : decode cX12_widthOf 17 = .ok (.iload_n 1, 1) := by decide +kernel
theorem dX12_widthOf_18 : decode cX12_widthOf 18 = .ok (.isub, 1) := by decide +kernel
theorem dX12_widthOf_19 : decode cX12_widthOf 19 = .ok (.ireturn, 1) := by decide +kernel
set_option maxHeartbeats 4000000 in
set_option maxRecDepth 100000 in
theorem c_X12_widthOf (l : Launch) (D : va_G) (cy : ClassId) (mo mpage mkeys mvalues mheights mheats msecondKeys msecondValues msecondHeights msecondHeats msaved mbestHeights msights mby mkeptKeys mkeptValues mkeptHeights mkeptHeats mkeptKeys2 mkeptValues2 mkeptHeights2 mkeptHeats2 mkeptSights : Nat) (mo_pageMany : Int32) (mo_law : Int32) (mo_many : Int32) (mo_asked : Int32) (mo_looksAll : Int32) (mo_changes : Int32) (mo_rowsRead : Int32) (mo_secondMany : Int32) (mo_foundAt : Int32) (mo_foundLooks : Int32) (mo_foundLane : Int32) (mo_bestsDone : Int32) (mo_seenMany : Int32) (mo_seedNow : Int32) (mo_keptRow : Int32) (mo_keptMany : Int32) (mo_keptSecond : Int32) (mo_keptAsked : Int32) (mo_keptLooks : Int32) (mo_keptChanges : Int32) (mo_keptSeen : Int32) (mo_hash : Int64) (mheights_a : Nat → Int32) (a : Int32) (b : Int32) (g_0 : 0 ≤ mo_pageMany.toInt ∧ mo_pageMany.toInt ≤ 44) (g_1 : 0 ≤ mo_many.toInt ∧ mo_many.toInt ≤ 8) (g_2 : 0 ≤ mo_secondMany.toInt ∧ mo_secondMany.toInt ≤ 8) (g_3 : (-1) ≤ mo_foundAt.toInt ∧ mo_foundAt.toInt ≤ 7) (g_4 : 0 ≤ mo_seenMany.toInt ∧ mo_seenMany.toInt ≤ 6) (g_5 : 0 ≤ mo_keptMany.toInt ∧ mo_keptMany.toInt ≤ 8) (g_6 : 0 ≤ mo_keptSecond.toInt ∧ mo_keptSecond.toInt ≤ 8) (g_7 : 0 ≤ mo_keptSeen.toInt ∧ mo_keptSeen.toInt ≤ 6) (g_8 : (-1) ≤ a.toInt ∧ a.toInt ≤ 7) : wk_Ci l yX12_widthOf cX12_widthOf 4 (some .int) { frames := 1, cells := 0, slots := 0, locals := 23 } D cy [.ref mo, .int a, .int b] [(mo, .inr (12, [.ref mpage, .int mo_pageMany, .int mo_law, .int mo_many, .int mo_asked, .int mo_looksAll, .int mo_changes, .int mo_rowsRead, .ref mkeys, .ref mvalues, .ref mheights, .ref mheats, .int mo_secondMany, .ref msecondKeys, .ref msecondValues, .ref msecondHeights, .ref msecondHeats, .int mo_foundAt, .int mo_foundLooks, .int mo_foundLane, .int mo_bestsDone, .ref msaved, .ref mbestHeights, .int mo_seenMany, .ref msights, .ref mby, .int mo_seedNow, .int mo_keptRow, .int mo_keptMany, .int mo_keptSecond, .int mo_keptAsked, .int mo_keptLooks, .int mo_keptChanges, .int mo_keptSeen, .ref mkeptKeys, .ref mkeptValues, .ref mkeptHeights, .ref mkeptHeats, .ref mkeptKeys2, .ref mkeptValues2, .ref mkeptHeights2, .ref mkeptHeats2, .ref mkeptSights, .long mo_hash])), (mheights, .inl (cy, 8, .inl mheights_a))] 0 0 (fun (r : Int32) (u : Unit) => r = (fn_X12_widthOf mo_many mheights_a a b)) (fun u => [(mo, .inr (12, [.ref mpage, .int mo_pageMany, .int mo_law, .int mo_many, .int mo_asked, .int mo_looksAll, .int mo_changes, .int mo_rowsRead, .ref mkeys, .ref mvalues, .ref mheights, .ref mheats, .int mo_secondMany, .ref msecondKeys, .ref msecondValues, .ref msecondHeights, .ref msecondHeats, .int mo_foundAt, .int mo_foundLooks, .int mo_foundLane, .int mo_bestsDone, .ref msaved, .ref mbestHeights, .int mo_seenMany, .ref msights, .ref mby, .int mo_seedNow, .int mo_keptRow, .int mo_keptMany, .int mo_keptSecond, .int mo_keptAsked, .int mo_keptLooks, .int mo_keptChanges, .int mo_keptSeen, .ref mkeptKeys, .ref mkeptValues, .ref mkeptHeights, .ref mkeptHeats, .ref mkeptKeys2, .ref mkeptValues2, .ref mkeptHeights2, .ref mkeptHeats2, .ref mkeptSights, .long mo_hash])), (mheights, .inl (cy, 8, .inl mheights_a))]) := by
  refine wk_mk2Ci (by decide) (Nat.le_of_ble_eq_true rfl) ?_
  intro p e s m args below meth c A ls Q B hA hK hP hD hS hl hret
  obtain ⟨hx, hb, hr, hlocks, hml, hown, htb, hin⟩ := B
  have hl : lv_has ls 4 [(0, .ref mo), (1, .int a), (2, .int b)] := hl
  have hF : (fn_X12_widthOf mo_many mheights_a a b) = (fn_X12_widthOf mo_many mheights_a a b) := rfl
  conv at hF => rhs; unfold fn_X12_widthOf
  refine lv_aload_n hx hb dX12_widthOf_0 rfl (lv_at hl 0 rfl) ?_
  refine lv_iload_n hx hb dX12_widthOf_1 rfl (lv_at hl 1 rfl) ?_
  refine lv_iload_n hx hb dX12_widthOf_2 rfl (lv_at hl 2 rfl) ?_
  refine wk_iV (As := [.int a, .int b]) (rest := []) (wc := [(mo, .inr (12, [.ref mpage, .int mo_pageMany, .int mo_law, .int mo_many, .int mo_asked, .int mo_looksAll, .int mo_changes, .int mo_rowsRead, .ref mkeys, .ref mvalues, .ref mheights, .ref mheats, .int mo_secondMany, .ref msecondKeys, .ref msecondValues, .ref msecondHeights, .ref msecondHeats, .int mo_foundAt, .int mo_foundLooks, .int mo_foundLane, .int mo_bestsDone, .ref msaved, .ref mbestHeights, .int mo_seenMany, .ref msights, .ref mby, .int mo_seedNow, .int mo_keptRow, .int mo_keptMany, .int mo_keptSecond, .int mo_keptAsked, .int mo_keptLooks, .int mo_keptChanges, .int mo_keptSeen, .ref mkeptKeys, .ref mkeptValues, .ref mkeptHeights, .ref mkeptHeats, .ref mkeptKeys2, .ref mkeptValues2, .ref mkeptHeights2, .ref mkeptHeats2, .ref mkeptSights, .long mo_hash])), (mheights, .inl (cy, 8, .inl mheights_a))]) (wr := []) (n := 2) ⟨hx, hb, hml, hown, htb⟩ (c_X12_nextIn l D cy mo mpage mkeys mvalues mheights mheats msecondKeys msecondValues msecondHeights msecondHeats msaved mbestHeights msights mby mkeptKeys mkeptValues mkeptHeights mkeptHeats mkeptKeys2 mkeptValues2 mkeptHeights2 mkeptHeats2 mkeptSights mo_pageMany mo_law mo_many mo_asked mo_looksAll mo_changes mo_rowsRead mo_secondMany mo_foundAt mo_foundLooks mo_foundLane mo_bestsDone mo_seenMany mo_seedNow mo_keptRow mo_keptMany mo_keptSecond mo_keptAsked mo_keptLooks mo_keptChanges mo_keptSeen mo_hash mheights_a a b (show 0 ≤ mo_pageMany.toInt ∧ mo_pageMany.toInt ≤ 44 from by omega) (show 0 ≤ mo_many.toInt ∧ mo_many.toInt ≤ 8 from by omega) (show 0 ≤ mo_secondMany.toInt ∧ mo_secondMany.toInt ≤ 8 from by omega) (show (-1) ≤ mo_foundAt.toInt ∧ mo_foundAt.toInt ≤ 7 from by omega) (show 0 ≤ mo_seenMany.toInt ∧ mo_seenMany.toInt ≤ 6 from by omega) (show 0 ≤ mo_keptMany.toInt ∧ mo_keptMany.toInt ≤ 8 from by omega) (show 0 ≤ mo_keptSecond.toInt ∧ mo_keptSecond.toInt ≤ 8 from by omega) (show 0 ≤ mo_keptSeen.toInt ∧ mo_keptSeen.toInt ≤ 6 from by omega) (show (-1) ≤ a.toInt ∧ a.toInt ≤ 7 from by omega)) tw_985 tw_982 tw_984 tw_33 tw_71 rfl rfl (by decide +kernel) ⟨Nat.le_of_ble_eq_true rfl, Nat.le_of_ble_eq_true rfl⟩ hK hP hD hS hA [0, 1] [] rfl rfl rfl rfl (by decide) 0 (ci := 12) rfl rfl rfl hl.1 rfl (Nat.le_of_ble_eq_true rfl) dX12_widthOf_3 ⟨Nat.le_of_ble_eq_true rfl, Nat.le_of_ble_eq_true rfl⟩ (fun r_1 u_2 H locs hw_3 hP hD hS => ?_)
  refine W.widen (k := 0) (n := 0) (by decide) (by decide) ?_
  obtain ⟨hw_3, k_4, k_5, k_6⟩ := hw_3
  have hw_3 : r_1 = (fn_X12_nextIn mo_many mheights_a a b) := hw_3
  subst hw_3
  have k_4 : ((-1) ≤ (fn_X12_nextIn mo_many mheights_a a b).toInt ∧ (fn_X12_nextIn mo_many mheights_a a b).toInt ≤ 7) := k_4
  have k_5 : ((fn_X12_nextIn mo_many mheights_a a b).toInt < mo_many.toInt) := k_5
  have k_6 : ((fn_X12_nextIn mo_many mheights_a a b).toInt = -1 ∨ a.toInt < (fn_X12_nextIn mo_many mheights_a a b).toInt) := k_6
  have hP : va_P D classes [(mo, .inr (12, [.ref mpage, .int mo_pageMany, .int mo_law, .int mo_many, .int mo_asked, .int mo_looksAll, .int mo_changes, .int mo_rowsRead, .ref mkeys, .ref mvalues, .ref mheights, .ref mheats, .int mo_secondMany, .ref msecondKeys, .ref msecondValues, .ref msecondHeights, .ref msecondHeats, .int mo_foundAt, .int mo_foundLooks, .int mo_foundLane, .int mo_bestsDone, .ref msaved, .ref mbestHeights, .int mo_seenMany, .ref msights, .ref mby, .int mo_seedNow, .int mo_keptRow, .int mo_keptMany, .int mo_keptSecond, .int mo_keptAsked, .int mo_keptLooks, .int mo_keptChanges, .int mo_keptSeen, .ref mkeptKeys, .ref mkeptValues, .ref mkeptHeights, .ref mkeptHeats, .ref mkeptKeys2, .ref mkeptValues2, .ref mkeptHeights2, .ref mkeptHeats2, .ref mkeptSights, .long mo_hash])), (mheights, .inl (cy, 8, .inl mheights_a))] H := hP
  have hD : va_D A [(mo, .inr (12, [.ref mpage, .int mo_pageMany, .int mo_law, .int mo_many, .int mo_asked, .int mo_looksAll, .int mo_changes, .int mo_rowsRead, .ref mkeys, .ref mvalues, .ref mheights, .ref mheats, .int mo_secondMany, .ref msecondKeys, .ref msecondValues, .ref msecondHeights, .ref msecondHeats, .int mo_foundAt, .int mo_foundLooks, .int mo_foundLane, .int mo_bestsDone, .ref msaved, .ref mbestHeights, .int mo_seenMany, .ref msights, .ref mby, .int mo_seedNow, .int mo_keptRow, .int mo_keptMany, .int mo_keptSecond, .int mo_keptAsked, .int mo_keptLooks, .int mo_keptChanges, .int mo_keptSeen, .ref mkeptKeys, .ref mkeptValues, .ref mkeptHeights, .ref mkeptHeats, .ref mkeptKeys2, .ref mkeptValues2, .ref mkeptHeights2, .ref mkeptHeats2, .ref mkeptSights, .long mo_hash])), (mheights, .inl (cy, 8, .inl mheights_a))] := hD
  refine lv_istore_n (lv' := [(3, .int (fn_X12_nextIn mo_many mheights_a a b)), (0, .ref mo), (1, .int a), (2, .int b)]) hx hb dX12_widthOf_6 rfl hl (by decide) rfl (fun ls hl => ?_)
  refine lv_iload_n hx hb dX12_widthOf_7 rfl (lv_at hl 0 rfl) ?_
  refine lv_iconst (v := (-1)) hx hb dX12_widthOf_8 (by decide) ?_
  refine lv_icmp_ne (tgt := 16) hx hb dX12_widthOf_9 (by decide) (fun c_7 => ?_) (fun c_7 => ?_)
  · have k_7 : ¬ (fn_X12_nextIn mo_many mheights_a a b).toInt = (-1) := wk_neq c_7
    replace hF := hF.trans (if_neg c_7)
    refine lv_iload_n hx hb dX12_widthOf_16 rfl (lv_at hl 0 rfl) ?_
    refine lv_iload_n hx hb dX12_widthOf_17 rfl (lv_at hl 2 rfl) ?_
    refine lv_isub hx hb dX12_widthOf_18 ?_
    have k_8 : ((fn_X12_nextIn mo_many mheights_a a b) - a).toInt = (fn_X12_nextIn mo_many mheights_a a b).toInt - a.toInt := wk_sub (fn_X12_nextIn mo_many mheights_a a b).toInt a.toInt rfl rfl (by omega) (by omega)
    refine W.widen (k := 0) (n := 0) (by decide) (by decide) ?_
    exact hret ((fn_X12_nextIn mo_many mheights_a a b) - a) () _ _ _ 19 (wk_sub9 (is := [0, 1]) hP rfl) (hD.sub [0, 1] rfl rfl) hS dX12_widthOf_19 hF.symm
  · have k_7 : (fn_X12_nextIn mo_many mheights_a a b).toInt = (-1) := wk_eq c_7
    replace hF := hF.trans (if_pos c_7)
    refine lv_iconst (v := (-1)) hx hb dX12_widthOf_12 (by decide) ?_
    refine lv_goto (tgt := 19) hx hb dX12_widthOf_13 (by decide) ?_
    refine W.widen (k := 0) (n := 0) (by decide) (by decide) ?_
    exact hret (-1) () _ _ _ 19 (wk_sub9 (is := [0, 1]) hP rfl) (hD.sub [0, 1] rfl rfl) hS dX12_widthOf_19 hF.symm
def lp_X12_weightOf_15 (mo_many : Int32) (mvalues_a : Nat → Int32) (mheights_a : Nat → Int32) (a : Int32) (b : Int32) : Nat → Int32 → Int32 → Int32 × Int32
  | 0, _, _ => default
  | fu_15 + 1, x4_15, x5_15 => (if (fn_X12_nextIn mo_many mheights_a a b) < x5_15 then (x4_15, x5_15) else (lp_X12_weightOf_15 mo_many mvalues_a mheights_a a b fu_15 (x4_15 + (mvalues_a x5_15.toNatClampNeg)) (x5_15 + 1)))
termination_by n => n
def fn_X12_weightOf (mo_many : Int32) (mvalues_a : Nat → Int32) (mheights_a : Nat → Int32) (a : Int32) (b : Int32) : Int32 := (pm2 (lp_X12_weightOf_15 mo_many mvalues_a mheights_a a b 10 0 (a + 1)) (fun x4_15 x5_15 => (if (fn_X12_nextIn mo_many mheights_a a b) = (-1) then (-1) else x4_15)))
theorem dX12_weightOf_0 : decode cX12_weightOf 0 = .ok (.aload_n 0, 1) := by decide +kernel
theorem dX12_weightOf_1 : decode cX12_weightOf 1 = .ok (.iload_n 1, 1) := by decide +kernel
theorem dX12_weightOf_2 : decode cX12_weightOf 2 = .ok (.iload_n 2, 1) := by decide +kernel
theorem dX12_weightOf_3 : decode cX12_weightOf 3 = .ok (.invokevirtual 155, 3) := by decide +kernel
theorem dX12_weightOf_6 : decode cX12_weightOf 6 = .ok (.istore_n 3, 1) := by decide +kernel
theorem dX12_weightOf_7 : decode cX12_weightOf 7 = .ok (.iconst 0, 1) := by decide +kernel
theorem dX12_weightOf_8 : decode cX12_weightOf 8 = .ok (.istore 4, 2) := by decide +kernel
theorem dX12_weightOf_10 : decode cX12_weightOf 10 = .ok (.iload_n 1, 1) := by decide +kernel
theorem dX12_weightOf_11 : decode cX12_weightOf 11 = .ok (.iconst 1, 1) := by decide +kernel
theorem dX12_weightOf_12 : decode cX12_weightOf 12 = .ok (.iadd, 1) := by decide +kernel
theorem dX12_weightOf_13 : decode cX12_weightOf 13 = .ok (.istore 5, 2) := by decide +kernel
theorem dX12_weightOf_15 : decode cX12_weightOf 15 = .ok (.iload 5, 2) := by decide +kernel
theorem dX12_weightOf_17 : decode cX12_weightOf 17 = .ok (.iload_n 3, 1) := by decide +kernel
theorem dX12_weightOf_18 : decode cX12_weightOf 18 = .ok (.if_icmp .gt 21, 3) := by decide +kernel
theorem dX12_weightOf_21 : decode cX12_weightOf 21 = .ok (.iload 4, 2) := by decide +kernel
theorem dX12_weightOf_23 : decode cX12_weightOf 23 = .ok (.aload_n 0, 1) := by decide +kernel
theorem dX12_weightOf_24 : decode cX12_weightOf 24 = .ok (.getfield 16, 3) := by decide +kernel
theorem dX12_weightOf_27 : decode cX12_weightOf 27 = .ok (.iload 5, 2) := by decide +kernel
theorem dX12_weightOf_29 : decode cX12_weightOf 29 = .ok (.iaload, 1) := by decide +kernel
theorem dX12_weightOf_30 : decode cX12_weightOf 30 = .ok (.iadd, 1) := by decide +kernel
theorem dX12_weightOf_31 : decode cX12_weightOf 31 = .ok (.istore 4, 2) := by decide +kernel
theorem dX12_weightOf_33 : decode cX12_weightOf 33 = .ok (.iinc 5 1, 3) := by decide +kernel
theorem dX12_weightOf_36 : decode cX12_weightOf 36 = .ok (.goto (-21), 3) := by decide +kernel
theorem dX12_weightOf_39 : decode cX12_weightOf 39 = .ok (.iload_n 3, 1) := by decide +kernel
theorem dX12_weightOf_40 : decode cX12_weightOf 40 = .ok (.iconst (-1), 1) := by decide +kernel
theorem dX12_weightOf_41 : decode cX12_weightOf 41 = .ok (.if_icmp .ne 7, 3) := by decide +kernel
theorem dX12_weightOf_44 : decode cX12_weightOf 44 = .ok (.iconst (-1), 1) := by decide +kernel
theorem dX12_weightOf_45 : decode cX12_weightOf 45 = .ok (.goto 5, 3) := by decide +kernel
theorem dX12_weightOf_48 : decode cX12_weightOf 48 = .ok (.iload 4, 2) := by decide +kernel
theorem dX12_weightOf_50 : decode cX12_weightOf 50 = .ok (.ireturn, 1) := by decide +kernel
set_option maxHeartbeats 4000000 in
set_option maxRecDepth 100000 in
theorem c_X12_weightOf (l : Launch) (D : va_G) (cy : ClassId) (mo mpage mkeys mvalues mheights mheats msecondKeys msecondValues msecondHeights msecondHeats msaved mbestHeights msights mby mkeptKeys mkeptValues mkeptHeights mkeptHeats mkeptKeys2 mkeptValues2 mkeptHeights2 mkeptHeats2 mkeptSights : Nat) (mo_pageMany : Int32) (mo_law : Int32) (mo_many : Int32) (mo_asked : Int32) (mo_looksAll : Int32) (mo_changes : Int32) (mo_rowsRead : Int32) (mo_secondMany : Int32) (mo_foundAt : Int32) (mo_foundLooks : Int32) (mo_foundLane : Int32) (mo_bestsDone : Int32) (mo_seenMany : Int32) (mo_seedNow : Int32) (mo_keptRow : Int32) (mo_keptMany : Int32) (mo_keptSecond : Int32) (mo_keptAsked : Int32) (mo_keptLooks : Int32) (mo_keptChanges : Int32) (mo_keptSeen : Int32) (mo_hash : Int64) (mvalues_a : Nat → Int32) (mheights_a : Nat → Int32) (a : Int32) (b : Int32) (g_0 : 0 ≤ mo_pageMany.toInt ∧ mo_pageMany.toInt ≤ 44) (g_1 : 0 ≤ mo_many.toInt ∧ mo_many.toInt ≤ 8) (g_2 : 0 ≤ mo_secondMany.toInt ∧ mo_secondMany.toInt ≤ 8) (g_3 : (-1) ≤ mo_foundAt.toInt ∧ mo_foundAt.toInt ≤ 7) (g_4 : 0 ≤ mo_seenMany.toInt ∧ mo_seenMany.toInt ≤ 6) (g_5 : 0 ≤ mo_keptMany.toInt ∧ mo_keptMany.toInt ≤ 8) (g_6 : 0 ≤ mo_keptSecond.toInt ∧ mo_keptSecond.toInt ≤ 8) (g_7 : 0 ≤ mo_keptSeen.toInt ∧ mo_keptSeen.toInt ≤ 6) (g_8 : (-1) ≤ a.toInt ∧ a.toInt ≤ 7) : wk_Ci l yX12_weightOf cX12_weightOf 6 (some .int) { frames := 1, cells := 0, slots := 0, locals := 23 } D cy [.ref mo, .int a, .int b] [(mo, .inr (12, [.ref mpage, .int mo_pageMany, .int mo_law, .int mo_many, .int mo_asked, .int mo_looksAll, .int mo_changes, .int mo_rowsRead, .ref mkeys, .ref mvalues, .ref mheights, .ref mheats, .int mo_secondMany, .ref msecondKeys, .ref msecondValues, .ref msecondHeights, .ref msecondHeats, .int mo_foundAt, .int mo_foundLooks, .int mo_foundLane, .int mo_bestsDone, .ref msaved, .ref mbestHeights, .int mo_seenMany, .ref msights, .ref mby, .int mo_seedNow, .int mo_keptRow, .int mo_keptMany, .int mo_keptSecond, .int mo_keptAsked, .int mo_keptLooks, .int mo_keptChanges, .int mo_keptSeen, .ref mkeptKeys, .ref mkeptValues, .ref mkeptHeights, .ref mkeptHeats, .ref mkeptKeys2, .ref mkeptValues2, .ref mkeptHeights2, .ref mkeptHeats2, .ref mkeptSights, .long mo_hash])), (mvalues, .inl (cy, 8, .inl mvalues_a)), (mheights, .inl (cy, 8, .inl mheights_a))] 0 0 (fun (r : Int32) (u : Unit) => r = (fn_X12_weightOf mo_many mvalues_a mheights_a a b)) (fun u => [(mo, .inr (12, [.ref mpage, .int mo_pageMany, .int mo_law, .int mo_many, .int mo_asked, .int mo_looksAll, .int mo_changes, .int mo_rowsRead, .ref mkeys, .ref mvalues, .ref mheights, .ref mheats, .int mo_secondMany, .ref msecondKeys, .ref msecondValues, .ref msecondHeights, .ref msecondHeats, .int mo_foundAt, .int mo_foundLooks, .int mo_foundLane, .int mo_bestsDone, .ref msaved, .ref mbestHeights, .int mo_seenMany, .ref msights, .ref mby, .int mo_seedNow, .int mo_keptRow, .int mo_keptMany, .int mo_keptSecond, .int mo_keptAsked, .int mo_keptLooks, .int mo_keptChanges, .int mo_keptSeen, .ref mkeptKeys, .ref mkeptValues, .ref mkeptHeights, .ref mkeptHeats, .ref mkeptKeys2, .ref mkeptValues2, .ref mkeptHeights2, .ref mkeptHeats2, .ref mkeptSights, .long mo_hash])), (mvalues, .inl (cy, 8, .inl mvalues_a)), (mheights, .inl (cy, 8, .inl mheights_a))]) := by
  refine wk_mk2Ci (by decide) (Nat.le_of_ble_eq_true rfl) ?_
  intro p e s m args below meth c A ls Q B hA hK hP hD hS hl hret
  obtain ⟨hx, hb, hr, hlocks, hml, hown, htb, hin⟩ := B
  have hl : lv_has ls 6 [(0, .ref mo), (1, .int a), (2, .int b)] := hl
  have hF : (fn_X12_weightOf mo_many mvalues_a mheights_a a b) = (fn_X12_weightOf mo_many mvalues_a mheights_a a b) := rfl
  conv at hF => rhs; unfold fn_X12_weightOf
  refine lv_aload_n hx hb dX12_weightOf_0 rfl (lv_at hl 0 rfl) ?_
  refine lv_iload_n hx hb dX12_weightOf_1 rfl (lv_at hl 1 rfl) ?_
  refine lv_iload_n hx hb dX12_weightOf_2 rfl (lv_at hl 2 rfl) ?_
  refine wk_iV (As := [.int a, .int b]) (rest := []) (wc := [(mo, .inr (12, [.ref mpage, .int mo_pageMany, .int mo_law, .int mo_many, .int mo_asked, .int mo_looksAll, .int mo_changes, .int mo_rowsRead, .ref mkeys, .ref mvalues, .ref mheights, .ref mheats, .int mo_secondMany, .ref msecondKeys, .ref msecondValues, .ref msecondHeights, .ref msecondHeats, .int mo_foundAt, .int mo_foundLooks, .int mo_foundLane, .int mo_bestsDone, .ref msaved, .ref mbestHeights, .int mo_seenMany, .ref msights, .ref mby, .int mo_seedNow, .int mo_keptRow, .int mo_keptMany, .int mo_keptSecond, .int mo_keptAsked, .int mo_keptLooks, .int mo_keptChanges, .int mo_keptSeen, .ref mkeptKeys, .ref mkeptValues, .ref mkeptHeights, .ref mkeptHeats, .ref mkeptKeys2, .ref mkeptValues2, .ref mkeptHeights2, .ref mkeptHeats2, .ref mkeptSights, .long mo_hash])), (mheights, .inl (cy, 8, .inl mheights_a))]) (wr := [(mvalues, .inl (cy, 8, .inl mvalues_a))]) (n := 2) ⟨hx, hb, hml, hown, htb⟩ (c_X12_nextIn l D cy mo mpage mkeys mvalues mheights mheats msecondKeys msecondValues msecondHeights msecondHeats msaved mbestHeights msights mby mkeptKeys mkeptValues mkeptHeights mkeptHeats mkeptKeys2 mkeptValues2 mkeptHeights2 mkeptHeats2 mkeptSights mo_pageMany mo_law mo_many mo_asked mo_looksAll mo_changes mo_rowsRead mo_secondMany mo_foundAt mo_foundLooks mo_foundLane mo_bestsDone mo_seenMany mo_seedNow mo_keptRow mo_keptMany mo_keptSecond mo_keptAsked mo_keptLooks mo_keptChanges mo_keptSeen mo_hash mheights_a a b (show 0 ≤ mo_pageMany.toInt ∧ mo_pageMany.toInt ≤ 44 from by omega) (show 0 ≤ mo_many.toInt ∧ mo_many.toInt ≤ 8 from by omega) (show 0 ≤ mo_secondMany.toInt ∧ mo_secondMany.toInt ≤ 8 from by omega) (show (-1) ≤ mo_foundAt.toInt ∧ mo_foundAt.toInt ≤ 7 from by omega) (show 0 ≤ mo_seenMany.toInt ∧ mo_seenMany.toInt ≤ 6 from by omega) (show 0 ≤ mo_keptMany.toInt ∧ mo_keptMany.toInt ≤ 8 from by omega) (show 0 ≤ mo_keptSecond.toInt ∧ mo_keptSecond.toInt ≤ 8 from by omega) (show 0 ≤ mo_keptSeen.toInt ∧ mo_keptSeen.toInt ≤ 6 from by omega) (show (-1) ≤ a.toInt ∧ a.toInt ≤ 7 from by omega)) tw_985 tw_982 tw_984 tw_33 tw_71 rfl rfl (by decide +kernel) ⟨Nat.le_of_ble_eq_true rfl, Nat.le_of_ble_eq_true rfl⟩ hK hP hD hS hA [0, 2] [1] rfl rfl rfl rfl (by decide) 0 (ci := 12) rfl rfl rfl hl.1 rfl (Nat.le_of_ble_eq_true rfl) dX12_weightOf_3 ⟨Nat.le_of_ble_eq_true rfl, Nat.le_of_ble_eq_true rfl⟩ (fun r_1 u_2 H locs hw_3 hP hD hS => ?_)
  refine W.widen (k := 0) (n := 0) (by decide) (by decide) ?_
  obtain ⟨hw_3, k_4, k_5, k_6⟩ := hw_3
  have hw_3 : r_1 = (fn_X12_nextIn mo_many mheights_a a b) := hw_3
  subst hw_3
  have k_4 : ((-1) ≤ (fn_X12_nextIn mo_many mheights_a a b).toInt ∧ (fn_X12_nextIn mo_many mheights_a a b).toInt ≤ 7) := k_4
  have k_5 : ((fn_X12_nextIn mo_many mheights_a a b).toInt < mo_many.toInt) := k_5
  have k_6 : ((fn_X12_nextIn mo_many mheights_a a b).toInt = -1 ∨ a.toInt < (fn_X12_nextIn mo_many mheights_a a b).toInt) := k_6
  have hP : va_P D classes [(mvalues, .inl (cy, 8, .inl mvalues_a)), (mo, .inr (12, [.ref mpage, .int mo_pageMany, .int mo_law, .int mo_many, .int mo_asked, .int mo_looksAll, .int mo_changes, .int mo_rowsRead, .ref mkeys, .ref mvalues, .ref mheights, .ref mheats, .int mo_secondMany, .ref msecondKeys, .ref msecondValues, .ref msecondHeights, .ref msecondHeats, .int mo_foundAt, .int mo_foundLooks, .int mo_foundLane, .int mo_bestsDone, .ref msaved, .ref mbestHeights, .int mo_seenMany, .ref msights, .ref mby, .int mo_seedNow, .int mo_keptRow, .int mo_keptMany, .int mo_keptSecond, .int mo_keptAsked, .int mo_keptLooks, .int mo_keptChanges, .int mo_keptSeen, .ref mkeptKeys, .ref mkeptValues, .ref mkeptHeights, .ref mkeptHeats, .ref mkeptKeys2, .ref mkeptValues2, .ref mkeptHeights2, .ref mkeptHeats2, .ref mkeptSights, .long mo_hash])), (mheights, .inl (cy, 8, .inl mheights_a))] H := hP
  have hD : va_D A [(mvalues, .inl (cy, 8, .inl mvalues_a)), (mo, .inr (12, [.ref mpage, .int mo_pageMany, .int mo_law, .int mo_many, .int mo_asked, .int mo_looksAll, .int mo_changes, .int mo_rowsRead, .ref mkeys, .ref mvalues, .ref mheights, .ref mheats, .int mo_secondMany, .ref msecondKeys, .ref msecondValues, .ref msecondHeights, .ref msecondHeats, .int mo_foundAt, .int mo_foundLooks, .int mo_foundLane, .int mo_bestsDone, .ref msaved, .ref mbestHeights, .int mo_seenMany, .ref msights, .ref mby, .int mo_seedNow, .int mo_keptRow, .int mo_keptMany, .int mo_keptSecond, .int mo_keptAsked, .int mo_keptLooks, .int mo_keptChanges, .int mo_keptSeen, .ref mkeptKeys, .ref mkeptValues, .ref mkeptHeights, .ref mkeptHeats, .ref mkeptKeys2, .ref mkeptValues2, .ref mkeptHeights2, .ref mkeptHeats2, .ref mkeptSights, .long mo_hash])), (mheights, .inl (cy, 8, .inl mheights_a))] := hD
  refine lv_istore_n (lv' := [(3, .int (fn_X12_nextIn mo_many mheights_a a b)), (0, .ref mo), (1, .int a), (2, .int b)]) hx hb dX12_weightOf_6 rfl hl (by decide) rfl (fun ls hl => ?_)
  refine lv_iconst (v := 0) hx hb dX12_weightOf_7 (by decide) ?_
  refine lv_istore (lv' := [(4, .int 0), (3, .int (fn_X12_nextIn mo_many mheights_a a b)), (0, .ref mo), (1, .int a), (2, .int b)]) hx hb dX12_weightOf_8 hl (by decide) rfl (fun ls hl => ?_)
  refine lv_iload_n hx hb dX12_weightOf_10 rfl (lv_at hl 3 rfl) ?_
  refine lv_iconst (v := 1) hx hb dX12_weightOf_11 (by decide) ?_
  refine lv_iadd hx hb dX12_weightOf_12 ?_
  have k_7 : (a + 1).toInt = a.toInt + 1 := wk_add a.toInt 1 rfl rfl (by omega) (by omega)
  refine lv_istore (lv' := [(5, .int (a + 1)), (4, .int 0), (3, .int (fn_X12_nextIn mo_many mheights_a a b)), (0, .ref mo), (1, .int a), (2, .int b)]) hx hb dX12_weightOf_13 hl (by decide) rfl (fun ls hl => ?_)
  have hlp_15 : ∀ (fu_15 : Nat) (x4_15 : Int32) (x5_15 : Int32) (H : Heap) (locs : List Loc) (ls : Array Slot), (0 ≤ x5_15.toInt ∧ x5_15.toInt ≤ 8) → 8 - x5_15.toInt < (fu_15 : Int) → ((fn_X12_weightOf mo_many mvalues_a mheights_a a b) = (pm2 (lp_X12_weightOf_15 mo_many mvalues_a mheights_a a b fu_15 x4_15 x5_15) (fun x4_15 x5_15 => (if (fn_X12_nextIn mo_many mheights_a a b) = (-1) then (-1) else x4_15)))) → va_P D classes [(mvalues, .inl (cy, 8, .inl mvalues_a)), (mo, .inr (12, [.ref mpage, .int mo_pageMany, .int mo_law, .int mo_many, .int mo_asked, .int mo_looksAll, .int mo_changes, .int mo_rowsRead, .ref mkeys, .ref mvalues, .ref mheights, .ref mheats, .int mo_secondMany, .ref msecondKeys, .ref msecondValues, .ref msecondHeights, .ref msecondHeats, .int mo_foundAt, .int mo_foundLooks, .int mo_foundLane, .int mo_bestsDone, .ref msaved, .ref mbestHeights, .int mo_seenMany, .ref msights, .ref mby, .int mo_seedNow, .int mo_keptRow, .int mo_keptMany, .int mo_keptSecond, .int mo_keptAsked, .int mo_keptLooks, .int mo_keptChanges, .int mo_keptSeen, .ref mkeptKeys, .ref mkeptValues, .ref mkeptHeights, .ref mkeptHeats, .ref mkeptKeys2, .ref mkeptValues2, .ref mkeptHeights2, .ref mkeptHeats2, .ref mkeptSights, .long mo_hash])), (mheights, .inl (cy, 8, .inl mheights_a))] H → va_D A [(mvalues, .inl (cy, 8, .inl mvalues_a)), (mo, .inr (12, [.ref mpage, .int mo_pageMany, .int mo_law, .int mo_many, .int mo_asked, .int mo_looksAll, .int mo_changes, .int mo_rowsRead, .ref mkeys, .ref mvalues, .ref mheights, .ref mheats, .int mo_secondMany, .ref msecondKeys, .ref msecondValues, .ref msecondHeights, .ref msecondHeats, .int mo_foundAt, .int mo_foundLooks, .int mo_foundLane, .int mo_bestsDone, .ref msaved, .ref mbestHeights, .int mo_seenMany, .ref msights, .ref mby, .int mo_seedNow, .int mo_keptRow, .int mo_keptMany, .int mo_keptSecond, .int mo_keptAsked, .int mo_keptLooks, .int mo_keptChanges, .int mo_keptSeen, .ref mkeptKeys, .ref mkeptValues, .ref mkeptHeights, .ref mkeptHeats, .ref mkeptKeys2, .ref mkeptValues2, .ref mkeptHeights2, .ref mkeptHeats2, .ref mkeptSights, .long mo_hash])), (mheights, .inl (cy, 8, .inl mheights_a))] → va_S A s.heap H locs → lv_has ls 6 [(5, .int x5_15), (4, .int x4_15), (3, .int (fn_X12_nextIn mo_many mheights_a a b)), (0, .ref mo), (1, .int a), (2, .int b)] → W p l e { frames := 1, cells := 0, slots := 0, locals := 23 } s m args below meth c H locs 0 0 Q (F0 m 15 ls []) := by
    intro fu_15
    induction fu_15 with
    | zero =>
      intro x4_15 x5_15 H locs ls hi_15_0 hm hF hP hD hS hl
      exfalso; omega
    | succ fu_15 ih_15 =>
      intro x4_15 x5_15 H locs ls hi_15_0 hm hF hP hD hS hl
      rw [lp_X12_weightOf_15] at hF
      refine lv_iload hx hb dX12_weightOf_15 (lv_at hl 0 rfl) ?_
      refine lv_iload_n hx hb dX12_weightOf_17 rfl (lv_at hl 2 rfl) ?_
      refine lv_icmp_gt (tgt := 39) hx hb dX12_weightOf_18 (by decide) (fun c_8 => ?_) (fun c_8 => ?_)
      · have k_8 : (fn_X12_nextIn mo_many mheights_a a b).toInt < x5_15.toInt := wk_lt c_8
        replace hF := hF.trans (pm2_p1 c_8)
        rw [pm2_mk x4_15 x5_15] at hF
        refine lv_iload_n hx hb dX12_weightOf_39 rfl (lv_at hl 2 rfl) ?_
        refine lv_iconst (v := (-1)) hx hb dX12_weightOf_40 (by decide) ?_
        refine lv_icmp_ne (tgt := 48) hx hb dX12_weightOf_41 (by decide) (fun c_9 => ?_) (fun c_9 => ?_)
        · have k_9 : ¬ (fn_X12_nextIn mo_many mheights_a a b).toInt = (-1) := wk_neq c_9
          replace hF := hF.trans (if_neg c_9)
          refine lv_iload hx hb dX12_weightOf_48 (lv_at hl 1 rfl) ?_
          refine W.widen (k := 0) (n := 0) (by decide) (by decide) ?_
          exact hret x4_15 () _ _ _ 50 (wk_sub9 (is := [1, 0, 2]) hP rfl) (hD.sub [1, 0, 2] rfl rfl) hS dX12_weightOf_50 hF.symm
        · have k_9 : (fn_X12_nextIn mo_many mheights_a a b).toInt = (-1) := wk_eq c_9
          replace hF := hF.trans (if_pos c_9)
          refine lv_iconst (v := (-1)) hx hb dX12_weightOf_44 (by decide) ?_
          refine lv_goto (tgt := 50) hx hb dX12_weightOf_45 (by decide) ?_
          refine W.widen (k := 0) (n := 0) (by decide) (by decide) ?_
          exact hret (-1) () _ _ _ 50 (wk_sub9 (is := [1, 0, 2]) hP rfl) (hD.sub [1, 0, 2] rfl rfl) hS dX12_weightOf_50 hF.symm
      · have k_8 : ¬ (fn_X12_nextIn mo_many mheights_a a b).toInt < x5_15.toInt := wk_nlt c_8
        replace hF := hF.trans (pm2_n1 c_8)
        refine lv_iload hx hb dX12_weightOf_21 (lv_at hl 1 rfl) ?_
        refine lv_aload_n hx hb dX12_weightOf_23 rfl (lv_at hl 3 rfl) ?_
        refine va_get (D := D) (ci := 12) (v := .ref mvalues) (C := RX12) (T := TX12) (N := 44) hx hb htb inX12 hown hK hP 1 rfl rfl 9 (by decide) (htb _ tw_772) (fun _ h9 => h9) rfl dX12_weightOf_24 ?_
        refine lv_iload hx hb dX12_weightOf_27 (lv_at hl 0 rfl) ?_
        refine va_iald hx hb hK hP 0 0 rfl rfl (show vp_in x5_15 8 from vp_in_iff.mpr (show 0 ≤ x5_15.toInt ∧ x5_15.toInt < ((8 : Nat) : Int) from by omega)) dX12_weightOf_29 ?_
        refine lv_iadd hx hb dX12_weightOf_30 ?_
        refine lv_istore (lv' := [(4, .int (x4_15 + (mvalues_a x5_15.toNatClampNeg))), (5, .int x5_15), (3, .int (fn_X12_nextIn mo_many mheights_a a b)), (0, .ref mo), (1, .int a), (2, .int b)]) hx hb dX12_weightOf_31 hl (by decide) rfl (fun ls hl => ?_)
        refine lv_iinc (v := (x5_15 + 1)) (lv' := [(5, .int (x5_15 + 1)), (4, .int (x4_15 + (mvalues_a x5_15.toNatClampNeg))), (3, .int (fn_X12_nextIn mo_many mheights_a a b)), (0, .ref mo), (1, .int a), (2, .int b)]) hx hb dX12_weightOf_33 hl (k := 1) rfl rfl (by decide) rfl (fun ls hl => ?_)
        have k_10 : (x5_15 + 1).toInt = x5_15.toInt + 1 := wk_add x5_15.toInt 1 rfl rfl (by omega) (by omega)
        refine lv_goto (tgt := 15) hx hb dX12_weightOf_36 (by decide) ?_
        exact ih_15 (x4_15 + (mvalues_a x5_15.toNatClampNeg)) (x5_15 + 1) _ _ _ (show 0 ≤ (x5_15 + 1).toInt ∧ (x5_15 + 1).toInt ≤ 8 from by omega) (show 8 - (x5_15 + 1).toInt < ((fu_15 : Nat) : Int) from by omega) hF hP hD hS (lv_sub hl [0, 1, 2, 3, 4, 5] rfl)
  exact hlp_15 10 0 (a + 1) _ _ _ (show 0 ≤ (a + 1).toInt ∧ (a + 1).toInt ≤ 8 from by omega) (show 8 - (a + 1).toInt < ((10 : Nat) : Int) from by omega) hF hP hD hS (lv_sub hl [0, 1, 2, 3, 4, 5] rfl)
def lp_X12_inLane_4 (mo_many : Int32) (mheights_a : Nat → Int32) (a : Int32) : Nat → Int32 → Int32 → Int32 × Int32
  | 0, _, _ => default
  | fu_4 + 1, x2_4, x3_4 => (if mo_many ≤ x3_4 then (x2_4, x3_4) else (if (mheights_a x3_4.toNatClampNeg) ≤ a then (lp_X12_inLane_4 mo_many mheights_a a fu_4 (x2_4 + 0) (x3_4 + 1)) else (lp_X12_inLane_4 mo_many mheights_a a fu_4 (x2_4 + 1) (x3_4 + 1))))
termination_by n => n
def fn_X12_inLane (mo_many : Int32) (mheights_a : Nat → Int32) (a : Int32) : Int32 := (pm2 (lp_X12_inLane_4 mo_many mheights_a a 10 0 0) (fun x2_4 x3_4 => x2_4))
theorem dX12_inLane_0 : decode cX12_inLane 0 = .ok (.iconst 0, 1) := by decide +kernel
theorem dX12_inLane_1 : decode cX12_inLane 1 = .ok (.istore_n 2, 1) := by decide +kernel
theorem dX12_inLane_2 : decode cX12_inLane 2 = .ok (.iconst 0, 1) := by decide +kernel
theorem dX12_inLane_3 : decode cX12_inLane 3 = .ok (.istore_n 3, 1) := by decide +kernel
theorem dX12_inLane_4 : decode cX12_inLane 4 = .ok (.iload_n 3, 1) := by decide +kernel
theorem dX12_inLane_5 : decode cX12_inLane 5 = .ok (.aload_n 0, 1) := by decide +kernel
theorem dX12_inLane_6 : decode cX12_inLane 6 = .ok (.getfield 121, 3) := by decide +kernel
theorem dX12_inLane_9 : decode cX12_inLane 9 = .ok (.if_icmp .ge 27, 3) := by decide +kernel
theorem dX12_inLane_12 : decode cX12_inLane 12 = .ok (.iload_n 2, 1) := by decide +kernel
theorem dX12_inLane_13 : decode cX12_inLane 13 = .ok (.aload_n 0, 1) := by decide +kernel
theorem dX12_inLane_14 : decode cX12_inLane 14 = .ok (.getfield 19, 3) := by decide +kernel
theorem dX12_inLane_17 : decode cX12_inLane 17 = .ok (.iload_n 3, 1) := by decide +kernel
theorem dX12_inLane_18 : decode cX12_inLane 18 = .ok (.iaload, 1) := by decide +kernel
theorem dX12_inLane_19 : decode cX12_inLane 19 = .ok (.iload_n 1, 1) := by decide +kernel
theorem dX12_inLane_20 : decode cX12_inLane 20 = .ok (.if_icmp .le 7, 3) := by decide +kernel
theorem dX12_inLane_23 : decode cX12_inLane 23 = .ok (.iconst 1, 1) := by decide +kernel
theorem dX12_inLane_24 : decode cX12_inLane 24 = .ok (.goto 4, 3) := by decide +kernel
theorem dX12_inLane_27 : decode cX12_inLane 27 = .ok (.iconst 0, 1) := by decide +kernel
theorem dX12_inLane_28 : decode cX12_inLane 28 = .ok (.iadd, 1) := by decide +kernel
theorem dX12_inLane_29 : decode cX12_inLane 29 = .ok (.istore_n 2, 1) := by decide +kernel
theorem dX12_inLane_30 : decode cX12_inLane 30 = .ok (.iinc 3 1, 3) := by decide +kernel
theorem dX12_inLane_33 : decode cX12_inLane 33 = .ok (.goto (-29), 3) := by decide +kernel
theorem dX12_inLane_36 : decode cX12_inLane 36 = .ok (.iload_n 2, 1) := by decide +kernel
theorem dX12_inLane_37 : decode cX12_inLane 37 = .ok (.ireturn, 1) := by decide +kernel
set_option maxHeartbeats 4000000 in
set_option maxRecDepth 100000 in
theorem c_X12_inLane (l : Launch) (D : va_G) (cy : ClassId) (mo mpage mkeys mvalues mheights mheats msecondKeys msecondValues msecondHeights msecondHeats msaved mbestHeights msights mby mkeptKeys mkeptValues mkeptHeights mkeptHeats mkeptKeys2 mkeptValues2 mkeptHeights2 mkeptHeats2 mkeptSights : Nat) (mo_pageMany : Int32) (mo_law : Int32) (mo_many : Int32) (mo_asked : Int32) (mo_looksAll : Int32) (mo_changes : Int32) (mo_rowsRead : Int32) (mo_secondMany : Int32) (mo_foundAt : Int32) (mo_foundLooks : Int32) (mo_foundLane : Int32) (mo_bestsDone : Int32) (mo_seenMany : Int32) (mo_seedNow : Int32) (mo_keptRow : Int32) (mo_keptMany : Int32) (mo_keptSecond : Int32) (mo_keptAsked : Int32) (mo_keptLooks : Int32) (mo_keptChanges : Int32) (mo_keptSeen : Int32) (mo_hash : Int64) (mheights_a : Nat → Int32) (a : Int32) (g_0 : 0 ≤ mo_pageMany.toInt ∧ mo_pageMany.toInt ≤ 44) (g_1 : 0 ≤ mo_many.toInt ∧ mo_many.toInt ≤ 8) (g_2 : 0 ≤ mo_secondMany.toInt ∧ mo_secondMany.toInt ≤ 8) (g_3 : (-1) ≤ mo_foundAt.toInt ∧ mo_foundAt.toInt ≤ 7) (g_4 : 0 ≤ mo_seenMany.toInt ∧ mo_seenMany.toInt ≤ 6) (g_5 : 0 ≤ mo_keptMany.toInt ∧ mo_keptMany.toInt ≤ 8) (g_6 : 0 ≤ mo_keptSecond.toInt ∧ mo_keptSecond.toInt ≤ 8) (g_7 : 0 ≤ mo_keptSeen.toInt ∧ mo_keptSeen.toInt ≤ 6) : wk_Ci l yX12_inLane cX12_inLane 4 (some .int) { frames := 0, cells := 0, slots := 0, locals := 0 } D cy [.ref mo, .int a] [(mo, .inr (12, [.ref mpage, .int mo_pageMany, .int mo_law, .int mo_many, .int mo_asked, .int mo_looksAll, .int mo_changes, .int mo_rowsRead, .ref mkeys, .ref mvalues, .ref mheights, .ref mheats, .int mo_secondMany, .ref msecondKeys, .ref msecondValues, .ref msecondHeights, .ref msecondHeats, .int mo_foundAt, .int mo_foundLooks, .int mo_foundLane, .int mo_bestsDone, .ref msaved, .ref mbestHeights, .int mo_seenMany, .ref msights, .ref mby, .int mo_seedNow, .int mo_keptRow, .int mo_keptMany, .int mo_keptSecond, .int mo_keptAsked, .int mo_keptLooks, .int mo_keptChanges, .int mo_keptSeen, .ref mkeptKeys, .ref mkeptValues, .ref mkeptHeights, .ref mkeptHeats, .ref mkeptKeys2, .ref mkeptValues2, .ref mkeptHeights2, .ref mkeptHeats2, .ref mkeptSights, .long mo_hash])), (mheights, .inl (cy, 8, .inl mheights_a))] 0 0 (fun (r : Int32) (u : Unit) => r = (fn_X12_inLane mo_many mheights_a a)) (fun u => [(mo, .inr (12, [.ref mpage, .int mo_pageMany, .int mo_law, .int mo_many, .int mo_asked, .int mo_looksAll, .int mo_changes, .int mo_rowsRead, .ref mkeys, .ref mvalues, .ref mheights, .ref mheats, .int mo_secondMany, .ref msecondKeys, .ref msecondValues, .ref msecondHeights, .ref msecondHeats, .int mo_foundAt, .int mo_foundLooks, .int mo_foundLane, .int mo_bestsDone, .ref msaved, .ref mbestHeights, .int mo_seenMany, .ref msights, .ref mby, .int mo_seedNow, .int mo_keptRow, .int mo_keptMany, .int mo_keptSecond, .int mo_keptAsked, .int mo_keptLooks, .int mo_keptChanges, .int mo_keptSeen, .ref mkeptKeys, .ref mkeptValues, .ref mkeptHeights, .ref mkeptHeats, .ref mkeptKeys2, .ref mkeptValues2, .ref mkeptHeights2, .ref mkeptHeats2, .ref mkeptSights, .long mo_hash])), (mheights, .inl (cy, 8, .inl mheights_a))]) := by
  refine wk_mk2Ci (by decide) (Nat.le_of_ble_eq_true rfl) ?_
  intro p e s m args below meth c A ls Q B hA hK hP hD hS hl hret
  obtain ⟨hx, hb, hr, hlocks, hml, hown, htb, hin⟩ := B
  have hl : lv_has ls 4 [(0, .ref mo), (1, .int a)] := hl
  have hF : (fn_X12_inLane mo_many mheights_a a) = (fn_X12_inLane mo_many mheights_a a) := rfl
  conv at hF => rhs; unfold fn_X12_inLane
  refine lv_iconst (v := 0) hx hb dX12_inLane_0 (by decide) ?_
  refine lv_istore_n (lv' := [(2, .int 0), (0, .ref mo), (1, .int a)]) hx hb dX12_inLane_1 rfl hl (by decide) rfl (fun ls hl => ?_)
  refine lv_iconst (v := 0) hx hb dX12_inLane_2 (by decide) ?_
  refine lv_istore_n (lv' := [(3, .int 0), (2, .int 0), (0, .ref mo), (1, .int a)]) hx hb dX12_inLane_3 rfl hl (by decide) rfl (fun ls hl => ?_)
  have hlp_4 : ∀ (fu_4 : Nat) (x2_4 : Int32) (x3_4 : Int32) (H : Heap) (locs : List Loc) (ls : Array Slot), (0 ≤ x3_4.toInt ∧ x3_4.toInt ≤ 8) → 8 - x3_4.toInt < (fu_4 : Int) → ((fn_X12_inLane mo_many mheights_a a) = (pm2 (lp_X12_inLane_4 mo_many mheights_a a fu_4 x2_4 x3_4) (fun x2_4 x3_4 => x2_4))) → va_P D classes [(mo, .inr (12, [.ref mpage, .int mo_pageMany, .int mo_law, .int mo_many, .int mo_asked, .int mo_looksAll, .int mo_changes, .int mo_rowsRead, .ref mkeys, .ref mvalues, .ref mheights, .ref mheats, .int mo_secondMany, .ref msecondKeys, .ref msecondValues, .ref msecondHeights, .ref msecondHeats, .int mo_foundAt, .int mo_foundLooks, .int mo_foundLane, .int mo_bestsDone, .ref msaved, .ref mbestHeights, .int mo_seenMany, .ref msights, .ref mby, .int mo_seedNow, .int mo_keptRow, .int mo_keptMany, .int mo_keptSecond, .int mo_keptAsked, .int mo_keptLooks, .int mo_keptChanges, .int mo_keptSeen, .ref mkeptKeys, .ref mkeptValues, .ref mkeptHeights, .ref mkeptHeats, .ref mkeptKeys2, .ref mkeptValues2, .ref mkeptHeights2, .ref mkeptHeats2, .ref mkeptSights, .long mo_hash])), (mheights, .inl (cy, 8, .inl mheights_a))] H → va_D A [(mo, .inr (12, [.ref mpage, .int mo_pageMany, .int mo_law, .int mo_many, .int mo_asked, .int mo_looksAll, .int mo_changes, .int mo_rowsRead, .ref mkeys, .ref mvalues, .ref mheights, .ref mheats, .int mo_secondMany, .ref msecondKeys, .ref msecondValues, .ref msecondHeights, .ref msecondHeats, .int mo_foundAt, .int mo_foundLooks, .int mo_foundLane, .int mo_bestsDone, .ref msaved, .ref mbestHeights, .int mo_seenMany, .ref msights, .ref mby, .int mo_seedNow, .int mo_keptRow, .int mo_keptMany, .int mo_keptSecond, .int mo_keptAsked, .int mo_keptLooks, .int mo_keptChanges, .int mo_keptSeen, .ref mkeptKeys, .ref mkeptValues, .ref mkeptHeights, .ref mkeptHeats, .ref mkeptKeys2, .ref mkeptValues2, .ref mkeptHeights2, .ref mkeptHeats2, .ref mkeptSights, .long mo_hash])), (mheights, .inl (cy, 8, .inl mheights_a))] → va_S A s.heap H locs → lv_has ls 4 [(3, .int x3_4), (2, .int x2_4), (0, .ref mo), (1, .int a)] → W p l e { frames := 0, cells := 0, slots := 0, locals := 0 } s m args below meth c H locs 0 0 Q (F0 m 4 ls []) := by
    intro fu_4
    induction fu_4 with
    | zero =>
      intro x2_4 x3_4 H locs ls hi_4_0 hm hF hP hD hS hl
      exfalso; omega
    | succ fu_4 ih_4 =>
      intro x2_4 x3_4 H locs ls hi_4_0 hm hF hP hD hS hl
      rw [lp_X12_inLane_4] at hF
      refine lv_iload_n hx hb dX12_inLane_4 rfl (lv_at hl 0 rfl) ?_
      refine lv_aload_n hx hb dX12_inLane_5 rfl (lv_at hl 2 rfl) ?_
      refine va_get (D := D) (ci := 12) (v := .int mo_many) (C := RX12) (T := TX12) (N := 44) hx hb htb inX12 hown hK hP 0 rfl rfl 3 (by decide) (htb _ tw_766) (fun _ h9 => h9) rfl dX12_inLane_6 ?_
      refine lv_icmp_ge (tgt := 36) hx hb dX12_inLane_9 (by decide) (fun c_1 => ?_) (fun c_1 => ?_)
      · have k_1 : mo_many.toInt ≤ x3_4.toInt := wk_le c_1
        replace hF := hF.trans (pm2_p1 c_1)
        rw [pm2_mk x2_4 x3_4] at hF
        refine lv_iload_n hx hb dX12_inLane_36 rfl (lv_at hl 1 rfl) ?_
        refine W.widen (k := 0) (n := 0) (by decide) (by decide) ?_
        exact hret x2_4 () _ _ _ 37 (wk_sub9 (is := [0, 1]) hP rfl) (hD.sub [0, 1] rfl rfl) hS dX12_inLane_37 hF.symm
      · have k_1 : ¬ mo_many.toInt ≤ x3_4.toInt := wk_nle c_1
        replace hF := hF.trans (pm2_n1 c_1)
        refine lv_iload_n hx hb dX12_inLane_12 rfl (lv_at hl 1 rfl) ?_
        refine lv_aload_n hx hb dX12_inLane_13 rfl (lv_at hl 2 rfl) ?_
        refine va_get (D := D) (ci := 12) (v := .ref mheights) (C := RX12) (T := TX12) (N := 44) hx hb htb inX12 hown hK hP 0 rfl rfl 10 (by decide) (htb _ tw_773) (fun _ h9 => h9) rfl dX12_inLane_14 ?_
        refine lv_iload_n hx hb dX12_inLane_17 rfl (lv_at hl 0 rfl) ?_
        refine va_iald hx hb hK hP 1 0 rfl rfl (show vp_in x3_4 8 from vp_in_iff.mpr (show 0 ≤ x3_4.toInt ∧ x3_4.toInt < ((8 : Nat) : Int) from by omega)) dX12_inLane_18 ?_
        refine lv_iload_n hx hb dX12_inLane_19 rfl (lv_at hl 3 rfl) ?_
        refine lv_icmp_le (tgt := 27) hx hb dX12_inLane_20 (by decide) (fun c_2 => ?_) (fun c_2 => ?_)
        · have k_2 : (mheights_a x3_4.toNatClampNeg).toInt ≤ a.toInt := wk_le c_2
          replace hF := hF.trans (pm2_p1 c_2)
          refine lv_iconst (v := 0) hx hb dX12_inLane_27 (by decide) ?_
          refine lv_iadd hx hb dX12_inLane_28 ?_
          refine lv_istore_n (lv' := [(2, .int (x2_4 + 0)), (3, .int x3_4), (0, .ref mo), (1, .int a)]) hx hb dX12_inLane_29 rfl hl (by decide) rfl (fun ls hl => ?_)
          refine lv_iinc (v := (x3_4 + 1)) (lv' := [(3, .int (x3_4 + 1)), (2, .int (x2_4 + 0)), (0, .ref mo), (1, .int a)]) hx hb dX12_inLane_30 hl (k := 1) rfl rfl (by decide) rfl (fun ls hl => ?_)
          have k_3 : (x3_4 + 1).toInt = x3_4.toInt + 1 := wk_add x3_4.toInt 1 rfl rfl (by omega) (by omega)
          refine lv_goto (tgt := 4) hx hb dX12_inLane_33 (by decide) ?_
          exact ih_4 (x2_4 + 0) (x3_4 + 1) _ _ _ (show 0 ≤ (x3_4 + 1).toInt ∧ (x3_4 + 1).toInt ≤ 8 from by omega) (show 8 - (x3_4 + 1).toInt < ((fu_4 : Nat) : Int) from by omega) hF hP hD hS (lv_sub hl [0, 1, 2, 3] rfl)
        · have k_2 : ¬ (mheights_a x3_4.toNatClampNeg).toInt ≤ a.toInt := wk_nle c_2
          replace hF := hF.trans (pm2_n1 c_2)
          refine lv_iconst (v := 1) hx hb dX12_inLane_23 (by decide) ?_
          refine lv_goto (tgt := 28) hx hb dX12_inLane_24 (by decide) ?_
          refine lv_iadd hx hb dX12_inLane_28 ?_
          refine lv_istore_n (lv' := [(2, .int (x2_4 + 1)), (3, .int x3_4), (0, .ref mo), (1, .int a)]) hx hb dX12_inLane_29 rfl hl (by decide) rfl (fun ls hl => ?_)
          refine lv_iinc (v := (x3_4 + 1)) (lv' := [(3, .int (x3_4 + 1)), (2, .int (x2_4 + 1)), (0, .ref mo), (1, .int a)]) hx hb dX12_inLane_30 hl (k := 1) rfl rfl (by decide) rfl (fun ls hl => ?_)
          have k_4 : (x3_4 + 1).toInt = x3_4.toInt + 1 := wk_add x3_4.toInt 1 rfl rfl (by omega) (by omega)
          refine lv_goto (tgt := 4) hx hb dX12_inLane_33 (by decide) ?_
          exact ih_4 (x2_4 + 1) (x3_4 + 1) _ _ _ (show 0 ≤ (x3_4 + 1).toInt ∧ (x3_4 + 1).toInt ≤ 8 from by omega) (show 8 - (x3_4 + 1).toInt < ((fu_4 : Nat) : Int) from by omega) hF hP hD hS (lv_sub hl [0, 1, 2, 3] rfl)
  exact hlp_4 10 0 0 _ _ _ (show 0 ≤ 0 ∧ 0 ≤ 8 from by omega) (show 8 - 0 < ((10 : Nat) : Int) from by omega) hF hP hD hS (lv_sub hl [0, 1, 2, 3] rfl)
def lp_X12_linksOf_4 (mo_many : Int32) (mheights_a : Nat → Int32) : Nat → Int32 → Int32 → Int32 × Int32
  | 0, _, _ => default
  | fu_4 + 1, x1_4, x2_4 => (if mo_many ≤ x2_4 then (x1_4, x2_4) else (lp_X12_linksOf_4 mo_many mheights_a fu_4 (x1_4 + (mheights_a x2_4.toNatClampNeg)) (x2_4 + 1)))
termination_by n => n
def fn_X12_linksOf (mo_many : Int32) (mheights_a : Nat → Int32) : Int32 := (pm2 (lp_X12_linksOf_4 mo_many mheights_a 10 0 0) (fun x1_4 x2_4 => x1_4))
theorem dX12_linksOf_0 : decode cX12_linksOf 0 = .ok (.iconst 0, 1) := by decide +kernel
theorem dX12_linksOf_1 : decode cX12_linksOf 1 = .ok (.istore_n 1, 1) := by decide +kernel
theorem dX12_linksOf_2 : decode cX12_linksOf 2 = .ok (.iconst 0, 1) := by decide +kernel
theorem dX12_linksOf_3 : decode cX12_linksOf 3 = .ok (.istore_n 2, 1) := by decide +kernel
theorem dX12_linksOf_4 : decode cX12_linksOf 4 = .ok (.iload_n 2, 1) := by decide +kernel
theorem dX12_linksOf_5 : decode cX12_linksOf 5 = .ok (.aload_n 0, 1) := by decide +kernel
theorem dX12_linksOf_6 : decode cX12_linksOf 6 = .ok (.getfield 121, 3) := by decide +kernel
theorem dX12_linksOf_9 : decode cX12_linksOf 9 = .ok (.if_icmp .ge 18, 3) := by decide +kernel
theorem dX12_linksOf_12 : decode cX12_linksOf 12 = .ok (.iload_n 1, 1) := by decide +kernel
theorem dX12_linksOf_13 : decode cX12_linksOf 13 = .ok (.aload_n 0, 1) := by decide +kernel
theorem dX12_linksOf_14 : decode cX12_linksOf 14 = .ok (.getfield 19, 3) := by decide +kernel
theorem dX12_linksOf_17 : decode cX12_linksOf 17 = .ok (.iload_n 2, 1) := by decide +kernel
theorem dX12_linksOf_18 : decode cX12_linksOf 18 = .ok (.iaload, 1) := by decide +kernel
theorem dX12_linksOf_19 : decode cX12_linksOf 19 = .ok (.iadd, 1) := by decide +kernel
theorem dX12_linksOf_20 : decode cX12_linksOf 20 = .ok (.istore_n 1, 1) := by decide +kernel
theorem dX12_linksOf_21 : decode cX12_linksOf 21 = .ok (.iinc 2 1, 3) := by decide +kernel
theorem dX12_linksOf_24 : decode cX12_linksOf 24 = .ok (.goto (-20), 3) := by decide +kernel
theorem dX12_linksOf_27 : decode cX12_linksOf 27 = .ok (.iload_n 1, 1) := by decide +kernel
theorem dX12_linksOf_28 : decode cX12_linksOf 28 = .ok (.ireturn, 1) := by decide +kernel
set_option maxHeartbeats 4000000 in
set_option maxRecDepth 100000 in
theorem c_X12_linksOf (l : Launch) (D : va_G) (cy : ClassId) (mo mpage mkeys mvalues mheights mheats msecondKeys msecondValues msecondHeights msecondHeats msaved mbestHeights msights mby mkeptKeys mkeptValues mkeptHeights mkeptHeats mkeptKeys2 mkeptValues2 mkeptHeights2 mkeptHeats2 mkeptSights : Nat) (mo_pageMany : Int32) (mo_law : Int32) (mo_many : Int32) (mo_asked : Int32) (mo_looksAll : Int32) (mo_changes : Int32) (mo_rowsRead : Int32) (mo_secondMany : Int32) (mo_foundAt : Int32) (mo_foundLooks : Int32) (mo_foundLane : Int32) (mo_bestsDone : Int32) (mo_seenMany : Int32) (mo_seedNow : Int32) (mo_keptRow : Int32) (mo_keptMany : Int32) (mo_keptSecond : Int32) (mo_keptAsked : Int32) (mo_keptLooks : Int32) (mo_keptChanges : Int32) (mo_keptSeen : Int32) (mo_hash : Int64) (mheights_a : Nat → Int32)  (g_0 : 0 ≤ mo_pageMany.toInt ∧ mo_pageMany.toInt ≤ 44) (g_1 : 0 ≤ mo_many.toInt ∧ mo_many.toInt ≤ 8) (g_2 : 0 ≤ mo_secondMany.toInt ∧ mo_secondMany.toInt ≤ 8) (g_3 : (-1) ≤ mo_foundAt.toInt ∧ mo_foundAt.toInt ≤ 7) (g_4 : 0 ≤ mo_seenMany.toInt ∧ mo_seenMany.toInt ≤ 6) (g_5 : 0 ≤ mo_keptMany.toInt ∧ mo_keptMany.toInt ≤ 8) (g_6 : 0 ≤ mo_keptSecond.toInt ∧ mo_keptSecond.toInt ≤ 8) (g_7 : 0 ≤ mo_keptSeen.toInt ∧ mo_keptSeen.toInt ≤ 6) : wk_Ci l yX12_linksOf cX12_linksOf 3 (some .int) { frames := 0, cells := 0, slots := 0, locals := 0 } D cy [.ref mo] [(mo, .inr (12, [.ref mpage, .int mo_pageMany, .int mo_law, .int mo_many, .int mo_asked, .int mo_looksAll, .int mo_changes, .int mo_rowsRead, .ref mkeys, .ref mvalues, .ref mheights, .ref mheats, .int mo_secondMany, .ref msecondKeys, .ref msecondValues, .ref msecondHeights, .ref msecondHeats, .int mo_foundAt, .int mo_foundLooks, .int mo_foundLane, .int mo_bestsDone, .ref msaved, .ref mbestHeights, .int mo_seenMany, .ref msights, .ref mby, .int mo_seedNow, .int mo_keptRow, .int mo_keptMany, .int mo_keptSecond, .int mo_keptAsked, .int mo_keptLooks, .int mo_keptChanges, .int mo_keptSeen, .ref mkeptKeys, .ref mkeptValues, .ref mkeptHeights, .ref mkeptHeats, .ref mkeptKeys2, .ref mkeptValues2, .ref mkeptHeights2, .ref mkeptHeats2, .ref mkeptSights, .long mo_hash])), (mheights, .inl (cy, 8, .inl mheights_a))] 0 0 (fun (r : Int32) (u : Unit) => r = (fn_X12_linksOf mo_many mheights_a)) (fun u => [(mo, .inr (12, [.ref mpage, .int mo_pageMany, .int mo_law, .int mo_many, .int mo_asked, .int mo_looksAll, .int mo_changes, .int mo_rowsRead, .ref mkeys, .ref mvalues, .ref mheights, .ref mheats, .int mo_secondMany, .ref msecondKeys, .ref msecondValues, .ref msecondHeights, .ref msecondHeats, .int mo_foundAt, .int mo_foundLooks, .int mo_foundLane, .int mo_bestsDone, .ref msaved, .ref mbestHeights, .int mo_seenMany, .ref msights, .ref mby, .int mo_seedNow, .int mo_keptRow, .int mo_keptMany, .int mo_keptSecond, .int mo_keptAsked, .int mo_keptLooks, .int mo_keptChanges, .int mo_keptSeen, .ref mkeptKeys, .ref mkeptValues, .ref mkeptHeights, .ref mkeptHeats, .ref mkeptKeys2, .ref mkeptValues2, .ref mkeptHeights2, .ref mkeptHeats2, .ref mkeptSights, .long mo_hash])), (mheights, .inl (cy, 8, .inl mheights_a))]) := by
  refine wk_mk2Ci (by decide) (Nat.le_of_ble_eq_true rfl) ?_
  intro p e s m args below meth c A ls Q B hA hK hP hD hS hl hret
  obtain ⟨hx, hb, hr, hlocks, hml, hown, htb, hin⟩ := B
  have hl : lv_has ls 3 [(0, .ref mo)] := hl
  have hF : (fn_X12_linksOf mo_many mheights_a) = (fn_X12_linksOf mo_many mheights_a) := rfl
  conv at hF => rhs; unfold fn_X12_linksOf
  refine lv_iconst (v := 0) hx hb dX12_linksOf_0 (by decide) ?_
  refine lv_istore_n (lv' := [(1, .int 0), (0, .ref mo)]) hx hb dX12_linksOf_1 rfl hl (by decide) rfl (fun ls hl => ?_)
  refine lv_iconst (v := 0) hx hb dX12_linksOf_2 (by decide) ?_
  refine lv_istore_n (lv' := [(2, .int 0), (1, .int 0), (0, .ref mo)]) hx hb dX12_linksOf_3 rfl hl (by decide) rfl (fun ls hl => ?_)
  have hlp_4 : ∀ (fu_4 : Nat) (x1_4 : Int32) (x2_4 : Int32) (H : Heap) (locs : List Loc) (ls : Array Slot), (0 ≤ x2_4.toInt ∧ x2_4.toInt ≤ 8) → 8 - x2_4.toInt < (fu_4 : Int) → ((fn_X12_linksOf mo_many mheights_a) = (pm2 (lp_X12_linksOf_4 mo_many mheights_a fu_4 x1_4 x2_4) (fun x1_4 x2_4 => x1_4))) → va_P D classes [(mo, .inr (12, [.ref mpage, .int mo_pageMany, .int mo_law, .int mo_many, .int mo_asked, .int mo_looksAll, .int mo_changes, .int mo_rowsRead, .ref mkeys, .ref mvalues, .ref mheights, .ref mheats, .int mo_secondMany, .ref msecondKeys, .ref msecondValues, .ref msecondHeights, .ref msecondHeats, .int mo_foundAt, .int mo_foundLooks, .int mo_foundLane, .int mo_bestsDone, .ref msaved, .ref mbestHeights, .int mo_seenMany, .ref msights, .ref mby, .int mo_seedNow, .int mo_keptRow, .int mo_keptMany, .int mo_keptSecond, .int mo_keptAsked, .int mo_keptLooks, .int mo_keptChanges, .int mo_keptSeen, .ref mkeptKeys, .ref mkeptValues, .ref mkeptHeights, .ref mkeptHeats, .ref mkeptKeys2, .ref mkeptValues2, .ref mkeptHeights2, .ref mkeptHeats2, .ref mkeptSights, .long mo_hash])), (mheights, .inl (cy, 8, .inl mheights_a))] H → va_D A [(mo, .inr (12, [.ref mpage, .int mo_pageMany, .int mo_law, .int mo_many, .int mo_asked, .int mo_looksAll, .int mo_changes, .int mo_rowsRead, .ref mkeys, .ref mvalues, .ref mheights, .ref mheats, .int mo_secondMany, .ref msecondKeys, .ref msecondValues, .ref msecondHeights, .ref msecondHeats, .int mo_foundAt, .int mo_foundLooks, .int mo_foundLane, .int mo_bestsDone, .ref msaved, .ref mbestHeights, .int mo_seenMany, .ref msights, .ref mby, .int mo_seedNow, .int mo_keptRow, .int mo_keptMany, .int mo_keptSecond, .int mo_keptAsked, .int mo_keptLooks, .int mo_keptChanges, .int mo_keptSeen, .ref mkeptKeys, .ref mkeptValues, .ref mkeptHeights, .ref mkeptHeats, .ref mkeptKeys2, .ref mkeptValues2, .ref mkeptHeights2, .ref mkeptHeats2, .ref mkeptSights, .long mo_hash])), (mheights, .inl (cy, 8, .inl mheights_a))] → va_S A s.heap H locs → lv_has ls 3 [(2, .int x2_4), (1, .int x1_4), (0, .ref mo)] → W p l e { frames := 0, cells := 0, slots := 0, locals := 0 } s m args below meth c H locs 0 0 Q (F0 m 4 ls []) := by
    intro fu_4
    induction fu_4 with
    | zero =>
      intro x1_4 x2_4 H locs ls hi_4_0 hm hF hP hD hS hl
      exfalso; omega
    | succ fu_4 ih_4 =>
      intro x1_4 x2_4 H locs ls hi_4_0 hm hF hP hD hS hl
      rw [lp_X12_linksOf_4] at hF
      refine lv_iload_n hx hb dX12_linksOf_4 rfl (lv_at hl 0 rfl) ?_
      refine lv_aload_n hx hb dX12_linksOf_5 rfl (lv_at hl 2 rfl) ?_
      refine va_get (D := D) (ci := 12) (v := .int mo_many) (C := RX12) (T := TX12) (N := 44) hx hb htb inX12 hown hK hP 0 rfl rfl 3 (by decide) (htb _ tw_766) (fun _ h9 => h9) rfl dX12_linksOf_6 ?_
      refine lv_icmp_ge (tgt := 27) hx hb dX12_linksOf_9 (by decide) (fun c_1 => ?_) (fun c_1 => ?_)
      · have k_1 : mo_many.toInt ≤ x2_4.toInt := wk_le c_1
        replace hF := hF.trans (pm2_p1 c_1)
        rw [pm2_mk x1_4 x2_4] at hF
        refine lv_iload_n hx hb dX12_linksOf_27 rfl (lv_at hl 1 rfl) ?_
        refine W.widen (k := 0) (n := 0) (by decide) (by decide) ?_
        exact hret x1_4 () _ _ _ 28 (wk_sub9 (is := [0, 1]) hP rfl) (hD.sub [0, 1] rfl rfl) hS dX12_linksOf_28 hF.symm
      · have k_1 : ¬ mo_many.toInt ≤ x2_4.toInt := wk_nle c_1
        replace hF := hF.trans (pm2_n1 c_1)
        refine lv_iload_n hx hb dX12_linksOf_12 rfl (lv_at hl 1 rfl) ?_
        refine lv_aload_n hx hb dX12_linksOf_13 rfl (lv_at hl 2 rfl) ?_
        refine va_get (D := D) (ci := 12) (v := .ref mheights) (C := RX12) (T := TX12) (N := 44) hx hb htb inX12 hown hK hP 0 rfl rfl 10 (by decide) (htb _ tw_773) (fun _ h9 => h9) rfl dX12_linksOf_14 ?_
        refine lv_iload_n hx hb dX12_linksOf_17 rfl (lv_at hl 0 rfl) ?_
        refine va_iald hx hb hK hP 1 0 rfl rfl (show vp_in x2_4 8 from vp_in_iff.mpr (show 0 ≤ x2_4.toInt ∧ x2_4.toInt < ((8 : Nat) : Int) from by omega)) dX12_linksOf_18 ?_
        refine lv_iadd hx hb dX12_linksOf_19 ?_
        refine lv_istore_n (lv' := [(1, .int (x1_4 + (mheights_a x2_4.toNatClampNeg))), (2, .int x2_4), (0, .ref mo)]) hx hb dX12_linksOf_20 rfl hl (by decide) rfl (fun ls hl => ?_)
        refine lv_iinc (v := (x2_4 + 1)) (lv' := [(2, .int (x2_4 + 1)), (1, .int (x1_4 + (mheights_a x2_4.toNatClampNeg))), (0, .ref mo)]) hx hb dX12_linksOf_21 hl (k := 1) rfl rfl (by decide) rfl (fun ls hl => ?_)
        have k_2 : (x2_4 + 1).toInt = x2_4.toInt + 1 := wk_add x2_4.toInt 1 rfl rfl (by omega) (by omega)
        refine lv_goto (tgt := 4) hx hb dX12_linksOf_24 (by decide) ?_
        exact ih_4 (x1_4 + (mheights_a x2_4.toNatClampNeg)) (x2_4 + 1) _ _ _ (show 0 ≤ (x2_4 + 1).toInt ∧ (x2_4 + 1).toInt ≤ 8 from by omega) (show 8 - (x2_4 + 1).toInt < ((fu_4 : Nat) : Int) from by omega) hF hP hD hS (lv_sub hl [0, 1, 2] rfl)
  exact hlp_4 10 0 0 _ _ _ (show 0 ≤ 0 ∧ 0 ≤ 8 from by omega) (show 8 - 0 < ((10 : Nat) : Int) from by omega) hF hP hD hS (lv_sub hl [0, 1, 2] rfl)
def lp_X12_sumOf_4 (mo_many : Int32) (ar_a : Nat → Int32) : Nat → Int32 → Int32 → Int32 × Int32
  | 0, _, _ => default
  | fu_4 + 1, x2_4, x3_4 => (if mo_many ≤ x3_4 then (x2_4, x3_4) else (lp_X12_sumOf_4 mo_many ar_a fu_4 (x2_4 + (ar_a x3_4.toNatClampNeg)) (x3_4 + 1)))
termination_by n => n
def fn_X12_sumOf (mo_many : Int32) (ar_a : Nat → Int32) : Int32 := (pm2 (lp_X12_sumOf_4 mo_many ar_a 10 0 0) (fun x2_4 x3_4 => x2_4))
theorem dX12_sumOf_0 : decode cX12_sumOf 0 = .ok (.iconst 0, 1) := by decide +kernel
theorem dX12_sumOf_1 : decode cX12_sumOf 1 = .ok (.istore_n 2, 1) := by decide +kernel
theorem dX12_sumOf_2 : decode cX12_sumOf 2 = .ok (.iconst 0, 1) := by decide +kernel
theorem dX12_sumOf_3 : decode cX12_sumOf 3 = .ok (.istore_n 3, 1) := by decide +kernel
theorem dX12_sumOf_4 : decode cX12_sumOf 4 = .ok (.iload_n 3, 1) := by decide +kernel
theorem dX12_sumOf_5 : decode cX12_sumOf 5 = .ok (.aload_n 0, 1) := by decide +kernel
theorem dX12_sumOf_6 : decode cX12_sumOf 6 = .ok (.getfield 121, 3) := by decide +kernel
theorem dX12_sumOf_9 : decode cX12_sumOf 9 = .ok (.if_icmp .ge 15, 3) := by decide +kernel
theorem dX12_sumOf_12 : decode cX12_sumOf 12 = .ok (.iload_n 2, 1) := by decide +kernel
theorem dX12_sumOf_13 : decode cX12_sumOf 13 = .ok (.aload_n 1, 1) := by decide +kernel
theorem dX12_sumOf_14 : decode cX12_sumOf 14 = .ok (.iload_n 3, 1) := by decide +kernel
theorem dX12_sumOf_15 : decode cX12_sumOf 15 = .ok (.iaload, 1) := by decide +kernel
theorem dX12_sumOf_16 : decode cX12_sumOf 16 = .ok (.iadd, 1) := by decide +kernel
theorem dX12_sumOf_17 : decode cX12_sumOf 17 = .ok (.istore_n 2, 1) := by decide +kernel
theorem dX12_sumOf_18 : decode cX12_sumOf 18 = .ok (.iinc 3 1, 3) := by decide +kernel
theorem dX12_sumOf_21 : decode cX12_sumOf 21 = .ok (.goto (-17), 3) := by decide +kernel
theorem dX12_sumOf_24 : decode cX12_sumOf 24 = .ok (.iload_n 2, 1) := by decide +kernel
theorem dX12_sumOf_25 : decode cX12_sumOf 25 = .ok (.ireturn, 1) := by decide +kernel
set_option maxHeartbeats 4000000 in
set_option maxRecDepth 100000 in
theorem c_X12_sumOf (l : Launch) (D : va_G) (cy : ClassId) (mo mpage mkeys mvalues mheights mheats msecondKeys msecondValues msecondHeights msecondHeats msaved mbestHeights msights mby mkeptKeys mkeptValues mkeptHeights mkeptHeats mkeptKeys2 mkeptValues2 mkeptHeights2 mkeptHeats2 mkeptSights ar : Nat) (mo_pageMany : Int32) (mo_law : Int32) (mo_many : Int32) (mo_asked : Int32) (mo_looksAll : Int32) (mo_changes : Int32) (mo_rowsRead : Int32) (mo_secondMany : Int32) (mo_foundAt : Int32) (mo_foundLooks : Int32) (mo_foundLane : Int32) (mo_bestsDone : Int32) (mo_seenMany : Int32) (mo_seedNow : Int32) (mo_keptRow : Int32) (mo_keptMany : Int32) (mo_keptSecond : Int32) (mo_keptAsked : Int32) (mo_keptLooks : Int32) (mo_keptChanges : Int32) (mo_keptSeen : Int32) (mo_hash : Int64) (ar_a : Nat → Int32)  (g_0 : 0 ≤ mo_pageMany.toInt ∧ mo_pageMany.toInt ≤ 44) (g_1 : 0 ≤ mo_many.toInt ∧ mo_many.toInt ≤ 8) (g_2 : 0 ≤ mo_secondMany.toInt ∧ mo_secondMany.toInt ≤ 8) (g_3 : (-1) ≤ mo_foundAt.toInt ∧ mo_foundAt.toInt ≤ 7) (g_4 : 0 ≤ mo_seenMany.toInt ∧ mo_seenMany.toInt ≤ 6) (g_5 : 0 ≤ mo_keptMany.toInt ∧ mo_keptMany.toInt ≤ 8) (g_6 : 0 ≤ mo_keptSecond.toInt ∧ mo_keptSecond.toInt ≤ 8) (g_7 : 0 ≤ mo_keptSeen.toInt ∧ mo_keptSeen.toInt ≤ 6) : wk_Ci l yX12_sumOf cX12_sumOf 4 (some .int) { frames := 0, cells := 0, slots := 0, locals := 0 } D cy [.ref mo, .ref ar] [(mo, .inr (12, [.ref mpage, .int mo_pageMany, .int mo_law, .int mo_many, .int mo_asked, .int mo_looksAll, .int mo_changes, .int mo_rowsRead, .ref mkeys, .ref mvalues, .ref mheights, .ref mheats, .int mo_secondMany, .ref msecondKeys, .ref msecondValues, .ref msecondHeights, .ref msecondHeats, .int mo_foundAt, .int mo_foundLooks, .int mo_foundLane, .int mo_bestsDone, .ref msaved, .ref mbestHeights, .int mo_seenMany, .ref msights, .ref mby, .int mo_seedNow, .int mo_keptRow, .int mo_keptMany, .int mo_keptSecond, .int mo_keptAsked, .int mo_keptLooks, .int mo_keptChanges, .int mo_keptSeen, .ref mkeptKeys, .ref mkeptValues, .ref mkeptHeights, .ref mkeptHeats, .ref mkeptKeys2, .ref mkeptValues2, .ref mkeptHeights2, .ref mkeptHeats2, .ref mkeptSights, .long mo_hash])), (ar, .inl (cy, 8, .inl ar_a))] 0 0 (fun (r : Int32) (u : Unit) => r = (fn_X12_sumOf mo_many ar_a)) (fun u => [(mo, .inr (12, [.ref mpage, .int mo_pageMany, .int mo_law, .int mo_many, .int mo_asked, .int mo_looksAll, .int mo_changes, .int mo_rowsRead, .ref mkeys, .ref mvalues, .ref mheights, .ref mheats, .int mo_secondMany, .ref msecondKeys, .ref msecondValues, .ref msecondHeights, .ref msecondHeats, .int mo_foundAt, .int mo_foundLooks, .int mo_foundLane, .int mo_bestsDone, .ref msaved, .ref mbestHeights, .int mo_seenMany, .ref msights, .ref mby, .int mo_seedNow, .int mo_keptRow, .int mo_keptMany, .int mo_keptSecond, .int mo_keptAsked, .int mo_keptLooks, .int mo_keptChanges, .int mo_keptSeen, .ref mkeptKeys, .ref mkeptValues, .ref mkeptHeights, .ref mkeptHeats, .ref mkeptKeys2, .ref mkeptValues2, .ref mkeptHeights2, .ref mkeptHeats2, .ref mkeptSights, .long mo_hash])), (ar, .inl (cy, 8, .inl ar_a))]) := by
  refine wk_mk2Ci (by decide) (Nat.le_of_ble_eq_true rfl) ?_
  intro p e s m args below meth c A ls Q B hA hK hP hD hS hl hret
  obtain ⟨hx, hb, hr, hlocks, hml, hown, htb, hin⟩ := B
  have hl : lv_has ls 4 [(0, .ref mo), (1, .ref ar)] := hl
  have hF : (fn_X12_sumOf mo_many ar_a) = (fn_X12_sumOf mo_many ar_a) := rfl
  conv at hF => rhs; unfold fn_X12_sumOf
  refine lv_iconst (v := 0) hx hb dX12_sumOf_0 (by decide) ?_
  refine lv_istore_n (lv' := [(2, .int 0), (0, .ref mo), (1, .ref ar)]) hx hb dX12_sumOf_1 rfl hl (by decide) rfl (fun ls hl => ?_)
  refine lv_iconst (v := 0) hx hb dX12_sumOf_2 (by decide) ?_
  refine lv_istore_n (lv' := [(3, .int 0), (2, .int 0), (0, .ref mo), (1, .ref ar)]) hx hb dX12_sumOf_3 rfl hl (by decide) rfl (fun ls hl => ?_)
  have hlp_4 : ∀ (fu_4 : Nat) (x2_4 : Int32) (x3_4 : Int32) (H : Heap) (locs : List Loc) (ls : Array Slot), (0 ≤ x3_4.toInt ∧ x3_4.toInt ≤ 8) → 8 - x3_4.toInt < (fu_4 : Int) → ((fn_X12_sumOf mo_many ar_a) = (pm2 (lp_X12_sumOf_4 mo_many ar_a fu_4 x2_4 x3_4) (fun x2_4 x3_4 => x2_4))) → va_P D classes [(mo, .inr (12, [.ref mpage, .int mo_pageMany, .int mo_law, .int mo_many, .int mo_asked, .int mo_looksAll, .int mo_changes, .int mo_rowsRead, .ref mkeys, .ref mvalues, .ref mheights, .ref mheats, .int mo_secondMany, .ref msecondKeys, .ref msecondValues, .ref msecondHeights, .ref msecondHeats, .int mo_foundAt, .int mo_foundLooks, .int mo_foundLane, .int mo_bestsDone, .ref msaved, .ref mbestHeights, .int mo_seenMany, .ref msights, .ref mby, .int mo_seedNow, .int mo_keptRow, .int mo_keptMany, .int mo_keptSecond, .int mo_keptAsked, .int mo_keptLooks, .int mo_keptChanges, .int mo_keptSeen, .ref mkeptKeys, .ref mkeptValues, .ref mkeptHeights, .ref mkeptHeats, .ref mkeptKeys2, .ref mkeptValues2, .ref mkeptHeights2, .ref mkeptHeats2, .ref mkeptSights, .long mo_hash])), (ar, .inl (cy, 8, .inl ar_a))] H → va_D A [(mo, .inr (12, [.ref mpage, .int mo_pageMany, .int mo_law, .int mo_many, .int mo_asked, .int mo_looksAll, .int mo_changes, .int mo_rowsRead, .ref mkeys, .ref mvalues, .ref mheights, .ref mheats, .int mo_secondMany, .ref msecondKeys, .ref msecondValues, .ref msecondHeights, .ref msecondHeats, .int mo_foundAt, .int mo_foundLooks, .int mo_foundLane, .int mo_bestsDone, .ref msaved, .ref mbestHeights, .int mo_seenMany, .ref msights, .ref mby, .int mo_seedNow, .int mo_keptRow, .int mo_keptMany, .int mo_keptSecond, .int mo_keptAsked, .int mo_keptLooks, .int mo_keptChanges, .int mo_keptSeen, .ref mkeptKeys, .ref mkeptValues, .ref mkeptHeights, .ref mkeptHeats, .ref mkeptKeys2, .ref mkeptValues2, .ref mkeptHeights2, .ref mkeptHeats2, .ref mkeptSights, .long mo_hash])), (ar, .inl (cy, 8, .inl ar_a))] → va_S A s.heap H locs → lv_has ls 4 [(3, .int x3_4), (2, .int x2_4), (0, .ref mo), (1, .ref ar)] → W p l e { frames := 0, cells := 0, slots := 0, locals := 0 } s m args below meth c H locs 0 0 Q (F0 m 4 ls []) := by
    intro fu_4
    induction fu_4 with
    | zero =>
      intro x2_4 x3_4 H locs ls hi_4_0 hm hF hP hD hS hl
      exfalso; omega
    | succ fu_4 ih_4 =>
      intro x2_4 x3_4 H locs ls hi_4_0 hm hF hP hD hS hl
      rw [lp_X12_sumOf_4] at hF
      refine lv_iload_n hx hb dX12_sumOf_4 rfl (lv_at hl 0 rfl) ?_
      refine lv_aload_n hx hb dX12_sumOf_5 rfl (lv_at hl 2 rfl) ?_
      refine va_get (D := D) (ci := 12) (v := .int mo_many) (C := RX12) (T := TX12) (N := 44) hx hb htb inX12 hown hK hP 0 rfl rfl 3 (by decide) (htb _ tw_766) (fun _ h9 => h9) rfl dX12_sumOf_6 ?_
      refine lv_icmp_ge (tgt := 24) hx hb dX12_sumOf_9 (by decide) (fun c_1 => ?_) (fun c_1 => ?_)
      · have k_1 : mo_many.toInt ≤ x3_4.toInt := wk_le c_1
        replace hF := hF.trans (pm2_p1 c_1)
        rw [pm2_mk x2_4 x3_4] at hF
        refine lv_iload_n hx hb dX12_sumOf_24 rfl (lv_at hl 1 rfl) ?_
        refine W.widen (k := 0) (n := 0) (by decide) (by decide) ?_
        exact hret x2_4 () _ _ _ 25 (wk_sub9 (is := [0, 1]) hP rfl) (hD.sub [0, 1] rfl rfl) hS dX12_sumOf_25 hF.symm
      · have k_1 : ¬ mo_many.toInt ≤ x3_4.toInt := wk_nle c_1
        replace hF := hF.trans (pm2_n1 c_1)
        refine lv_iload_n hx hb dX12_sumOf_12 rfl (lv_at hl 1 rfl) ?_
        refine lv_aload_n hx hb dX12_sumOf_13 rfl (lv_at hl 3 rfl) ?_
        refine lv_iload_n hx hb dX12_sumOf_14 rfl (lv_at hl 0 rfl) ?_
        refine va_iald hx hb hK hP 1 0 rfl rfl (show vp_in x3_4 8 from vp_in_iff.mpr (show 0 ≤ x3_4.toInt ∧ x3_4.toInt < ((8 : Nat) : Int) from by omega)) dX12_sumOf_15 ?_
        refine lv_iadd hx hb dX12_sumOf_16 ?_
        refine lv_istore_n (lv' := [(2, .int (x2_4 + (ar_a x3_4.toNatClampNeg))), (3, .int x3_4), (0, .ref mo), (1, .ref ar)]) hx hb dX12_sumOf_17 rfl hl (by decide) rfl (fun ls hl => ?_)
        refine lv_iinc (v := (x3_4 + 1)) (lv' := [(3, .int (x3_4 + 1)), (2, .int (x2_4 + (ar_a x3_4.toNatClampNeg))), (0, .ref mo), (1, .ref ar)]) hx hb dX12_sumOf_18 hl (k := 1) rfl rfl (by decide) rfl (fun ls hl => ?_)
        have k_2 : (x3_4 + 1).toInt = x3_4.toInt + 1 := wk_add x3_4.toInt 1 rfl rfl (by omega) (by omega)
        refine lv_goto (tgt := 4) hx hb dX12_sumOf_21 (by decide) ?_
        exact ih_4 (x2_4 + (ar_a x3_4.toNatClampNeg)) (x3_4 + 1) _ _ _ (show 0 ≤ (x3_4 + 1).toInt ∧ (x3_4 + 1).toInt ≤ 8 from by omega) (show 8 - (x3_4 + 1).toInt < ((fu_4 : Nat) : Int) from by omega) hF hP hD hS (lv_sub hl [0, 1, 2, 3] rfl)
  exact hlp_4 10 0 0 _ _ _ (show 0 ≤ 0 ∧ 0 ≤ 8 from by omega) (show 8 - 0 < ((10 : Nat) : Int) from by omega) hF hP hD hS (lv_sub hl [0, 1, 2, 3] rfl)
def lp_X12_placeOf_2 (mo_many : Int32) (mkeys_a : Nat → Int32) (a : Int32) : Nat → Int32 → Int32 × Unit
  | 0, _ => default
  | fu_2 + 1, x2_2 => (if mo_many ≤ x2_2 then (x2_2, ()) else (if a ≤ (mkeys_a x2_2.toNatClampNeg) then (x2_2, ()) else (lp_X12_placeOf_2 mo_many mkeys_a a fu_2 (x2_2 + 1))))
termination_by n => n
def fn_X12_placeOf (mo_many : Int32) (mkeys_a : Nat → Int32) (a : Int32) : Int32 := (pm2 (lp_X12_placeOf_2 mo_many mkeys_a a 10 0) (fun x2_2 _ => x2_2))
theorem dX12_placeOf_0 : decode cX12_placeOf 0 = .ok (.iconst 0, 1) := by decide +kernel
theorem dX12_placeOf_1 : decode cX12_placeOf 1 = .ok (.istore_n 2, 1) := by decide +kernel
theorem dX12_placeOf_2 : decode cX12_placeOf 2 = .ok (.iload_n 2, 1) := by decide +kernel
theorem dX12_placeOf_3 : decode cX12_placeOf 3 = .ok (.aload_n 0, 1) := by decide +kernel
theorem dX12_placeOf_4 : decode cX12_placeOf 4 = .ok (.getfield 121, 3) := by decide +kernel
theorem dX12_placeOf_7 : decode cX12_placeOf 7 = .ok (.if_icmp .ge 19, 3) := by decide +kernel
theorem dX12_placeOf_10 : decode cX12_placeOf 10 = .ok (.aload_n 0, 1) := by decide +kernel
theorem dX12_placeOf_11 : decode cX12_placeOf 11 = .ok (.getfield 13, 3) := by decide +kernel
theorem dX12_placeOf_14 : decode cX12_placeOf 14 = .ok (.iload_n 2, 1) := by decide +kernel
theorem dX12_placeOf_15 : decode cX12_placeOf 15 = .ok (.iaload, 1) := by decide +kernel
theorem dX12_placeOf_16 : decode cX12_placeOf 16 = .ok (.iload_n 1, 1) := by decide +kernel
theorem dX12_placeOf_17 : decode cX12_placeOf 17 = .ok (.if_icmp .ge 9, 3) := by decide +kernel
theorem dX12_placeOf_20 : decode cX12_placeOf 20 = .ok (.iinc 2 1, 3) := by decide +kernel
theorem dX12_placeOf_23 : decode cX12_placeOf 23 = .ok (.goto (-21), 3) := by decide +kernel
theorem dX12_placeOf_26 : decode cX12_placeOf 26 = .ok (.iload_n 2, 1) := by decide +kernel
theorem dX12_placeOf_27 : decode cX12_placeOf 27 = .ok (.ireturn, 1) := by decide +kernel
set_option maxHeartbeats 4000000 in
set_option maxRecDepth 100000 in
theorem c_X12_placeOf (l : Launch) (D : va_G) (cy : ClassId) (mo mpage mkeys mvalues mheights mheats msecondKeys msecondValues msecondHeights msecondHeats msaved mbestHeights msights mby mkeptKeys mkeptValues mkeptHeights mkeptHeats mkeptKeys2 mkeptValues2 mkeptHeights2 mkeptHeats2 mkeptSights : Nat) (mo_pageMany : Int32) (mo_law : Int32) (mo_many : Int32) (mo_asked : Int32) (mo_looksAll : Int32) (mo_changes : Int32) (mo_rowsRead : Int32) (mo_secondMany : Int32) (mo_foundAt : Int32) (mo_foundLooks : Int32) (mo_foundLane : Int32) (mo_bestsDone : Int32) (mo_seenMany : Int32) (mo_seedNow : Int32) (mo_keptRow : Int32) (mo_keptMany : Int32) (mo_keptSecond : Int32) (mo_keptAsked : Int32) (mo_keptLooks : Int32) (mo_keptChanges : Int32) (mo_keptSeen : Int32) (mo_hash : Int64) (mkeys_a : Nat → Int32) (a : Int32) (g_0 : 0 ≤ mo_pageMany.toInt ∧ mo_pageMany.toInt ≤ 44) (g_1 : 0 ≤ mo_many.toInt ∧ mo_many.toInt ≤ 8) (g_2 : 0 ≤ mo_secondMany.toInt ∧ mo_secondMany.toInt ≤ 8) (g_3 : (-1) ≤ mo_foundAt.toInt ∧ mo_foundAt.toInt ≤ 7) (g_4 : 0 ≤ mo_seenMany.toInt ∧ mo_seenMany.toInt ≤ 6) (g_5 : 0 ≤ mo_keptMany.toInt ∧ mo_keptMany.toInt ≤ 8) (g_6 : 0 ≤ mo_keptSecond.toInt ∧ mo_keptSecond.toInt ≤ 8) (g_7 : 0 ≤ mo_keptSeen.toInt ∧ mo_keptSeen.toInt ≤ 6) : wk_Ci l yX12_placeOf cX12_placeOf 3 (some .int) { frames := 0, cells := 0, slots := 0, locals := 0 } D cy [.ref mo, .int a] [(mo, .inr (12, [.ref mpage, .int mo_pageMany, .int mo_law, .int mo_many, .int mo_asked, .int mo_looksAll, .int mo_changes, .int mo_rowsRead, .ref mkeys, .ref mvalues, .ref mheights, .ref mheats, .int mo_secondMany, .ref msecondKeys, .ref msecondValues, .ref msecondHeights, .ref msecondHeats, .int mo_foundAt, .int mo_foundLooks, .int mo_foundLane, .int mo_bestsDone, .ref msaved, .ref mbestHeights, .int mo_seenMany, .ref msights, .ref mby, .int mo_seedNow, .int mo_keptRow, .int mo_keptMany, .int mo_keptSecond, .int mo_keptAsked, .int mo_keptLooks, .int mo_keptChanges, .int mo_keptSeen, .ref mkeptKeys, .ref mkeptValues, .ref mkeptHeights, .ref mkeptHeats, .ref mkeptKeys2, .ref mkeptValues2, .ref mkeptHeights2, .ref mkeptHeats2, .ref mkeptSights, .long mo_hash])), (mkeys, .inl (cy, 8, .inl mkeys_a))] 0 0 (fun (r : Int32) (u : Unit) => r = (fn_X12_placeOf mo_many mkeys_a a) ∧ (0 ≤ r.toInt ∧ r.toInt ≤ 8) ∧ (r.toInt ≤ mo_many.toInt)) (fun u => [(mo, .inr (12, [.ref mpage, .int mo_pageMany, .int mo_law, .int mo_many, .int mo_asked, .int mo_looksAll, .int mo_changes, .int mo_rowsRead, .ref mkeys, .ref mvalues, .ref mheights, .ref mheats, .int mo_secondMany, .ref msecondKeys, .ref msecondValues, .ref msecondHeights, .ref msecondHeats, .int mo_foundAt, .int mo_foundLooks, .int mo_foundLane, .int mo_bestsDone, .ref msaved, .ref mbestHeights, .int mo_seenMany, .ref msights, .ref mby, .int mo_seedNow, .int mo_keptRow, .int mo_keptMany, .int mo_keptSecond, .int mo_keptAsked, .int mo_keptLooks, .int mo_keptChanges, .int mo_keptSeen, .ref mkeptKeys, .ref mkeptValues, .ref mkeptHeights, .ref mkeptHeats, .ref mkeptKeys2, .ref mkeptValues2, .ref mkeptHeights2, .ref mkeptHeats2, .ref mkeptSights, .long mo_hash])), (mkeys, .inl (cy, 8, .inl mkeys_a))]) := by
  refine wk_mk2Ci (by decide) (Nat.le_of_ble_eq_true rfl) ?_
  intro p e s m args below meth c A ls Q B hA hK hP hD hS hl hret
  obtain ⟨hx, hb, hr, hlocks, hml, hown, htb, hin⟩ := B
  have hl : lv_has ls 3 [(0, .ref mo), (1, .int a)] := hl
  have hF : (fn_X12_placeOf mo_many mkeys_a a) = (fn_X12_placeOf mo_many mkeys_a a) := rfl
  conv at hF => rhs; unfold fn_X12_placeOf
  refine lv_iconst (v := 0) hx hb dX12_placeOf_0 (by decide) ?_
  refine lv_istore_n (lv' := [(2, .int 0), (0, .ref mo), (1, .int a)]) hx hb dX12_placeOf_1 rfl hl (by decide) rfl (fun ls hl => ?_)
  have hlp_2 : ∀ (fu_2 : Nat) (x2_2 : Int32) (H : Heap) (locs : List Loc) (ls : Array Slot), (0 ≤ x2_2.toInt ∧ x2_2.toInt ≤ 8) → (x2_2.toInt ≤ mo_many.toInt) → mo_many.toInt - x2_2.toInt < (fu_2 : Int) → ((fn_X12_placeOf mo_many mkeys_a a) = (pm2 (lp_X12_placeOf_2 mo_many mkeys_a a fu_2 x2_2) (fun x2_2 _ => x2_2))) → va_P D classes [(mo, .inr (12, [.ref mpage, .int mo_pageMany, .int mo_law, .int mo_many, .int mo_asked, .int mo_looksAll, .int mo_changes, .int mo_rowsRead, .ref mkeys, .ref mvalues, .ref mheights, .ref mheats, .int mo_secondMany, .ref msecondKeys, .ref msecondValues, .ref msecondHeights, .ref msecondHeats, .int mo_foundAt, .int mo_foundLooks, .int mo_foundLane, .int mo_bestsDone, .ref msaved, .ref mbestHeights, .int mo_seenMany, .ref msights, .ref mby, .int mo_seedNow, .int mo_keptRow, .int mo_keptMany, .int mo_keptSecond, .int mo_keptAsked, .int mo_keptLooks, .int mo_keptChanges, .int mo_keptSeen, .ref mkeptKeys, .ref mkeptValues, .ref mkeptHeights, .ref mkeptHeats, .ref mkeptKeys2, .ref mkeptValues2, .ref mkeptHeights2, .ref mkeptHeats2, .ref mkeptSights, .long mo_hash])), (mkeys, .inl (cy, 8, .inl mkeys_a))] H → va_D A [(mo, .inr (12, [.ref mpage, .int mo_pageMany, .int mo_law, .int mo_many, .int mo_asked, .int mo_looksAll, .int mo_changes, .int mo_rowsRead, .ref mkeys, .ref mvalues, .ref mheights, .ref mheats, .int mo_secondMany, .ref msecondKeys, .ref msecondValues, .ref msecondHeights, .ref msecondHeats, .int mo_foundAt, .int mo_foundLooks, .int mo_foundLane, .int mo_bestsDone, .ref msaved, .ref mbestHeights, .int mo_seenMany, .ref msights, .ref mby, .int mo_seedNow, .int mo_keptRow, .int mo_keptMany, .int mo_keptSecond, .int mo_keptAsked, .int mo_keptLooks, .int mo_keptChanges, .int mo_keptSeen, .ref mkeptKeys, .ref mkeptValues, .ref mkeptHeights, .ref mkeptHeats, .ref mkeptKeys2, .ref mkeptValues2, .ref mkeptHeights2, .ref mkeptHeats2, .ref mkeptSights, .long mo_hash])), (mkeys, .inl (cy, 8, .inl mkeys_a))] → va_S A s.heap H locs → lv_has ls 3 [(2, .int x2_2), (0, .ref mo), (1, .int a)] → W p l e { frames := 0, cells := 0, slots := 0, locals := 0 } s m args below meth c H locs 0 0 Q (F0 m 2 ls []) := by
    intro fu_2
    induction fu_2 with
    | zero =>
      intro x2_2 H locs ls hi_2_0 hi_2_1 hm hF hP hD hS hl
      exfalso; omega
    | succ fu_2 ih_2 =>
      intro x2_2 H locs ls hi_2_0 hi_2_1 hm hF hP hD hS hl
      rw [lp_X12_placeOf_2] at hF
      refine lv_iload_n hx hb dX12_placeOf_2 rfl (lv_at hl 0 rfl) ?_
      refine lv_aload_n hx hb dX12_placeOf_3 rfl (lv_at hl 1 rfl) ?_
      refine va_get (D := D) (ci := 12) (v := .int mo_many) (C := RX12) (T := TX12) (N := 44) hx hb htb inX12 hown hK hP 0 rfl rfl 3 (by decide) (htb _ tw_766) (fun _ h9 => h9) rfl dX12_placeOf_4 ?_
      refine lv_icmp_ge (tgt := 26) hx hb dX12_placeOf_7 (by decide) (fun c_1 => ?_) (fun c_1 => ?_)
      · have k_1 : mo_many.toInt ≤ x2_2.toInt := wk_le c_1
        replace hF := hF.trans (pm2_p1 c_1)
        rw [pm2_mk x2_2 ()] at hF
        refine lv_iload_n hx hb dX12_placeOf_26 rfl (lv_at hl 0 rfl) ?_
        refine W.widen (k := 0) (n := 0) (by decide) (by decide) ?_
        exact hret x2_2 () _ _ _ 27 (wk_sub9 (is := [0, 1]) hP rfl) (hD.sub [0, 1] rfl rfl) hS dX12_placeOf_27 ⟨hF.symm, (show (0 ≤ x2_2.toInt ∧ x2_2.toInt ≤ 8) from by omega), (show (x2_2.toInt ≤ mo_many.toInt) from by omega)⟩
      · have k_1 : ¬ mo_many.toInt ≤ x2_2.toInt := wk_nle c_1
        replace hF := hF.trans (pm2_n1 c_1)
        refine lv_aload_n hx hb dX12_placeOf_10 rfl (lv_at hl 1 rfl) ?_
        refine va_get (D := D) (ci := 12) (v := .ref mkeys) (C := RX12) (T := TX12) (N := 44) hx hb htb inX12 hown hK hP 0 rfl rfl 8 (by decide) (htb _ tw_771) (fun _ h9 => h9) rfl dX12_placeOf_11 ?_
        refine lv_iload_n hx hb dX12_placeOf_14 rfl (lv_at hl 0 rfl) ?_
        refine va_iald hx hb hK hP 1 0 rfl rfl (show vp_in x2_2 8 from vp_in_iff.mpr (show 0 ≤ x2_2.toInt ∧ x2_2.toInt < ((8 : Nat) : Int) from by omega)) dX12_placeOf_15 ?_
        refine lv_iload_n hx hb dX12_placeOf_16 rfl (lv_at hl 2 rfl) ?_
        refine lv_icmp_ge (tgt := 26) hx hb dX12_placeOf_17 (by decide) (fun c_2 => ?_) (fun c_2 => ?_)
        · have k_2 : a.toInt ≤ (mkeys_a x2_2.toNatClampNeg).toInt := wk_le c_2
          replace hF := hF.trans (pm2_p1 c_2)
          rw [pm2_mk x2_2 ()] at hF
          refine lv_iload_n hx hb dX12_placeOf_26 rfl (lv_at hl 0 rfl) ?_
          refine W.widen (k := 0) (n := 0) (by decide) (by decide) ?_
          exact hret x2_2 () _ _ _ 27 (wk_sub9 (is := [0, 1]) hP rfl) (hD.sub [0, 1] rfl rfl) hS dX12_placeOf_27 ⟨hF.symm, (show (0 ≤ x2_2.toInt ∧ x2_2.toInt ≤ 8) from by omega), (show (x2_2.toInt ≤ mo_many.toInt) from by omega)⟩
        · have k_2 : ¬ a.toInt ≤ (mkeys_a x2_2.toNatClampNeg).toInt := wk_nle c_2
          replace hF := hF.trans (pm2_n1 c_2)
          refine lv_iinc (v := (x2_2 + 1)) (lv' := [(2, .int (x2_2 + 1)), (0, .ref mo), (1, .int a)]) hx hb dX12_placeOf_20 hl (k := 0) rfl rfl (by decide) rfl (fun ls hl => ?_)
          have k_3 : (x2_2 + 1).toInt = x2_2.toInt + 1 := wk_add x2_2.toInt 1 rfl rfl (by omega) (by omega)
          refine lv_goto (tgt := 2) hx hb dX12_placeOf_23 (by decide) ?_
          exact ih_2 (x2_2 + 1) _ _ _ (show 0 ≤ (x2_2 + 1).toInt ∧ (x2_2 + 1).toInt ≤ 8 from by omega) (show (x2_2 + 1).toInt ≤ mo_many.toInt from by omega) (show mo_many.toInt - (x2_2 + 1).toInt < ((fu_2 : Nat) : Int) from by omega) hF hP hD hS (lv_sub hl [0, 1, 2] rfl)
  exact hlp_2 10 0 _ _ _ (show 0 ≤ 0 ∧ 0 ≤ 8 from by omega) (show 0 ≤ mo_many.toInt from by omega) (show mo_many.toInt - 0 < ((10 : Nat) : Int) from by omega) hF hP hD hS (lv_sub hl [0, 1, 2] rfl)
def fn_X12_isNumber (mo_many : Int32) (a : Int32) : Int32 := (wk_in a.toInt64 0 ((mo_many - 1).toInt64))
theorem dX12_isNumber_0 : decode cX12_isNumber 0 = .ok (.iload_n 1, 1) := by decide +kernel
theorem dX12_isNumber_1 : decode cX12_isNumber 1 = .ok (.i2l, 1) := by decide +kernel
theorem dX12_isNumber_2 : decode cX12_isNumber 2 = .ok (.lconst 0, 1) := by decide +kernel
theorem dX12_isNumber_3 : decode cX12_isNumber 3 = .ok (.aload_n 0, 1) := by decide +kernel
theorem dX12_isNumber_4 : decode cX12_isNumber 4 = .ok (.getfield 121, 3) := by decide +kernel
theorem dX12_isNumber_7 : decode cX12_isNumber 7 = .ok (.iconst 1, 1) := by decide +kernel
theorem dX12_isNumber_8 : decode cX12_isNumber 8 = .ok (.isub, 1) := by decide +kernel
theorem dX12_isNumber_9 : decode cX12_isNumber 9 = .ok (.i2l, 1) := by decide +kernel
theorem dX12_isNumber_10 : decode cX12_isNumber 10 = .ok (.invokestatic 82, 3) := by decide +kernel
theorem dX12_isNumber_13 : decode cX12_isNumber 13 = .ok (.ireturn, 1) := by decide +kernel
set_option maxHeartbeats 4000000 in
set_option maxRecDepth 100000 in
theorem c_X12_isNumber (l : Launch) (D : va_G) (cy : ClassId) (mo mpage mkeys mvalues mheights mheats msecondKeys msecondValues msecondHeights msecondHeats msaved mbestHeights msights mby mkeptKeys mkeptValues mkeptHeights mkeptHeats mkeptKeys2 mkeptValues2 mkeptHeights2 mkeptHeats2 mkeptSights : Nat) (mo_pageMany : Int32) (mo_law : Int32) (mo_many : Int32) (mo_asked : Int32) (mo_looksAll : Int32) (mo_changes : Int32) (mo_rowsRead : Int32) (mo_secondMany : Int32) (mo_foundAt : Int32) (mo_foundLooks : Int32) (mo_foundLane : Int32) (mo_bestsDone : Int32) (mo_seenMany : Int32) (mo_seedNow : Int32) (mo_keptRow : Int32) (mo_keptMany : Int32) (mo_keptSecond : Int32) (mo_keptAsked : Int32) (mo_keptLooks : Int32) (mo_keptChanges : Int32) (mo_keptSeen : Int32) (mo_hash : Int64) (a : Int32) (g_0 : 0 ≤ mo_pageMany.toInt ∧ mo_pageMany.toInt ≤ 44) (g_1 : 0 ≤ mo_many.toInt ∧ mo_many.toInt ≤ 8) (g_2 : 0 ≤ mo_secondMany.toInt ∧ mo_secondMany.toInt ≤ 8) (g_3 : (-1) ≤ mo_foundAt.toInt ∧ mo_foundAt.toInt ≤ 7) (g_4 : 0 ≤ mo_seenMany.toInt ∧ mo_seenMany.toInt ≤ 6) (g_5 : 0 ≤ mo_keptMany.toInt ∧ mo_keptMany.toInt ≤ 8) (g_6 : 0 ≤ mo_keptSecond.toInt ∧ mo_keptSecond.toInt ≤ 8) (g_7 : 0 ≤ mo_keptSeen.toInt ∧ mo_keptSeen.toInt ≤ 6) : wk_Ci l yX12_isNumber cX12_isNumber 2 (some .boolean) { frames := 1, cells := 0, slots := 0, locals := 25 } D cy [.ref mo, .int a] [(mo, .inr (12, [.ref mpage, .int mo_pageMany, .int mo_law, .int mo_many, .int mo_asked, .int mo_looksAll, .int mo_changes, .int mo_rowsRead, .ref mkeys, .ref mvalues, .ref mheights, .ref mheats, .int mo_secondMany, .ref msecondKeys, .ref msecondValues, .ref msecondHeights, .ref msecondHeats, .int mo_foundAt, .int mo_foundLooks, .int mo_foundLane, .int mo_bestsDone, .ref msaved, .ref mbestHeights, .int mo_seenMany, .ref msights, .ref mby, .int mo_seedNow, .int mo_keptRow, .int mo_keptMany, .int mo_keptSecond, .int mo_keptAsked, .int mo_keptLooks, .int mo_keptChanges, .int mo_keptSeen, .ref mkeptKeys, .ref mkeptValues, .ref mkeptHeights, .ref mkeptHeats, .ref mkeptKeys2, .ref mkeptValues2, .ref mkeptHeights2, .ref mkeptHeats2, .ref mkeptSights, .long mo_hash]))] 0 0 (fun (r : Int32) (u : Unit) => r = (fn_X12_isNumber mo_many a) ∧ (r = 0 ∨ r = 1) ∧ (wk_or (r.toInt = 0) (0 ≤ a.toInt ∧ a.toInt < mo_many.toInt))) (fun u => [(mo, .inr (12, [.ref mpage, .int mo_pageMany, .int mo_law, .int mo_many, .int mo_asked, .int mo_looksAll, .int mo_changes, .int mo_rowsRead, .ref mkeys, .ref mvalues, .ref mheights, .ref mheats, .int mo_secondMany, .ref msecondKeys, .ref msecondValues, .ref msecondHeights, .ref msecondHeats, .int mo_foundAt, .int mo_foundLooks, .int mo_foundLane, .int mo_bestsDone, .ref msaved, .ref mbestHeights, .int mo_seenMany, .ref msights, .ref mby, .int mo_seedNow, .int mo_keptRow, .int mo_keptMany, .int mo_keptSecond, .int mo_keptAsked, .int mo_keptLooks, .int mo_keptChanges, .int mo_keptSeen, .ref mkeptKeys, .ref mkeptValues, .ref mkeptHeights, .ref mkeptHeats, .ref mkeptKeys2, .ref mkeptValues2, .ref mkeptHeights2, .ref mkeptHeats2, .ref mkeptSights, .long mo_hash]))]) := by
  refine wk_mk2Cz (by decide) (Nat.le_of_ble_eq_true rfl) ?_
  intro p e s m args below meth c A ls Q B hA hK hP hD hS hl hret
  obtain ⟨hx, hb, hr, hlocks, hml, hown, htb, hin⟩ := B
  have hl : lv_has ls 2 [(0, .ref mo), (1, .int a)] := hl
  have hF : (fn_X12_isNumber mo_many a) = (fn_X12_isNumber mo_many a) := rfl
  conv at hF => rhs; unfold fn_X12_isNumber
  refine lv_iload_n hx hb dX12_isNumber_0 rfl (lv_at hl 1 rfl) ?_
  refine lv_i2l (v := a.toInt64) hx hb dX12_isNumber_1 rfl ?_
  refine lv_lconst (v := 0) hx hb dX12_isNumber_2 (by decide) ?_
  refine lv_aload_n hx hb dX12_isNumber_3 rfl (lv_at hl 0 rfl) ?_
  refine va_get (D := D) (ci := 12) (v := .int mo_many) (C := RX12) (T := TX12) (N := 44) hx hb htb inX12 hown hK hP 0 rfl rfl 3 (by decide) (htb _ tw_766) (fun _ h9 => h9) rfl dX12_isNumber_4 ?_
  refine lv_iconst (v := 1) hx hb dX12_isNumber_7 (by decide) ?_
  refine lv_isub hx hb dX12_isNumber_8 ?_
  have k_1 : (mo_many - 1).toInt = mo_many.toInt - 1 := wk_sub mo_many.toInt 1 rfl rfl (by omega) (by omega)
  refine lv_i2l (v := (mo_many - 1).toInt64) hx hb dX12_isNumber_9 rfl ?_
  refine wk_iS (As := [.long a.toInt64, .long 0, .long (mo_many - 1).toInt64]) (rest := []) (wc := []) (wr := [(mo, .inr (12, [.ref mpage, .int mo_pageMany, .int mo_law, .int mo_many, .int mo_asked, .int mo_looksAll, .int mo_changes, .int mo_rowsRead, .ref mkeys, .ref mvalues, .ref mheights, .ref mheats, .int mo_secondMany, .ref msecondKeys, .ref msecondValues, .ref msecondHeights, .ref msecondHeats, .int mo_foundAt, .int mo_foundLooks, .int mo_foundLane, .int mo_bestsDone, .ref msaved, .ref mbestHeights, .int mo_seenMany, .ref msights, .ref mby, .int mo_seedNow, .int mo_keptRow, .int mo_keptMany, .int mo_keptSecond, .int mo_keptAsked, .int mo_keptLooks, .int mo_keptChanges, .int mo_keptSeen, .ref mkeptKeys, .ref mkeptValues, .ref mkeptHeights, .ref mkeptHeats, .ref mkeptKeys2, .ref mkeptValues2, .ref mkeptHeights2, .ref mkeptHeats2, .ref mkeptSights, .long mo_hash]))]) (n := 3) ⟨hx, hb, hml, hown, htb⟩ (c_X12_in l D cy   a.toInt64 0 ((mo_many - 1).toInt64) ) tw_903 tw_901 tw_902 tw_71 rfl rfl (by decide +kernel) ⟨Nat.le_of_ble_eq_true rfl, Nat.le_of_ble_eq_true rfl⟩ hK hP hD hS hA [] [0] rfl rfl rfl rfl (by decide) rfl hl.1 rfl (Nat.le_of_ble_eq_true rfl) dX12_isNumber_10 ⟨Nat.le_of_ble_eq_true rfl, Nat.le_of_ble_eq_true rfl⟩ (fun r_2 u_3 H locs hw_4 hP hD hS => ?_)
  refine W.widen (k := 0) (n := 0) (by decide) (by decide) ?_
  obtain ⟨hw_4, k_5⟩ := hw_4
  have hw_4 : r_2 = (wk_in a.toInt64 0 ((mo_many - 1).toInt64)) := hw_4
  subst hw_4
  have k_5 : ((wk_in a.toInt64 0 ((mo_many - 1).toInt64)) = 0 ∨ (wk_in a.toInt64 0 ((mo_many - 1).toInt64)) = 1) := k_5
  have k_6 : 0 ≤ (wk_in a.toInt64 0 ((mo_many - 1).toInt64)).toInt ∧ (wk_in a.toInt64 0 ((mo_many - 1).toInt64)).toInt ≤ 1 := wk_b01 (by assumption)
  have hP : va_P D classes [(mo, .inr (12, [.ref mpage, .int mo_pageMany, .int mo_law, .int mo_many, .int mo_asked, .int mo_looksAll, .int mo_changes, .int mo_rowsRead, .ref mkeys, .ref mvalues, .ref mheights, .ref mheats, .int mo_secondMany, .ref msecondKeys, .ref msecondValues, .ref msecondHeights, .ref msecondHeats, .int mo_foundAt, .int mo_foundLooks, .int mo_foundLane, .int mo_bestsDone, .ref msaved, .ref mbestHeights, .int mo_seenMany, .ref msights, .ref mby, .int mo_seedNow, .int mo_keptRow, .int mo_keptMany, .int mo_keptSecond, .int mo_keptAsked, .int mo_keptLooks, .int mo_keptChanges, .int mo_keptSeen, .ref mkeptKeys, .ref mkeptValues, .ref mkeptHeights, .ref mkeptHeats, .ref mkeptKeys2, .ref mkeptValues2, .ref mkeptHeights2, .ref mkeptHeats2, .ref mkeptSights, .long mo_hash]))] H := hP
  have hD : va_D A [(mo, .inr (12, [.ref mpage, .int mo_pageMany, .int mo_law, .int mo_many, .int mo_asked, .int mo_looksAll, .int mo_changes, .int mo_rowsRead, .ref mkeys, .ref mvalues, .ref mheights, .ref mheats, .int mo_secondMany, .ref msecondKeys, .ref msecondValues, .ref msecondHeights, .ref msecondHeats, .int mo_foundAt, .int mo_foundLooks, .int mo_foundLane, .int mo_bestsDone, .ref msaved, .ref mbestHeights, .int mo_seenMany, .ref msights, .ref mby, .int mo_seedNow, .int mo_keptRow, .int mo_keptMany, .int mo_keptSecond, .int mo_keptAsked, .int mo_keptLooks, .int mo_keptChanges, .int mo_keptSeen, .ref mkeptKeys, .ref mkeptValues, .ref mkeptHeights, .ref mkeptHeats, .ref mkeptKeys2, .ref mkeptValues2, .ref mkeptHeights2, .ref mkeptHeats2, .ref mkeptSights, .long mo_hash]))] := hD
  refine W.widen (k := 0) (n := 0) (by decide) (by decide) ?_
  have k_7 : ((wk_in a.toInt64 0 ((mo_many - 1).toInt64)).toInt = 1 ∧ 0 ≤ a.toInt ∧ a.toInt ≤ (mo_many - 1).toInt) ∨ ((wk_in a.toInt64 0 ((mo_many - 1).toInt64)).toInt = 0 ∧ ¬ (0 ≤ a.toInt ∧ a.toInt ≤ (mo_many - 1).toInt)) := by have h9 := wk_inf a.toInt64 0 ((mo_many - 1).toInt64); simp only [wk_64] at h9; exact h9
  exact hret (wk_in a.toInt64 0 ((mo_many - 1).toInt64)) () _ _ _ 13 (wk_nb (by first | exact Or.inl rfl | exact Or.inr rfl | assumption)) (wk_sub9 (is := [0]) hP rfl) (hD.sub [0] rfl rfl) hS dX12_isNumber_13 ⟨hF.symm, (by first | exact Or.inl rfl | exact Or.inr rfl | assumption), (wk_orI (show ((wk_in a.toInt64 0 ((mo_many - 1).toInt64)).toInt : Int) = 0 ∨ (0 ≤ a.toInt ∧ a.toInt < mo_many.toInt) from by omega))⟩
def fn_X12_isKey (a : Int32) : Int32 := (wk_in a.toInt64 0 99)
theorem dX12_isKey_0 : decode cX12_isKey 0 = .ok (.iload_n 0, 1) := by decide +kernel
theorem dX12_isKey_1 : decode cX12_isKey 1 = .ok (.i2l, 1) := by decide +kernel
theorem dX12_isKey_2 : decode cX12_isKey 2 = .ok (.lconst 0, 1) := by decide +kernel
theorem dX12_isKey_3 : decode cX12_isKey 3 = .ok (.ldc2_w 178, 3) := by decide +kernel
theorem dX12_isKey_6 : decode cX12_isKey 6 = .ok (.invokestatic 82, 3) := by decide +kernel
theorem dX12_isKey_9 : decode cX12_isKey 9 = .ok (.ireturn, 1) := by decide +kernel
set_option maxHeartbeats 4000000 in
set_option maxRecDepth 100000 in
theorem c_X12_isKey (l : Launch) (D : va_G) (cy : ClassId)  (a : Int32)  : wk_Ci l yX12_isKey cX12_isKey 1 (some .boolean) { frames := 1, cells := 0, slots := 0, locals := 25 } D cy [.int a] [] 0 0 (fun (r : Int32) (u : Unit) => r = (fn_X12_isKey a) ∧ (r = 0 ∨ r = 1) ∧ (wk_or (r.toInt = 0) (0 ≤ a.toInt ∧ a.toInt ≤ 99))) (fun u => []) := by
  refine wk_mk2Cz (by decide) (Nat.le_of_ble_eq_true rfl) ?_
  intro p e s m args below meth c A ls Q B hA hK hP hD hS hl hret
  obtain ⟨hx, hb, hr, hlocks, hml, hown, htb, hin⟩ := B
  have hl : lv_has ls 1 [(0, .int a)] := hl
  have hF : (fn_X12_isKey a) = (fn_X12_isKey a) := rfl
  conv at hF => rhs; unfold fn_X12_isKey
  refine lv_iload_n hx hb dX12_isKey_0 rfl (lv_at hl 0 rfl) ?_
  refine lv_i2l (v := a.toInt64) hx hb dX12_isKey_1 rfl ?_
  refine lv_lconst (v := 0) hx hb dX12_isKey_2 (by decide) ?_
  refine lv_ldc2 (v := 99) hx hb hown (htb _ tw_964) dX12_isKey_3 ?_
  refine wk_iS (As := [.long a.toInt64, .long 0, .long 99]) (rest := []) (wc := []) (wr := []) (n := 3) ⟨hx, hb, hml, hown, htb⟩ (c_X12_in l D cy   a.toInt64 0 99 ) tw_903 tw_901 tw_902 tw_71 rfl rfl (by decide +kernel) ⟨Nat.le_of_ble_eq_true rfl, Nat.le_of_ble_eq_true rfl⟩ hK hP hD hS hA [] [] rfl rfl rfl rfl (by decide) rfl hl.1 rfl (Nat.le_of_ble_eq_true rfl) dX12_isKey_6 ⟨Nat.le_of_ble_eq_true rfl, Nat.le_of_ble_eq_true rfl⟩ (fun r_1 u_2 H locs hw_3 hP hD hS => ?_)
  refine W.widen (k := 0) (n := 0) (by decide) (by decide) ?_
  obtain ⟨hw_3, k_4⟩ := hw_3
  have hw_3 : r_1 = (wk_in a.toInt64 0 99) := hw_3
  subst hw_3
  have k_4 : ((wk_in a.toInt64 0 99) = 0 ∨ (wk_in a.toInt64 0 99) = 1) := k_4
  have k_5 : 0 ≤ (wk_in a.toInt64 0 99).toInt ∧ (wk_in a.toInt64 0 99).toInt ≤ 1 := wk_b01 (by assumption)
  have hP : va_P D classes [] H := hP
  have hD : va_D A [] := hD
  refine W.widen (k := 0) (n := 0) (by decide) (by decide) ?_
  have k_6 : ((wk_in a.toInt64 0 99).toInt = 1 ∧ 0 ≤ a.toInt ∧ a.toInt ≤ 99) ∨ ((wk_in a.toInt64 0 99).toInt = 0 ∧ ¬ (0 ≤ a.toInt ∧ a.toInt ≤ 99)) := by have h9 := wk_inf a.toInt64 0 99; simp only [wk_64] at h9; exact h9
  exact hret (wk_in a.toInt64 0 99) () _ _ _ 9 (wk_nb (by first | exact Or.inl rfl | exact Or.inr rfl | assumption)) (wk_sub9 (is := []) hP rfl) (hD.sub [] rfl rfl) hS dX12_isKey_9 ⟨hF.symm, (by first | exact Or.inl rfl | exact Or.inr rfl | assumption), (wk_orI (show ((wk_in a.toInt64 0 99).toInt : Int) = 0 ∨ (0 ≤ a.toInt ∧ a.toInt ≤ 99) from by omega))⟩
def fn_X12_isThere (mo_many : Int32) (mkeys_a : Nat → Int32) (a : Int32) : Int32 := (if mo_many ≤ (fn_X12_placeOf mo_many mkeys_a a) then 0 else (if (mkeys_a (fn_X12_placeOf mo_many mkeys_a a).toNatClampNeg) = a then 1 else 0))
theorem dX12_isThere_0 : decode cX12_isThere 0 = .ok (.aload_n 0, 1) := by decide +kernel
theorem dX12_isThere_1 : decode cX12_isThere 1 = .ok (.iload_n 1, 1) := by decide +kernel
theorem dX12_isThere_2 : decode cX12_isThere 2 = .ok (.invokevirtual 245, 3) := by decide +kernel
theorem dX12_isThere_5 : decode cX12_isThere 5 = .ok (.istore_n 2, 1) := by decide +kernel
theorem dX12_isThere_6 : decode cX12_isThere 6 = .ok (.iload_n 2, 1) := by decide +kernel
theorem dX12_isThere_7 : decode cX12_isThere 7 = .ok (.aload_n 0, 1) := by decide +kernel
theorem dX12_isThere_8 : decode cX12_isThere 8 = .ok (.getfield 121, 3) := by decide +kernel
theorem dX12_isThere_11 : decode cX12_isThere 11 = .ok (.if_icmp .ge 17, 3) := by decide +kernel
theorem dX12_isThere_14 : decode cX12_isThere 14 = .ok (.aload_n 0, 1) := by decide +kernel
theorem dX12_isThere_15 : decode cX12_isThere 15 = .ok (.getfield 13, 3) := by decide +kernel
theorem dX12_isThere_18 : decode cX12_isThere 18 = .ok (.iload_n 2, 1) := by decide +kernel
theorem dX12_isThere_19 : decode cX12_isThere 19 = .ok (.iaload, 1) := by decide +kernel
theorem dX12_isThere_20 : decode cX12_isThere 20 = .ok (.iload_n 1, 1) := by decide +kernel
theorem dX12_isThere_21 : decode cX12_isThere 21 = .ok (.if_icmp .ne 7, 3) := by decide +kernel
theorem dX12_isThere_24 : decode cX12_isThere 24 = .ok (.iconst 1, 1) := by decide +kernel
theorem dX12_isThere_25 : decode cX12_isThere 25 = .ok (.goto 4, 3) := by decide +kernel
theorem dX12_isThere_28 : decode cX12_isThere 28 = .ok (.iconst 0, 1) := by decide +kernel
theorem dX12_isThere_29 : decode cX12_isThere 29 = .ok (.ireturn, 1) := by decide +kernel
set_option maxHeartbeats 4000000 in
set_option maxRecDepth 100000 in
theorem c_X12_isThere (l : Launch) (D : va_G) (cy : ClassId) (mo mpage mkeys mvalues mheights mheats msecondKeys msecondValues msecondHeights msecondHeats msaved mbestHeights msights mby mkeptKeys mkeptValues mkeptHeights mkeptHeats mkeptKeys2 mkeptValues2 mkeptHeights2 mkeptHeats2 mkeptSights : Nat) (mo_pageMany : Int32) (mo_law : Int32) (mo_many : Int32) (mo_asked : Int32) (mo_looksAll : Int32) (mo_changes : Int32) (mo_rowsRead : Int32) (mo_secondMany : Int32) (mo_foundAt : Int32) (mo_foundLooks : Int32) (mo_foundLane : Int32) (mo_bestsDone : Int32) (mo_seenMany : Int32) (mo_seedNow : Int32) (mo_keptRow : Int32) (mo_keptMany : Int32) (mo_keptSecond : Int32) (mo_keptAsked : Int32) (mo_keptLooks : Int32) (mo_keptChanges : Int32) (mo_keptSeen : Int32) (mo_hash : Int64) (mkeys_a : Nat → Int32) (a : Int32) (g_0 : 0 ≤ mo_pageMany.toInt ∧ mo_pageMany.toInt ≤ 44) (g_1 : 0 ≤ mo_many.toInt ∧ mo_many.toInt ≤ 8) (g_2 : 0 ≤ mo_secondMany.toInt ∧ mo_secondMany.toInt ≤ 8) (g_3 : (-1) ≤ mo_foundAt.toInt ∧ mo_foundAt.toInt ≤ 7) (g_4 : 0 ≤ mo_seenMany.toInt ∧ mo_seenMany.toInt ≤ 6) (g_5 : 0 ≤ mo_keptMany.toInt ∧ mo_keptMany.toInt ≤ 8) (g_6 : 0 ≤ mo_keptSecond.toInt ∧ mo_keptSecond.toInt ≤ 8) (g_7 : 0 ≤ mo_keptSeen.toInt ∧ mo_keptSeen.toInt ≤ 6) : wk_Ci l yX12_isThere cX12_isThere 3 (some .boolean) { frames := 1, cells := 0, slots := 0, locals := 22 } D cy [.ref mo, .int a] [(mo, .inr (12, [.ref mpage, .int mo_pageMany, .int mo_law, .int mo_many, .int mo_asked, .int mo_looksAll, .int mo_changes, .int mo_rowsRead, .ref mkeys, .ref mvalues, .ref mheights, .ref mheats, .int mo_secondMany, .ref msecondKeys, .ref msecondValues, .ref msecondHeights, .ref msecondHeats, .int mo_foundAt, .int mo_foundLooks, .int mo_foundLane, .int mo_bestsDone, .ref msaved, .ref mbestHeights, .int mo_seenMany, .ref msights, .ref mby, .int mo_seedNow, .int mo_keptRow, .int mo_keptMany, .int mo_keptSecond, .int mo_keptAsked, .int mo_keptLooks, .int mo_keptChanges, .int mo_keptSeen, .ref mkeptKeys, .ref mkeptValues, .ref mkeptHeights, .ref mkeptHeats, .ref mkeptKeys2, .ref mkeptValues2, .ref mkeptHeights2, .ref mkeptHeats2, .ref mkeptSights, .long mo_hash])), (mkeys, .inl (cy, 8, .inl mkeys_a))] 0 0 (fun (r : Int32) (u : Unit) => r = (fn_X12_isThere mo_many mkeys_a a) ∧ (r = 0 ∨ r = 1) ∧ (wk_or (r.toInt = 0) ((fn_X12_placeOf mo_many mkeys_a a).toInt < mo_many.toInt))) (fun u => [(mo, .inr (12, [.ref mpage, .int mo_pageMany, .int mo_law, .int mo_many, .int mo_asked, .int mo_looksAll, .int mo_changes, .int mo_rowsRead, .ref mkeys, .ref mvalues, .ref mheights, .ref mheats, .int mo_secondMany, .ref msecondKeys, .ref msecondValues, .ref msecondHeights, .ref msecondHeats, .int mo_foundAt, .int mo_foundLooks, .int mo_foundLane, .int mo_bestsDone, .ref msaved, .ref mbestHeights, .int mo_seenMany, .ref msights, .ref mby, .int mo_seedNow, .int mo_keptRow, .int mo_keptMany, .int mo_keptSecond, .int mo_keptAsked, .int mo_keptLooks, .int mo_keptChanges, .int mo_keptSeen, .ref mkeptKeys, .ref mkeptValues, .ref mkeptHeights, .ref mkeptHeats, .ref mkeptKeys2, .ref mkeptValues2, .ref mkeptHeights2, .ref mkeptHeats2, .ref mkeptSights, .long mo_hash])), (mkeys, .inl (cy, 8, .inl mkeys_a))]) := by
  refine wk_mk2Cz (by decide) (Nat.le_of_ble_eq_true rfl) ?_
  intro p e s m args below meth c A ls Q B hA hK hP hD hS hl hret
  obtain ⟨hx, hb, hr, hlocks, hml, hown, htb, hin⟩ := B
  have hl : lv_has ls 3 [(0, .ref mo), (1, .int a)] := hl
  have hF : (fn_X12_isThere mo_many mkeys_a a) = (fn_X12_isThere mo_many mkeys_a a) := rfl
  conv at hF => rhs; unfold fn_X12_isThere
  refine lv_aload_n hx hb dX12_isThere_0 rfl (lv_at hl 0 rfl) ?_
  refine lv_iload_n hx hb dX12_isThere_1 rfl (lv_at hl 1 rfl) ?_
  refine wk_iV (As := [.int a]) (rest := []) (wc := [(mo, .inr (12, [.ref mpage, .int mo_pageMany, .int mo_law, .int mo_many, .int mo_asked, .int mo_looksAll, .int mo_changes, .int mo_rowsRead, .ref mkeys, .ref mvalues, .ref mheights, .ref mheats, .int mo_secondMany, .ref msecondKeys, .ref msecondValues, .ref msecondHeights, .ref msecondHeats, .int mo_foundAt, .int mo_foundLooks, .int mo_foundLane, .int mo_bestsDone, .ref msaved, .ref mbestHeights, .int mo_seenMany, .ref msights, .ref mby, .int mo_seedNow, .int mo_keptRow, .int mo_keptMany, .int mo_keptSecond, .int mo_keptAsked, .int mo_keptLooks, .int mo_keptChanges, .int mo_keptSeen, .ref mkeptKeys, .ref mkeptValues, .ref mkeptHeights, .ref mkeptHeats, .ref mkeptKeys2, .ref mkeptValues2, .ref mkeptHeights2, .ref mkeptHeats2, .ref mkeptSights, .long mo_hash])), (mkeys, .inl (cy, 8, .inl mkeys_a))]) (wr := []) (n := 1) ⟨hx, hb, hml, hown, htb⟩ (c_X12_placeOf l D cy mo mpage mkeys mvalues mheights mheats msecondKeys msecondValues msecondHeights msecondHeats msaved mbestHeights msights mby mkeptKeys mkeptValues mkeptHeights mkeptHeats mkeptKeys2 mkeptValues2 mkeptHeights2 mkeptHeats2 mkeptSights mo_pageMany mo_law mo_many mo_asked mo_looksAll mo_changes mo_rowsRead mo_secondMany mo_foundAt mo_foundLooks mo_foundLane mo_bestsDone mo_seenMany mo_seedNow mo_keptRow mo_keptMany mo_keptSecond mo_keptAsked mo_keptLooks mo_keptChanges mo_keptSeen mo_hash mkeys_a a (show 0 ≤ mo_pageMany.toInt ∧ mo_pageMany.toInt ≤ 44 from by omega) (show 0 ≤ mo_many.toInt ∧ mo_many.toInt ≤ 8 from by omega) (show 0 ≤ mo_secondMany.toInt ∧ mo_secondMany.toInt ≤ 8 from by omega) (show (-1) ≤ mo_foundAt.toInt ∧ mo_foundAt.toInt ≤ 7 from by omega) (show 0 ≤ mo_seenMany.toInt ∧ mo_seenMany.toInt ≤ 6 from by omega) (show 0 ≤ mo_keptMany.toInt ∧ mo_keptMany.toInt ≤ 8 from by omega) (show 0 ≤ mo_keptSecond.toInt ∧ mo_keptSecond.toInt ≤ 8 from by omega) (show 0 ≤ mo_keptSeen.toInt ∧ mo_keptSeen.toInt ≤ 6 from by omega)) tw_1100 tw_1097 tw_1099 tw_50 tw_71 rfl rfl (by decide +kernel) ⟨Nat.le_of_ble_eq_true rfl, Nat.le_of_ble_eq_true rfl⟩ hK hP hD hS hA [0, 1] [] rfl rfl rfl rfl (by decide) 0 (ci := 12) rfl rfl rfl hl.1 rfl (Nat.le_of_ble_eq_true rfl) dX12_isThere_2 ⟨Nat.le_of_ble_eq_true rfl, Nat.le_of_ble_eq_true rfl⟩ (fun r_1 u_2 H locs hw_3 hP hD hS => ?_)
  refine W.widen (k := 0) (n := 0) (by decide) (by decide) ?_
  obtain ⟨hw_3, k_4, k_5⟩ := hw_3
  have hw_3 : r_1 = (fn_X12_placeOf mo_many mkeys_a a) := hw_3
  subst hw_3
  have k_4 : (0 ≤ (fn_X12_placeOf mo_many mkeys_a a).toInt ∧ (fn_X12_placeOf mo_many mkeys_a a).toInt ≤ 8) := k_4
  have k_5 : ((fn_X12_placeOf mo_many mkeys_a a).toInt ≤ mo_many.toInt) := k_5
  have hP : va_P D classes [(mo, .inr (12, [.ref mpage, .int mo_pageMany, .int mo_law, .int mo_many, .int mo_asked, .int mo_looksAll, .int mo_changes, .int mo_rowsRead, .ref mkeys, .ref mvalues, .ref mheights, .ref mheats, .int mo_secondMany, .ref msecondKeys, .ref msecondValues, .ref msecondHeights, .ref msecondHeats, .int mo_foundAt, .int mo_foundLooks, .int mo_foundLane, .int mo_bestsDone, .ref msaved, .ref mbestHeights, .int mo_seenMany, .ref msights, .ref mby, .int mo_seedNow, .int mo_keptRow, .int mo_keptMany, .int mo_keptSecond, .int mo_keptAsked, .int mo_keptLooks, .int mo_keptChanges, .int mo_keptSeen, .ref mkeptKeys, .ref mkeptValues, .ref mkeptHeights, .ref mkeptHeats, .ref mkeptKeys2, .ref mkeptValues2, .ref mkeptHeights2, .ref mkeptHeats2, .ref mkeptSights, .long mo_hash])), (mkeys, .inl (cy, 8, .inl mkeys_a))] H := hP
  have hD : va_D A [(mo, .inr (12, [.ref mpage, .int mo_pageMany, .int mo_law, .int mo_many, .int mo_asked, .int mo_looksAll, .int mo_changes, .int mo_rowsRead, .ref mkeys, .ref mvalues, .ref mheights, .ref mheats, .int mo_secondMany, .ref msecondKeys, .ref msecondValues, .ref msecondHeights, .ref msecondHeats, .int mo_foundAt, .int mo_foundLooks, .int mo_foundLane, .int mo_bestsDone, .ref msaved, .ref mbestHeights, .int mo_seenMany, .ref msights, .ref mby, .int mo_seedNow, .int mo_keptRow, .int mo_keptMany, .int mo_keptSecond, .int mo_keptAsked, .int mo_keptLooks, .int mo_keptChanges, .int mo_keptSeen, .ref mkeptKeys, .ref mkeptValues, .ref mkeptHeights, .ref mkeptHeats, .ref mkeptKeys2, .ref mkeptValues2, .ref mkeptHeights2, .ref mkeptHeats2, .ref mkeptSights, .long mo_hash])), (mkeys, .inl (cy, 8, .inl mkeys_a))] := hD
  refine lv_istore_n (lv' := [(2, .int (fn_X12_placeOf mo_many mkeys_a a)), (0, .ref mo), (1, .int a)]) hx hb dX12_isThere_5 rfl hl (by decide) rfl (fun ls hl => ?_)
  refine lv_iload_n hx hb dX12_isThere_6 rfl (lv_at hl 0 rfl) ?_
  refine lv_aload_n hx hb dX12_isThere_7 rfl (lv_at hl 1 rfl) ?_
  refine va_get (D := D) (ci := 12) (v := .int mo_many) (C := RX12) (T := TX12) (N := 44) hx hb htb inX12 hown hK hP 0 rfl rfl 3 (by decide) (htb _ tw_766) (fun _ h9 => h9) rfl dX12_isThere_8 ?_
  refine lv_icmp_ge (tgt := 28) hx hb dX12_isThere_11 (by decide) (fun c_6 => ?_) (fun c_6 => ?_)
  · have k_6 : mo_many.toInt ≤ (fn_X12_placeOf mo_many mkeys_a a).toInt := wk_le c_6
    replace hF := hF.trans (if_pos c_6)
    refine lv_iconst (v := 0) hx hb dX12_isThere_28 (by decide) ?_
    refine W.widen (k := 0) (n := 0) (by decide) (by decide) ?_
    exact hret 0 () _ _ _ 29 (wk_nb (by first | exact Or.inl rfl | exact Or.inr rfl | assumption)) (wk_sub9 (is := [0, 1]) hP rfl) (hD.sub [0, 1] rfl rfl) hS dX12_isThere_29 ⟨hF.symm, (by first | exact Or.inl rfl | exact Or.inr rfl | assumption), (wk_orI (show (0 : Int) = 0 ∨ ((fn_X12_placeOf mo_many mkeys_a a).toInt < mo_many.toInt) from by omega))⟩
  · have k_6 : ¬ mo_many.toInt ≤ (fn_X12_placeOf mo_many mkeys_a a).toInt := wk_nle c_6
    replace hF := hF.trans (if_neg c_6)
    refine lv_aload_n hx hb dX12_isThere_14 rfl (lv_at hl 1 rfl) ?_
    refine va_get (D := D) (ci := 12) (v := .ref mkeys) (C := RX12) (T := TX12) (N := 44) hx hb htb inX12 hown hK hP 0 rfl rfl 8 (by decide) (htb _ tw_771) (fun _ h9 => h9) rfl dX12_isThere_15 ?_
    refine lv_iload_n hx hb dX12_isThere_18 rfl (lv_at hl 0 rfl) ?_
    refine va_iald hx hb hK hP 1 0 rfl rfl (show vp_in (fn_X12_placeOf mo_many mkeys_a a) 8 from vp_in_iff.mpr (show 0 ≤ (fn_X12_placeOf mo_many mkeys_a a).toInt ∧ (fn_X12_placeOf mo_many mkeys_a a).toInt < ((8 : Nat) : Int) from by omega)) dX12_isThere_19 ?_
    refine lv_iload_n hx hb dX12_isThere_20 rfl (lv_at hl 2 rfl) ?_
    refine lv_icmp_ne (tgt := 28) hx hb dX12_isThere_21 (by decide) (fun c_7 => ?_) (fun c_7 => ?_)
    · have k_7 : ¬ (mkeys_a (fn_X12_placeOf mo_many mkeys_a a).toNatClampNeg).toInt = a.toInt := wk_neq c_7
      replace hF := hF.trans (if_neg c_7)
      refine lv_iconst (v := 0) hx hb dX12_isThere_28 (by decide) ?_
      refine W.widen (k := 0) (n := 0) (by decide) (by decide) ?_
      exact hret 0 () _ _ _ 29 (wk_nb (by first | exact Or.inl rfl | exact Or.inr rfl | assumption)) (wk_sub9 (is := [0, 1]) hP rfl) (hD.sub [0, 1] rfl rfl) hS dX12_isThere_29 ⟨hF.symm, (by first | exact Or.inl rfl | exact Or.inr rfl | assumption), (wk_orI (show (0 : Int) = 0 ∨ ((fn_X12_placeOf mo_many mkeys_a a).toInt < mo_many.toInt) from by omega))⟩
    · have k_7 : (mkeys_a (fn_X12_placeOf mo_many mkeys_a a).toNatClampNeg).toInt = a.toInt := wk_eq c_7
      replace hF := hF.trans (if_pos c_7)
      refine lv_iconst (v := 1) hx hb dX12_isThere_24 (by decide) ?_
      refine lv_goto (tgt := 29) hx hb dX12_isThere_25 (by decide) ?_
      refine W.widen (k := 0) (n := 0) (by decide) (by decide) ?_
      exact hret 1 () _ _ _ 29 (wk_nb (by first | exact Or.inl rfl | exact Or.inr rfl | assumption)) (wk_sub9 (is := [0, 1]) hP rfl) (hD.sub [0, 1] rfl rfl) hS dX12_isThere_29 ⟨hF.symm, (by first | exact Or.inl rfl | exact Or.inr rfl | assumption), (wk_orI (show (1 : Int) = 0 ∨ ((fn_X12_placeOf mo_many mkeys_a a).toInt < mo_many.toInt) from by omega))⟩
