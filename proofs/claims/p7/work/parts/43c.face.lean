def fn_X11_count (x_rowsRead : Int32) (x_bestsDone : Int32) (pg_size : Int32) (nw_asked : Int32) (nw_looksOfAsked : Int32) (nw_changes : Int32) (nwf_size : Int32) (nwfk_a : Nat → Int32) (nwfv_a : Nat → Int32) (nwfh_a : Nat → Int32) (nwft_a : Nat → Int32) (nws_size : Int32) (nwe_size : Int32) (a : Int32) : Int32 := (if a = 0 then nwf_size else (if a = 1 then (fn_X8_highestOf nwf_size nwfh_a) else (if a = 2 then (fn_X8_linksOf nwf_size nwfh_a) else (if a = 3 then (fn_X8_valuesBetween nwf_size nwfk_a nwfv_a 0 99) else (if a = 4 then (fn_X8_allHeat nwf_size nwft_a) else (if a = 5 then nws_size else (if a = 6 then nw_asked else (if a = 7 then nw_looksOfAsked else (if a = 8 then nw_changes else (if a = 9 then nwe_size else (if a = 10 then pg_size else (if a = 11 then x_rowsRead else (if a = 12 then x_bestsDone else (-102))))))))))))))
theorem dX11_count_0 : decode cX11_count 0 = .ok (.iload_n 1, 1) := by decide +kernel
theorem dX11_count_1 : decode cX11_count 1 = .ok (.tableswitch 209 0 12 #[67, 78, 99, 120, 134, 145, 156, 164, 172, 180, 191, 199, 204], 67) := by decide +kernel
theorem dX11_count_68 : decode cX11_count 68 = .ok (.aload_n 0, 1) := by decide +kernel
theorem dX11_count_69 : decode cX11_count 69 = .ok (.getfield 22, 3) := by decide +kernel
theorem dX11_count_72 : decode cX11_count 72 = .ok (.getfield 77, 3) := by decide +kernel
theorem dX11_count_75 : decode cX11_count 75 = .ok (.getfield 91, 3) := by decide +kernel
theorem dX11_count_78 : decode cX11_count 78 = .ok (.ireturn, 1) := by decide +kernel
theorem dX11_count_79 : decode cX11_count 79 = .ok (.aload_n 0, 1) := by decide +kernel
theorem dX11_count_80 : decode cX11_count 80 = .ok (.getfield 22, 3) := by decide +kernel
theorem dX11_count_83 : decode cX11_count 83 = .ok (.getfield 77, 3) := by decide +kernel
theorem dX11_count_86 : decode cX11_count 86 = .ok (.aload_n 0, 1) := by decide +kernel
theorem dX11_count_87 : decode cX11_count 87 = .ok (.getfield 22, 3) := by decide +kernel
theorem dX11_count_90 : decode cX11_count 90 = .ok (.getfield 77, 3) := by decide +kernel
theorem dX11_count_93 : decode cX11_count 93 = .ok (.getfield 111, 3) := by decide +kernel
theorem dX11_count_96 : decode cX11_count 96 = .ok (.invokevirtual 252, 3) := by decide +kernel
theorem dX11_count_99 : decode cX11_count 99 = .ok (.ireturn, 1) := by decide +kernel
theorem dX11_count_100 : decode cX11_count 100 = .ok (.aload_n 0, 1) := by decide +kernel
theorem dX11_count_101 : decode cX11_count 101 = .ok (.getfield 22, 3) := by decide +kernel
theorem dX11_count_104 : decode cX11_count 104 = .ok (.getfield 77, 3) := by decide +kernel
theorem dX11_count_107 : decode cX11_count 107 = .ok (.aload_n 0, 1) := by decide +kernel
theorem dX11_count_108 : decode cX11_count 108 = .ok (.getfield 22, 3) := by decide +kernel
theorem dX11_count_111 : decode cX11_count 111 = .ok (.getfield 77, 3) := by decide +kernel
theorem dX11_count_114 : decode cX11_count 114 = .ok (.getfield 111, 3) := by decide +kernel
theorem dX11_count_117 : decode cX11_count 117 = .ok (.invokevirtual 256, 3) := by decide +kernel
theorem dX11_count_120 : decode cX11_count 120 = .ok (.ireturn, 1) := by decide +kernel
theorem dX11_count_121 : decode cX11_count 121 = .ok (.aload_n 0, 1) := by decide +kernel
theorem dX11_count_122 : decode cX11_count 122 = .ok (.getfield 22, 3) := by decide +kernel
theorem dX11_count_125 : decode cX11_count 125 = .ok (.getfield 77, 3) := by decide +kernel
theorem dX11_count_128 : decode cX11_count 128 = .ok (.iconst 0, 1) := by decide +kernel
theorem dX11_count_129 : decode cX11_count 129 = .ok (.bipush 99, 2) := by decide +kernel
theorem dX11_count_131 : decode cX11_count 131 = .ok (.invokevirtual 166, 3) := by decide +kernel
theorem dX11_count_134 : decode cX11_count 134 = .ok (.ireturn, 1) := by decide +kernel
theorem dX11_count_135 : decode cX11_count 135 = .ok (.aload_n 0, 1) := by decide +kernel
theorem dX11_count_136 : decode cX11_count 136 = .ok (.getfield 22, 3) := by decide +kernel
theorem dX11_count_139 : decode cX11_count 139 = .ok (.getfield 77, 3) := by decide +kernel
theorem dX11_count_142 : decode cX11_count 142 = .ok (.invokevirtual 259, 3) := by decide +kernel
theorem dX11_count_145 : decode cX11_count 145 = .ok (.ireturn, 1) := by decide +kernel
theorem dX11_count_146 : decode cX11_count 146 = .ok (.aload_n 0, 1) := by decide +kernel
theorem dX11_count_147 : decode cX11_count 147 = .ok (.getfield 22, 3) := by decide +kernel
theorem dX11_count_150 : decode cX11_count 150 = .ok (.getfield 192, 3) := by decide +kernel
theorem dX11_count_153 : decode cX11_count 153 = .ok (.getfield 91, 3) := by decide +kernel
theorem dX11_count_156 : decode cX11_count 156 = .ok (.ireturn, 1) := by decide +kernel
theorem dX11_count_157 : decode cX11_count 157 = .ok (.aload_n 0, 1) := by decide +kernel
theorem dX11_count_158 : decode cX11_count 158 = .ok (.getfield 22, 3) := by decide +kernel
theorem dX11_count_161 : decode cX11_count 161 = .ok (.getfield 169, 3) := by decide +kernel
theorem dX11_count_164 : decode cX11_count 164 = .ok (.ireturn, 1) := by decide +kernel
theorem dX11_count_165 : decode cX11_count 165 = .ok (.aload_n 0, 1) := by decide +kernel
theorem dX11_count_166 : decode cX11_count 166 = .ok (.getfield 22, 3) := by decide +kernel
theorem dX11_count_169 : decode cX11_count 169 = .ok (.getfield 172, 3) := by decide +kernel
theorem dX11_count_172 : decode cX11_count 172 = .ok (.ireturn, 1) := by decide +kernel
theorem dX11_count_173 : decode cX11_count 173 = .ok (.aload_n 0, 1) := by decide +kernel
theorem dX11_count_174 : decode cX11_count 174 = .ok (.getfield 22, 3) := by decide +kernel
theorem dX11_count_177 : decode cX11_count 177 = .ok (.getfield 249, 3) := by decide +kernel
theorem dX11_count_180 : decode cX11_count 180 = .ok (.ireturn, 1) := by decide +kernel
theorem dX11_count_181 : decode cX11_count 181 = .ok (.aload_n 0, 1) := by decide +kernel
theorem dX11_count_182 : decode cX11_count 182 = .ok (.getfield 22, 3) := by decide +kernel
theorem dX11_count_185 : decode cX11_count 185 = .ok (.getfield 123, 3) := by decide +kernel
theorem dX11_count_188 : decode cX11_count 188 = .ok (.getfield 231, 3) := by decide +kernel
theorem dX11_count_191 : decode cX11_count 191 = .ok (.ireturn, 1) := by decide +kernel
theorem dX11_count_192 : decode cX11_count 192 = .ok (.aload_n 0, 1) := by decide +kernel
theorem dX11_count_193 : decode cX11_count 193 = .ok (.getfield 10, 3) := by decide +kernel
theorem dX11_count_196 : decode cX11_count 196 = .ok (.getfield 43, 3) := by decide +kernel
theorem dX11_count_199 : decode cX11_count 199 = .ok (.ireturn, 1) := by decide +kernel
theorem dX11_count_200 : decode cX11_count 200 = .ok (.aload_n 0, 1) := by decide +kernel
theorem dX11_count_201 : decode cX11_count 201 = .ok (.getfield 88, 3) := by decide +kernel
theorem dX11_count_204 : decode cX11_count 204 = .ok (.ireturn, 1) := by decide +kernel
theorem dX11_count_205 : decode cX11_count 205 = .ok (.aload_n 0, 1) := by decide +kernel
theorem dX11_count_206 : decode cX11_count 206 = .ok (.getfield 206, 3) := by decide +kernel
theorem dX11_count_209 : decode cX11_count 209 = .ok (.ireturn, 1) := by decide +kernel
theorem dX11_count_210 : decode cX11_count 210 = .ok (.bipush (-102), 2) := by decide +kernel
theorem dX11_count_212 : decode cX11_count 212 = .ok (.ireturn, 1) := by decide +kernel
set_option maxHeartbeats 4000000 in
set_option maxRecDepth 100000 in
theorem c_X11_count (l : Launch) (D : va_G) (cy : ClassId) (x pg wr nw kp wk tr pgc nwf nws nwe nwfk nwfv nwfh nwft nwsk nwsv nwsh nwst nwea nweb nwec : Nat) (lv : Value) (x_rowsRead : Int32) (x_rowOfImage : Int32) (x_bestsDone : Int32) (pg_size : Int32) (nw_asked : Int32) (nw_looksOfAsked : Int32) (nw_changes : Int32) (nwf_size : Int32) (nwfk_a : Nat → Int32) (nwfv_a : Nat → Int32) (nwfh_a : Nat → Int32) (nwft_a : Nat → Int32) (nws_size : Int32) (nwe_size : Int32) (a : Int32) (g_0 : 0 ≤ pg_size.toInt ∧ pg_size.toInt ≤ 44) (g_1 : 0 ≤ nwf_size.toInt ∧ nwf_size.toInt ≤ 8) (g_2 : 0 ≤ nws_size.toInt ∧ nws_size.toInt ≤ 8) (g_3 : 0 ≤ nwe_size.toInt ∧ nwe_size.toInt ≤ 6) : wk_Ci l yX11_count cX11_count 2 (some .int) { frames := 2, cells := 0, slots := 0, locals := 36 } D cy [.ref x, .int a] [(x, .inr (11, [.ref pg, .ref wr, .ref nw, .ref kp, .ref wk, .ref tr, lv, .int x_rowsRead, .int x_rowOfImage, .int x_bestsDone])), (pg, .inr (6, [.ref pgc, .int pg_size])), (nw, .inr (2, [.ref nwf, .ref nws, .ref nwe, .int nw_asked, .int nw_looksOfAsked, .int nw_changes])), (nwf, .inr (8, [.ref nwfk, .ref nwfv, .ref nwfh, .ref nwft, .int nwf_size])), (nwfk, .inl (cy, 8, .inl nwfk_a)), (nwfv, .inl (cy, 8, .inl nwfv_a)), (nwfh, .inl (cy, 8, .inl nwfh_a)), (nwft, .inl (cy, 8, .inl nwft_a)), (nws, .inr (8, [.ref nwsk, .ref nwsv, .ref nwsh, .ref nwst, .int nws_size])), (nwe, .inr (4, [.ref nwea, .ref nweb, .ref nwec, .int nwe_size]))] 0 0 (fun (r : Int32) (u : Unit) => r = (fn_X11_count x_rowsRead x_bestsDone pg_size nw_asked nw_looksOfAsked nw_changes nwf_size nwfk_a nwfv_a nwfh_a nwft_a nws_size nwe_size a)) (fun u => [(x, .inr (11, [.ref pg, .ref wr, .ref nw, .ref kp, .ref wk, .ref tr, lv, .int x_rowsRead, .int x_rowOfImage, .int x_bestsDone])), (pg, .inr (6, [.ref pgc, .int pg_size])), (nw, .inr (2, [.ref nwf, .ref nws, .ref nwe, .int nw_asked, .int nw_looksOfAsked, .int nw_changes])), (nwf, .inr (8, [.ref nwfk, .ref nwfv, .ref nwfh, .ref nwft, .int nwf_size])), (nwfk, .inl (cy, 8, .inl nwfk_a)), (nwfv, .inl (cy, 8, .inl nwfv_a)), (nwfh, .inl (cy, 8, .inl nwfh_a)), (nwft, .inl (cy, 8, .inl nwft_a)), (nws, .inr (8, [.ref nwsk, .ref nwsv, .ref nwsh, .ref nwst, .int nws_size])), (nwe, .inr (4, [.ref nwea, .ref nweb, .ref nwec, .int nwe_size]))]) := by
  refine wk_mk2Ci (by decide) (Nat.le_of_ble_eq_true rfl) ?_
  intro p e s m args below meth c A ls Q B hA hK hP hD hS hl hret
  obtain ⟨hx, hb, hr, hlocks, hml, hown, htb, hin⟩ := B
  have hl : lv_has ls 2 [(0, .ref x), (1, .int a)] := hl
  have hF : (fn_X11_count x_rowsRead x_bestsDone pg_size nw_asked nw_looksOfAsked nw_changes nwf_size nwfk_a nwfv_a nwfh_a nwft_a nws_size nwe_size a) = (fn_X11_count x_rowsRead x_bestsDone pg_size nw_asked nw_looksOfAsked nw_changes nwf_size nwfk_a nwfv_a nwfh_a nwft_a nws_size nwe_size a) := rfl
  conv at hF => rhs; unfold fn_X11_count
  refine lv_iload_n hx hb dX11_count_0 rfl (lv_at hl 1 rfl) ?_
  by_cases c_1 : a = 0
  · refine wk_toi c_1 ?_
    replace hF := hF.trans (if_pos c_1)
    have k_1 : a.toInt = 0 := wk_eq c_1
    refine lv_tableIn (off := 67) (tgt := 68) hx hb dX11_count_1 (by decide) (by decide) (by decide) (by decide) ?_
    refine lv_aload_n hx hb dX11_count_68 rfl (lv_at hl 0 rfl) ?_
    refine va_get (D := D) (ci := 11) (v := .ref nw) (C := RX11) (T := TX11) (N := 10) hx hb htb inX11 hown hK hP 0 rfl rfl 2 (by decide) (htb _ tw_254) (fun _ h9 => h9) rfl dX11_count_69 ?_
    refine va_get (D := D) (ci := 2) (v := .ref nwf) (C := RX2) (T := TX2) (N := 6) hx hb htb inX2 hown hK hP 2 rfl rfl 0 (by decide) (htb _ tw_171) (fun _ h9 => h9) rfl dX11_count_72 ?_
    refine va_get (D := D) (ci := 8) (v := .int nwf_size) (C := RX8) (T := TX8) (N := 5) hx hb htb inX8 hown hK hP 3 rfl rfl 4 (by decide) (htb _ tw_134) (fun _ h9 => h9) rfl dX11_count_75 ?_
    refine W.widen (k := 0) (n := 0) (by decide) (by decide) ?_
    exact hret nwf_size () _ _ _ 78 (wk_sub9 (is := [0, 1, 2, 3, 4, 5, 6, 7, 8, 9]) hP rfl) (hD.sub [0, 1, 2, 3, 4, 5, 6, 7, 8, 9] rfl rfl) hS dX11_count_78 hF.symm
  replace hF := hF.trans (if_neg c_1)
  have k_1 : ¬ a.toInt = 0 := wk_neq c_1
  by_cases c_2 : a = 1
  · refine wk_toi c_2 ?_
    replace hF := hF.trans (if_pos c_2)
    have k_2 : a.toInt = 1 := wk_eq c_2
    refine lv_tableIn (off := 78) (tgt := 79) hx hb dX11_count_1 (by decide) (by decide) (by decide) (by decide) ?_
    refine lv_aload_n hx hb dX11_count_79 rfl (lv_at hl 0 rfl) ?_
    refine va_get (D := D) (ci := 11) (v := .ref nw) (C := RX11) (T := TX11) (N := 10) hx hb htb inX11 hown hK hP 0 rfl rfl 2 (by decide) (htb _ tw_254) (fun _ h9 => h9) rfl dX11_count_80 ?_
    refine va_get (D := D) (ci := 2) (v := .ref nwf) (C := RX2) (T := TX2) (N := 6) hx hb htb inX2 hown hK hP 2 rfl rfl 0 (by decide) (htb _ tw_171) (fun _ h9 => h9) rfl dX11_count_83 ?_
    refine lv_aload_n hx hb dX11_count_86 rfl (lv_at hl 0 rfl) ?_
    refine va_get (D := D) (ci := 11) (v := .ref nw) (C := RX11) (T := TX11) (N := 10) hx hb htb inX11 hown hK hP 0 rfl rfl 2 (by decide) (htb _ tw_254) (fun _ h9 => h9) rfl dX11_count_87 ?_
    refine va_get (D := D) (ci := 2) (v := .ref nwf) (C := RX2) (T := TX2) (N := 6) hx hb htb inX2 hown hK hP 2 rfl rfl 0 (by decide) (htb _ tw_171) (fun _ h9 => h9) rfl dX11_count_90 ?_
    refine va_get (D := D) (ci := 8) (v := .ref nwfh) (C := RX8) (T := TX8) (N := 5) hx hb htb inX8 hown hK hP 3 rfl rfl 2 (by decide) (htb _ tw_125) (fun _ h9 => h9) rfl dX11_count_93 ?_
    refine wk_iV (As := [.ref nwfh]) (rest := []) (wc := [(nwf, .inr (8, [.ref nwfk, .ref nwfv, .ref nwfh, .ref nwft, .int nwf_size])), (nwfh, .inl (cy, 8, .inl nwfh_a))]) (wr := [(x, .inr (11, [.ref pg, .ref wr, .ref nw, .ref kp, .ref wk, .ref tr, lv, .int x_rowsRead, .int x_rowOfImage, .int x_bestsDone])), (pg, .inr (6, [.ref pgc, .int pg_size])), (nw, .inr (2, [.ref nwf, .ref nws, .ref nwe, .int nw_asked, .int nw_looksOfAsked, .int nw_changes])), (nwfk, .inl (cy, 8, .inl nwfk_a)), (nwfv, .inl (cy, 8, .inl nwfv_a)), (nwft, .inl (cy, 8, .inl nwft_a)), (nws, .inr (8, [.ref nwsk, .ref nwsv, .ref nwsh, .ref nwst, .int nws_size])), (nwe, .inr (4, [.ref nwea, .ref nweb, .ref nwec, .int nwe_size]))]) (n := 1) ⟨hx, hb, hml, hown, htb⟩ (c_X8_highestOf l D cy nwf nwfk nwfv nwfh nwft nwfh nwf_size nwfh_a  (show 0 ≤ nwf_size.toInt ∧ nwf_size.toInt ≤ 8 from by omega)) tw_493 tw_725 tw_491 tw_492 tw_67 rfl rfl (by decide +kernel) ⟨Nat.le_of_ble_eq_true rfl, Nat.le_of_ble_eq_true rfl⟩ hK hP hD hS hA [3, 6] [0, 1, 2, 4, 5, 7, 8, 9] rfl rfl rfl rfl (by decide) 0 (ci := 8) rfl rfl rfl hl.1 rfl (Nat.le_of_ble_eq_true rfl) dX11_count_96 ⟨Nat.le_of_ble_eq_true rfl, Nat.le_of_ble_eq_true rfl⟩ (fun r_3 u_4 H locs hw_5 hP hD hS => ?_)
    refine W.widen (k := 0) (n := 0) (by decide) (by decide) ?_
    have hw_5 : r_3 = (fn_X8_highestOf nwf_size nwfh_a) := hw_5
    subst hw_5
    have hP : va_P D classes [(x, .inr (11, [.ref pg, .ref wr, .ref nw, .ref kp, .ref wk, .ref tr, lv, .int x_rowsRead, .int x_rowOfImage, .int x_bestsDone])), (pg, .inr (6, [.ref pgc, .int pg_size])), (nw, .inr (2, [.ref nwf, .ref nws, .ref nwe, .int nw_asked, .int nw_looksOfAsked, .int nw_changes])), (nwfk, .inl (cy, 8, .inl nwfk_a)), (nwfv, .inl (cy, 8, .inl nwfv_a)), (nwft, .inl (cy, 8, .inl nwft_a)), (nws, .inr (8, [.ref nwsk, .ref nwsv, .ref nwsh, .ref nwst, .int nws_size])), (nwe, .inr (4, [.ref nwea, .ref nweb, .ref nwec, .int nwe_size])), (nwf, .inr (8, [.ref nwfk, .ref nwfv, .ref nwfh, .ref nwft, .int nwf_size])), (nwfh, .inl (cy, 8, .inl nwfh_a))] H := hP
    have hD : va_D A [(x, .inr (11, [.ref pg, .ref wr, .ref nw, .ref kp, .ref wk, .ref tr, lv, .int x_rowsRead, .int x_rowOfImage, .int x_bestsDone])), (pg, .inr (6, [.ref pgc, .int pg_size])), (nw, .inr (2, [.ref nwf, .ref nws, .ref nwe, .int nw_asked, .int nw_looksOfAsked, .int nw_changes])), (nwfk, .inl (cy, 8, .inl nwfk_a)), (nwfv, .inl (cy, 8, .inl nwfv_a)), (nwft, .inl (cy, 8, .inl nwft_a)), (nws, .inr (8, [.ref nwsk, .ref nwsv, .ref nwsh, .ref nwst, .int nws_size])), (nwe, .inr (4, [.ref nwea, .ref nweb, .ref nwec, .int nwe_size])), (nwf, .inr (8, [.ref nwfk, .ref nwfv, .ref nwfh, .ref nwft, .int nwf_size])), (nwfh, .inl (cy, 8, .inl nwfh_a))] := hD
    refine W.widen (k := 0) (n := 0) (by decide) (by decide) ?_
    exact hret (fn_X8_highestOf nwf_size nwfh_a) () _ _ _ 99 (wk_sub9 (is := [0, 1, 2, 8, 3, 4, 9, 5, 6, 7]) hP rfl) (hD.sub [0, 1, 2, 8, 3, 4, 9, 5, 6, 7] rfl rfl) hS dX11_count_99 hF.symm
  replace hF := hF.trans (if_neg c_2)
  have k_2 : ¬ a.toInt = 1 := wk_neq c_2
  by_cases c_6 : a = 2
  · refine wk_toi c_6 ?_
    replace hF := hF.trans (if_pos c_6)
    have k_6 : a.toInt = 2 := wk_eq c_6
    refine lv_tableIn (off := 99) (tgt := 100) hx hb dX11_count_1 (by decide) (by decide) (by decide) (by decide) ?_
    refine lv_aload_n hx hb dX11_count_100 rfl (lv_at hl 0 rfl) ?_
    refine va_get (D := D) (ci := 11) (v := .ref nw) (C := RX11) (T := TX11) (N := 10) hx hb htb inX11 hown hK hP 0 rfl rfl 2 (by decide) (htb _ tw_254) (fun _ h9 => h9) rfl dX11_count_101 ?_
    refine va_get (D := D) (ci := 2) (v := .ref nwf) (C := RX2) (T := TX2) (N := 6) hx hb htb inX2 hown hK hP 2 rfl rfl 0 (by decide) (htb _ tw_171) (fun _ h9 => h9) rfl dX11_count_104 ?_
    refine lv_aload_n hx hb dX11_count_107 rfl (lv_at hl 0 rfl) ?_
    refine va_get (D := D) (ci := 11) (v := .ref nw) (C := RX11) (T := TX11) (N := 10) hx hb htb inX11 hown hK hP 0 rfl rfl 2 (by decide) (htb _ tw_254) (fun _ h9 => h9) rfl dX11_count_108 ?_
    refine va_get (D := D) (ci := 2) (v := .ref nwf) (C := RX2) (T := TX2) (N := 6) hx hb htb inX2 hown hK hP 2 rfl rfl 0 (by decide) (htb _ tw_171) (fun _ h9 => h9) rfl dX11_count_111 ?_
    refine va_get (D := D) (ci := 8) (v := .ref nwfh) (C := RX8) (T := TX8) (N := 5) hx hb htb inX8 hown hK hP 3 rfl rfl 2 (by decide) (htb _ tw_125) (fun _ h9 => h9) rfl dX11_count_114 ?_
    refine wk_iV (As := [.ref nwfh]) (rest := []) (wc := [(nwf, .inr (8, [.ref nwfk, .ref nwfv, .ref nwfh, .ref nwft, .int nwf_size])), (nwfh, .inl (cy, 8, .inl nwfh_a))]) (wr := [(x, .inr (11, [.ref pg, .ref wr, .ref nw, .ref kp, .ref wk, .ref tr, lv, .int x_rowsRead, .int x_rowOfImage, .int x_bestsDone])), (pg, .inr (6, [.ref pgc, .int pg_size])), (nw, .inr (2, [.ref nwf, .ref nws, .ref nwe, .int nw_asked, .int nw_looksOfAsked, .int nw_changes])), (nwfk, .inl (cy, 8, .inl nwfk_a)), (nwfv, .inl (cy, 8, .inl nwfv_a)), (nwft, .inl (cy, 8, .inl nwft_a)), (nws, .inr (8, [.ref nwsk, .ref nwsv, .ref nwsh, .ref nwst, .int nws_size])), (nwe, .inr (4, [.ref nwea, .ref nweb, .ref nwec, .int nwe_size]))]) (n := 1) ⟨hx, hb, hml, hown, htb⟩ (c_X8_linksOf l D cy nwf nwfk nwfv nwfh nwft nwfh nwf_size nwfh_a  (show 0 ≤ nwf_size.toInt ∧ nwf_size.toInt ≤ 8 from by omega)) tw_649 tw_726 tw_647 tw_648 tw_67 rfl rfl (by decide +kernel) ⟨Nat.le_of_ble_eq_true rfl, Nat.le_of_ble_eq_true rfl⟩ hK hP hD hS hA [3, 6] [0, 1, 2, 4, 5, 7, 8, 9] rfl rfl rfl rfl (by decide) 0 (ci := 8) rfl rfl rfl hl.1 rfl (Nat.le_of_ble_eq_true rfl) dX11_count_117 ⟨Nat.le_of_ble_eq_true rfl, Nat.le_of_ble_eq_true rfl⟩ (fun r_7 u_8 H locs hw_9 hP hD hS => ?_)
    refine W.widen (k := 0) (n := 0) (by decide) (by decide) ?_
    have hw_9 : r_7 = (fn_X8_linksOf nwf_size nwfh_a) := hw_9
    subst hw_9
    have hP : va_P D classes [(x, .inr (11, [.ref pg, .ref wr, .ref nw, .ref kp, .ref wk, .ref tr, lv, .int x_rowsRead, .int x_rowOfImage, .int x_bestsDone])), (pg, .inr (6, [.ref pgc, .int pg_size])), (nw, .inr (2, [.ref nwf, .ref nws, .ref nwe, .int nw_asked, .int nw_looksOfAsked, .int nw_changes])), (nwfk, .inl (cy, 8, .inl nwfk_a)), (nwfv, .inl (cy, 8, .inl nwfv_a)), (nwft, .inl (cy, 8, .inl nwft_a)), (nws, .inr (8, [.ref nwsk, .ref nwsv, .ref nwsh, .ref nwst, .int nws_size])), (nwe, .inr (4, [.ref nwea, .ref nweb, .ref nwec, .int nwe_size])), (nwf, .inr (8, [.ref nwfk, .ref nwfv, .ref nwfh, .ref nwft, .int nwf_size])), (nwfh, .inl (cy, 8, .inl nwfh_a))] H := hP
    have hD : va_D A [(x, .inr (11, [.ref pg, .ref wr, .ref nw, .ref kp, .ref wk, .ref tr, lv, .int x_rowsRead, .int x_rowOfImage, .int x_bestsDone])), (pg, .inr (6, [.ref pgc, .int pg_size])), (nw, .inr (2, [.ref nwf, .ref nws, .ref nwe, .int nw_asked, .int nw_looksOfAsked, .int nw_changes])), (nwfk, .inl (cy, 8, .inl nwfk_a)), (nwfv, .inl (cy, 8, .inl nwfv_a)), (nwft, .inl (cy, 8, .inl nwft_a)), (nws, .inr (8, [.ref nwsk, .ref nwsv, .ref nwsh, .ref nwst, .int nws_size])), (nwe, .inr (4, [.ref nwea, .ref nweb, .ref nwec, .int nwe_size])), (nwf, .inr (8, [.ref nwfk, .ref nwfv, .ref nwfh, .ref nwft, .int nwf_size])), (nwfh, .inl (cy, 8, .inl nwfh_a))] := hD
    refine W.widen (k := 0) (n := 0) (by decide) (by decide) ?_
    exact hret (fn_X8_linksOf nwf_size nwfh_a) () _ _ _ 120 (wk_sub9 (is := [0, 1, 2, 8, 3, 4, 9, 5, 6, 7]) hP rfl) (hD.sub [0, 1, 2, 8, 3, 4, 9, 5, 6, 7] rfl rfl) hS dX11_count_120 hF.symm
  replace hF := hF.trans (if_neg c_6)
  have k_6 : ¬ a.toInt = 2 := wk_neq c_6
  by_cases c_10 : a = 3
  · refine wk_toi c_10 ?_
    replace hF := hF.trans (if_pos c_10)
    have k_10 : a.toInt = 3 := wk_eq c_10
    refine lv_tableIn (off := 120) (tgt := 121) hx hb dX11_count_1 (by decide) (by decide) (by decide) (by decide) ?_
    refine lv_aload_n hx hb dX11_count_121 rfl (lv_at hl 0 rfl) ?_
    refine va_get (D := D) (ci := 11) (v := .ref nw) (C := RX11) (T := TX11) (N := 10) hx hb htb inX11 hown hK hP 0 rfl rfl 2 (by decide) (htb _ tw_254) (fun _ h9 => h9) rfl dX11_count_122 ?_
    refine va_get (D := D) (ci := 2) (v := .ref nwf) (C := RX2) (T := TX2) (N := 6) hx hb htb inX2 hown hK hP 2 rfl rfl 0 (by decide) (htb _ tw_171) (fun _ h9 => h9) rfl dX11_count_125 ?_
    refine lv_iconst (v := 0) hx hb dX11_count_128 (by decide) ?_
    refine lv_bipush (v := 99) hx hb dX11_count_129 (by decide) ?_
    refine wk_iV (As := [.int 0, .int 99]) (rest := []) (wc := [(nwf, .inr (8, [.ref nwfk, .ref nwfv, .ref nwfh, .ref nwft, .int nwf_size])), (nwfk, .inl (cy, 8, .inl nwfk_a)), (nwfv, .inl (cy, 8, .inl nwfv_a))]) (wr := [(x, .inr (11, [.ref pg, .ref wr, .ref nw, .ref kp, .ref wk, .ref tr, lv, .int x_rowsRead, .int x_rowOfImage, .int x_bestsDone])), (pg, .inr (6, [.ref pgc, .int pg_size])), (nw, .inr (2, [.ref nwf, .ref nws, .ref nwe, .int nw_asked, .int nw_looksOfAsked, .int nw_changes])), (nwfh, .inl (cy, 8, .inl nwfh_a)), (nwft, .inl (cy, 8, .inl nwft_a)), (nws, .inr (8, [.ref nwsk, .ref nwsv, .ref nwsh, .ref nwst, .int nws_size])), (nwe, .inr (4, [.ref nwea, .ref nweb, .ref nwec, .int nwe_size]))]) (n := 2) ⟨hx, hb, hml, hown, htb⟩ (c_X8_valuesBetween l D cy nwf nwfk nwfv nwfh nwft nwf_size nwfk_a nwfv_a 0 99 (show 0 ≤ nwf_size.toInt ∧ nwf_size.toInt ≤ 8 from by omega)) tw_579 tw_576 tw_577 tw_578 tw_67 rfl rfl (by decide +kernel) ⟨Nat.le_of_ble_eq_true rfl, Nat.le_of_ble_eq_true rfl⟩ hK hP hD hS hA [3, 4, 5] [0, 1, 2, 6, 7, 8, 9] rfl rfl rfl rfl (by decide) 0 (ci := 8) rfl rfl rfl hl.1 rfl (Nat.le_of_ble_eq_true rfl) dX11_count_131 ⟨Nat.le_of_ble_eq_true rfl, Nat.le_of_ble_eq_true rfl⟩ (fun r_11 u_12 H locs hw_13 hP hD hS => ?_)
    refine W.widen (k := 0) (n := 0) (by decide) (by decide) ?_
    have hw_13 : r_11 = (fn_X8_valuesBetween nwf_size nwfk_a nwfv_a 0 99) := hw_13
    subst hw_13
    have hP : va_P D classes [(x, .inr (11, [.ref pg, .ref wr, .ref nw, .ref kp, .ref wk, .ref tr, lv, .int x_rowsRead, .int x_rowOfImage, .int x_bestsDone])), (pg, .inr (6, [.ref pgc, .int pg_size])), (nw, .inr (2, [.ref nwf, .ref nws, .ref nwe, .int nw_asked, .int nw_looksOfAsked, .int nw_changes])), (nwfh, .inl (cy, 8, .inl nwfh_a)), (nwft, .inl (cy, 8, .inl nwft_a)), (nws, .inr (8, [.ref nwsk, .ref nwsv, .ref nwsh, .ref nwst, .int nws_size])), (nwe, .inr (4, [.ref nwea, .ref nweb, .ref nwec, .int nwe_size])), (nwf, .inr (8, [.ref nwfk, .ref nwfv, .ref nwfh, .ref nwft, .int nwf_size])), (nwfk, .inl (cy, 8, .inl nwfk_a)), (nwfv, .inl (cy, 8, .inl nwfv_a))] H := hP
    have hD : va_D A [(x, .inr (11, [.ref pg, .ref wr, .ref nw, .ref kp, .ref wk, .ref tr, lv, .int x_rowsRead, .int x_rowOfImage, .int x_bestsDone])), (pg, .inr (6, [.ref pgc, .int pg_size])), (nw, .inr (2, [.ref nwf, .ref nws, .ref nwe, .int nw_asked, .int nw_looksOfAsked, .int nw_changes])), (nwfh, .inl (cy, 8, .inl nwfh_a)), (nwft, .inl (cy, 8, .inl nwft_a)), (nws, .inr (8, [.ref nwsk, .ref nwsv, .ref nwsh, .ref nwst, .int nws_size])), (nwe, .inr (4, [.ref nwea, .ref nweb, .ref nwec, .int nwe_size])), (nwf, .inr (8, [.ref nwfk, .ref nwfv, .ref nwfh, .ref nwft, .int nwf_size])), (nwfk, .inl (cy, 8, .inl nwfk_a)), (nwfv, .inl (cy, 8, .inl nwfv_a))] := hD
    refine W.widen (k := 0) (n := 0) (by decide) (by decide) ?_
    exact hret (fn_X8_valuesBetween nwf_size nwfk_a nwfv_a 0 99) () _ _ _ 134 (wk_sub9 (is := [0, 1, 2, 7, 8, 9, 3, 4, 5, 6]) hP rfl) (hD.sub [0, 1, 2, 7, 8, 9, 3, 4, 5, 6] rfl rfl) hS dX11_count_134 hF.symm
  replace hF := hF.trans (if_neg c_10)
  have k_10 : ¬ a.toInt = 3 := wk_neq c_10
  by_cases c_14 : a = 4
  · refine wk_toi c_14 ?_
    replace hF := hF.trans (if_pos c_14)
    have k_14 : a.toInt = 4 := wk_eq c_14
    refine lv_tableIn (off := 134) (tgt := 135) hx hb dX11_count_1 (by decide) (by decide) (by decide) (by decide) ?_
    refine lv_aload_n hx hb dX11_count_135 rfl (lv_at hl 0 rfl) ?_
    refine va_get (D := D) (ci := 11) (v := .ref nw) (C := RX11) (T := TX11) (N := 10) hx hb htb inX11 hown hK hP 0 rfl rfl 2 (by decide) (htb _ tw_254) (fun _ h9 => h9) rfl dX11_count_136 ?_
    refine va_get (D := D) (ci := 2) (v := .ref nwf) (C := RX2) (T := TX2) (N := 6) hx hb htb inX2 hown hK hP 2 rfl rfl 0 (by decide) (htb _ tw_171) (fun _ h9 => h9) rfl dX11_count_139 ?_
    refine wk_iV (As := []) (rest := []) (wc := [(nwf, .inr (8, [.ref nwfk, .ref nwfv, .ref nwfh, .ref nwft, .int nwf_size])), (nwft, .inl (cy, 8, .inl nwft_a))]) (wr := [(x, .inr (11, [.ref pg, .ref wr, .ref nw, .ref kp, .ref wk, .ref tr, lv, .int x_rowsRead, .int x_rowOfImage, .int x_bestsDone])), (pg, .inr (6, [.ref pgc, .int pg_size])), (nw, .inr (2, [.ref nwf, .ref nws, .ref nwe, .int nw_asked, .int nw_looksOfAsked, .int nw_changes])), (nwfk, .inl (cy, 8, .inl nwfk_a)), (nwfv, .inl (cy, 8, .inl nwfv_a)), (nwfh, .inl (cy, 8, .inl nwfh_a)), (nws, .inr (8, [.ref nwsk, .ref nwsv, .ref nwsh, .ref nwst, .int nws_size])), (nwe, .inr (4, [.ref nwea, .ref nweb, .ref nwec, .int nwe_size]))]) (n := 0) ⟨hx, hb, hml, hown, htb⟩ (c_X8_allHeat l D cy nwf nwfk nwfv nwfh nwft nwf_size nwft_a  (show 0 ≤ nwf_size.toInt ∧ nwf_size.toInt ≤ 8 from by omega)) tw_730 tw_727 tw_728 tw_729 tw_67 rfl rfl (by decide +kernel) ⟨Nat.le_of_ble_eq_true rfl, Nat.le_of_ble_eq_true rfl⟩ hK hP hD hS hA [3, 7] [0, 1, 2, 4, 5, 6, 8, 9] rfl rfl rfl rfl (by decide) 0 (ci := 8) rfl rfl rfl hl.1 rfl (Nat.le_of_ble_eq_true rfl) dX11_count_142 ⟨Nat.le_of_ble_eq_true rfl, Nat.le_of_ble_eq_true rfl⟩ (fun r_15 u_16 H locs hw_17 hP hD hS => ?_)
    refine W.widen (k := 0) (n := 0) (by decide) (by decide) ?_
    have hw_17 : r_15 = (fn_X8_allHeat nwf_size nwft_a) := hw_17
    subst hw_17
    have hP : va_P D classes [(x, .inr (11, [.ref pg, .ref wr, .ref nw, .ref kp, .ref wk, .ref tr, lv, .int x_rowsRead, .int x_rowOfImage, .int x_bestsDone])), (pg, .inr (6, [.ref pgc, .int pg_size])), (nw, .inr (2, [.ref nwf, .ref nws, .ref nwe, .int nw_asked, .int nw_looksOfAsked, .int nw_changes])), (nwfk, .inl (cy, 8, .inl nwfk_a)), (nwfv, .inl (cy, 8, .inl nwfv_a)), (nwfh, .inl (cy, 8, .inl nwfh_a)), (nws, .inr (8, [.ref nwsk, .ref nwsv, .ref nwsh, .ref nwst, .int nws_size])), (nwe, .inr (4, [.ref nwea, .ref nweb, .ref nwec, .int nwe_size])), (nwf, .inr (8, [.ref nwfk, .ref nwfv, .ref nwfh, .ref nwft, .int nwf_size])), (nwft, .inl (cy, 8, .inl nwft_a))] H := hP
    have hD : va_D A [(x, .inr (11, [.ref pg, .ref wr, .ref nw, .ref kp, .ref wk, .ref tr, lv, .int x_rowsRead, .int x_rowOfImage, .int x_bestsDone])), (pg, .inr (6, [.ref pgc, .int pg_size])), (nw, .inr (2, [.ref nwf, .ref nws, .ref nwe, .int nw_asked, .int nw_looksOfAsked, .int nw_changes])), (nwfk, .inl (cy, 8, .inl nwfk_a)), (nwfv, .inl (cy, 8, .inl nwfv_a)), (nwfh, .inl (cy, 8, .inl nwfh_a)), (nws, .inr (8, [.ref nwsk, .ref nwsv, .ref nwsh, .ref nwst, .int nws_size])), (nwe, .inr (4, [.ref nwea, .ref nweb, .ref nwec, .int nwe_size])), (nwf, .inr (8, [.ref nwfk, .ref nwfv, .ref nwfh, .ref nwft, .int nwf_size])), (nwft, .inl (cy, 8, .inl nwft_a))] := hD
    refine W.widen (k := 0) (n := 0) (by decide) (by decide) ?_
    exact hret (fn_X8_allHeat nwf_size nwft_a) () _ _ _ 145 (wk_sub9 (is := [0, 1, 2, 8, 3, 4, 5, 9, 6, 7]) hP rfl) (hD.sub [0, 1, 2, 8, 3, 4, 5, 9, 6, 7] rfl rfl) hS dX11_count_145 hF.symm
  replace hF := hF.trans (if_neg c_14)
  have k_14 : ¬ a.toInt = 4 := wk_neq c_14
  by_cases c_18 : a = 5
  · refine wk_toi c_18 ?_
    replace hF := hF.trans (if_pos c_18)
    have k_18 : a.toInt = 5 := wk_eq c_18
    refine lv_tableIn (off := 145) (tgt := 146) hx hb dX11_count_1 (by decide) (by decide) (by decide) (by decide) ?_
    refine lv_aload_n hx hb dX11_count_146 rfl (lv_at hl 0 rfl) ?_
    refine va_get (D := D) (ci := 11) (v := .ref nw) (C := RX11) (T := TX11) (N := 10) hx hb htb inX11 hown hK hP 0 rfl rfl 2 (by decide) (htb _ tw_254) (fun _ h9 => h9) rfl dX11_count_147 ?_
    refine va_get (D := D) (ci := 2) (v := .ref nws) (C := RX2) (T := TX2) (N := 6) hx hb htb inX2 hown hK hP 2 rfl rfl 1 (by decide) (htb _ tw_173) (fun _ h9 => h9) rfl dX11_count_150 ?_
    refine va_get (D := D) (ci := 8) (v := .int nws_size) (C := RX8) (T := TX8) (N := 5) hx hb htb inX8 hown hK hP 8 rfl rfl 4 (by decide) (htb _ tw_134) (fun _ h9 => h9) rfl dX11_count_153 ?_
    refine W.widen (k := 0) (n := 0) (by decide) (by decide) ?_
    exact hret nws_size () _ _ _ 156 (wk_sub9 (is := [0, 1, 2, 3, 4, 5, 6, 7, 8, 9]) hP rfl) (hD.sub [0, 1, 2, 3, 4, 5, 6, 7, 8, 9] rfl rfl) hS dX11_count_156 hF.symm
  replace hF := hF.trans (if_neg c_18)
  have k_18 : ¬ a.toInt = 5 := wk_neq c_18
  by_cases c_19 : a = 6
  · refine wk_toi c_19 ?_
    replace hF := hF.trans (if_pos c_19)
    have k_19 : a.toInt = 6 := wk_eq c_19
    refine lv_tableIn (off := 156) (tgt := 157) hx hb dX11_count_1 (by decide) (by decide) (by decide) (by decide) ?_
    refine lv_aload_n hx hb dX11_count_157 rfl (lv_at hl 0 rfl) ?_
    refine va_get (D := D) (ci := 11) (v := .ref nw) (C := RX11) (T := TX11) (N := 10) hx hb htb inX11 hown hK hP 0 rfl rfl 2 (by decide) (htb _ tw_254) (fun _ h9 => h9) rfl dX11_count_158 ?_
    refine va_get (D := D) (ci := 2) (v := .int nw_asked) (C := RX2) (T := TX2) (N := 6) hx hb htb inX2 hown hK hP 2 rfl rfl 3 (by decide) (htb _ tw_177) (fun _ h9 => h9) rfl dX11_count_161 ?_
    refine W.widen (k := 0) (n := 0) (by decide) (by decide) ?_
    exact hret nw_asked () _ _ _ 164 (wk_sub9 (is := [0, 1, 2, 3, 4, 5, 6, 7, 8, 9]) hP rfl) (hD.sub [0, 1, 2, 3, 4, 5, 6, 7, 8, 9] rfl rfl) hS dX11_count_164 hF.symm
  replace hF := hF.trans (if_neg c_19)
  have k_19 : ¬ a.toInt = 6 := wk_neq c_19
  by_cases c_20 : a = 7
  · refine wk_toi c_20 ?_
    replace hF := hF.trans (if_pos c_20)
    have k_20 : a.toInt = 7 := wk_eq c_20
    refine lv_tableIn (off := 164) (tgt := 165) hx hb dX11_count_1 (by decide) (by decide) (by decide) (by decide) ?_
    refine lv_aload_n hx hb dX11_count_165 rfl (lv_at hl 0 rfl) ?_
    refine va_get (D := D) (ci := 11) (v := .ref nw) (C := RX11) (T := TX11) (N := 10) hx hb htb inX11 hown hK hP 0 rfl rfl 2 (by decide) (htb _ tw_254) (fun _ h9 => h9) rfl dX11_count_166 ?_
    refine va_get (D := D) (ci := 2) (v := .int nw_looksOfAsked) (C := RX2) (T := TX2) (N := 6) hx hb htb inX2 hown hK hP 2 rfl rfl 4 (by decide) (htb _ tw_179) (fun _ h9 => h9) rfl dX11_count_169 ?_
    refine W.widen (k := 0) (n := 0) (by decide) (by decide) ?_
    exact hret nw_looksOfAsked () _ _ _ 172 (wk_sub9 (is := [0, 1, 2, 3, 4, 5, 6, 7, 8, 9]) hP rfl) (hD.sub [0, 1, 2, 3, 4, 5, 6, 7, 8, 9] rfl rfl) hS dX11_count_172 hF.symm
  replace hF := hF.trans (if_neg c_20)
  have k_20 : ¬ a.toInt = 7 := wk_neq c_20
  by_cases c_21 : a = 8
  · refine wk_toi c_21 ?_
    replace hF := hF.trans (if_pos c_21)
    have k_21 : a.toInt = 8 := wk_eq c_21
    refine lv_tableIn (off := 172) (tgt := 173) hx hb dX11_count_1 (by decide) (by decide) (by decide) (by decide) ?_
    refine lv_aload_n hx hb dX11_count_173 rfl (lv_at hl 0 rfl) ?_
    refine va_get (D := D) (ci := 11) (v := .ref nw) (C := RX11) (T := TX11) (N := 10) hx hb htb inX11 hown hK hP 0 rfl rfl 2 (by decide) (htb _ tw_254) (fun _ h9 => h9) rfl dX11_count_174 ?_
    refine va_get (D := D) (ci := 2) (v := .int nw_changes) (C := RX2) (T := TX2) (N := 6) hx hb htb inX2 hown hK hP 2 rfl rfl 5 (by decide) (htb _ tw_181) (fun _ h9 => h9) rfl dX11_count_177 ?_
    refine W.widen (k := 0) (n := 0) (by decide) (by decide) ?_
    exact hret nw_changes () _ _ _ 180 (wk_sub9 (is := [0, 1, 2, 3, 4, 5, 6, 7, 8, 9]) hP rfl) (hD.sub [0, 1, 2, 3, 4, 5, 6, 7, 8, 9] rfl rfl) hS dX11_count_180 hF.symm
  replace hF := hF.trans (if_neg c_21)
  have k_21 : ¬ a.toInt = 8 := wk_neq c_21
  by_cases c_22 : a = 9
  · refine wk_toi c_22 ?_
    replace hF := hF.trans (if_pos c_22)
    have k_22 : a.toInt = 9 := wk_eq c_22
    refine lv_tableIn (off := 180) (tgt := 181) hx hb dX11_count_1 (by decide) (by decide) (by decide) (by decide) ?_
    refine lv_aload_n hx hb dX11_count_181 rfl (lv_at hl 0 rfl) ?_
    refine va_get (D := D) (ci := 11) (v := .ref nw) (C := RX11) (T := TX11) (N := 10) hx hb htb inX11 hown hK hP 0 rfl rfl 2 (by decide) (htb _ tw_254) (fun _ h9 => h9) rfl dX11_count_182 ?_
    refine va_get (D := D) (ci := 2) (v := .ref nwe) (C := RX2) (T := TX2) (N := 6) hx hb htb inX2 hown hK hP 2 rfl rfl 2 (by decide) (htb _ tw_175) (fun _ h9 => h9) rfl dX11_count_185 ?_
    refine va_get (D := D) (ci := 4) (v := .int nwe_size) (C := RX4) (T := TX4) (N := 4) hx hb htb inX4 hown hK hP 9 rfl rfl 3 (by decide) (htb _ tw_160) (fun _ h9 => h9) rfl dX11_count_188 ?_
    refine W.widen (k := 0) (n := 0) (by decide) (by decide) ?_
    exact hret nwe_size () _ _ _ 191 (wk_sub9 (is := [0, 1, 2, 3, 4, 5, 6, 7, 8, 9]) hP rfl) (hD.sub [0, 1, 2, 3, 4, 5, 6, 7, 8, 9] rfl rfl) hS dX11_count_191 hF.symm
  replace hF := hF.trans (if_neg c_22)
  have k_22 : ¬ a.toInt = 9 := wk_neq c_22
  by_cases c_23 : a = 10
  · refine wk_toi c_23 ?_
    replace hF := hF.trans (if_pos c_23)
    have k_23 : a.toInt = 10 := wk_eq c_23
    refine lv_tableIn (off := 191) (tgt := 192) hx hb dX11_count_1 (by decide) (by decide) (by decide) (by decide) ?_
    refine lv_aload_n hx hb dX11_count_192 rfl (lv_at hl 0 rfl) ?_
    refine va_get (D := D) (ci := 11) (v := .ref pg) (C := RX11) (T := TX11) (N := 10) hx hb htb inX11 hown hK hP 0 rfl rfl 0 (by decide) (htb _ tw_252) (fun _ h9 => h9) rfl dX11_count_193 ?_
    refine va_get (D := D) (ci := 6) (v := .int pg_size) (C := RX6) (T := TX6) (N := 2) hx hb htb inX6 hown hK hP 1 rfl rfl 1 (by decide) (htb _ tw_95) (fun _ h9 => h9) rfl dX11_count_196 ?_
    refine W.widen (k := 0) (n := 0) (by decide) (by decide) ?_
    exact hret pg_size () _ _ _ 199 (wk_sub9 (is := [0, 1, 2, 3, 4, 5, 6, 7, 8, 9]) hP rfl) (hD.sub [0, 1, 2, 3, 4, 5, 6, 7, 8, 9] rfl rfl) hS dX11_count_199 hF.symm
  replace hF := hF.trans (if_neg c_23)
  have k_23 : ¬ a.toInt = 10 := wk_neq c_23
  by_cases c_24 : a = 11
  · refine wk_toi c_24 ?_
    replace hF := hF.trans (if_pos c_24)
    have k_24 : a.toInt = 11 := wk_eq c_24
    refine lv_tableIn (off := 199) (tgt := 200) hx hb dX11_count_1 (by decide) (by decide) (by decide) (by decide) ?_
    refine lv_aload_n hx hb dX11_count_200 rfl (lv_at hl 0 rfl) ?_
    refine va_get (D := D) (ci := 11) (v := .int x_rowsRead) (C := RX11) (T := TX11) (N := 10) hx hb htb inX11 hown hK hP 0 rfl rfl 7 (by decide) (htb _ tw_259) (fun _ h9 => h9) rfl dX11_count_201 ?_
    refine W.widen (k := 0) (n := 0) (by decide) (by decide) ?_
    exact hret x_rowsRead () _ _ _ 204 (wk_sub9 (is := [0, 1, 2, 3, 4, 5, 6, 7, 8, 9]) hP rfl) (hD.sub [0, 1, 2, 3, 4, 5, 6, 7, 8, 9] rfl rfl) hS dX11_count_204 hF.symm
  replace hF := hF.trans (if_neg c_24)
  have k_24 : ¬ a.toInt = 11 := wk_neq c_24
  by_cases c_25 : a = 12
  · refine wk_toi c_25 ?_
    replace hF := hF.trans (if_pos c_25)
    have k_25 : a.toInt = 12 := wk_eq c_25
    refine lv_tableIn (off := 204) (tgt := 205) hx hb dX11_count_1 (by decide) (by decide) (by decide) (by decide) ?_
    refine lv_aload_n hx hb dX11_count_205 rfl (lv_at hl 0 rfl) ?_
    refine va_get (D := D) (ci := 11) (v := .int x_bestsDone) (C := RX11) (T := TX11) (N := 10) hx hb htb inX11 hown hK hP 0 rfl rfl 9 (by decide) (htb _ tw_261) (fun _ h9 => h9) rfl dX11_count_206 ?_
    refine W.widen (k := 0) (n := 0) (by decide) (by decide) ?_
    exact hret x_bestsDone () _ _ _ 209 (wk_sub9 (is := [0, 1, 2, 3, 4, 5, 6, 7, 8, 9]) hP rfl) (hD.sub [0, 1, 2, 3, 4, 5, 6, 7, 8, 9] rfl rfl) hS dX11_count_209 hF.symm
  replace hF := hF.trans (if_neg c_25)
  have k_25 : ¬ a.toInt = 12 := wk_neq c_25
  refine lv_tableOut (tgt := 210) hx hb dX11_count_1 (show a.toInt < 0 ∨ 12 < a.toInt from by omega) (by decide) ?_
  refine lv_bipush (v := (-102)) hx hb dX11_count_210 (by decide) ?_
  refine W.widen (k := 0) (n := 0) (by decide) (by decide) ?_
  exact hret (-102) () _ _ _ 212 (wk_sub9 (is := [0, 1, 2, 3, 4, 5, 6, 7, 8, 9]) hP rfl) (hD.sub [0, 1, 2, 3, 4, 5, 6, 7, 8, 9] rfl rfl) hS dX11_count_212 hF.symm
