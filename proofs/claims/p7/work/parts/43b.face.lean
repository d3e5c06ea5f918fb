theorem dX11_key_0 : decode cX11_key 0 = .ok (.aload_n 0, 1) := by decide +kernel
theorem dX11_key_1 : decode cX11_key 1 = .ok (.iload_n 1, 1) := by decide +kernel
theorem dX11_key_2 : decode cX11_key 2 = .ok (.invokevirtual 102, 3) := by decide +kernel
theorem dX11_key_5 : decode cX11_key 5 = .ok (.ifCond .eq 6, 3) := by decide +kernel
theorem dX11_key_8 : decode cX11_key 8 = .ok (.bipush (-101), 2) := by decide +kernel
theorem dX11_key_10 : decode cX11_key 10 = .ok (.ireturn, 1) := by decide +kernel
theorem dX11_key_11 : decode cX11_key 11 = .ok (.aload_n 0, 1) := by decide +kernel
theorem dX11_key_12 : decode cX11_key 12 = .ok (.getfield 22, 3) := by decide +kernel
theorem dX11_key_15 : decode cX11_key 15 = .ok (.getfield 77, 3) := by decide +kernel
theorem dX11_key_18 : decode cX11_key 18 = .ok (.astore_n 3, 1) := by decide +kernel
theorem dX11_key_19 : decode cX11_key 19 = .ok (.iload_n 2, 1) := by decide +kernel
theorem dX11_key_20 : decode cX11_key 20 = .ok (.tableswitch 216 0 23 #[112, 119, 126, 133, 140, 151, 162, 179, 216, 216, 196, 196, 196, 196, 216, 216, 216, 216, 216, 216, 206, 206, 206, 206], 112) := by decide +kernel
theorem dX11_key_132 : decode cX11_key 132 = .ok (.aload_n 3, 1) := by decide +kernel
theorem dX11_key_133 : decode cX11_key 133 = .ok (.getfield 105, 3) := by decide +kernel
theorem dX11_key_136 : decode cX11_key 136 = .ok (.iload_n 1, 1) := by decide +kernel
theorem dX11_key_137 : decode cX11_key 137 = .ok (.iaload, 1) := by decide +kernel
theorem dX11_key_138 : decode cX11_key 138 = .ok (.ireturn, 1) := by decide +kernel
theorem dX11_key_139 : decode cX11_key 139 = .ok (.aload_n 3, 1) := by decide +kernel
theorem dX11_key_140 : decode cX11_key 140 = .ok (.getfield 108, 3) := by decide +kernel
theorem dX11_key_143 : decode cX11_key 143 = .ok (.iload_n 1, 1) := by decide +kernel
theorem dX11_key_144 : decode cX11_key 144 = .ok (.iaload, 1) := by decide +kernel
theorem dX11_key_145 : decode cX11_key 145 = .ok (.ireturn, 1) := by decide +kernel
theorem dX11_key_146 : decode cX11_key 146 = .ok (.aload_n 3, 1) := by decide +kernel
theorem dX11_key_147 : decode cX11_key 147 = .ok (.getfield 111, 3) := by decide +kernel
theorem dX11_key_150 : decode cX11_key 150 = .ok (.iload_n 1, 1) := by decide +kernel
theorem dX11_key_151 : decode cX11_key 151 = .ok (.iaload, 1) := by decide +kernel
theorem dX11_key_152 : decode cX11_key 152 = .ok (.ireturn, 1) := by decide +kernel
theorem dX11_key_153 : decode cX11_key 153 = .ok (.aload_n 3, 1) := by decide +kernel
theorem dX11_key_154 : decode cX11_key 154 = .ok (.getfield 114, 3) := by decide +kernel
theorem dX11_key_157 : decode cX11_key 157 = .ok (.iload_n 1, 1) := by decide +kernel
theorem dX11_key_158 : decode cX11_key 158 = .ok (.iaload, 1) := by decide +kernel
theorem dX11_key_159 : decode cX11_key 159 = .ok (.ireturn, 1) := by decide +kernel
theorem dX11_key_160 : decode cX11_key 160 = .ok (.aload_n 0, 1) := by decide +kernel
theorem dX11_key_161 : decode cX11_key 161 = .ok (.aload_n 3, 1) := by decide +kernel
theorem dX11_key_162 : decode cX11_key 162 = .ok (.getfield 105, 3) := by decide +kernel
theorem dX11_key_165 : decode cX11_key 165 = .ok (.iload_n 1, 1) := by decide +kernel
theorem dX11_key_166 : decode cX11_key 166 = .ok (.iaload, 1) := by decide +kernel
theorem dX11_key_167 : decode cX11_key 167 = .ok (.invokevirtual 117, 3) := by decide +kernel
theorem dX11_key_170 : decode cX11_key 170 = .ok (.ireturn, 1) := by decide +kernel
theorem dX11_key_171 : decode cX11_key 171 = .ok (.aload_n 0, 1) := by decide +kernel
theorem dX11_key_172 : decode cX11_key 172 = .ok (.aload_n 3, 1) := by decide +kernel
theorem dX11_key_173 : decode cX11_key 173 = .ok (.getfield 105, 3) := by decide +kernel
theorem dX11_key_176 : decode cX11_key 176 = .ok (.iload_n 1, 1) := by decide +kernel
theorem dX11_key_177 : decode cX11_key 177 = .ok (.iaload, 1) := by decide +kernel
theorem dX11_key_178 : decode cX11_key 178 = .ok (.invokevirtual 120, 3) := by decide +kernel
theorem dX11_key_181 : decode cX11_key 181 = .ok (.ireturn, 1) := by decide +kernel
theorem dX11_key_182 : decode cX11_key 182 = .ok (.aload_n 0, 1) := by decide +kernel
theorem dX11_key_183 : decode cX11_key 183 = .ok (.getfield 39, 3) := by decide +kernel
theorem dX11_key_186 : decode cX11_key 186 = .ok (.aload_n 3, 1) := by decide +kernel
theorem dX11_key_187 : decode cX11_key 187 = .ok (.aload_n 0, 1) := by decide +kernel
theorem dX11_key_188 : decode cX11_key 188 = .ok (.getfield 22, 3) := by decide +kernel
theorem dX11_key_191 : decode cX11_key 191 = .ok (.getfield 123, 3) := by decide +kernel
theorem dX11_key_194 : decode cX11_key 194 = .ok (.iload_n 1, 1) := by decide +kernel
theorem dX11_key_195 : decode cX11_key 195 = .ok (.invokevirtual 127, 3) := by decide +kernel
theorem dX11_key_198 : decode cX11_key 198 = .ok (.ireturn, 1) := by decide +kernel
theorem dX11_key_199 : decode cX11_key 199 = .ok (.aload_n 0, 1) := by decide +kernel
theorem dX11_key_200 : decode cX11_key 200 = .ok (.getfield 39, 3) := by decide +kernel
theorem dX11_key_203 : decode cX11_key 203 = .ok (.aload_n 3, 1) := by decide +kernel
theorem dX11_key_204 : decode cX11_key 204 = .ok (.aload_n 0, 1) := by decide +kernel
theorem dX11_key_205 : decode cX11_key 205 = .ok (.getfield 22, 3) := by decide +kernel
theorem dX11_key_208 : decode cX11_key 208 = .ok (.getfield 123, 3) := by decide +kernel
theorem dX11_key_211 : decode cX11_key 211 = .ok (.iload_n 1, 1) := by decide +kernel
theorem dX11_key_212 : decode cX11_key 212 = .ok (.invokevirtual 131, 3) := by decide +kernel
theorem dX11_key_215 : decode cX11_key 215 = .ok (.ireturn, 1) := by decide +kernel
theorem dX11_key_216 : decode cX11_key 216 = .ok (.aload_n 3, 1) := by decide +kernel
theorem dX11_key_217 : decode cX11_key 217 = .ok (.iload_n 1, 1) := by decide +kernel
theorem dX11_key_218 : decode cX11_key 218 = .ok (.iload_n 2, 1) := by decide +kernel
theorem dX11_key_219 : decode cX11_key 219 = .ok (.bipush 10, 2) := by decide +kernel
theorem dX11_key_221 : decode cX11_key 221 = .ok (.isub, 1) := by decide +kernel
theorem dX11_key_222 : decode cX11_key 222 = .ok (.invokevirtual 134, 3) := by decide +kernel
theorem dX11_key_225 : decode cX11_key 225 = .ok (.ireturn, 1) := by decide +kernel
theorem dX11_key_226 : decode cX11_key 226 = .ok (.aload_n 3, 1) := by decide +kernel
theorem dX11_key_227 : decode cX11_key 227 = .ok (.iload_n 1, 1) := by decide +kernel
theorem dX11_key_228 : decode cX11_key 228 = .ok (.iload_n 2, 1) := by decide +kernel
theorem dX11_key_229 : decode cX11_key 229 = .ok (.bipush 20, 2) := by decide +kernel
theorem dX11_key_231 : decode cX11_key 231 = .ok (.isub, 1) := by decide +kernel
theorem dX11_key_232 : decode cX11_key 232 = .ok (.invokevirtual 138, 3) := by decide +kernel
theorem dX11_key_235 : decode cX11_key 235 = .ok (.ireturn, 1) := by decide +kernel
theorem dX11_key_236 : decode cX11_key 236 = .ok (.bipush (-102), 2) := by decide +kernel
theorem dX11_key_238 : decode cX11_key 238 = .ok (.ireturn, 1) := by decide +kernel
set_option maxHeartbeats 4000000 in
set_option maxRecDepth 100000 in
theorem c_X11_key (l : Launch) (D : va_G) (cy : ClassId) (x pg wr nw kp wk tr nwf nws nwe nwfk nwfv nwfh nwft nwea nweb nwec trw tra trb trc : Nat) (lv : Value) (x_rowsRead : Int32) (x_rowOfImage : Int32) (x_bestsDone : Int32) (nw_asked : Int32) (nw_looksOfAsked : Int32) (nw_changes : Int32) (nwf_size : Int32) (nwfk_a : Nat → Int32) (nwfv_a : Nat → Int32) (nwfh_a : Nat → Int32) (nwft_a : Nat → Int32) (nwe_size : Int32) (nwea_a : Nat → Int32) (nweb_a : Nat → Int32) (nwec_a : Nat → Int32) (wk_number : Int32) (wk_lane : Int32) (wk_looks : Int32) (tr_least : Int32) (tr_bestLinks : Int32) (tr_changeNumber : Int32) (tr_changeHeight : Int32) (trw_number : Int32) (trw_lane : Int32) (trw_looks : Int32) (tra_a : Nat → Int32) (trc_a : Nat → Int32) (a : Int32) (b : Int32) (g_0 : 0 ≤ nwf_size.toInt ∧ nwf_size.toInt ≤ 8) (g_1 : 0 ≤ nwe_size.toInt ∧ nwe_size.toInt ≤ 6) (g_2 : (-1) ≤ wk_number.toInt ∧ wk_number.toInt ≤ 7) (g_3 : (-1) ≤ trw_number.toInt ∧ trw_number.toInt ≤ 7) : wk_Ci l yX11_key cX11_key 4 (some .int) { frames := 6, cells := 0, slots := 0, locals := 142 } D cy [.ref x, .int a, .int b] [(x, .inr (11, [.ref pg, .ref wr, .ref nw, .ref kp, .ref wk, .ref tr, lv, .int x_rowsRead, .int x_rowOfImage, .int x_bestsDone])), (nw, .inr (2, [.ref nwf, .ref nws, .ref nwe, .int nw_asked, .int nw_looksOfAsked, .int nw_changes])), (nwf, .inr (8, [.ref nwfk, .ref nwfv, .ref nwfh, .ref nwft, .int nwf_size])), (nwfk, .inl (cy, 8, .inl nwfk_a)), (nwfv, .inl (cy, 8, .inl nwfv_a)), (nwfh, .inl (cy, 8, .inl nwfh_a)), (nwft, .inl (cy, 8, .inl nwft_a)), (nwe, .inr (4, [.ref nwea, .ref nweb, .ref nwec, .int nwe_size])), (nwea, .inl (cy, 6, .inl nwea_a)), (nweb, .inl (cy, 6, .inl nweb_a)), (nwec, .inl (cy, 6, .inl nwec_a)), (wk, .inr (10, [.int wk_number, .int wk_lane, .int wk_looks])), (tr, .inr (9, [.ref trw, .ref tra, .ref trb, .ref trc, .int tr_least, .int tr_bestLinks, .int tr_changeNumber, .int tr_changeHeight])), (trw, .inr (10, [.int trw_number, .int trw_lane, .int trw_looks])), (tra, .inl (cy, 8, .inl tra_a)), (trc, .inl (cy, 5, .inl trc_a))] 0 0 (fun (r : Int32) (u : Int32 × Int32 × Int32 × Int32 × Int32 × Int32 × (Nat → Int32) × (Nat → Int32)) => ((-1) ≤ u.1.toInt ∧ u.1.toInt ≤ 7) ∧ ((-1) ≤ u.2.2.2.1.toInt ∧ u.2.2.2.1.toInt ≤ 7)) (fun u => [(x, .inr (11, [.ref pg, .ref wr, .ref nw, .ref kp, .ref wk, .ref tr, lv, .int x_rowsRead, .int x_rowOfImage, .int x_bestsDone])), (nw, .inr (2, [.ref nwf, .ref nws, .ref nwe, .int nw_asked, .int nw_looksOfAsked, .int nw_changes])), (nwf, .inr (8, [.ref nwfk, .ref nwfv, .ref nwfh, .ref nwft, .int nwf_size])), (nwfk, .inl (cy, 8, .inl nwfk_a)), (nwfv, .inl (cy, 8, .inl nwfv_a)), (nwfh, .inl (cy, 8, .inl nwfh_a)), (nwft, .inl (cy, 8, .inl nwft_a)), (nwe, .inr (4, [.ref nwea, .ref nweb, .ref nwec, .int nwe_size])), (nwea, .inl (cy, 6, .inl nwea_a)), (nweb, .inl (cy, 6, .inl nweb_a)), (nwec, .inl (cy, 6, .inl nwec_a)), (wk, .inr (10, [.int u.1, .int u.2.1, .int u.2.2.1])), (tr, .inr (9, [.ref trw, .ref tra, .ref trb, .ref trc, .int tr_least, .int tr_bestLinks, .int tr_changeNumber, .int tr_changeHeight])), (trw, .inr (10, [.int u.2.2.2.1, .int u.2.2.2.2.1, .int u.2.2.2.2.2.1])), (tra, .inl (cy, 8, .inl u.2.2.2.2.2.2.1)), (trc, .inl (cy, 5, .inl u.2.2.2.2.2.2.2))]) := by
  refine wk_mk2Ci (by decide) (Nat.le_of_ble_eq_true rfl) ?_
  intro p e s m args below meth c A ls Q B hA hK hP hD hS hl hret
  obtain ⟨hx, hb, hr, hlocks, hml, hown, htb, hin⟩ := B
  have hl : lv_has ls 4 [(0, .ref x), (1, .int a), (2, .int b)] := hl
  refine lv_aload_n hx hb dX11_key_0 rfl (lv_at hl 0 rfl) ?_
  refine lv_iload_n hx hb dX11_key_1 rfl (lv_at hl 1 rfl) ?_
  refine wk_iV (As := [.int a]) (rest := []) (wc := [(x, .inr (11, [.ref pg, .ref wr, .ref nw, .ref kp, .ref wk, .ref tr, lv, .int x_rowsRead, .int x_rowOfImage, .int x_bestsDone])), (nw, .inr (2, [.ref nwf, .ref nws, .ref nwe, .int nw_asked, .int nw_looksOfAsked, .int nw_changes])), (nwf, .inr (8, [.ref nwfk, .ref nwfv, .ref nwfh, .ref nwft, .int nwf_size]))]) (wr := [(nwfk, .inl (cy, 8, .inl nwfk_a)), (nwfv, .inl (cy, 8, .inl nwfv_a)), (nwfh, .inl (cy, 8, .inl nwfh_a)), (nwft, .inl (cy, 8, .inl nwft_a)), (nwe, .inr (4, [.ref nwea, .ref nweb, .ref nwec, .int nwe_size])), (nwea, .inl (cy, 6, .inl nwea_a)), (nweb, .inl (cy, 6, .inl nweb_a)), (nwec, .inl (cy, 6, .inl nwec_a)), (wk, .inr (10, [.int wk_number, .int wk_lane, .int wk_looks])), (tr, .inr (9, [.ref trw, .ref tra, .ref trb, .ref trc, .int tr_least, .int tr_bestLinks, .int tr_changeNumber, .int tr_changeHeight])), (trw, .inr (10, [.int trw_number, .int trw_lane, .int trw_looks])), (tra, .inl (cy, 8, .inl tra_a)), (trc, .inl (cy, 5, .inl trc_a))]) (n := 1) ⟨hx, hb, hml, hown, htb⟩ (c_X11_namesNoKey l D cy x pg wr nw kp wk tr nwf nws nwe nwfk nwfv nwfh nwft (lv) x_rowsRead x_rowOfImage x_bestsDone nw_asked nw_looksOfAsked nw_changes nwf_size a (show 0 ≤ nwf_size.toInt ∧ nwf_size.toInt ≤ 8 from by omega)) tw_481 tw_478 tw_480 tw_7 tw_64 rfl rfl (by decide +kernel) ⟨Nat.le_of_ble_eq_true rfl, Nat.le_of_ble_eq_true rfl⟩ hK hP hD hS hA [0, 1, 2] [3, 4, 5, 6, 7, 8, 9, 10, 11, 12, 13, 14, 15] rfl rfl rfl rfl (by decide) 0 (ci := 11) rfl rfl rfl hl.1 rfl (Nat.le_of_ble_eq_true rfl) dX11_key_2 ⟨Nat.le_of_ble_eq_true rfl, Nat.le_of_ble_eq_true rfl⟩ (fun r_1 u_2 H locs hw_3 hP hD hS => ?_)
  refine W.widen (k := 0) (n := 0) (by decide) (by decide) ?_
  obtain ⟨hw_3, k_4, k_5⟩ := hw_3
  have hw_3 : r_1 = (fn_X11_namesNoKey nwf_size a) := hw_3
  subst hw_3
  have k_4 : ((fn_X11_namesNoKey nwf_size a) = 0 ∨ (fn_X11_namesNoKey nwf_size a) = 1) := k_4
  have k_5 : (wk_or ((fn_X11_namesNoKey nwf_size a).toInt = 1) (0 ≤ a.toInt ∧ a.toInt < nwf_size.toInt)) := k_5
  have k_6 : 0 ≤ (fn_X11_namesNoKey nwf_size a).toInt ∧ (fn_X11_namesNoKey nwf_size a).toInt ≤ 1 := wk_b01 (by assumption)
  have hP : va_P D classes [(nwfk, .inl (cy, 8, .inl nwfk_a)), (nwfv, .inl (cy, 8, .inl nwfv_a)), (nwfh, .inl (cy, 8, .inl nwfh_a)), (nwft, .inl (cy, 8, .inl nwft_a)), (nwe, .inr (4, [.ref nwea, .ref nweb, .ref nwec, .int nwe_size])), (nwea, .inl (cy, 6, .inl nwea_a)), (nweb, .inl (cy, 6, .inl nweb_a)), (nwec, .inl (cy, 6, .inl nwec_a)), (wk, .inr (10, [.int wk_number, .int wk_lane, .int wk_looks])), (tr, .inr (9, [.ref trw, .ref tra, .ref trb, .ref trc, .int tr_least, .int tr_bestLinks, .int tr_changeNumber, .int tr_changeHeight])), (trw, .inr (10, [.int trw_number, .int trw_lane, .int trw_looks])), (tra, .inl (cy, 8, .inl tra_a)), (trc, .inl (cy, 5, .inl trc_a)), (x, .inr (11, [.ref pg, .ref wr, .ref nw, .ref kp, .ref wk, .ref tr, lv, .int x_rowsRead, .int x_rowOfImage, .int x_bestsDone])), (nw, .inr (2, [.ref nwf, .ref nws, .ref nwe, .int nw_asked, .int nw_looksOfAsked, .int nw_changes])), (nwf, .inr (8, [.ref nwfk, .ref nwfv, .ref nwfh, .ref nwft, .int nwf_size]))] H := hP
  have hD : va_D A [(nwfk, .inl (cy, 8, .inl nwfk_a)), (nwfv, .inl (cy, 8, .inl nwfv_a)), (nwfh, .inl (cy, 8, .inl nwfh_a)), (nwft, .inl (cy, 8, .inl nwft_a)), (nwe, .inr (4, [.ref nwea, .ref nweb, .ref nwec, .int nwe_size])), (nwea, .inl (cy, 6, .inl nwea_a)), (nweb, .inl (cy, 6, .inl nweb_a)), (nwec, .inl (cy, 6, .inl nwec_a)), (wk, .inr (10, [.int wk_number, .int wk_lane, .int wk_looks])), (tr, .inr (9, [.ref trw, .ref tra, .ref trb, .ref trc, .int tr_least, .int tr_bestLinks, .int tr_changeNumber, .int tr_changeHeight])), (trw, .inr (10, [.int trw_number, .int trw_lane, .int trw_looks])), (tra, .inl (cy, 8, .inl tra_a)), (trc, .inl (cy, 5, .inl trc_a)), (x, .inr (11, [.ref pg, .ref wr, .ref nw, .ref kp, .ref wk, .ref tr, lv, .int x_rowsRead, .int x_rowOfImage, .int x_bestsDone])), (nw, .inr (2, [.ref nwf, .ref nws, .ref nwe, .int nw_asked, .int nw_looksOfAsked, .int nw_changes])), (nwf, .inr (8, [.ref nwfk, .ref nwfv, .ref nwfh, .ref nwft, .int nwf_size]))] := hD
  refine lv_if_eq (tgt := 11) hx hb dX11_key_5 (by decide) (fun c_7 => ?_) (fun c_7 => ?_)
  · have k_7 : (fn_X11_namesNoKey nwf_size a).toInt = 0 := wk_eq c_7
    have k_8 : 0 ≤ a.toInt ∧ a.toInt < nwf_size.toInt := wk_orR k_5 (by rw [k_7]; decide)
    refine lv_aload_n hx hb dX11_key_11 rfl (lv_at hl 0 rfl) ?_
    refine va_get (D := D) (ci := 11) (v := .ref nw) (C := RX11) (T := TX11) (N := 10) hx hb htb inX11 hown hK hP 13 rfl rfl 2 (by decide) (htb _ tw_254) (fun _ h9 => h9) rfl dX11_key_12 ?_
    refine va_get (D := D) (ci := 2) (v := .ref nwf) (C := RX2) (T := TX2) (N := 6) hx hb htb inX2 hown hK hP 14 rfl rfl 0 (by decide) (htb _ tw_171) (fun _ h9 => h9) rfl dX11_key_15 ?_
    refine lv_astore_n (lv' := [(3, .ref nwf), (0, .ref x), (1, .int a), (2, .int b)]) hx hb dX11_key_18 rfl hl (by decide) rfl (fun ls hl => ?_)
    refine lv_iload_n hx hb dX11_key_19 rfl (lv_at hl 3 rfl) ?_
    by_cases c_9 : b = 0
    · refine wk_toi c_9 ?_
      have k_9 : b.toInt = 0 := wk_eq c_9
      refine lv_tableIn (off := 112) (tgt := 132) hx hb dX11_key_20 (by decide) (by decide) (by decide) (by decide) ?_
      refine lv_aload_n hx hb dX11_key_132 rfl (lv_at hl 0 rfl) ?_
      refine va_get (D := D) (ci := 8) (v := .ref nwfk) (C := RX8) (T := TX8) (N := 5) hx hb htb inX8 hown hK hP 15 rfl rfl 0 (by decide) (htb _ tw_118) (fun _ h9 => h9) rfl dX11_key_133 ?_
      refine lv_iload_n hx hb dX11_key_136 rfl (lv_at hl 2 rfl) ?_
      refine va_iald hx hb hK hP 0 0 rfl rfl (show vp_in a 8 from vp_in_iff.mpr (show 0 ≤ a.toInt ∧ a.toInt < ((8 : Nat) : Int) from by omega)) dX11_key_137 ?_
      refine W.widen (k := 0) (n := 0) (by decide) (by decide) ?_
      exact hret (nwfk_a a.toNatClampNeg) (wk_number, wk_lane, wk_looks, trw_number, trw_lane, trw_looks, tra_a, trc_a) _ _ _ 138 (wk_sub9 (is := [13, 14, 15, 0, 1, 2, 3, 4, 5, 6, 7, 8, 9, 10, 11, 12]) hP rfl) (hD.sub [13, 14, 15, 0, 1, 2, 3, 4, 5, 6, 7, 8, 9, 10, 11, 12] rfl rfl) hS dX11_key_138 ⟨(show ((-1) ≤ wk_number.toInt ∧ wk_number.toInt ≤ 7) from by omega), (show ((-1) ≤ trw_number.toInt ∧ trw_number.toInt ≤ 7) from by omega)⟩
    have k_9 : ¬ b.toInt = 0 := wk_neq c_9
    by_cases c_10 : b = 1
    · refine wk_toi c_10 ?_
      have k_10 : b.toInt = 1 := wk_eq c_10
      refine lv_tableIn (off := 119) (tgt := 139) hx hb dX11_key_20 (by decide) (by decide) (by decide) (by decide) ?_
      refine lv_aload_n hx hb dX11_key_139 rfl (lv_at hl 0 rfl) ?_
      refine va_get (D := D) (ci := 8) (v := .ref nwfv) (C := RX8) (T := TX8) (N := 5) hx hb htb inX8 hown hK hP 15 rfl rfl 1 (by decide) (htb _ tw_121) (fun _ h9 => h9) rfl dX11_key_140 ?_
      refine lv_iload_n hx hb dX11_key_143 rfl (lv_at hl 2 rfl) ?_
      refine va_iald hx hb hK hP 1 0 rfl rfl (show vp_in a 8 from vp_in_iff.mpr (show 0 ≤ a.toInt ∧ a.toInt < ((8 : Nat) : Int) from by omega)) dX11_key_144 ?_
      refine W.widen (k := 0) (n := 0) (by decide) (by decide) ?_
      exact hret (nwfv_a a.toNatClampNeg) (wk_number, wk_lane, wk_looks, trw_number, trw_lane, trw_looks, tra_a, trc_a) _ _ _ 145 (wk_sub9 (is := [13, 14, 15, 0, 1, 2, 3, 4, 5, 6, 7, 8, 9, 10, 11, 12]) hP rfl) (hD.sub [13, 14, 15, 0, 1, 2, 3, 4, 5, 6, 7, 8, 9, 10, 11, 12] rfl rfl) hS dX11_key_145 ⟨(show ((-1) ≤ wk_number.toInt ∧ wk_number.toInt ≤ 7) from by omega), (show ((-1) ≤ trw_number.toInt ∧ trw_number.toInt ≤ 7) from by omega)⟩
    have k_10 : ¬ b.toInt = 1 := wk_neq c_10
    by_cases c_11 : b = 2
    · refine wk_toi c_11 ?_
      have k_11 : b.toInt = 2 := wk_eq c_11
      refine lv_tableIn (off := 126) (tgt := 146) hx hb dX11_key_20 (by decide) (by decide) (by decide) (by decide) ?_
      refine lv_aload_n hx hb dX11_key_146 rfl (lv_at hl 0 rfl) ?_
      refine va_get (D := D) (ci := 8) (v := .ref nwfh) (C := RX8) (T := TX8) (N := 5) hx hb htb inX8 hown hK hP 15 rfl rfl 2 (by decide) (htb _ tw_125) (fun _ h9 => h9) rfl dX11_key_147 ?_
      refine lv_iload_n hx hb dX11_key_150 rfl (lv_at hl 2 rfl) ?_
      refine va_iald hx hb hK hP 2 0 rfl rfl (show vp_in a 8 from vp_in_iff.mpr (show 0 ≤ a.toInt ∧ a.toInt < ((8 : Nat) : Int) from by omega)) dX11_key_151 ?_
      refine W.widen (k := 0) (n := 0) (by decide) (by decide) ?_
      exact hret (nwfh_a a.toNatClampNeg) (wk_number, wk_lane, wk_looks, trw_number, trw_lane, trw_looks, tra_a, trc_a) _ _ _ 152 (wk_sub9 (is := [13, 14, 15, 0, 1, 2, 3, 4, 5, 6, 7, 8, 9, 10, 11, 12]) hP rfl) (hD.sub [13, 14, 15, 0, 1, 2, 3, 4, 5, 6, 7, 8, 9, 10, 11, 12] rfl rfl) hS dX11_key_152 ⟨(show ((-1) ≤ wk_number.toInt ∧ wk_number.toInt ≤ 7) from by omega), (show ((-1) ≤ trw_number.toInt ∧ trw_number.toInt ≤ 7) from by omega)⟩
    have k_11 : ¬ b.toInt = 2 := wk_neq c_11
    by_cases c_12 : b = 3
    · refine wk_toi c_12 ?_
      have k_12 : b.toInt = 3 := wk_eq c_12
      refine lv_tableIn (off := 133) (tgt := 153) hx hb dX11_key_20 (by decide) (by decide) (by decide) (by decide) ?_
      refine lv_aload_n hx hb dX11_key_153 rfl (lv_at hl 0 rfl) ?_
      refine va_get (D := D) (ci := 8) (v := .ref nwft) (C := RX8) (T := TX8) (N := 5) hx hb htb inX8 hown hK hP 15 rfl rfl 3 (by decide) (htb _ tw_128) (fun _ h9 => h9) rfl dX11_key_154 ?_
      refine lv_iload_n hx hb dX11_key_157 rfl (lv_at hl 2 rfl) ?_
      refine va_iald hx hb hK hP 3 0 rfl rfl (show vp_in a 8 from vp_in_iff.mpr (show 0 ≤ a.toInt ∧ a.toInt < ((8 : Nat) : Int) from by omega)) dX11_key_158 ?_
      refine W.widen (k := 0) (n := 0) (by decide) (by decide) ?_
      exact hret (nwft_a a.toNatClampNeg) (wk_number, wk_lane, wk_looks, trw_number, trw_lane, trw_looks, tra_a, trc_a) _ _ _ 159 (wk_sub9 (is := [13, 14, 15, 0, 1, 2, 3, 4, 5, 6, 7, 8, 9, 10, 11, 12]) hP rfl) (hD.sub [13, 14, 15, 0, 1, 2, 3, 4, 5, 6, 7, 8, 9, 10, 11, 12] rfl rfl) hS dX11_key_159 ⟨(show ((-1) ≤ wk_number.toInt ∧ wk_number.toInt ≤ 7) from by omega), (show ((-1) ≤ trw_number.toInt ∧ trw_number.toInt ≤ 7) from by omega)⟩
    have k_12 : ¬ b.toInt = 3 := wk_neq c_12
    by_cases c_13 : b = 4
    · refine wk_toi c_13 ?_
      have k_13 : b.toInt = 4 := wk_eq c_13
      refine lv_tableIn (off := 140) (tgt := 160) hx hb dX11_key_20 (by decide) (by decide) (by decide) (by decide) ?_
      refine lv_aload_n hx hb dX11_key_160 rfl (lv_at hl 1 rfl) ?_
      refine lv_aload_n hx hb dX11_key_161 rfl (lv_at hl 0 rfl) ?_
      refine va_get (D := D) (ci := 8) (v := .ref nwfk) (C := RX8) (T := TX8) (N := 5) hx hb htb inX8 hown hK hP 15 rfl rfl 0 (by decide) (htb _ tw_118) (fun _ h9 => h9) rfl dX11_key_162 ?_
      refine lv_iload_n hx hb dX11_key_165 rfl (lv_at hl 2 rfl) ?_
      refine va_iald hx hb hK hP 0 0 rfl rfl (show vp_in a 8 from vp_in_iff.mpr (show 0 ≤ a.toInt ∧ a.toInt < ((8 : Nat) : Int) from by omega)) dX11_key_166 ?_
      refine wk_iV (As := [.int (nwfk_a a.toNatClampNeg)]) (rest := []) (wc := [(x, .inr (11, [.ref pg, .ref wr, .ref nw, .ref kp, .ref wk, .ref tr, lv, .int x_rowsRead, .int x_rowOfImage, .int x_bestsDone])), (nw, .inr (2, [.ref nwf, .ref nws, .ref nwe, .int nw_asked, .int nw_looksOfAsked, .int nw_changes])), (nwf, .inr (8, [.ref nwfk, .ref nwfv, .ref nwfh, .ref nwft, .int nwf_size])), (nwfk, .inl (cy, 8, .inl nwfk_a)), (nwfh, .inl (cy, 8, .inl nwfh_a)), (wk, .inr (10, [.int wk_number, .int wk_lane, .int wk_looks]))]) (wr := [(nwfv, .inl (cy, 8, .inl nwfv_a)), (nwft, .inl (cy, 8, .inl nwft_a)), (nwe, .inr (4, [.ref nwea, .ref nweb, .ref nwec, .int nwe_size])), (nwea, .inl (cy, 6, .inl nwea_a)), (nweb, .inl (cy, 6, .inl nweb_a)), (nwec, .inl (cy, 6, .inl nwec_a)), (tr, .inr (9, [.ref trw, .ref tra, .ref trb, .ref trc, .int tr_least, .int tr_bestLinks, .int tr_changeNumber, .int tr_changeHeight])), (trw, .inr (10, [.int trw_number, .int trw_lane, .int trw_looks])), (tra, .inl (cy, 8, .inl tra_a)), (trc, .inl (cy, 5, .inl trc_a))]) (n := 1) ⟨hx, hb, hml, hown, htb⟩ (c_X11_looksFor l D cy x pg wr nw kp wk tr nwf nws nwe nwfk nwfv nwfh nwft (lv) x_rowsRead x_rowOfImage x_bestsDone nw_asked nw_looksOfAsked nw_changes nwf_size nwfk_a nwfh_a wk_number wk_lane wk_looks (nwfk_a a.toNatClampNeg) (show 0 ≤ nwf_size.toInt ∧ nwf_size.toInt ≤ 8 from by omega) (show (-1) ≤ wk_number.toInt ∧ wk_number.toInt ≤ 7 from by omega)) tw_485 tw_482 tw_484 tw_8 tw_64 rfl rfl (by decide +kernel) ⟨Nat.le_of_ble_eq_true rfl, Nat.le_of_ble_eq_true rfl⟩ hK hP hD hS hA [13, 14, 15, 0, 2, 8] [1, 3, 4, 5, 6, 7, 9, 10, 11, 12] rfl rfl rfl rfl (by decide) 0 (ci := 11) rfl rfl rfl hl.1 rfl (Nat.le_of_ble_eq_true rfl) dX11_key_167 ⟨Nat.le_of_ble_eq_true rfl, Nat.le_of_ble_eq_true rfl⟩ (fun r_14 u_15 H locs hw_16 hP hD hS => ?_)
      refine W.widen (k := 0) (n := 0) (by decide) (by decide) ?_
      obtain ⟨o_17, o_18, o_19⟩ := u_15
      obtain ⟨hw_16, k_20⟩ := hw_16
      have hw_16 : (r_14, o_17, o_18, o_19) = (fn_X11_looksFor nwf_size nwfk_a nwfh_a wk_number wk_lane wk_looks (nwfk_a a.toNatClampNeg)) := hw_16
      have k_20 : ((-1) ≤ o_17.toInt ∧ o_17.toInt ≤ 7) := k_20
      have hP : va_P D classes [(nwfv, .inl (cy, 8, .inl nwfv_a)), (nwft, .inl (cy, 8, .inl nwft_a)), (nwe, .inr (4, [.ref nwea, .ref nweb, .ref nwec, .int nwe_size])), (nwea, .inl (cy, 6, .inl nwea_a)), (nweb, .inl (cy, 6, .inl nweb_a)), (nwec, .inl (cy, 6, .inl nwec_a)), (tr, .inr (9, [.ref trw, .ref tra, .ref trb, .ref trc, .int tr_least, .int tr_bestLinks, .int tr_changeNumber, .int tr_changeHeight])), (trw, .inr (10, [.int trw_number, .int trw_lane, .int trw_looks])), (tra, .inl (cy, 8, .inl tra_a)), (trc, .inl (cy, 5, .inl trc_a)), (x, .inr (11, [.ref pg, .ref wr, .ref nw, .ref kp, .ref wk, .ref tr, lv, .int x_rowsRead, .int x_rowOfImage, .int x_bestsDone])), (nw, .inr (2, [.ref nwf, .ref nws, .ref nwe, .int nw_asked, .int nw_looksOfAsked, .int nw_changes])), (nwf, .inr (8, [.ref nwfk, .ref nwfv, .ref nwfh, .ref nwft, .int nwf_size])), (nwfk, .inl (cy, 8, .inl nwfk_a)), (nwfh, .inl (cy, 8, .inl nwfh_a)), (wk, .inr (10, [.int o_17, .int o_18, .int o_19]))] H := hP
      have hD : va_D A [(nwfv, .inl (cy, 8, .inl nwfv_a)), (nwft, .inl (cy, 8, .inl nwft_a)), (nwe, .inr (4, [.ref nwea, .ref nweb, .ref nwec, .int nwe_size])), (nwea, .inl (cy, 6, .inl nwea_a)), (nweb, .inl (cy, 6, .inl nweb_a)), (nwec, .inl (cy, 6, .inl nwec_a)), (tr, .inr (9, [.ref trw, .ref tra, .ref trb, .ref trc, .int tr_least, .int tr_bestLinks, .int tr_changeNumber, .int tr_changeHeight])), (trw, .inr (10, [.int trw_number, .int trw_lane, .int trw_looks])), (tra, .inl (cy, 8, .inl tra_a)), (trc, .inl (cy, 5, .inl trc_a)), (x, .inr (11, [.ref pg, .ref wr, .ref nw, .ref kp, .ref wk, .ref tr, lv, .int x_rowsRead, .int x_rowOfImage, .int x_bestsDone])), (nw, .inr (2, [.ref nwf, .ref nws, .ref nwe, .int nw_asked, .int nw_looksOfAsked, .int nw_changes])), (nwf, .inr (8, [.ref nwfk, .ref nwfv, .ref nwfh, .ref nwft, .int nwf_size])), (nwfk, .inl (cy, 8, .inl nwfk_a)), (nwfh, .inl (cy, 8, .inl nwfh_a)), (wk, .inr (10, [.int o_17, .int o_18, .int o_19]))] := hD
      refine W.widen (k := 0) (n := 0) (by decide) (by decide) ?_
      exact hret r_14 (o_17, o_18, o_19, trw_number, trw_lane, trw_looks, tra_a, trc_a) _ _ _ 170 (wk_sub9 (is := [10, 11, 12, 13, 0, 14, 1, 2, 3, 4, 5, 15, 6, 7, 8, 9]) hP rfl) (hD.sub [10, 11, 12, 13, 0, 14, 1, 2, 3, 4, 5, 15, 6, 7, 8, 9] rfl rfl) hS dX11_key_170 ⟨(show ((-1) ≤ o_17.toInt ∧ o_17.toInt ≤ 7) from by omega), (show ((-1) ≤ trw_number.toInt ∧ trw_number.toInt ≤ 7) from by omega)⟩
    have k_13 : ¬ b.toInt = 4 := wk_neq c_13
    by_cases c_21 : b = 5
    · refine wk_toi c_21 ?_
      have k_21 : b.toInt = 5 := wk_eq c_21
      refine lv_tableIn (off := 151) (tgt := 171) hx hb dX11_key_20 (by decide) (by decide) (by decide) (by decide) ?_
      refine lv_aload_n hx hb dX11_key_171 rfl (lv_at hl 1 rfl) ?_
      refine lv_aload_n hx hb dX11_key_172 rfl (lv_at hl 0 rfl) ?_
      refine va_get (D := D) (ci := 8) (v := .ref nwfk) (C := RX8) (T := TX8) (N := 5) hx hb htb inX8 hown hK hP 15 rfl rfl 0 (by decide) (htb _ tw_118) (fun _ h9 => h9) rfl dX11_key_173 ?_
      refine lv_iload_n hx hb dX11_key_176 rfl (lv_at hl 2 rfl) ?_
      refine va_iald hx hb hK hP 0 0 rfl rfl (show vp_in a 8 from vp_in_iff.mpr (show 0 ≤ a.toInt ∧ a.toInt < ((8 : Nat) : Int) from by omega)) dX11_key_177 ?_
      refine wk_iV (As := [.int (nwfk_a a.toNatClampNeg)]) (rest := []) (wc := [(x, .inr (11, [.ref pg, .ref wr, .ref nw, .ref kp, .ref wk, .ref tr, lv, .int x_rowsRead, .int x_rowOfImage, .int x_bestsDone])), (nw, .inr (2, [.ref nwf, .ref nws, .ref nwe, .int nw_asked, .int nw_looksOfAsked, .int nw_changes])), (nwf, .inr (8, [.ref nwfk, .ref nwfv, .ref nwfh, .ref nwft, .int nwf_size])), (nwfk, .inl (cy, 8, .inl nwfk_a)), (nwfh, .inl (cy, 8, .inl nwfh_a)), (wk, .inr (10, [.int wk_number, .int wk_lane, .int wk_looks]))]) (wr := [(nwfv, .inl (cy, 8, .inl nwfv_a)), (nwft, .inl (cy, 8, .inl nwft_a)), (nwe, .inr (4, [.ref nwea, .ref nweb, .ref nwec, .int nwe_size])), (nwea, .inl (cy, 6, .inl nwea_a)), (nweb, .inl (cy, 6, .inl nweb_a)), (nwec, .inl (cy, 6, .inl nwec_a)), (tr, .inr (9, [.ref trw, .ref tra, .ref trb, .ref trc, .int tr_least, .int tr_bestLinks, .int tr_changeNumber, .int tr_changeHeight])), (trw, .inr (10, [.int trw_number, .int trw_lane, .int trw_looks])), (tra, .inl (cy, 8, .inl tra_a)), (trc, .inl (cy, 5, .inl trc_a))]) (n := 1) ⟨hx, hb, hml, hown, htb⟩ (c_X11_laneOf l D cy x pg wr nw kp wk tr nwf nws nwe nwfk nwfv nwfh nwft (lv) x_rowsRead x_rowOfImage x_bestsDone nw_asked nw_looksOfAsked nw_changes nwf_size nwfk_a nwfh_a wk_number wk_lane wk_looks (nwfk_a a.toNatClampNeg) (show 0 ≤ nwf_size.toInt ∧ nwf_size.toInt ≤ 8 from by omega) (show (-1) ≤ wk_number.toInt ∧ wk_number.toInt ≤ 7 from by omega)) tw_504 tw_501 tw_503 tw_9 tw_64 rfl rfl (by decide +kernel) ⟨Nat.le_of_ble_eq_true rfl, Nat.le_of_ble_eq_true rfl⟩ hK hP hD hS hA [13, 14, 15, 0, 2, 8] [1, 3, 4, 5, 6, 7, 9, 10, 11, 12] rfl rfl rfl rfl (by decide) 0 (ci := 11) rfl rfl rfl hl.1 rfl (Nat.le_of_ble_eq_true rfl) dX11_key_178 ⟨Nat.le_of_ble_eq_true rfl, Nat.le_of_ble_eq_true rfl⟩ (fun r_22 u_23 H locs hw_24 hP hD hS => ?_)
      refine W.widen (k := 0) (n := 0) (by decide) (by decide) ?_
      obtain ⟨o_25, o_26, o_27⟩ := u_23
      obtain ⟨hw_24, k_28⟩ := hw_24
      have hw_24 : (r_22, o_25, o_26, o_27) = (fn_X11_laneOf nwf_size nwfk_a nwfh_a wk_number wk_lane wk_looks (nwfk_a a.toNatClampNeg)) := hw_24
      have k_28 : ((-1) ≤ o_25.toInt ∧ o_25.toInt ≤ 7) := k_28
      have hP : va_P D classes [(nwfv, .inl (cy, 8, .inl nwfv_a)), (nwft, .inl (cy, 8, .inl nwft_a)), (nwe, .inr (4, [.ref nwea, .ref nweb, .ref nwec, .int nwe_size])), (nwea, .inl (cy, 6, .inl nwea_a)), (nweb, .inl (cy, 6, .inl nweb_a)), (nwec, .inl (cy, 6, .inl nwec_a)), (tr, .inr (9, [.ref trw, .ref tra, .ref trb, .ref trc, .int tr_least, .int tr_bestLinks, .int tr_changeNumber, .int tr_changeHeight])), (trw, .inr (10, [.int trw_number, .int trw_lane, .int trw_looks])), (tra, .inl (cy, 8, .inl tra_a)), (trc, .inl (cy, 5, .inl trc_a)), (x, .inr (11, [.ref pg, .ref wr, .ref nw, .ref kp, .ref wk, .ref tr, lv, .int x_rowsRead, .int x_rowOfImage, .int x_bestsDone])), (nw, .inr (2, [.ref nwf, .ref nws, .ref nwe, .int nw_asked, .int nw_looksOfAsked, .int nw_changes])), (nwf, .inr (8, [.ref nwfk, .ref nwfv, .ref nwfh, .ref nwft, .int nwf_size])), (nwfk, .inl (cy, 8, .inl nwfk_a)), (nwfh, .inl (cy, 8, .inl nwfh_a)), (wk, .inr (10, [.int o_25, .int o_26, .int o_27]))] H := hP
      have hD : va_D A [(nwfv, .inl (cy, 8, .inl nwfv_a)), (nwft, .inl (cy, 8, .inl nwft_a)), (nwe, .inr (4, [.ref nwea, .ref nweb, .ref nwec, .int nwe_size])), (nwea, .inl (cy, 6, .inl nwea_a)), (nweb, .inl (cy, 6, .inl nweb_a)), (nwec, .inl (cy, 6, .inl nwec_a)), (tr, .inr (9, [.ref trw, .ref tra, .ref trb, .ref trc, .int tr_least, .int tr_bestLinks, .int tr_changeNumber, .int tr_changeHeight])), (trw, .inr (10, [.int trw_number, .int trw_lane, .int trw_looks])), (tra, .inl (cy, 8, .inl tra_a)), (trc, .inl (cy, 5, .inl trc_a)), (x, .inr (11, [.ref pg, .ref wr, .ref nw, .ref kp, .ref wk, .ref tr, lv, .int x_rowsRead, .int x_rowOfImage, .int x_bestsDone])), (nw, .inr (2, [.ref nwf, .ref nws, .ref nwe, .int nw_asked, .int nw_looksOfAsked, .int nw_changes])), (nwf, .inr (8, [.ref nwfk, .ref nwfv, .ref nwfh, .ref nwft, .int nwf_size])), (nwfk, .inl (cy, 8, .inl nwfk_a)), (nwfh, .inl (cy, 8, .inl nwfh_a)), (wk, .inr (10, [.int o_25, .int o_26, .int o_27]))] := hD
      refine W.widen (k := 0) (n := 0) (by decide) (by decide) ?_
      exact hret r_22 (o_25, o_26, o_27, trw_number, trw_lane, trw_looks, tra_a, trc_a) _ _ _ 181 (wk_sub9 (is := [10, 11, 12, 13, 0, 14, 1, 2, 3, 4, 5, 15, 6, 7, 8, 9]) hP rfl) (hD.sub [10, 11, 12, 13, 0, 14, 1, 2, 3, 4, 5, 15, 6, 7, 8, 9] rfl rfl) hS dX11_key_181 ⟨(show ((-1) ≤ o_25.toInt ∧ o_25.toInt ≤ 7) from by omega), (show ((-1) ≤ trw_number.toInt ∧ trw_number.toInt ≤ 7) from by omega)⟩
    have k_21 : ¬ b.toInt = 5 := wk_neq c_21
    by_cases c_29 : b = 6
    · refine wk_toi c_29 ?_
      have k_29 : b.toInt = 6 := wk_eq c_29
      refine lv_tableIn (off := 162) (tgt := 182) hx hb dX11_key_20 (by decide) (by decide) (by decide) (by decide) ?_
      refine lv_aload_n hx hb dX11_key_182 rfl (lv_at hl 1 rfl) ?_
      refine va_get (D := D) (ci := 11) (v := .ref tr) (C := RX11) (T := TX11) (N := 10) hx hb htb inX11 hown hK hP 13 rfl rfl 5 (by decide) (htb _ tw_257) (fun _ h9 => h9) rfl dX11_key_183 ?_
      refine lv_aload_n hx hb dX11_key_186 rfl (lv_at hl 0 rfl) ?_
      refine lv_aload_n hx hb dX11_key_187 rfl (lv_at hl 1 rfl) ?_
      refine va_get (D := D) (ci := 11) (v := .ref nw) (C := RX11) (T := TX11) (N := 10) hx hb htb inX11 hown hK hP 13 rfl rfl 2 (by decide) (htb _ tw_254) (fun _ h9 => h9) rfl dX11_key_188 ?_
      refine va_get (D := D) (ci := 2) (v := .ref nwe) (C := RX2) (T := TX2) (N := 6) hx hb htb inX2 hown hK hP 14 rfl rfl 2 (by decide) (htb _ tw_175) (fun _ h9 => h9) rfl dX11_key_191 ?_
      refine lv_iload_n hx hb dX11_key_194 rfl (lv_at hl 2 rfl) ?_
      refine wk_iV (As := [.ref nwf, .ref nwe, .int a]) (rest := []) (wc := [(tr, .inr (9, [.ref trw, .ref tra, .ref trb, .ref trc, .int tr_least, .int tr_bestLinks, .int tr_changeNumber, .int tr_changeHeight])), (trw, .inr (10, [.int trw_number, .int trw_lane, .int trw_looks])), (tra, .inl (cy, 8, .inl tra_a)), (nwf, .inr (8, [.ref nwfk, .ref nwfv, .ref nwfh, .ref nwft, .int nwf_size])), (nwfk, .inl (cy, 8, .inl nwfk_a)), (nwfh, .inl (cy, 8, .inl nwfh_a)), (nwe, .inr (4, [.ref nwea, .ref nweb, .ref nwec, .int nwe_size])), (nwea, .inl (cy, 6, .inl nwea_a)), (nweb, .inl (cy, 6, .inl nweb_a)), (nwec, .inl (cy, 6, .inl nwec_a))]) (wr := [(nwfv, .inl (cy, 8, .inl nwfv_a)), (nwft, .inl (cy, 8, .inl nwft_a)), (wk, .inr (10, [.int wk_number, .int wk_lane, .int wk_looks])), (trc, .inl (cy, 5, .inl trc_a)), (x, .inr (11, [.ref pg, .ref wr, .ref nw, .ref kp, .ref wk, .ref tr, lv, .int x_rowsRead, .int x_rowOfImage, .int x_bestsDone])), (nw, .inr (2, [.ref nwf, .ref nws, .ref nwe, .int nw_asked, .int nw_looksOfAsked, .int nw_changes]))]) (n := 3) ⟨hx, hb, hml, hown, htb⟩ (c_X9_heightsLeft l D cy tr trw tra trb trc nwf nwfk nwfv nwfh nwft nwe nwea nweb nwec tr_least tr_bestLinks tr_changeNumber tr_changeHeight trw_number trw_lane trw_looks tra_a nwf_size nwfk_a nwfh_a nwe_size nwea_a nweb_a nwec_a a (show (-1) ≤ trw_number.toInt ∧ trw_number.toInt ≤ 7 from by omega) (show 0 ≤ nwf_size.toInt ∧ nwf_size.toInt ≤ 8 from by omega) (show 0 ≤ nwe_size.toInt ∧ nwe_size.toInt ≤ 6 from by omega) (show 0 ≤ a.toInt ∧ a.toInt ≤ 7 from by omega)) tw_508 tw_505 tw_506 tw_507 tw_70 rfl rfl (by decide +kernel) ⟨Nat.le_of_ble_eq_true rfl, Nat.le_of_ble_eq_true rfl⟩ hK hP hD hS hA [9, 10, 11, 15, 0, 2, 4, 5, 6, 7] [1, 3, 8, 12, 13, 14] rfl rfl rfl rfl (by decide) 0 (ci := 9) rfl rfl rfl hl.1 rfl (Nat.le_of_ble_eq_true rfl) dX11_key_195 ⟨Nat.le_of_ble_eq_true rfl, Nat.le_of_ble_eq_true rfl⟩ (fun r_30 u_31 H locs hw_32 hP hD hS => ?_)
      refine W.widen (k := 0) (n := 0) (by decide) (by decide) ?_
      obtain ⟨o_33, o_34, o_35, o_36⟩ := u_31
      obtain ⟨hw_32, k_37⟩ := hw_32
      have hw_32 : (r_30, o_33, o_34, o_35, o_36) = (fn_X9_heightsLeft trw_number trw_lane trw_looks tra_a nwf_size nwfk_a nwfh_a nwe_size nwea_a nweb_a nwec_a a) := hw_32
      have k_37 : ((-1) ≤ o_33.toInt ∧ o_33.toInt ≤ 7) := k_37
      have hP : va_P D classes [(nwfv, .inl (cy, 8, .inl nwfv_a)), (nwft, .inl (cy, 8, .inl nwft_a)), (wk, .inr (10, [.int wk_number, .int wk_lane, .int wk_looks])), (trc, .inl (cy, 5, .inl trc_a)), (x, .inr (11, [.ref pg, .ref wr, .ref nw, .ref kp, .ref wk, .ref tr, lv, .int x_rowsRead, .int x_rowOfImage, .int x_bestsDone])), (nw, .inr (2, [.ref nwf, .ref nws, .ref nwe, .int nw_asked, .int nw_looksOfAsked, .int nw_changes])), (tr, .inr (9, [.ref trw, .ref tra, .ref trb, .ref trc, .int tr_least, .int tr_bestLinks, .int tr_changeNumber, .int tr_changeHeight])), (trw, .inr (10, [.int o_33, .int o_34, .int o_35])), (tra, .inl (cy, 8, .inl o_36)), (nwf, .inr (8, [.ref nwfk, .ref nwfv, .ref nwfh, .ref nwft, .int nwf_size])), (nwfk, .inl (cy, 8, .inl nwfk_a)), (nwfh, .inl (cy, 8, .inl nwfh_a)), (nwe, .inr (4, [.ref nwea, .ref nweb, .ref nwec, .int nwe_size])), (nwea, .inl (cy, 6, .inl nwea_a)), (nweb, .inl (cy, 6, .inl nweb_a)), (nwec, .inl (cy, 6, .inl nwec_a))] H := hP
      have hD : va_D A [(nwfv, .inl (cy, 8, .inl nwfv_a)), (nwft, .inl (cy, 8, .inl nwft_a)), (wk, .inr (10, [.int wk_number, .int wk_lane, .int wk_looks])), (trc, .inl (cy, 5, .inl trc_a)), (x, .inr (11, [.ref pg, .ref wr, .ref nw, .ref kp, .ref wk, .ref tr, lv, .int x_rowsRead, .int x_rowOfImage, .int x_bestsDone])), (nw, .inr (2, [.ref nwf, .ref nws, .ref nwe, .int nw_asked, .int nw_looksOfAsked, .int nw_changes])), (tr, .inr (9, [.ref trw, .ref tra, .ref trb, .ref trc, .int tr_least, .int tr_bestLinks, .int tr_changeNumber, .int tr_changeHeight])), (trw, .inr (10, [.int o_33, .int o_34, .int o_35])), (tra, .inl (cy, 8, .inl o_36)), (nwf, .inr (8, [.ref nwfk, .ref nwfv, .ref nwfh, .ref nwft, .int nwf_size])), (nwfk, .inl (cy, 8, .inl nwfk_a)), (nwfh, .inl (cy, 8, .inl nwfh_a)), (nwe, .inr (4, [.ref nwea, .ref nweb, .ref nwec, .int nwe_size])), (nwea, .inl (cy, 6, .inl nwea_a)), (nweb, .inl (cy, 6, .inl nweb_a)), (nwec, .inl (cy, 6, .inl nwec_a))] := hD
      refine W.widen (k := 0) (n := 0) (by decide) (by decide) ?_
      exact hret r_30 (wk_number, wk_lane, wk_looks, o_33, o_34, o_35, o_36, trc_a) _ _ _ 198 (wk_sub9 (is := [4, 5, 9, 10, 0, 11, 1, 12, 13, 14, 15, 2, 6, 7, 8, 3]) hP rfl) (hD.sub [4, 5, 9, 10, 0, 11, 1, 12, 13, 14, 15, 2, 6, 7, 8, 3] rfl rfl) hS dX11_key_198 ⟨(show ((-1) ≤ wk_number.toInt ∧ wk_number.toInt ≤ 7) from by omega), (show ((-1) ≤ o_33.toInt ∧ o_33.toInt ≤ 7) from by omega)⟩
    have k_29 : ¬ b.toInt = 6 := wk_neq c_29
    by_cases c_38 : b = 7
    · refine wk_toi c_38 ?_
      have k_38 : b.toInt = 7 := wk_eq c_38
      refine lv_tableIn (off := 179) (tgt := 199) hx hb dX11_key_20 (by decide) (by decide) (by decide) (by decide) ?_
      refine lv_aload_n hx hb dX11_key_199 rfl (lv_at hl 1 rfl) ?_
      refine va_get (D := D) (ci := 11) (v := .ref tr) (C := RX11) (T := TX11) (N := 10) hx hb htb inX11 hown hK hP 13 rfl rfl 5 (by decide) (htb _ tw_257) (fun _ h9 => h9) rfl dX11_key_200 ?_
      refine lv_aload_n hx hb dX11_key_203 rfl (lv_at hl 0 rfl) ?_
      refine lv_aload_n hx hb dX11_key_204 rfl (lv_at hl 1 rfl) ?_
      refine va_get (D := D) (ci := 11) (v := .ref nw) (C := RX11) (T := TX11) (N := 10) hx hb htb inX11 hown hK hP 13 rfl rfl 2 (by decide) (htb _ tw_254) (fun _ h9 => h9) rfl dX11_key_205 ?_
      refine va_get (D := D) (ci := 2) (v := .ref nwe) (C := RX2) (T := TX2) (N := 6) hx hb htb inX2 hown hK hP 14 rfl rfl 2 (by decide) (htb _ tw_175) (fun _ h9 => h9) rfl dX11_key_208 ?_
      refine lv_iload_n hx hb dX11_key_211 rfl (lv_at hl 2 rfl) ?_
      refine wk_iV (As := [.ref nwf, .ref nwe, .int a]) (rest := []) (wc := [(tr, .inr (9, [.ref trw, .ref tra, .ref trb, .ref trc, .int tr_least, .int tr_bestLinks, .int tr_changeNumber, .int tr_changeHeight])), (trw, .inr (10, [.int trw_number, .int trw_lane, .int trw_looks])), (tra, .inl (cy, 8, .inl tra_a)), (trc, .inl (cy, 5, .inl trc_a)), (nwf, .inr (8, [.ref nwfk, .ref nwfv, .ref nwfh, .ref nwft, .int nwf_size])), (nwfk, .inl (cy, 8, .inl nwfk_a)), (nwfh, .inl (cy, 8, .inl nwfh_a)), (nwe, .inr (4, [.ref nwea, .ref nweb, .ref nwec, .int nwe_size])), (nwea, .inl (cy, 6, .inl nwea_a)), (nweb, .inl (cy, 6, .inl nweb_a)), (nwec, .inl (cy, 6, .inl nwec_a))]) (wr := [(nwfv, .inl (cy, 8, .inl nwfv_a)), (nwft, .inl (cy, 8, .inl nwft_a)), (wk, .inr (10, [.int wk_number, .int wk_lane, .int wk_looks])), (x, .inr (11, [.ref pg, .ref wr, .ref nw, .ref kp, .ref wk, .ref tr, lv, .int x_rowsRead, .int x_rowOfImage, .int x_bestsDone])), (nw, .inr (2, [.ref nwf, .ref nws, .ref nwe, .int nw_asked, .int nw_looksOfAsked, .int nw_changes]))]) (n := 3) ⟨hx, hb, hml, hown, htb⟩ (c_X9_bestTry l D cy tr trw tra trb trc nwf nwfk nwfv nwfh nwft nwe nwea nweb nwec tr_least tr_bestLinks tr_changeNumber tr_changeHeight trw_number trw_lane trw_looks tra_a trc_a nwf_size nwfk_a nwfh_a nwe_size nwea_a nweb_a nwec_a a (show (-1) ≤ trw_number.toInt ∧ trw_number.toInt ≤ 7 from by omega) (show 0 ≤ nwf_size.toInt ∧ nwf_size.toInt ≤ 8 from by omega) (show 0 ≤ nwe_size.toInt ∧ nwe_size.toInt ≤ 6 from by omega) (show 0 ≤ a.toInt ∧ a.toInt ≤ 7 from by omega)) tw_520 tw_517 tw_518 tw_519 tw_70 rfl rfl (by decide +kernel) ⟨Nat.le_of_ble_eq_true rfl, Nat.le_of_ble_eq_true rfl⟩ hK hP hD hS hA [9, 10, 11, 12, 15, 0, 2, 4, 5, 6, 7] [1, 3, 8, 13, 14] rfl rfl rfl rfl (by decide) 0 (ci := 9) rfl rfl rfl hl.1 rfl (Nat.le_of_ble_eq_true rfl) dX11_key_212 ⟨Nat.le_of_ble_eq_true rfl, Nat.le_of_ble_eq_true rfl⟩ (fun r_39 u_40 H locs hw_41 hP hD hS => ?_)
      refine W.widen (k := 0) (n := 0) (by decide) (by decide) ?_
      obtain ⟨o_42, o_43, o_44, o_45, o_46⟩ := u_40
      obtain ⟨hw_41, k_47⟩ := hw_41
      have hw_41 : (r_39, o_42, o_43, o_44, o_45, o_46) = (fn_X9_bestTry trw_number trw_lane trw_looks tra_a trc_a nwf_size nwfk_a nwfh_a nwe_size nwea_a nweb_a nwec_a a) := hw_41
      have k_47 : ((-1) ≤ o_42.toInt ∧ o_42.toInt ≤ 7) := k_47
      have hP : va_P D classes [(nwfv, .inl (cy, 8, .inl nwfv_a)), (nwft, .inl (cy, 8, .inl nwft_a)), (wk, .inr (10, [.int wk_number, .int wk_lane, .int wk_looks])), (x, .inr (11, [.ref pg, .ref wr, .ref nw, .ref kp, .ref wk, .ref tr, lv, .int x_rowsRead, .int x_rowOfImage, .int x_bestsDone])), (nw, .inr (2, [.ref nwf, .ref nws, .ref nwe, .int nw_asked, .int nw_looksOfAsked, .int nw_changes])), (tr, .inr (9, [.ref trw, .ref tra, .ref trb, .ref trc, .int tr_least, .int tr_bestLinks, .int tr_changeNumber, .int tr_changeHeight])), (trw, .inr (10, [.int o_42, .int o_43, .int o_44])), (tra, .inl (cy, 8, .inl o_45)), (trc, .inl (cy, 5, .inl o_46)), (nwf, .inr (8, [.ref nwfk, .ref nwfv, .ref nwfh, .ref nwft, .int nwf_size])), (nwfk, .inl (cy, 8, .inl nwfk_a)), (nwfh, .inl (cy, 8, .inl nwfh_a)), (nwe, .inr (4, [.ref nwea, .ref nweb, .ref nwec, .int nwe_size])), (nwea, .inl (cy, 6, .inl nwea_a)), (nweb, .inl (cy, 6, .inl nweb_a)), (nwec, .inl (cy, 6, .inl nwec_a))] H := hP
      have hD : va_D A [(nwfv, .inl (cy, 8, .inl nwfv_a)), (nwft, .inl (cy, 8, .inl nwft_a)), (wk, .inr (10, [.int wk_number, .int wk_lane, .int wk_looks])), (x, .inr (11, [.ref pg, .ref wr, .ref nw, .ref kp, .ref wk, .ref tr, lv, .int x_rowsRead, .int x_rowOfImage, .int x_bestsDone])), (nw, .inr (2, [.ref nwf, .ref nws, .ref nwe, .int nw_asked, .int nw_looksOfAsked, .int nw_changes])), (tr, .inr (9, [.ref trw, .ref tra, .ref trb, .ref trc, .int tr_least, .int tr_bestLinks, .int tr_changeNumber, .int tr_changeHeight])), (trw, .inr (10, [.int o_42, .int o_43, .int o_44])), (tra, .inl (cy, 8, .inl o_45)), (trc, .inl (cy, 5, .inl o_46)), (nwf, .inr (8, [.ref nwfk, .ref nwfv, .ref nwfh, .ref nwft, .int nwf_size])), (nwfk, .inl (cy, 8, .inl nwfk_a)), (nwfh, .inl (cy, 8, .inl nwfh_a)), (nwe, .inr (4, [.ref nwea, .ref nweb, .ref nwec, .int nwe_size])), (nwea, .inl (cy, 6, .inl nwea_a)), (nweb, .inl (cy, 6, .inl nweb_a)), (nwec, .inl (cy, 6, .inl nwec_a))] := hD
      refine W.widen (k := 0) (n := 0) (by decide) (by decide) ?_
      exact hret r_39 (wk_number, wk_lane, wk_looks, o_42, o_43, o_44, o_45, o_46) _ _ _ 215 (wk_sub9 (is := [3, 4, 9, 10, 0, 11, 1, 12, 13, 14, 15, 2, 5, 6, 7, 8]) hP rfl) (hD.sub [3, 4, 9, 10, 0, 11, 1, 12, 13, 14, 15, 2, 5, 6, 7, 8] rfl rfl) hS dX11_key_215 ⟨(show ((-1) ≤ wk_number.toInt ∧ wk_number.toInt ≤ 7) from by omega), (show ((-1) ≤ o_42.toInt ∧ o_42.toInt ≤ 7) from by omega)⟩
    have k_38 : ¬ b.toInt = 7 := wk_neq c_38
    by_cases c_48 : b = 8
    · refine wk_toi c_48 ?_
      have k_48 : b.toInt = 8 := wk_eq c_48
      refine lv_tableIn (off := 216) (tgt := 236) hx hb dX11_key_20 (by decide) (by decide) (by decide) (by decide) ?_
      refine lv_bipush (v := (-102)) hx hb dX11_key_236 (by decide) ?_
      refine W.widen (k := 0) (n := 0) (by decide) (by decide) ?_
      exact hret (-102) (wk_number, wk_lane, wk_looks, trw_number, trw_lane, trw_looks, tra_a, trc_a) _ _ _ 238 (wk_sub9 (is := [13, 14, 15, 0, 1, 2, 3, 4, 5, 6, 7, 8, 9, 10, 11, 12]) hP rfl) (hD.sub [13, 14, 15, 0, 1, 2, 3, 4, 5, 6, 7, 8, 9, 10, 11, 12] rfl rfl) hS dX11_key_238 ⟨(show ((-1) ≤ wk_number.toInt ∧ wk_number.toInt ≤ 7) from by omega), (show ((-1) ≤ trw_number.toInt ∧ trw_number.toInt ≤ 7) from by omega)⟩
    have k_48 : ¬ b.toInt = 8 := wk_neq c_48
    by_cases c_49 : b = 9
    · refine wk_toi c_49 ?_
      have k_49 : b.toInt = 9 := wk_eq c_49
      refine lv_tableIn (off := 216) (tgt := 236) hx hb dX11_key_20 (by decide) (by decide) (by decide) (by decide) ?_
      refine lv_bipush (v := (-102)) hx hb dX11_key_236 (by decide) ?_
      refine W.widen (k := 0) (n := 0) (by decide) (by decide) ?_
      exact hret (-102) (wk_number, wk_lane, wk_looks, trw_number, trw_lane, trw_looks, tra_a, trc_a) _ _ _ 238 (wk_sub9 (is := [13, 14, 15, 0, 1, 2, 3, 4, 5, 6, 7, 8, 9, 10, 11, 12]) hP rfl) (hD.sub [13, 14, 15, 0, 1, 2, 3, 4, 5, 6, 7, 8, 9, 10, 11, 12] rfl rfl) hS dX11_key_238 ⟨(show ((-1) ≤ wk_number.toInt ∧ wk_number.toInt ≤ 7) from by omega), (show ((-1) ≤ trw_number.toInt ∧ trw_number.toInt ≤ 7) from by omega)⟩
    have k_49 : ¬ b.toInt = 9 := wk_neq c_49
    by_cases c_50 : b = 10
    · refine wk_toi c_50 ?_
      have k_50 : b.toInt = 10 := wk_eq c_50
      refine lv_tableIn (off := 196) (tgt := 216) hx hb dX11_key_20 (by decide) (by decide) (by decide) (by decide) ?_
      refine lv_aload_n hx hb dX11_key_216 rfl (lv_at hl 0 rfl) ?_
      refine lv_iload_n hx hb dX11_key_217 rfl (lv_at hl 2 rfl) ?_
      refine lv_iload_n hx hb dX11_key_218 rfl (lv_at hl 3 rfl) ?_
      refine lv_bipush (v := 10) hx hb dX11_key_219 (by decide) ?_
      refine lv_isub hx hb dX11_key_221 ?_
      obtain ⟨z_51, ez_51⟩ : ∃ y : Int32, y = (b - 10) := ⟨_, rfl⟩
      refine wk_toi ez_51.symm ?_
      have k_52 : z_51.toInt = b.toInt - 10 := by rw [ez_51]; exact wk_sub b.toInt 10 rfl rfl (by omega) (by omega)
      refine wk_iV (As := [.int a, .int z_51]) (rest := []) (wc := [(nwf, .inr (8, [.ref nwfk, .ref nwfv, .ref nwfh, .ref nwft, .int nwf_size])), (nwfh, .inl (cy, 8, .inl nwfh_a))]) (wr := [(nwfk, .inl (cy, 8, .inl nwfk_a)), (nwfv, .inl (cy, 8, .inl nwfv_a)), (nwft, .inl (cy, 8, .inl nwft_a)), (nwe, .inr (4, [.ref nwea, .ref nweb, .ref nwec, .int nwe_size])), (nwea, .inl (cy, 6, .inl nwea_a)), (nweb, .inl (cy, 6, .inl nweb_a)), (nwec, .inl (cy, 6, .inl nwec_a)), (wk, .inr (10, [.int wk_number, .int wk_lane, .int wk_looks])), (tr, .inr (9, [.ref trw, .ref tra, .ref trb, .ref trc, .int tr_least, .int tr_bestLinks, .int tr_changeNumber, .int tr_changeHeight])), (trw, .inr (10, [.int trw_number, .int trw_lane, .int trw_looks])), (tra, .inl (cy, 8, .inl tra_a)), (trc, .inl (cy, 5, .inl trc_a)), (x, .inr (11, [.ref pg, .ref wr, .ref nw, .ref kp, .ref wk, .ref tr, lv, .int x_rowsRead, .int x_rowOfImage, .int x_bestsDone])), (nw, .inr (2, [.ref nwf, .ref nws, .ref nwe, .int nw_asked, .int nw_looksOfAsked, .int nw_changes]))]) (n := 2) ⟨hx, hb, hml, hown, htb⟩ (c_X8_widthFrom l D cy nwf nwfk nwfv nwfh nwft nwf_size nwfh_a a z_51 (show 0 ≤ nwf_size.toInt ∧ nwf_size.toInt ≤ 8 from by omega) (show (-1) ≤ a.toInt ∧ a.toInt ≤ 7 from by omega)) tw_534 tw_531 tw_532 tw_533 tw_67 rfl rfl (by decide +kernel) ⟨Nat.le_of_ble_eq_true rfl, Nat.le_of_ble_eq_true rfl⟩ hK hP hD hS hA [15, 2] [0, 1, 3, 4, 5, 6, 7, 8, 9, 10, 11, 12, 13, 14] rfl rfl rfl rfl (by decide) 0 (ci := 8) rfl rfl rfl hl.1 rfl (Nat.le_of_ble_eq_true rfl) dX11_key_222 ⟨Nat.le_of_ble_eq_true rfl, Nat.le_of_ble_eq_true rfl⟩ (fun r_53 u_54 H locs hw_55 hP hD hS => ?_)
      refine W.widen (k := 0) (n := 0) (by decide) (by decide) ?_
      have hw_55 : r_53 = (fn_X8_widthFrom nwf_size nwfh_a a z_51) := hw_55
      subst hw_55
      have hP : va_P D classes [(nwfk, .inl (cy, 8, .inl nwfk_a)), (nwfv, .inl (cy, 8, .inl nwfv_a)), (nwft, .inl (cy, 8, .inl nwft_a)), (nwe, .inr (4, [.ref nwea, .ref nweb, .ref nwec, .int nwe_size])), (nwea, .inl (cy, 6, .inl nwea_a)), (nweb, .inl (cy, 6, .inl nweb_a)), (nwec, .inl (cy, 6, .inl nwec_a)), (wk, .inr (10, [.int wk_number, .int wk_lane, .int wk_looks])), (tr, .inr (9, [.ref trw, .ref tra, .ref trb, .ref trc, .int tr_least, .int tr_bestLinks, .int tr_changeNumber, .int tr_changeHeight])), (trw, .inr (10, [.int trw_number, .int trw_lane, .int trw_looks])), (tra, .inl (cy, 8, .inl tra_a)), (trc, .inl (cy, 5, .inl trc_a)), (x, .inr (11, [.ref pg, .ref wr, .ref nw, .ref kp, .ref wk, .ref tr, lv, .int x_rowsRead, .int x_rowOfImage, .int x_bestsDone])), (nw, .inr (2, [.ref nwf, .ref nws, .ref nwe, .int nw_asked, .int nw_looksOfAsked, .int nw_changes])), (nwf, .inr (8, [.ref nwfk, .ref nwfv, .ref nwfh, .ref nwft, .int nwf_size])), (nwfh, .inl (cy, 8, .inl nwfh_a))] H := hP
      have hD : va_D A [(nwfk, .inl (cy, 8, .inl nwfk_a)), (nwfv, .inl (cy, 8, .inl nwfv_a)), (nwft, .inl (cy, 8, .inl nwft_a)), (nwe, .inr (4, [.ref nwea, .ref nweb, .ref nwec, .int nwe_size])), (nwea, .inl (cy, 6, .inl nwea_a)), (nweb, .inl (cy, 6, .inl nweb_a)), (nwec, .inl (cy, 6, .inl nwec_a)), (wk, .inr (10, [.int wk_number, .int wk_lane, .int wk_looks])), (tr, .inr (9, [.ref trw, .ref tra, .ref trb, .ref trc, .int tr_least, .int tr_bestLinks, .int tr_changeNumber, .int tr_changeHeight])), (trw, .inr (10, [.int trw_number, .int trw_lane, .int trw_looks])), (tra, .inl (cy, 8, .inl tra_a)), (trc, .inl (cy, 5, .inl trc_a)), (x, .inr (11, [.ref pg, .ref wr, .ref nw, .ref kp, .ref wk, .ref tr, lv, .int x_rowsRead, .int x_rowOfImage, .int x_bestsDone])), (nw, .inr (2, [.ref nwf, .ref nws, .ref nwe, .int nw_asked, .int nw_looksOfAsked, .int nw_changes])), (nwf, .inr (8, [.ref nwfk, .ref nwfv, .ref nwfh, .ref nwft, .int nwf_size])), (nwfh, .inl (cy, 8, .inl nwfh_a))] := hD
      refine W.widen (k := 0) (n := 0) (by decide) (by decide) ?_
      exact hret (fn_X8_widthFrom nwf_size nwfh_a a z_51) (wk_number, wk_lane, wk_looks, trw_number, trw_lane, trw_looks, tra_a, trc_a) _ _ _ 225 (wk_sub9 (is := [12, 13, 14, 0, 1, 15, 2, 3, 4, 5, 6, 7, 8, 9, 10, 11]) hP rfl) (hD.sub [12, 13, 14, 0, 1, 15, 2, 3, 4, 5, 6, 7, 8, 9, 10, 11] rfl rfl) hS dX11_key_225 ⟨(show ((-1) ≤ wk_number.toInt ∧ wk_number.toInt ≤ 7) from by omega), (show ((-1) ≤ trw_number.toInt ∧ trw_number.toInt ≤ 7) from by omega)⟩
    have k_50 : ¬ b.toInt = 10 := wk_neq c_50
    by_cases c_56 : b = 11
    · refine wk_toi c_56 ?_
      have k_56 : b.toInt = 11 := wk_eq c_56
      refine lv_tableIn (off := 196) (tgt := 216) hx hb dX11_key_20 (by decide) (by decide) (by decide) (by decide) ?_
      refine lv_aload_n hx hb dX11_key_216 rfl (lv_at hl 0 rfl) ?_
      refine lv_iload_n hx hb dX11_key_217 rfl (lv_at hl 2 rfl) ?_
      refine lv_iload_n hx hb dX11_key_218 rfl (lv_at hl 3 rfl) ?_
      refine lv_bipush (v := 10) hx hb dX11_key_219 (by decide) ?_
      refine lv_isub hx hb dX11_key_221 ?_
      obtain ⟨z_57, ez_57⟩ : ∃ y : Int32, y = (b - 10) := ⟨_, rfl⟩
      refine wk_toi ez_57.symm ?_
      have k_58 : z_57.toInt = b.toInt - 10 := by rw [ez_57]; exact wk_sub b.toInt 10 rfl rfl (by omega) (by omega)
      refine wk_iV (As := [.int a, .int z_57]) (rest := []) (wc := [(nwf, .inr (8, [.ref nwfk, .ref nwfv, .ref nwfh, .ref nwft, .int nwf_size])), (nwfh, .inl (cy, 8, .inl nwfh_a))]) (wr := [(nwfk, .inl (cy, 8, .inl nwfk_a)), (nwfv, .inl (cy, 8, .inl nwfv_a)), (nwft, .inl (cy, 8, .inl nwft_a)), (nwe, .inr (4, [.ref nwea, .ref nweb, .ref nwec, .int nwe_size])), (nwea, .inl (cy, 6, .inl nwea_a)), (nweb, .inl (cy, 6, .inl nweb_a)), (nwec, .inl (cy, 6, .inl nwec_a)), (wk, .inr (10, [.int wk_number, .int wk_lane, .int wk_looks])), (tr, .inr (9, [.ref trw, .ref tra, .ref trb, .ref trc, .int tr_least, .int tr_bestLinks, .int tr_changeNumber, .int tr_changeHeight])), (trw, .inr (10, [.int trw_number, .int trw_lane, .int trw_looks])), (tra, .inl (cy, 8, .inl tra_a)), (trc, .inl (cy, 5, .inl trc_a)), (x, .inr (11, [.ref pg, .ref wr, .ref nw, .ref kp, .ref wk, .ref tr, lv, .int x_rowsRead, .int x_rowOfImage, .int x_bestsDone])), (nw, .inr (2, [.ref nwf, .ref nws, .ref nwe, .int nw_asked, .int nw_looksOfAsked, .int nw_changes]))]) (n := 2) ⟨hx, hb, hml, hown, htb⟩ (c_X8_widthFrom l D cy nwf nwfk nwfv nwfh nwft nwf_size nwfh_a a z_57 (show 0 ≤ nwf_size.toInt ∧ nwf_size.toInt ≤ 8 from by omega) (show (-1) ≤ a.toInt ∧ a.toInt ≤ 7 from by omega)) tw_534 tw_531 tw_532 tw_533 tw_67 rfl rfl (by decide +kernel) ⟨Nat.le_of_ble_eq_true rfl, Nat.le_of_ble_eq_true rfl⟩ hK hP hD hS hA [15, 2] [0, 1, 3, 4, 5, 6, 7, 8, 9, 10, 11, 12, 13, 14] rfl rfl rfl rfl (by decide) 0 (ci := 8) rfl rfl rfl hl.1 rfl (Nat.le_of_ble_eq_true rfl) dX11_key_222 ⟨Nat.le_of_ble_eq_true rfl, Nat.le_of_ble_eq_true rfl⟩ (fun r_59 u_60 H locs hw_61 hP hD hS => ?_)
      refine W.widen (k := 0) (n := 0) (by decide) (by decide) ?_
      have hw_61 : r_59 = (fn_X8_widthFrom nwf_size nwfh_a a z_57) := hw_61
      subst hw_61
      have hP : va_P D classes [(nwfk, .inl (cy, 8, .inl nwfk_a)), (nwfv, .inl (cy, 8, .inl nwfv_a)), (nwft, .inl (cy, 8, .inl nwft_a)), (nwe, .inr (4, [.ref nwea, .ref nweb, .ref nwec, .int nwe_size])), (nwea, .inl (cy, 6, .inl nwea_a)), (nweb, .inl (cy, 6, .inl nweb_a)), (nwec, .inl (cy, 6, .inl nwec_a)), (wk, .inr (10, [.int wk_number, .int wk_lane, .int wk_looks])), (tr, .inr (9, [.ref trw, .ref tra, .ref trb, .ref trc, .int tr_least, .int tr_bestLinks, .int tr_changeNumber, .int tr_changeHeight])), (trw, .inr (10, [.int trw_number, .int trw_lane, .int trw_looks])), (tra, .inl (cy, 8, .inl tra_a)), (trc, .inl (cy, 5, .inl trc_a)), (x, .inr (11, [.ref pg, .ref wr, .ref nw, .ref kp, .ref wk, .ref tr, lv, .int x_rowsRead, .int x_rowOfImage, .int x_bestsDone])), (nw, .inr (2, [.ref nwf, .ref nws, .ref nwe, .int nw_asked, .int nw_looksOfAsked, .int nw_changes])), (nwf, .inr (8, [.ref nwfk, .ref nwfv, .ref nwfh, .ref nwft, .int nwf_size])), (nwfh, .inl (cy, 8, .inl nwfh_a))] H := hP
      have hD : va_D A [(nwfk, .inl (cy, 8, .inl nwfk_a)), (nwfv, .inl (cy, 8, .inl nwfv_a)), (nwft, .inl (cy, 8, .inl nwft_a)), (nwe, .inr (4, [.ref nwea, .ref nweb, .ref nwec, .int nwe_size])), (nwea, .inl (cy, 6, .inl nwea_a)), (nweb, .inl (cy, 6, .inl nweb_a)), (nwec, .inl (cy, 6, .inl nwec_a)), (wk, .inr (10, [.int wk_number, .int wk_lane, .int wk_looks])), (tr, .inr (9, [.ref trw, .ref tra, .ref trb, .ref trc, .int tr_least, .int tr_bestLinks, .int tr_changeNumber, .int tr_changeHeight])), (trw, .inr (10, [.int trw_number, .int trw_lane, .int trw_looks])), (tra, .inl (cy, 8, .inl tra_a)), (trc, .inl (cy, 5, .inl trc_a)), (x, .inr (11, [.ref pg, .ref wr, .ref nw, .ref kp, .ref wk, .ref tr, lv, .int x_rowsRead, .int x_rowOfImage, .int x_bestsDone])), (nw, .inr (2, [.ref nwf, .ref nws, .ref nwe, .int nw_asked, .int nw_looksOfAsked, .int nw_changes])), (nwf, .inr (8, [.ref nwfk, .ref nwfv, .ref nwfh, .ref nwft, .int nwf_size])), (nwfh, .inl (cy, 8, .inl nwfh_a))] := hD
      refine W.widen (k := 0) (n := 0) (by decide) (by decide) ?_
      exact hret (fn_X8_widthFrom nwf_size nwfh_a a z_57) (wk_number, wk_lane, wk_looks, trw_number, trw_lane, trw_looks, tra_a, trc_a) _ _ _ 225 (wk_sub9 (is := [12, 13, 14, 0, 1, 15, 2, 3, 4, 5, 6, 7, 8, 9, 10, 11]) hP rfl) (hD.sub [12, 13, 14, 0, 1, 15, 2, 3, 4, 5, 6, 7, 8, 9, 10, 11] rfl rfl) hS dX11_key_225 ⟨(show ((-1) ≤ wk_number.toInt ∧ wk_number.toInt ≤ 7) from by omega), (show ((-1) ≤ trw_number.toInt ∧ trw_number.toInt ≤ 7) from by omega)⟩
    have k_56 : ¬ b.toInt = 11 := wk_neq c_56
    by_cases c_62 : b = 12
    · refine wk_toi c_62 ?_
      have k_62 : b.toInt = 12 := wk_eq c_62
      refine lv_tableIn (off := 196) (tgt := 216) hx hb dX11_key_20 (by decide) (by decide) (by decide) (by decide) ?_
      refine lv_aload_n hx hb dX11_key_216 rfl (lv_at hl 0 rfl) ?_
      refine lv_iload_n hx hb dX11_key_217 rfl (lv_at hl 2 rfl) ?_
      refine lv_iload_n hx hb dX11_key_218 rfl (lv_at hl 3 rfl) ?_
      refine lv_bipush (v := 10) hx hb dX11_key_219 (by decide) ?_
      refine lv_isub hx hb dX11_key_221 ?_
      obtain ⟨z_63, ez_63⟩ : ∃ y : Int32, y = (b - 10) := ⟨_, rfl⟩
      refine wk_toi ez_63.symm ?_
      have k_64 : z_63.toInt = b.toInt - 10 := by rw [ez_63]; exact wk_sub b.toInt 10 rfl rfl (by omega) (by omega)
      refine wk_iV (As := [.int a, .int z_63]) (rest := []) (wc := [(nwf, .inr (8, [.ref nwfk, .ref nwfv, .ref nwfh, .ref nwft, .int nwf_size])), (nwfh, .inl (cy, 8, .inl nwfh_a))]) (wr := [(nwfk, .inl (cy, 8, .inl nwfk_a)), (nwfv, .inl (cy, 8, .inl nwfv_a)), (nwft, .inl (cy, 8, .inl nwft_a)), (nwe, .inr (4, [.ref nwea, .ref nweb, .ref nwec, .int nwe_size])), (nwea, .inl (cy, 6, .inl nwea_a)), (nweb, .inl (cy, 6, .inl nweb_a)), (nwec, .inl (cy, 6, .inl nwec_a)), (wk, .inr (10, [.int wk_number, .int wk_lane, .int wk_looks])), (tr, .inr (9, [.ref trw, .ref tra, .ref trb, .ref trc, .int tr_least, .int tr_bestLinks, .int tr_changeNumber, .int tr_changeHeight])), (trw, .inr (10, [.int trw_number, .int trw_lane, .int trw_looks])), (tra, .inl (cy, 8, .inl tra_a)), (trc, .inl (cy, 5, .inl trc_a)), (x, .inr (11, [.ref pg, .ref wr, .ref nw, .ref kp, .ref wk, .ref tr, lv, .int x_rowsRead, .int x_rowOfImage, .int x_bestsDone])), (nw, .inr (2, [.ref nwf, .ref nws, .ref nwe, .int nw_asked, .int nw_looksOfAsked, .int nw_changes]))]) (n := 2) ⟨hx, hb, hml, hown, htb⟩ (c_X8_widthFrom l D cy nwf nwfk nwfv nwfh nwft nwf_size nwfh_a a z_63 (show 0 ≤ nwf_size.toInt ∧ nwf_size.toInt ≤ 8 from by omega) (show (-1) ≤ a.toInt ∧ a.toInt ≤ 7 from by omega)) tw_534 tw_531 tw_532 tw_533 tw_67 rfl rfl (by decide +kernel) ⟨Nat.le_of_ble_eq_true rfl, Nat.le_of_ble_eq_true rfl⟩ hK hP hD hS hA [15, 2] [0, 1, 3, 4, 5, 6, 7, 8, 9, 10, 11, 12, 13, 14] rfl rfl rfl rfl (by decide) 0 (ci := 8) rfl rfl rfl hl.1 rfl (Nat.le_of_ble_eq_true rfl) dX11_key_222 ⟨Nat.le_of_ble_eq_true rfl, Nat.le_of_ble_eq_true rfl⟩ (fun r_65 u_66 H locs hw_67 hP hD hS => ?_)
      refine W.widen (k := 0) (n := 0) (by decide) (by decide) ?_
      have hw_67 : r_65 = (fn_X8_widthFrom nwf_size nwfh_a a z_63) := hw_67
      subst hw_67
      have hP : va_P D classes [(nwfk, .inl (cy, 8, .inl nwfk_a)), (nwfv, .inl (cy, 8, .inl nwfv_a)), (nwft, .inl (cy, 8, .inl nwft_a)), (nwe, .inr (4, [.ref nwea, .ref nweb, .ref nwec, .int nwe_size])), (nwea, .inl (cy, 6, .inl nwea_a)), (nweb, .inl (cy, 6, .inl nweb_a)), (nwec, .inl (cy, 6, .inl nwec_a)), (wk, .inr (10, [.int wk_number, .int wk_lane, .int wk_looks])), (tr, .inr (9, [.ref trw, .ref tra, .ref trb, .ref trc, .int tr_least, .int tr_bestLinks, .int tr_changeNumber, .int tr_changeHeight])), (trw, .inr (10, [.int trw_number, .int trw_lane, .int trw_looks])), (tra, .inl (cy, 8, .inl tra_a)), (trc, .inl (cy, 5, .inl trc_a)), (x, .inr (11, [.ref pg, .ref wr, .ref nw, .ref kp, .ref wk, .ref tr, lv, .int x_rowsRead, .int x_rowOfImage, .int x_bestsDone])), (nw, .inr (2, [.ref nwf, .ref nws, .ref nwe, .int nw_asked, .int nw_looksOfAsked, .int nw_changes])), (nwf, .inr (8, [.ref nwfk, .ref nwfv, .ref nwfh, .ref nwft, .int nwf_size])), (nwfh, .inl (cy, 8, .inl nwfh_a))] H := hP
      have hD : va_D A [(nwfk, .inl (cy, 8, .inl nwfk_a)), (nwfv, .inl (cy, 8, .inl nwfv_a)), (nwft, .inl (cy, 8, .inl nwft_a)), (nwe, .inr (4, [.ref nwea, .ref nweb, .ref nwec, .int nwe_size])), (nwea, .inl (cy, 6, .inl nwea_a)), (nweb, .inl (cy, 6, .inl nweb_a)), (nwec, .inl (cy, 6, .inl nwec_a)), (wk, .inr (10, [.int wk_number, .int wk_lane, .int wk_looks])), (tr, .inr (9, [.ref trw, .ref tra, .ref trb, .ref trc, .int tr_least, .int tr_bestLinks, .int tr_changeNumber, .int tr_changeHeight])), (trw, .inr (10, [.int trw_number, .int trw_lane, .int trw_looks])), (tra, .inl (cy, 8, .inl tra_a)), (trc, .inl (cy, 5, .inl trc_a)), (x, .inr (11, [.ref pg, .ref wr, .ref nw, .ref kp, .ref wk, .ref tr, lv, .int x_rowsRead, .int x_rowOfImage, .int x_bestsDone])), (nw, .inr (2, [.ref nwf, .ref nws, .ref nwe, .int nw_asked, .int nw_looksOfAsked, .int nw_changes])), (nwf, .inr (8, [.ref nwfk, .ref nwfv, .ref nwfh, .ref nwft, .int nwf_size])), (nwfh, .inl (cy, 8, .inl nwfh_a))] := hD
      refine W.widen (k := 0) (n := 0) (by decide) (by decide) ?_
      exact hret (fn_X8_widthFrom nwf_size nwfh_a a z_63) (wk_number, wk_lane, wk_looks, trw_number, trw_lane, trw_looks, tra_a, trc_a) _ _ _ 225 (wk_sub9 (is := [12, 13, 14, 0, 1, 15, 2, 3, 4, 5, 6, 7, 8, 9, 10, 11]) hP rfl) (hD.sub [12, 13, 14, 0, 1, 15, 2, 3, 4, 5, 6, 7, 8, 9, 10, 11] rfl rfl) hS dX11_key_225 ⟨(show ((-1) ≤ wk_number.toInt ∧ wk_number.toInt ≤ 7) from by omega), (show ((-1) ≤ trw_number.toInt ∧ trw_number.toInt ≤ 7) from by omega)⟩
    have k_62 : ¬ b.toInt = 12 := wk_neq c_62
    by_cases c_68 : b = 13
    · refine wk_toi c_68 ?_
      have k_68 : b.toInt = 13 := wk_eq c_68
      refine lv_tableIn (off := 196) (tgt := 216) hx hb dX11_key_20 (by decide) (by decide) (by decide) (by decide) ?_
      refine lv_aload_n hx hb dX11_key_216 rfl (lv_at hl 0 rfl) ?_
      refine lv_iload_n hx hb dX11_key_217 rfl (lv_at hl 2 rfl) ?_
      refine lv_iload_n hx hb dX11_key_218 rfl (lv_at hl 3 rfl) ?_
      refine lv_bipush (v := 10) hx hb dX11_key_219 (by decide) ?_
      refine lv_isub hx hb dX11_key_221 ?_
      obtain ⟨z_69, ez_69⟩ : ∃ y : Int32, y = (b - 10) := ⟨_, rfl⟩
      refine wk_toi ez_69.symm ?_
      have k_70 : z_69.toInt = b.toInt - 10 := by rw [ez_69]; exact wk_sub b.toInt 10 rfl rfl (by omega) (by omega)
      refine wk_iV (As := [.int a, .int z_69]) (rest := []) (wc := [(nwf, .inr (8, [.ref nwfk, .ref nwfv, .ref nwfh, .ref nwft, .int nwf_size])), (nwfh, .inl (cy, 8, .inl nwfh_a))]) (wr := [(nwfk, .inl (cy, 8, .inl nwfk_a)), (nwfv, .inl (cy, 8, .inl nwfv_a)), (nwft, .inl (cy, 8, .inl nwft_a)), (nwe, .inr (4, [.ref nwea, .ref nweb, .ref nwec, .int nwe_size])), (nwea, .inl (cy, 6, .inl nwea_a)), (nweb, .inl (cy, 6, .inl nweb_a)), (nwec, .inl (cy, 6, .inl nwec_a)), (wk, .inr (10, [.int wk_number, .int wk_lane, .int wk_looks])), (tr, .inr (9, [.ref trw, .ref tra, .ref trb, .ref trc, .int tr_least, .int tr_bestLinks, .int tr_changeNumber, .int tr_changeHeight])), (trw, .inr (10, [.int trw_number, .int trw_lane, .int trw_looks])), (tra, .inl (cy, 8, .inl tra_a)), (trc, .inl (cy, 5, .inl trc_a)), (x, .inr (11, [.ref pg, .ref wr, .ref nw, .ref kp, .ref wk, .ref tr, lv, .int x_rowsRead, .int x_rowOfImage, .int x_bestsDone])), (nw, .inr (2, [.ref nwf, .ref nws, .ref nwe, .int nw_asked, .int nw_looksOfAsked, .int nw_changes]))]) (n := 2) ⟨hx, hb, hml, hown, htb⟩ (c_X8_widthFrom l D cy nwf nwfk nwfv nwfh nwft nwf_size nwfh_a a z_69 (show 0 ≤ nwf_size.toInt ∧ nwf_size.toInt ≤ 8 from by omega) (show (-1) ≤ a.toInt ∧ a.toInt ≤ 7 from by omega)) tw_534 tw_531 tw_532 tw_533 tw_67 rfl rfl (by decide +kernel) ⟨Nat.le_of_ble_eq_true rfl, Nat.le_of_ble_eq_true rfl⟩ hK hP hD hS hA [15, 2] [0, 1, 3, 4, 5, 6, 7, 8, 9, 10, 11, 12, 13, 14] rfl rfl rfl rfl (by decide) 0 (ci := 8) rfl rfl rfl hl.1 rfl (Nat.le_of_ble_eq_true rfl) dX11_key_222 ⟨Nat.le_of_ble_eq_true rfl, Nat.le_of_ble_eq_true rfl⟩ (fun r_71 u_72 H locs hw_73 hP hD hS => ?_)
      refine W.widen (k := 0) (n := 0) (by decide) (by decide) ?_
      have hw_73 : r_71 = (fn_X8_widthFrom nwf_size nwfh_a a z_69) := hw_73
      subst hw_73
      have hP : va_P D classes [(nwfk, .inl (cy, 8, .inl nwfk_a)), (nwfv, .inl (cy, 8, .inl nwfv_a)), (nwft, .inl (cy, 8, .inl nwft_a)), (nwe, .inr (4, [.ref nwea, .ref nweb, .ref nwec, .int nwe_size])), (nwea, .inl (cy, 6, .inl nwea_a)), (nweb, .inl (cy, 6, .inl nweb_a)), (nwec, .inl (cy, 6, .inl nwec_a)), (wk, .inr (10, [.int wk_number, .int wk_lane, .int wk_looks])), (tr, .inr (9, [.ref trw, .ref tra, .ref trb, .ref trc, .int tr_least, .int tr_bestLinks, .int tr_changeNumber, .int tr_changeHeight])), (trw, .inr (10, [.int trw_number, .int trw_lane, .int trw_looks])), (tra, .inl (cy, 8, .inl tra_a)), (trc, .inl (cy, 5, .inl trc_a)), (x, .inr (11, [.ref pg, .ref wr, .ref nw, .ref kp, .ref wk, .ref tr, lv, .int x_rowsRead, .int x_rowOfImage, .int x_bestsDone])), (nw, .inr (2, [.ref nwf, .ref nws, .ref nwe, .int nw_asked, .int nw_looksOfAsked, .int nw_changes])), (nwf, .inr (8, [.ref nwfk, .ref nwfv, .ref nwfh, .ref nwft, .int nwf_size])), (nwfh, .inl (cy, 8, .inl nwfh_a))] H := hP
      have hD : va_D A [(nwfk, .inl (cy, 8, .inl nwfk_a)), (nwfv, .inl (cy, 8, .inl nwfv_a)), (nwft, .inl (cy, 8, .inl nwft_a)), (nwe, .inr (4, [.ref nwea, .ref nweb, .ref nwec, .int nwe_size])), (nwea, .inl (cy, 6, .inl nwea_a)), (nweb, .inl (cy, 6, .inl nweb_a)), (nwec, .inl (cy, 6, .inl nwec_a)), (wk, .inr (10, [.int wk_number, .int wk_lane, .int wk_looks])), (tr, .inr (9, [.ref trw, .ref tra, .ref trb, .ref trc, .int tr_least, .int tr_bestLinks, .int tr_changeNumber, .int tr_changeHeight])), (trw, .inr (10, [.int trw_number, .int trw_lane, .int trw_looks])), (tra, .inl (cy, 8, .inl tra_a)), (trc, .inl (cy, 5, .inl trc_a)), (x, .inr (11, [.ref pg, .ref wr, .ref nw, .ref kp, .ref wk, .ref tr, lv, .int x_rowsRead, .int x_rowOfImage, .int x_bestsDone])), (nw, .inr (2, [.ref nwf, .ref nws, .ref nwe, .int nw_asked, .int nw_looksOfAsked, .int nw_changes])), (nwf, .inr (8, [.ref nwfk, .ref nwfv, .ref nwfh, .ref nwft, .int nwf_size])), (nwfh, .inl (cy, 8, .inl nwfh_a))] := hD
      refine W.widen (k := 0) (n := 0) (by decide) (by decide) ?_
      exact hret (fn_X8_widthFrom nwf_size nwfh_a a z_69) (wk_number, wk_lane, wk_looks, trw_number, trw_lane, trw_looks, tra_a, trc_a) _ _ _ 225 (wk_sub9 (is := [12, 13, 14, 0, 1, 15, 2, 3, 4, 5, 6, 7, 8, 9, 10, 11]) hP rfl) (hD.sub [12, 13, 14, 0, 1, 15, 2, 3, 4, 5, 6, 7, 8, 9, 10, 11] rfl rfl) hS dX11_key_225 ⟨(show ((-1) ≤ wk_number.toInt ∧ wk_number.toInt ≤ 7) from by omega), (show ((-1) ≤ trw_number.toInt ∧ trw_number.toInt ≤ 7) from by omega)⟩
    have k_68 : ¬ b.toInt = 13 := wk_neq c_68
    by_cases c_74 : b = 14
    · refine wk_toi c_74 ?_
      have k_74 : b.toInt = 14 := wk_eq c_74
      refine lv_tableIn (off := 216) (tgt := 236) hx hb dX11_key_20 (by decide) (by decide) (by decide) (by decide) ?_
      refine lv_bipush (v := (-102)) hx hb dX11_key_236 (by decide) ?_
      refine W.widen (k := 0) (n := 0) (by decide) (by decide) ?_
      exact hret (-102) (wk_number, wk_lane, wk_looks, trw_number, trw_lane, trw_looks, tra_a, trc_a) _ _ _ 238 (wk_sub9 (is := [13, 14, 15, 0, 1, 2, 3, 4, 5, 6, 7, 8, 9, 10, 11, 12]) hP rfl) (hD.sub [13, 14, 15, 0, 1, 2, 3, 4, 5, 6, 7, 8, 9, 10, 11, 12] rfl rfl) hS dX11_key_238 ⟨(show ((-1) ≤ wk_number.toInt ∧ wk_number.toInt ≤ 7) from by omega), (show ((-1) ≤ trw_number.toInt ∧ trw_number.toInt ≤ 7) from by omega)⟩
    have k_74 : ¬ b.toInt = 14 := wk_neq c_74
    by_cases c_75 : b = 15
    · refine wk_toi c_75 ?_
      have k_75 : b.toInt = 15 := wk_eq c_75
      refine lv_tableIn (off := 216) (tgt := 236) hx hb dX11_key_20 (by decide) (by decide) (by decide) (by decide) ?_
      refine lv_bipush (v := (-102)) hx hb dX11_key_236 (by decide) ?_
      refine W.widen (k := 0) (n := 0) (by decide) (by decide) ?_
      exact hret (-102) (wk_number, wk_lane, wk_looks, trw_number, trw_lane, trw_looks, tra_a, trc_a) _ _ _ 238 (wk_sub9 (is := [13, 14, 15, 0, 1, 2, 3, 4, 5, 6, 7, 8, 9, 10, 11, 12]) hP rfl) (hD.sub [13, 14, 15, 0, 1, 2, 3, 4, 5, 6, 7, 8, 9, 10, 11, 12] rfl rfl) hS dX11_key_238 ⟨(show ((-1) ≤ wk_number.toInt ∧ wk_number.toInt ≤ 7) from by omega), (show ((-1) ≤ trw_number.toInt ∧ trw_number.toInt ≤ 7) from by omega)⟩
    have k_75 : ¬ b.toInt = 15 := wk_neq c_75
    by_cases c_76 : b = 16
    · refine wk_toi c_76 ?_
      have k_76 : b.toInt = 16 := wk_eq c_76
      refine lv_tableIn (off := 216) (tgt := 236) hx hb dX11_key_20 (by decide) (by decide) (by decide) (by decide) ?_
      refine lv_bipush (v := (-102)) hx hb dX11_key_236 (by decide) ?_
      refine W.widen (k := 0) (n := 0) (by decide) (by decide) ?_
      exact hret (-102) (wk_number, wk_lane, wk_looks, trw_number, trw_lane, trw_looks, tra_a, trc_a) _ _ _ 238 (wk_sub9 (is := [13, 14, 15, 0, 1, 2, 3, 4, 5, 6, 7, 8, 9, 10, 11, 12]) hP rfl) (hD.sub [13, 14, 15, 0, 1, 2, 3, 4, 5, 6, 7, 8, 9, 10, 11, 12] rfl rfl) hS dX11_key_238 ⟨(show ((-1) ≤ wk_number.toInt ∧ wk_number.toInt ≤ 7) from by omega), (show ((-1) ≤ trw_number.toInt ∧ trw_number.toInt ≤ 7) from by omega)⟩
    have k_76 : ¬ b.toInt = 16 := wk_neq c_76
    by_cases c_77 : b = 17
    · refine wk_toi c_77 ?_
      have k_77 : b.toInt = 17 := wk_eq c_77
      refine lv_tableIn (off := 216) (tgt := 236) hx hb dX11_key_20 (by decide) (by decide) (by decide) (by decide) ?_
      refine lv_bipush (v := (-102)) hx hb dX11_key_236 (by decide) ?_
      refine W.widen (k := 0) (n := 0) (by decide) (by decide) ?_
      exact hret (-102) (wk_number, wk_lane, wk_looks, trw_number, trw_lane, trw_looks, tra_a, trc_a) _ _ _ 238 (wk_sub9 (is := [13, 14, 15, 0, 1, 2, 3, 4, 5, 6, 7, 8, 9, 10, 11, 12]) hP rfl) (hD.sub [13, 14, 15, 0, 1, 2, 3, 4, 5, 6, 7, 8, 9, 10, 11, 12] rfl rfl) hS dX11_key_238 ⟨(show ((-1) ≤ wk_number.toInt ∧ wk_number.toInt ≤ 7) from by omega), (show ((-1) ≤ trw_number.toInt ∧ trw_number.toInt ≤ 7) from by omega)⟩
    have k_77 : ¬ b.toInt = 17 := wk_neq c_77
    by_cases c_78 : b = 18
    · refine wk_toi c_78 ?_
      have k_78 : b.toInt = 18 := wk_eq c_78
      refine lv_tableIn (off := 216) (tgt := 236) hx hb dX11_key_20 (by decide) (by decide) (by decide) (by decide) ?_
      refine lv_bipush (v := (-102)) hx hb dX11_key_236 (by decide) ?_
      refine W.widen (k := 0) (n := 0) (by decide) (by decide) ?_
      exact hret (-102) (wk_number, wk_lane, wk_looks, trw_number, trw_lane, trw_looks, tra_a, trc_a) _ _ _ 238 (wk_sub9 (is := [13, 14, 15, 0, 1, 2, 3, 4, 5, 6, 7, 8, 9, 10, 11, 12]) hP rfl) (hD.sub [13, 14, 15, 0, 1, 2, 3, 4, 5, 6, 7, 8, 9, 10, 11, 12] rfl rfl) hS dX11_key_238 ⟨(show ((-1) ≤ wk_number.toInt ∧ wk_number.toInt ≤ 7) from by omega), (show ((-1) ≤ trw_number.toInt ∧ trw_number.toInt ≤ 7) from by omega)⟩
    have k_78 : ¬ b.toInt = 18 := wk_neq c_78
    by_cases c_79 : b = 19
    · refine wk_toi c_79 ?_
      have k_79 : b.toInt = 19 := wk_eq c_79
      refine lv_tableIn (off := 216) (tgt := 236) hx hb dX11_key_20 (by decide) (by decide) (by decide) (by decide) ?_
      refine lv_bipush (v := (-102)) hx hb dX11_key_236 (by decide) ?_
      refine W.widen (k := 0) (n := 0) (by decide) (by decide) ?_
      exact hret (-102) (wk_number, wk_lane, wk_looks, trw_number, trw_lane, trw_looks, tra_a, trc_a) _ _ _ 238 (wk_sub9 (is := [13, 14, 15, 0, 1, 2, 3, 4, 5, 6, 7, 8, 9, 10, 11, 12]) hP rfl) (hD.sub [13, 14, 15, 0, 1, 2, 3, 4, 5, 6, 7, 8, 9, 10, 11, 12] rfl rfl) hS dX11_key_238 ⟨(show ((-1) ≤ wk_number.toInt ∧ wk_number.toInt ≤ 7) from by omega), (show ((-1) ≤ trw_number.toInt ∧ trw_number.toInt ≤ 7) from by omega)⟩
    have k_79 : ¬ b.toInt = 19 := wk_neq c_79
    by_cases c_80 : b = 20
    · refine wk_toi c_80 ?_
      have k_80 : b.toInt = 20 := wk_eq c_80
      refine lv_tableIn (off := 206) (tgt := 226) hx hb dX11_key_20 (by decide) (by decide) (by decide) (by decide) ?_
      refine lv_aload_n hx hb dX11_key_226 rfl (lv_at hl 0 rfl) ?_
      refine lv_iload_n hx hb dX11_key_227 rfl (lv_at hl 2 rfl) ?_
      refine lv_iload_n hx hb dX11_key_228 rfl (lv_at hl 3 rfl) ?_
      refine lv_bipush (v := 20) hx hb dX11_key_229 (by decide) ?_
      refine lv_isub hx hb dX11_key_231 ?_
      obtain ⟨z_81, ez_81⟩ : ∃ y : Int32, y = (b - 20) := ⟨_, rfl⟩
      refine wk_toi ez_81.symm ?_
      have k_82 : z_81.toInt = b.toInt - 20 := by rw [ez_81]; exact wk_sub b.toInt 20 rfl rfl (by omega) (by omega)
      refine wk_iV (As := [.int a, .int z_81]) (rest := []) (wc := [(nwf, .inr (8, [.ref nwfk, .ref nwfv, .ref nwfh, .ref nwft, .int nwf_size])), (nwfv, .inl (cy, 8, .inl nwfv_a)), (nwfh, .inl (cy, 8, .inl nwfh_a))]) (wr := [(nwfk, .inl (cy, 8, .inl nwfk_a)), (nwft, .inl (cy, 8, .inl nwft_a)), (nwe, .inr (4, [.ref nwea, .ref nweb, .ref nwec, .int nwe_size])), (nwea, .inl (cy, 6, .inl nwea_a)), (nweb, .inl (cy, 6, .inl nweb_a)), (nwec, .inl (cy, 6, .inl nwec_a)), (wk, .inr (10, [.int wk_number, .int wk_lane, .int wk_looks])), (tr, .inr (9, [.ref trw, .ref tra, .ref trb, .ref trc, .int tr_least, .int tr_bestLinks, .int tr_changeNumber, .int tr_changeHeight])), (trw, .inr (10, [.int trw_number, .int trw_lane, .int trw_looks])), (tra, .inl (cy, 8, .inl tra_a)), (trc, .inl (cy, 5, .inl trc_a)), (x, .inr (11, [.ref pg, .ref wr, .ref nw, .ref kp, .ref wk, .ref tr, lv, .int x_rowsRead, .int x_rowOfImage, .int x_bestsDone])), (nw, .inr (2, [.ref nwf, .ref nws, .ref nwe, .int nw_asked, .int nw_looksOfAsked, .int nw_changes]))]) (n := 2) ⟨hx, hb, hml, hown, htb⟩ (c_X8_weightFrom l D cy nwf nwfk nwfv nwfh nwft nwf_size nwfv_a nwfh_a a z_81 (show 0 ≤ nwf_size.toInt ∧ nwf_size.toInt ≤ 8 from by omega) (show (-1) ≤ a.toInt ∧ a.toInt ≤ 7 from by omega)) tw_543 tw_540 tw_541 tw_542 tw_67 rfl rfl (by decide +kernel) ⟨Nat.le_of_ble_eq_true rfl, Nat.le_of_ble_eq_true rfl⟩ hK hP hD hS hA [15, 1, 2] [0, 3, 4, 5, 6, 7, 8, 9, 10, 11, 12, 13, 14] rfl rfl rfl rfl (by decide) 0 (ci := 8) rfl rfl rfl hl.1 rfl (Nat.le_of_ble_eq_true rfl) dX11_key_232 ⟨Nat.le_of_ble_eq_true rfl, Nat.le_of_ble_eq_true rfl⟩ (fun r_83 u_84 H locs hw_85 hP hD hS => ?_)
      refine W.widen (k := 0) (n := 0) (by decide) (by decide) ?_
      have hw_85 : r_83 = (fn_X8_weightFrom nwf_size nwfv_a nwfh_a a z_81) := hw_85
      subst hw_85
      have hP : va_P D classes [(nwfk, .inl (cy, 8, .inl nwfk_a)), (nwft, .inl (cy, 8, .inl nwft_a)), (nwe, .inr (4, [.ref nwea, .ref nweb, .ref nwec, .int nwe_size])), (nwea, .inl (cy, 6, .inl nwea_a)), (nweb, .inl (cy, 6, .inl nweb_a)), (nwec, .inl (cy, 6, .inl nwec_a)), (wk, .inr (10, [.int wk_number, .int wk_lane, .int wk_looks])), (tr, .inr (9, [.ref trw, .ref tra, .ref trb, .ref trc, .int tr_least, .int tr_bestLinks, .int tr_changeNumber, .int tr_changeHeight])), (trw, .inr (10, [.int trw_number, .int trw_lane, .int trw_looks])), (tra, .inl (cy, 8, .inl tra_a)), (trc, .inl (cy, 5, .inl trc_a)), (x, .inr (11, [.ref pg, .ref wr, .ref nw, .ref kp, .ref wk, .ref tr, lv, .int x_rowsRead, .int x_rowOfImage, .int x_bestsDone])), (nw, .inr (2, [.ref nwf, .ref nws, .ref nwe, .int nw_asked, .int nw_looksOfAsked, .int nw_changes])), (nwf, .inr (8, [.ref nwfk, .ref nwfv, .ref nwfh, .ref nwft, .int nwf_size])), (nwfv, .inl (cy, 8, .inl nwfv_a)), (nwfh, .inl (cy, 8, .inl nwfh_a))] H := hP
      have hD : va_D A [(nwfk, .inl (cy, 8, .inl nwfk_a)), (nwft, .inl (cy, 8, .inl nwft_a)), (nwe, .inr (4, [.ref nwea, .ref nweb, .ref nwec, .int nwe_size])), (nwea, .inl (cy, 6, .inl nwea_a)), (nweb, .inl (cy, 6, .inl nweb_a)), (nwec, .inl (cy, 6, .inl nwec_a)), (wk, .inr (10, [.int wk_number, .int wk_lane, .int wk_looks])), (tr, .inr (9, [.ref trw, .ref tra, .ref trb, .ref trc, .int tr_least, .int tr_bestLinks, .int tr_changeNumber, .int tr_changeHeight])), (trw, .inr (10, [.int trw_number, .int trw_lane, .int trw_looks])), (tra, .inl (cy, 8, .inl tra_a)), (trc, .inl (cy, 5, .inl trc_a)), (x, .inr (11, [.ref pg, .ref wr, .ref nw, .ref kp, .ref wk, .ref tr, lv, .int x_rowsRead, .int x_rowOfImage, .int x_bestsDone])), (nw, .inr (2, [.ref nwf, .ref nws, .ref nwe, .int nw_asked, .int nw_looksOfAsked, .int nw_changes])), (nwf, .inr (8, [.ref nwfk, .ref nwfv, .ref nwfh, .ref nwft, .int nwf_size])), (nwfv, .inl (cy, 8, .inl nwfv_a)), (nwfh, .inl (cy, 8, .inl nwfh_a))] := hD
      refine W.widen (k := 0) (n := 0) (by decide) (by decide) ?_
      exact hret (fn_X8_weightFrom nwf_size nwfv_a nwfh_a a z_81) (wk_number, wk_lane, wk_looks, trw_number, trw_lane, trw_looks, tra_a, trc_a) _ _ _ 235 (wk_sub9 (is := [11, 12, 13, 0, 14, 15, 1, 2, 3, 4, 5, 6, 7, 8, 9, 10]) hP rfl) (hD.sub [11, 12, 13, 0, 14, 15, 1, 2, 3, 4, 5, 6, 7, 8, 9, 10] rfl rfl) hS dX11_key_235 ⟨(show ((-1) ≤ wk_number.toInt ∧ wk_number.toInt ≤ 7) from by omega), (show ((-1) ≤ trw_number.toInt ∧ trw_number.toInt ≤ 7) from by omega)⟩
    have k_80 : ¬ b.toInt = 20 := wk_neq c_80
    by_cases c_86 : b = 21
    · refine wk_toi c_86 ?_
      have k_86 : b.toInt = 21 := wk_eq c_86
      refine lv_tableIn (off := 206) (tgt := 226) hx hb dX11_key_20 (by decide) (by decide) (by decide) (by decide) ?_
      refine lv_aload_n hx hb dX11_key_226 rfl (lv_at hl 0 rfl) ?_
      refine lv_iload_n hx hb dX11_key_227 rfl (lv_at hl 2 rfl) ?_
      refine lv_iload_n hx hb dX11_key_228 rfl (lv_at hl 3 rfl) ?_
      refine lv_bipush (v := 20) hx hb dX11_key_229 (by decide) ?_
      refine lv_isub hx hb dX11_key_231 ?_
      obtain ⟨z_87, ez_87⟩ : ∃ y : Int32, y = (b - 20) := ⟨_, rfl⟩
      refine wk_toi ez_87.symm ?_
      have k_88 : z_87.toInt = b.toInt - 20 := by rw [ez_87]; exact wk_sub b.toInt 20 rfl rfl (by omega) (by omega)
      refine wk_iV (As := [.int a, .int z_87]) (rest := []) (wc := [(nwf, .inr (8, [.ref nwfk, .ref nwfv, .ref nwfh, .ref nwft, .int nwf_size])), (nwfv, .inl (cy, 8, .inl nwfv_a)), (nwfh, .inl (cy, 8, .inl nwfh_a))]) (wr := [(nwfk, .inl (cy, 8, .inl nwfk_a)), (nwft, .inl (cy, 8, .inl nwft_a)), (nwe, .inr (4, [.ref nwea, .ref nweb, .ref nwec, .int nwe_size])), (nwea, .inl (cy, 6, .inl nwea_a)), (nweb, .inl (cy, 6, .inl nweb_a)), (nwec, .inl (cy, 6, .inl nwec_a)), (wk, .inr (10, [.int wk_number, .int wk_lane, .int wk_looks])), (tr, .inr (9, [.ref trw, .ref tra, .ref trb, .ref trc, .int tr_least, .int tr_bestLinks, .int tr_changeNumber, .int tr_changeHeight])), (trw, .inr (10, [.int trw_number, .int trw_lane, .int trw_looks])), (tra, .inl (cy, 8, .inl tra_a)), (trc, .inl (cy, 5, .inl trc_a)), (x, .inr (11, [.ref pg, .ref wr, .ref nw, .ref kp, .ref wk, .ref tr, lv, .int x_rowsRead, .int x_rowOfImage, .int x_bestsDone])), (nw, .inr (2, [.ref nwf, .ref nws, .ref nwe, .int nw_asked, .int nw_looksOfAsked, .int nw_changes]))]) (n := 2) ⟨hx, hb, hml, hown, htb⟩ (c_X8_weightFrom l D cy nwf nwfk nwfv nwfh nwft nwf_size nwfv_a nwfh_a a z_87 (show 0 ≤ nwf_size.toInt ∧ nwf_size.toInt ≤ 8 from by omega) (show (-1) ≤ a.toInt ∧ a.toInt ≤ 7 from by omega)) tw_543 tw_540 tw_541 tw_542 tw_67 rfl rfl (by decide +kernel) ⟨Nat.le_of_ble_eq_true rfl, Nat.le_of_ble_eq_true rfl⟩ hK hP hD hS hA [15, 1, 2] [0, 3, 4, 5, 6, 7, 8, 9, 10, 11, 12, 13, 14] rfl rfl rfl rfl (by decide) 0 (ci := 8) rfl rfl rfl hl.1 rfl (Nat.le_of_ble_eq_true rfl) dX11_key_232 ⟨Nat.le_of_ble_eq_true rfl, Nat.le_of_ble_eq_true rfl⟩ (fun r_89 u_90 H locs hw_91 hP hD hS => ?_)
      refine W.widen (k := 0) (n := 0) (by decide) (by decide) ?_
      have hw_91 : r_89 = (fn_X8_weightFrom nwf_size nwfv_a nwfh_a a z_87) := hw_91
      subst hw_91
      have hP : va_P D classes [(nwfk, .inl (cy, 8, .inl nwfk_a)), (nwft, .inl (cy, 8, .inl nwft_a)), (nwe, .inr (4, [.ref nwea, .ref nweb, .ref nwec, .int nwe_size])), (nwea, .inl (cy, 6, .inl nwea_a)), (nweb, .inl (cy, 6, .inl nweb_a)), (nwec, .inl (cy, 6, .inl nwec_a)), (wk, .inr (10, [.int wk_number, .int wk_lane, .int wk_looks])), (tr, .inr (9, [.ref trw, .ref tra, .ref trb, .ref trc, .int tr_least, .int tr_bestLinks, .int tr_changeNumber, .int tr_changeHeight])), (trw, .inr (10, [.int trw_number, .int trw_lane, .int trw_looks])), (tra, .inl (cy, 8, .inl tra_a)), (trc, .inl (cy, 5, .inl trc_a)), (x, .inr (11, [.ref pg, .ref wr, .ref nw, .ref kp, .ref wk, .ref tr, lv, .int x_rowsRead, .int x_rowOfImage, .int x_bestsDone])), (nw, .inr (2, [.ref nwf, .ref nws, .ref nwe, .int nw_asked, .int nw_looksOfAsked, .int nw_changes])), (nwf, .inr (8, [.ref nwfk, .ref nwfv, .ref nwfh, .ref nwft, .int nwf_size])), (nwfv, .inl (cy, 8, .inl nwfv_a)), (nwfh, .inl (cy, 8, .inl nwfh_a))] H := hP
      have hD : va_D A [(nwfk, .inl (cy, 8, .inl nwfk_a)), (nwft, .inl (cy, 8, .inl nwft_a)), (nwe, .inr (4, [.ref nwea, .ref nweb, .ref nwec, .int nwe_size])), (nwea, .inl (cy, 6, .inl nwea_a)), (nweb, .inl (cy, 6, .inl nweb_a)), (nwec, .inl (cy, 6, .inl nwec_a)), (wk, .inr (10, [.int wk_number, .int wk_lane, .int wk_looks])), (tr, .inr (9, [.ref trw, .ref tra, .ref trb, .ref trc, .int tr_least, .int tr_bestLinks, .int tr_changeNumber, .int tr_changeHeight])), (trw, .inr (10, [.int trw_number, .int trw_lane, .int trw_looks])), (tra, .inl (cy, 8, .inl tra_a)), (trc, .inl (cy, 5, .inl trc_a)), (x, .inr (11, [.ref pg, .ref wr, .ref nw, .ref kp, .ref wk, .ref tr, lv, .int x_rowsRead, .int x_rowOfImage, .int x_bestsDone])), (nw, .inr (2, [.ref nwf, .ref nws, .ref nwe, .int nw_asked, .int nw_looksOfAsked, .int nw_changes])), (nwf, .inr (8, [.ref nwfk, .ref nwfv, .ref nwfh, .ref nwft, .int nwf_size])), (nwfv, .inl (cy, 8, .inl nwfv_a)), (nwfh, .inl (cy, 8, .inl nwfh_a))] := hD
      refine W.widen (k := 0) (n := 0) (by decide) (by decide) ?_
      exact hret (fn_X8_weightFrom nwf_size nwfv_a nwfh_a a z_87) (wk_number, wk_lane, wk_looks, trw_number, trw_lane, trw_looks, tra_a, trc_a) _ _ _ 235 (wk_sub9 (is := [11, 12, 13, 0, 14, 15, 1, 2, 3, 4, 5, 6, 7, 8, 9, 10]) hP rfl) (hD.sub [11, 12, 13, 0, 14, 15, 1, 2, 3, 4, 5, 6, 7, 8, 9, 10] rfl rfl) hS dX11_key_235 ⟨(show ((-1) ≤ wk_number.toInt ∧ wk_number.toInt ≤ 7) from by omega), (show ((-1) ≤ trw_number.toInt ∧ trw_number.toInt ≤ 7) from by omega)⟩
    have k_86 : ¬ b.toInt = 21 := wk_neq c_86
    by_cases c_92 : b = 22
    · refine wk_toi c_92 ?_
      have k_92 : b.toInt = 22 := wk_eq c_92
      refine lv_tableIn (off := 206) (tgt := 226) hx hb dX11_key_20 (by decide) (by decide) (by decide) (by decide) ?_
      refine lv_aload_n hx hb dX11_key_226 rfl (lv_at hl 0 rfl) ?_
      refine lv_iload_n hx hb dX11_key_227 rfl (lv_at hl 2 rfl) ?_
      refine lv_iload_n hx hb dX11_key_228 rfl (lv_at hl 3 rfl) ?_
      refine lv_bipush (v := 20) hx hb dX11_key_229 (by decide) ?_
      refine lv_isub hx hb dX11_key_231 ?_
      obtain ⟨z_93, ez_93⟩ : ∃ y : Int32, y = (b - 20) := ⟨_, rfl⟩
      refine wk_toi ez_93.symm ?_
      have k_94 : z_93.toInt = b.toInt - 20 := by rw [ez_93]; exact wk_sub b.toInt 20 rfl rfl (by omega) (by omega)
      refine wk_iV (As := [.int a, .int z_93]) (rest := []) (wc := [(nwf, .inr (8, [.ref nwfk, .ref nwfv, .ref nwfh, .ref nwft, .int nwf_size])), (nwfv, .inl (cy, 8, .inl nwfv_a)), (nwfh, .inl (cy, 8, .inl nwfh_a))]) (wr := [(nwfk, .inl (cy, 8, .inl nwfk_a)), (nwft, .inl (cy, 8, .inl nwft_a)), (nwe, .inr (4, [.ref nwea, .ref nweb, .ref nwec, .int nwe_size])), (nwea, .inl (cy, 6, .inl nwea_a)), (nweb, .inl (cy, 6, .inl nweb_a)), (nwec, .inl (cy, 6, .inl nwec_a)), (wk, .inr (10, [.int wk_number, .int wk_lane, .int wk_looks])), (tr, .inr (9, [.ref trw, .ref tra, .ref trb, .ref trc, .int tr_least, .int tr_bestLinks, .int tr_changeNumber, .int tr_changeHeight])), (trw, .inr (10, [.int trw_number, .int trw_lane, .int trw_looks])), (tra, .inl (cy, 8, .inl tra_a)), (trc, .inl (cy, 5, .inl trc_a)), (x, .inr (11, [.ref pg, .ref wr, .ref nw, .ref kp, .ref wk, .ref tr, lv, .int x_rowsRead, .int x_rowOfImage, .int x_bestsDone])), (nw, .inr (2, [.ref nwf, .ref nws, .ref nwe, .int nw_asked, .int nw_looksOfAsked, .int nw_changes]))]) (n := 2) ⟨hx, hb, hml, hown, htb⟩ (c_X8_weightFrom l D cy nwf nwfk nwfv nwfh nwft nwf_size nwfv_a nwfh_a a z_93 (show 0 ≤ nwf_size.toInt ∧ nwf_size.toInt ≤ 8 from by omega) (show (-1) ≤ a.toInt ∧ a.toInt ≤ 7 from by omega)) tw_543 tw_540 tw_541 tw_542 tw_67 rfl rfl (by decide +kernel) ⟨Nat.le_of_ble_eq_true rfl, Nat.le_of_ble_eq_true rfl⟩ hK hP hD hS hA [15, 1, 2] [0, 3, 4, 5, 6, 7, 8, 9, 10, 11, 12, 13, 14] rfl rfl rfl rfl (by decide) 0 (ci := 8) rfl rfl rfl hl.1 rfl (Nat.le_of_ble_eq_true rfl) dX11_key_232 ⟨Nat.le_of_ble_eq_true rfl, Nat.le_of_ble_eq_true rfl⟩ (fun r_95 u_96 H locs hw_97 hP hD hS => ?_)
      refine W.widen (k := 0) (n := 0) (by decide) (by decide) ?_
      have hw_97 : r_95 = (fn_X8_weightFrom nwf_size nwfv_a nwfh_a a z_93) := hw_97
      subst hw_97
      have hP : va_P D classes [(nwfk, .inl (cy, 8, .inl nwfk_a)), (nwft, .inl (cy, 8, .inl nwft_a)), (nwe, .inr (4, [.ref nwea, .ref nweb, .ref nwec, .int nwe_size])), (nwea, .inl (cy, 6, .inl nwea_a)), (nweb, .inl (cy, 6, .inl nweb_a)), (nwec, .inl (cy, 6, .inl nwec_a)), (wk, .inr (10, [.int wk_number, .int wk_lane, .int wk_looks])), (tr, .inr (9, [.ref trw, .ref tra, .ref trb, .ref trc, .int tr_least, .int tr_bestLinks, .int tr_changeNumber, .int tr_changeHeight])), (trw, .inr (10, [.int trw_number, .int trw_lane, .int trw_looks])), (tra, .inl (cy, 8, .inl tra_a)), (trc, .inl (cy, 5, .inl trc_a)), (x, .inr (11, [.ref pg, .ref wr, .ref nw, .ref kp, .ref wk, .ref tr, lv, .int x_rowsRead, .int x_rowOfImage, .int x_bestsDone])), (nw, .inr (2, [.ref nwf, .ref nws, .ref nwe, .int nw_asked, .int nw_looksOfAsked, .int nw_changes])), (nwf, .inr (8, [.ref nwfk, .ref nwfv, .ref nwfh, .ref nwft, .int nwf_size])), (nwfv, .inl (cy, 8, .inl nwfv_a)), (nwfh, .inl (cy, 8, .inl nwfh_a))] H := hP
      have hD : va_D A [(nwfk, .inl (cy, 8, .inl nwfk_a)), (nwft, .inl (cy, 8, .inl nwft_a)), (nwe, .inr (4, [.ref nwea, .ref nweb, .ref nwec, .int nwe_size])), (nwea, .inl (cy, 6, .inl nwea_a)), (nweb, .inl (cy, 6, .inl nweb_a)), (nwec, .inl (cy, 6, .inl nwec_a)), (wk, .inr (10, [.int wk_number, .int wk_lane, .int wk_looks])), (tr, .inr (9, [.ref trw, .ref tra, .ref trb, .ref trc, .int tr_least, .int tr_bestLinks, .int tr_changeNumber, .int tr_changeHeight])), (trw, .inr (10, [.int trw_number, .int trw_lane, .int trw_looks])), (tra, .inl (cy, 8, .inl tra_a)), (trc, .inl (cy, 5, .inl trc_a)), (x, .inr (11, [.ref pg, .ref wr, .ref nw, .ref kp, .ref wk, .ref tr, lv, .int x_rowsRead, .int x_rowOfImage, .int x_bestsDone])), (nw, .inr (2, [.ref nwf, .ref nws, .ref nwe, .int nw_asked, .int nw_looksOfAsked, .int nw_changes])), (nwf, .inr (8, [.ref nwfk, .ref nwfv, .ref nwfh, .ref nwft, .int nwf_size])), (nwfv, .inl (cy, 8, .inl nwfv_a)), (nwfh, .inl (cy, 8, .inl nwfh_a))] := hD
      refine W.widen (k := 0) (n := 0) (by decide) (by decide) ?_
      exact hret (fn_X8_weightFrom nwf_size nwfv_a nwfh_a a z_93) (wk_number, wk_lane, wk_looks, trw_number, trw_lane, trw_looks, tra_a, trc_a) _ _ _ 235 (wk_sub9 (is := [11, 12, 13, 0, 14, 15, 1, 2, 3, 4, 5, 6, 7, 8, 9, 10]) hP rfl) (hD.sub [11, 12, 13, 0, 14, 15, 1, 2, 3, 4, 5, 6, 7, 8, 9, 10] rfl rfl) hS dX11_key_235 ⟨(show ((-1) ≤ wk_number.toInt ∧ wk_number.toInt ≤ 7) from by omega), (show ((-1) ≤ trw_number.toInt ∧ trw_number.toInt ≤ 7) from by omega)⟩
    have k_92 : ¬ b.toInt = 22 := wk_neq c_92
    by_cases c_98 : b = 23
    · refine wk_toi c_98 ?_
      have k_98 : b.toInt = 23 := wk_eq c_98
      refine lv_tableIn (off := 206) (tgt := 226) hx hb dX11_key_20 (by decide) (by decide) (by decide) (by decide) ?_
      refine lv_aload_n hx hb dX11_key_226 rfl (lv_at hl 0 rfl) ?_
      refine lv_iload_n hx hb dX11_key_227 rfl (lv_at hl 2 rfl) ?_
      refine lv_iload_n hx hb dX11_key_228 rfl (lv_at hl 3 rfl) ?_
      refine lv_bipush (v := 20) hx hb dX11_key_229 (by decide) ?_
      refine lv_isub hx hb dX11_key_231 ?_
      obtain ⟨z_99, ez_99⟩ : ∃ y : Int32, y = (b - 20) := ⟨_, rfl⟩
      refine wk_toi ez_99.symm ?_
      have k_100 : z_99.toInt = b.toInt - 20 := by rw [ez_99]; exact wk_sub b.toInt 20 rfl rfl (by omega) (by omega)
      refine wk_iV (As := [.int a, .int z_99]) (rest := []) (wc := [(nwf, .inr (8, [.ref nwfk, .ref nwfv, .ref nwfh, .ref nwft, .int nwf_size])), (nwfv, .inl (cy, 8, .inl nwfv_a)), (nwfh, .inl (cy, 8, .inl nwfh_a))]) (wr := [(nwfk, .inl (cy, 8, .inl nwfk_a)), (nwft, .inl (cy, 8, .inl nwft_a)), (nwe, .inr (4, [.ref nwea, .ref nweb, .ref nwec, .int nwe_size])), (nwea, .inl (cy, 6, .inl nwea_a)), (nweb, .inl (cy, 6, .inl nweb_a)), (nwec, .inl (cy, 6, .inl nwec_a)), (wk, .inr (10, [.int wk_number, .int wk_lane, .int wk_looks])), (tr, .inr (9, [.ref trw, .ref tra, .ref trb, .ref trc, .int tr_least, .int tr_bestLinks, .int tr_changeNumber, .int tr_changeHeight])), (trw, .inr (10, [.int trw_number, .int trw_lane, .int trw_looks])), (tra, .inl (cy, 8, .inl tra_a)), (trc, .inl (cy, 5, .inl trc_a)), (x, .inr (11, [.ref pg, .ref wr, .ref nw, .ref kp, .ref wk, .ref tr, lv, .int x_rowsRead, .int x_rowOfImage, .int x_bestsDone])), (nw, .inr (2, [.ref nwf, .ref nws, .ref nwe, .int nw_asked, .int nw_looksOfAsked, .int nw_changes]))]) (n := 2) ⟨hx, hb, hml, hown, htb⟩ (c_X8_weightFrom l D cy nwf nwfk nwfv nwfh nwft nwf_size nwfv_a nwfh_a a z_99 (show 0 ≤ nwf_size.toInt ∧ nwf_size.toInt ≤ 8 from by omega) (show (-1) ≤ a.toInt ∧ a.toInt ≤ 7 from by omega)) tw_543 tw_540 tw_541 tw_542 tw_67 rfl rfl (by decide +kernel) ⟨Nat.le_of_ble_eq_true rfl, Nat.le_of_ble_eq_true rfl⟩ hK hP hD hS hA [15, 1, 2] [0, 3, 4, 5, 6, 7, 8, 9, 10, 11, 12, 13, 14] rfl rfl rfl rfl (by decide) 0 (ci := 8) rfl rfl rfl hl.1 rfl (Nat.le_of_ble_eq_true rfl) dX11_key_232 ⟨Nat.le_of_ble_eq_true rfl, Nat.le_of_ble_eq_true rfl⟩ (fun r_101 u_102 H locs hw_103 hP hD hS => ?_)
      refine W.widen (k := 0) (n := 0) (by decide) (by decide) ?_
      have hw_103 : r_101 = (fn_X8_weightFrom nwf_size nwfv_a nwfh_a a z_99) := hw_103
      subst hw_103
      have hP : va_P D classes [(nwfk, .inl (cy, 8, .inl nwfk_a)), (nwft, .inl (cy, 8, .inl nwft_a)), (nwe, .inr (4, [.ref nwea, .ref nweb, .ref nwec, .int nwe_size])), (nwea, .inl (cy, 6, .inl nwea_a)), (nweb, .inl (cy, 6, .inl nweb_a)), (nwec, .inl (cy, 6, .inl nwec_a)), (wk, .inr (10, [.int wk_number, .int wk_lane, .int wk_looks])), (tr, .inr (9, [.ref trw, .ref tra, .ref trb, .ref trc, .int tr_least, .int tr_bestLinks, .int tr_changeNumber, .int tr_changeHeight])), (trw, .inr (10, [.int trw_number, .int trw_lane, .int trw_looks])), (tra, .inl (cy, 8, .inl tra_a)), (trc, .inl (cy, 5, .inl trc_a)), (x, .inr (11, [.ref pg, .ref wr, .ref nw, .ref kp, .ref wk, .ref tr, lv, .int x_rowsRead, .int x_rowOfImage, .int x_bestsDone])), (nw, .inr (2, [.ref nwf, .ref nws, .ref nwe, .int nw_asked, .int nw_looksOfAsked, .int nw_changes])), (nwf, .inr (8, [.ref nwfk, .ref nwfv, .ref nwfh, .ref nwft, .int nwf_size])), (nwfv, .inl (cy, 8, .inl nwfv_a)), (nwfh, .inl (cy, 8, .inl nwfh_a))] H := hP
      have hD : va_D A [(nwfk, .inl (cy, 8, .inl nwfk_a)), (nwft, .inl (cy, 8, .inl nwft_a)), (nwe, .inr (4, [.ref nwea, .ref nweb, .ref nwec, .int nwe_size])), (nwea, .inl (cy, 6, .inl nwea_a)), (nweb, .inl (cy, 6, .inl nweb_a)), (nwec, .inl (cy, 6, .inl nwec_a)), (wk, .inr (10, [.int wk_number, .int wk_lane, .int wk_looks])), (tr, .inr (9, [.ref trw, .ref tra, .ref trb, .ref trc, .int tr_least, .int tr_bestLinks, .int tr_changeNumber, .int tr_changeHeight])), (trw, .inr (10, [.int trw_number, .int trw_lane, .int trw_looks])), (tra, .inl (cy, 8, .inl tra_a)), (trc, .inl (cy, 5, .inl trc_a)), (x, .inr (11, [.ref pg, .ref wr, .ref nw, .ref kp, .ref wk, .ref tr, lv, .int x_rowsRead, .int x_rowOfImage, .int x_bestsDone])), (nw, .inr (2, [.ref nwf, .ref nws, .ref nwe, .int nw_asked, .int nw_looksOfAsked, .int nw_changes])), (nwf, .inr (8, [.ref nwfk, .ref nwfv, .ref nwfh, .ref nwft, .int nwf_size])), (nwfv, .inl (cy, 8, .inl nwfv_a)), (nwfh, .inl (cy, 8, .inl nwfh_a))] := hD
      refine W.widen (k := 0) (n := 0) (by decide) (by decide) ?_
      exact hret (fn_X8_weightFrom nwf_size nwfv_a nwfh_a a z_99) (wk_number, wk_lane, wk_looks, trw_number, trw_lane, trw_looks, tra_a, trc_a) _ _ _ 235 (wk_sub9 (is := [11, 12, 13, 0, 14, 15, 1, 2, 3, 4, 5, 6, 7, 8, 9, 10]) hP rfl) (hD.sub [11, 12, 13, 0, 14, 15, 1, 2, 3, 4, 5, 6, 7, 8, 9, 10] rfl rfl) hS dX11_key_235 ⟨(show ((-1) ≤ wk_number.toInt ∧ wk_number.toInt ≤ 7) from by omega), (show ((-1) ≤ trw_number.toInt ∧ trw_number.toInt ≤ 7) from by omega)⟩
    have k_98 : ¬ b.toInt = 23 := wk_neq c_98
    refine lv_tableOut (tgt := 236) hx hb dX11_key_20 (show b.toInt < 0 ∨ 23 < b.toInt from by omega) (by decide) ?_
    refine lv_bipush (v := (-102)) hx hb dX11_key_236 (by decide) ?_
    refine W.widen (k := 0) (n := 0) (by decide) (by decide) ?_
    exact hret (-102) (wk_number, wk_lane, wk_looks, trw_number, trw_lane, trw_looks, tra_a, trc_a) _ _ _ 238 (wk_sub9 (is := [13, 14, 15, 0, 1, 2, 3, 4, 5, 6, 7, 8, 9, 10, 11, 12]) hP rfl) (hD.sub [13, 14, 15, 0, 1, 2, 3, 4, 5, 6, 7, 8, 9, 10, 11, 12] rfl rfl) hS dX11_key_238 ⟨(show ((-1) ≤ wk_number.toInt ∧ wk_number.toInt ≤ 7) from by omega), (show ((-1) ≤ trw_number.toInt ∧ trw_number.toInt ≤ 7) from by omega)⟩
  · have k_7 : ¬ (fn_X11_namesNoKey nwf_size a).toInt = 0 := wk_neq c_7
    refine lv_bipush (v := (-101)) hx hb dX11_key_8 (by decide) ?_
    refine W.widen (k := 0) (n := 0) (by decide) (by decide) ?_
    exact hret (-101) (wk_number, wk_lane, wk_looks, trw_number, trw_lane, trw_looks, tra_a, trc_a) _ _ _ 10 (wk_sub9 (is := [13, 14, 15, 0, 1, 2, 3, 4, 5, 6, 7, 8, 9, 10, 11, 12]) hP rfl) (hD.sub [13, 14, 15, 0, 1, 2, 3, 4, 5, 6, 7, 8, 9, 10, 11, 12] rfl rfl) hS dX11_key_10 ⟨(show ((-1) ≤ wk_number.toInt ∧ wk_number.toInt ≤ 7) from by omega), (show ((-1) ≤ trw_number.toInt ∧ trw_number.toInt ≤ 7) from by omega)⟩
def fn_X11_nth (nwf_size : Int32) (nwfk_a : Nat → Int32) (nwfh_a : Nat → Int32) (wk_number : Int32) (wk_lane : Int32) (wk_looks : Int32) (a : Int32) (b : Int32) : Int32 × Int32 × Int32 × Int32 := (if (fn_X11_namesNoKey nwf_size a) = 0 then (if b < 0 then ((-102), wk_number, wk_lane, wk_looks) else (if b ≤ 2 then (if b = 0 then ((nwfk_a a.toNatClampNeg), wk_number, wk_lane, wk_looks) else (if b = 1 then (pm2 (fn_X11_looksFor nwf_size nwfk_a nwfh_a wk_number wk_lane wk_looks (nwfk_a a.toNatClampNeg)) (fun r_12 t_ => (pm2 (t_) (fun o_15 t_ => (pm2 (t_) (fun o_16 o_17 => (r_12, o_15, o_16, o_17))))))) else (pm2 (fn_X11_laneOf nwf_size nwfk_a nwfh_a wk_number wk_lane wk_looks (nwfk_a a.toNatClampNeg)) (fun r_19 t_ => (pm2 (t_) (fun o_22 t_ => (pm2 (t_) (fun o_23 o_24 => (r_19, o_22, o_23, o_24))))))))) else ((-102), wk_number, wk_lane, wk_looks))) else ((-101), wk_number, wk_lane, wk_looks))
theorem dX11_nth_0 : decode cX11_nth 0 = .ok (.aload_n 0, 1) := by decide +kernel
theorem dX11_nth_1 : decode cX11_nth 1 = .ok (.iload_n 1, 1) := by decide +kernel
theorem dX11_nth_2 : decode cX11_nth 2 = .ok (.invokevirtual 102, 3) := by decide +kernel
theorem dX11_nth_5 : decode cX11_nth 5 = .ok (.ifCond .eq 6, 3) := by decide +kernel
theorem dX11_nth_8 : decode cX11_nth 8 = .ok (.bipush (-101), 2) := by decide +kernel
theorem dX11_nth_10 : decode cX11_nth 10 = .ok (.ireturn, 1) := by decide +kernel
theorem dX11_nth_11 : decode cX11_nth 11 = .ok (.iload_n 2, 1) := by decide +kernel
theorem dX11_nth_12 : decode cX11_nth 12 = .ok (.ifCond .lt 8, 3) := by decide +kernel
theorem dX11_nth_15 : decode cX11_nth 15 = .ok (.iload_n 2, 1) := by decide +kernel
theorem dX11_nth_16 : decode cX11_nth 16 = .ok (.iconst 2, 1) := by decide +kernel
theorem dX11_nth_17 : decode cX11_nth 17 = .ok (.if_icmp .le 6, 3) := by decide +kernel
theorem dX11_nth_20 : decode cX11_nth 20 = .ok (.bipush (-102), 2) := by decide +kernel
theorem dX11_nth_22 : decode cX11_nth 22 = .ok (.ireturn, 1) := by decide +kernel
theorem dX11_nth_23 : decode cX11_nth 23 = .ok (.aload_n 0, 1) := by decide +kernel
theorem dX11_nth_24 : decode cX11_nth 24 = .ok (.getfield 22, 3) := by decide +kernel
theorem dX11_nth_27 : decode cX11_nth 27 = .ok (.getfield 77, 3) := by decide +kernel
theorem dX11_nth_30 : decode cX11_nth 30 = .ok (.getfield 105, 3) := by decide +kernel
theorem dX11_nth_33 : decode cX11_nth 33 = .ok (.iload_n 1, 1) := by decide +kernel
theorem dX11_nth_34 : decode cX11_nth 34 = .ok (.iaload, 1) := by decide +kernel
theorem dX11_nth_35 : decode cX11_nth 35 = .ok (.istore_n 3, 1) := by decide +kernel
theorem dX11_nth_36 : decode cX11_nth 36 = .ok (.iload_n 2, 1) := by decide +kernel
theorem dX11_nth_37 : decode cX11_nth 37 = .ok (.lookupswitch 35 #[(0, 27), (1, 29)], 27) := by decide +kernel
theorem dX11_nth_64 : decode cX11_nth 64 = .ok (.iload_n 3, 1) := by decide +kernel
theorem dX11_nth_65 : decode cX11_nth 65 = .ok (.ireturn, 1) := by decide +kernel
theorem dX11_nth_66 : decode cX11_nth 66 = .ok (.aload_n 0, 1) := by decide +kernel
theorem dX11_nth_67 : decode cX11_nth 67 = .ok (.iload_n 3, 1) := by decide +kernel
theorem dX11_nth_68 : decode cX11_nth 68 = .ok (.invokevirtual 117, 3) := by decide +kernel
theorem dX11_nth_71 : decode cX11_nth 71 = .ok (.ireturn, 1) := by decide +kernel
theorem dX11_nth_72 : decode cX11_nth 72 = .ok (.aload_n 0, 1) := by decide +kernel
theorem dX11_nth_73 : decode cX11_nth 73 = .ok (.iload_n 3, 1) := by decide +kernel
theorem dX11_nth_74 : decode cX11_nth 74 = .ok (.invokevirtual 120, 3) := by decide +kernel
theorem dX11_nth_77 : decode cX11_nth 77 = .ok (.ireturn, 1) := by decide +kernel
set_option maxHeartbeats 4000000 in
set_option maxRecDepth 100000 in
theorem c_X11_nth (l : Launch) (D : va_G) (cy : ClassId) (x pg wr nw kp wk tr nwf nws nwe nwfk nwfv nwfh nwft : Nat) (lv : Value) (x_rowsRead : Int32) (x_rowOfImage : Int32) (x_bestsDone : Int32) (nw_asked : Int32) (nw_looksOfAsked : Int32) (nw_changes : Int32) (nwf_size : Int32) (nwfk_a : Nat → Int32) (nwfh_a : Nat → Int32) (wk_number : Int32) (wk_lane : Int32) (wk_looks : Int32) (a : Int32) (b : Int32) (g_0 : 0 ≤ nwf_size.toInt ∧ nwf_size.toInt ≤ 8) (g_1 : (-1) ≤ wk_number.toInt ∧ wk_number.toInt ≤ 7) : wk_Ci l yX11_nth cX11_nth 4 (some .int) { frames := 4, cells := 0, slots := 0, locals := 86 } D cy [.ref x, .int a, .int b] [(x, .inr (11, [.ref pg, .ref wr, .ref nw, .ref kp, .ref wk, .ref tr, lv, .int x_rowsRead, .int x_rowOfImage, .int x_bestsDone])), (nw, .inr (2, [.ref nwf, .ref nws, .ref nwe, .int nw_asked, .int nw_looksOfAsked, .int nw_changes])), (nwf, .inr (8, [.ref nwfk, .ref nwfv, .ref nwfh, .ref nwft, .int nwf_size])), (nwfk, .inl (cy, 8, .inl nwfk_a)), (nwfh, .inl (cy, 8, .inl nwfh_a)), (wk, .inr (10, [.int wk_number, .int wk_lane, .int wk_looks]))] 0 0 (fun (r : Int32) (u : Int32 × Int32 × Int32) => (r, u) = (fn_X11_nth nwf_size nwfk_a nwfh_a wk_number wk_lane wk_looks a b) ∧ ((-1) ≤ u.1.toInt ∧ u.1.toInt ≤ 7)) (fun u => [(x, .inr (11, [.ref pg, .ref wr, .ref nw, .ref kp, .ref wk, .ref tr, lv, .int x_rowsRead, .int x_rowOfImage, .int x_bestsDone])), (nw, .inr (2, [.ref nwf, .ref nws, .ref nwe, .int nw_asked, .int nw_looksOfAsked, .int nw_changes])), (nwf, .inr (8, [.ref nwfk, .ref nwfv, .ref nwfh, .ref nwft, .int nwf_size])), (nwfk, .inl (cy, 8, .inl nwfk_a)), (nwfh, .inl (cy, 8, .inl nwfh_a)), (wk, .inr (10, [.int u.1, .int u.2.1, .int u.2.2]))]) := by
  refine wk_mk2Ci (by decide) (Nat.le_of_ble_eq_true rfl) ?_
  intro p e s m args below meth c A ls Q B hA hK hP hD hS hl hret
  obtain ⟨hx, hb, hr, hlocks, hml, hown, htb, hin⟩ := B
  have hl : lv_has ls 4 [(0, .ref x), (1, .int a), (2, .int b)] := hl
  have hF : (fn_X11_nth nwf_size nwfk_a nwfh_a wk_number wk_lane wk_looks a b) = (fn_X11_nth nwf_size nwfk_a nwfh_a wk_number wk_lane wk_looks a b) := rfl
  conv at hF => rhs; unfold fn_X11_nth
  refine lv_aload_n hx hb dX11_nth_0 rfl (lv_at hl 0 rfl) ?_
  refine lv_iload_n hx hb dX11_nth_1 rfl (lv_at hl 1 rfl) ?_
  refine wk_iV (As := [.int a]) (rest := []) (wc := [(x, .inr (11, [.ref pg, .ref wr, .ref nw, .ref kp, .ref wk, .ref tr, lv, .int x_rowsRead, .int x_rowOfImage, .int x_bestsDone])), (nw, .inr (2, [.ref nwf, .ref nws, .ref nwe, .int nw_asked, .int nw_looksOfAsked, .int nw_changes])), (nwf, .inr (8, [.ref nwfk, .ref nwfv, .ref nwfh, .ref nwft, .int nwf_size]))]) (wr := [(nwfk, .inl (cy, 8, .inl nwfk_a)), (nwfh, .inl (cy, 8, .inl nwfh_a)), (wk, .inr (10, [.int wk_number, .int wk_lane, .int wk_looks]))]) (n := 1) ⟨hx, hb, hml, hown, htb⟩ (c_X11_namesNoKey l D cy x pg wr nw kp wk tr nwf nws nwe nwfk nwfv nwfh nwft (lv) x_rowsRead x_rowOfImage x_bestsDone nw_asked nw_looksOfAsked nw_changes nwf_size a (show 0 ≤ nwf_size.toInt ∧ nwf_size.toInt ≤ 8 from by omega)) tw_481 tw_478 tw_480 tw_7 tw_64 rfl rfl (by decide +kernel) ⟨Nat.le_of_ble_eq_true rfl, Nat.le_of_ble_eq_true rfl⟩ hK hP hD hS hA [0, 1, 2] [3, 4, 5] rfl rfl rfl rfl (by decide) 0 (ci := 11) rfl rfl rfl hl.1 rfl (Nat.le_of_ble_eq_true rfl) dX11_nth_2 ⟨Nat.le_of_ble_eq_true rfl, Nat.le_of_ble_eq_true rfl⟩ (fun r_1 u_2 H locs hw_3 hP hD hS => ?_)
  refine W.widen (k := 0) (n := 0) (by decide) (by decide) ?_
  obtain ⟨hw_3, k_4, k_5⟩ := hw_3
  have hw_3 : r_1 = (fn_X11_namesNoKey nwf_size a) := hw_3
  subst hw_3
  have k_4 : ((fn_X11_namesNoKey nwf_size a) = 0 ∨ (fn_X11_namesNoKey nwf_size a) = 1) := k_4
  have k_5 : (wk_or ((fn_X11_namesNoKey nwf_size a).toInt = 1) (0 ≤ a.toInt ∧ a.toInt < nwf_size.toInt)) := k_5
  have k_6 : 0 ≤ (fn_X11_namesNoKey nwf_size a).toInt ∧ (fn_X11_namesNoKey nwf_size a).toInt ≤ 1 := wk_b01 (by assumption)
  have hP : va_P D classes [(nwfk, .inl (cy, 8, .inl nwfk_a)), (nwfh, .inl (cy, 8, .inl nwfh_a)), (wk, .inr (10, [.int wk_number, .int wk_lane, .int wk_looks])), (x, .inr (11, [.ref pg, .ref wr, .ref nw, .ref kp, .ref wk, .ref tr, lv, .int x_rowsRead, .int x_rowOfImage, .int x_bestsDone])), (nw, .inr (2, [.ref nwf, .ref nws, .ref nwe, .int nw_asked, .int nw_looksOfAsked, .int nw_changes])), (nwf, .inr (8, [.ref nwfk, .ref nwfv, .ref nwfh, .ref nwft, .int nwf_size]))] H := hP
  have hD : va_D A [(nwfk, .inl (cy, 8, .inl nwfk_a)), (nwfh, .inl (cy, 8, .inl nwfh_a)), (wk, .inr (10, [.int wk_number, .int wk_lane, .int wk_looks])), (x, .inr (11, [.ref pg, .ref wr, .ref nw, .ref kp, .ref wk, .ref tr, lv, .int x_rowsRead, .int x_rowOfImage, .int x_bestsDone])), (nw, .inr (2, [.ref nwf, .ref nws, .ref nwe, .int nw_asked, .int nw_looksOfAsked, .int nw_changes])), (nwf, .inr (8, [.ref nwfk, .ref nwfv, .ref nwfh, .ref nwft, .int nwf_size]))] := hD
  refine lv_if_eq (tgt := 11) hx hb dX11_nth_5 (by decide) (fun c_7 => ?_) (fun c_7 => ?_)
  · have k_7 : (fn_X11_namesNoKey nwf_size a).toInt = 0 := wk_eq c_7
    have k_8 : 0 ≤ a.toInt ∧ a.toInt < nwf_size.toInt := wk_orR k_5 (by rw [k_7]; decide)
    replace hF := hF.trans (if_pos c_7)
    refine lv_iload_n hx hb dX11_nth_11 rfl (lv_at hl 2 rfl) ?_
    refine lv_if_lt (tgt := 20) hx hb dX11_nth_12 (by decide) (fun c_9 => ?_) (fun c_9 => ?_)
    · have k_9 : b.toInt < 0 := wk_lt c_9
      replace hF := hF.trans (if_pos c_9)
      refine lv_bipush (v := (-102)) hx hb dX11_nth_20 (by decide) ?_
      refine W.widen (k := 0) (n := 0) (by decide) (by decide) ?_
      exact hret (-102) (wk_number, wk_lane, wk_looks) _ _ _ 22 (wk_sub9 (is := [3, 4, 5, 0, 1, 2]) hP rfl) (hD.sub [3, 4, 5, 0, 1, 2] rfl rfl) hS dX11_nth_22 ⟨hF.symm, (show ((-1) ≤ wk_number.toInt ∧ wk_number.toInt ≤ 7) from by omega)⟩
    · have k_9 : ¬ b.toInt < 0 := wk_nlt c_9
      replace hF := hF.trans (if_neg c_9)
      refine lv_iload_n hx hb dX11_nth_15 rfl (lv_at hl 2 rfl) ?_
      refine lv_iconst (v := 2) hx hb dX11_nth_16 (by decide) ?_
      refine lv_icmp_le (tgt := 23) hx hb dX11_nth_17 (by decide) (fun c_10 => ?_) (fun c_10 => ?_)
      · have k_10 : b.toInt ≤ 2 := wk_le c_10
        replace hF := hF.trans (if_pos c_10)
        refine lv_aload_n hx hb dX11_nth_23 rfl (lv_at hl 0 rfl) ?_
        refine va_get (D := D) (ci := 11) (v := .ref nw) (C := RX11) (T := TX11) (N := 10) hx hb htb inX11 hown hK hP 3 rfl rfl 2 (by decide) (htb _ tw_254) (fun _ h9 => h9) rfl dX11_nth_24 ?_
        refine va_get (D := D) (ci := 2) (v := .ref nwf) (C := RX2) (T := TX2) (N := 6) hx hb htb inX2 hown hK hP 4 rfl rfl 0 (by decide) (htb _ tw_171) (fun _ h9 => h9) rfl dX11_nth_27 ?_
        refine va_get (D := D) (ci := 8) (v := .ref nwfk) (C := RX8) (T := TX8) (N := 5) hx hb htb inX8 hown hK hP 5 rfl rfl 0 (by decide) (htb _ tw_118) (fun _ h9 => h9) rfl dX11_nth_30 ?_
        refine lv_iload_n hx hb dX11_nth_33 rfl (lv_at hl 1 rfl) ?_
        refine va_iald hx hb hK hP 0 0 rfl rfl (show vp_in a 8 from vp_in_iff.mpr (show 0 ≤ a.toInt ∧ a.toInt < ((8 : Nat) : Int) from by omega)) dX11_nth_34 ?_
        refine lv_istore_n (lv' := [(3, .int (nwfk_a a.toNatClampNeg)), (0, .ref x), (1, .int a), (2, .int b)]) hx hb dX11_nth_35 rfl hl (by decide) rfl (fun ls hl => ?_)
        refine lv_iload_n hx hb dX11_nth_36 rfl (lv_at hl 3 rfl) ?_
        by_cases c_11 : b = 0
        · refine wk_toi c_11 ?_
          replace hF := hF.trans (if_pos c_11)
          have k_11 : b.toInt = 0 := wk_eq c_11
          refine lv_lookup (off := 27) (tgt := 64) hx hb dX11_nth_37 (by decide) (by decide) (by decide) ?_
          refine lv_iload_n hx hb dX11_nth_64 rfl (lv_at hl 0 rfl) ?_
          refine W.widen (k := 0) (n := 0) (by decide) (by decide) ?_
          exact hret (nwfk_a a.toNatClampNeg) (wk_number, wk_lane, wk_looks) _ _ _ 65 (wk_sub9 (is := [3, 4, 5, 0, 1, 2]) hP rfl) (hD.sub [3, 4, 5, 0, 1, 2] rfl rfl) hS dX11_nth_65 ⟨hF.symm, (show ((-1) ≤ wk_number.toInt ∧ wk_number.toInt ≤ 7) from by omega)⟩
        replace hF := hF.trans (if_neg c_11)
        have k_11 : ¬ b.toInt = 0 := wk_neq c_11
        by_cases c_12 : b = 1
        · refine wk_toi c_12 ?_
          replace hF := hF.trans (if_pos c_12)
          have k_12 : b.toInt = 1 := wk_eq c_12
          refine lv_lookup (off := 29) (tgt := 66) hx hb dX11_nth_37 (by decide) (by decide) (by decide) ?_
          refine lv_aload_n hx hb dX11_nth_66 rfl (lv_at hl 1 rfl) ?_
          refine lv_iload_n hx hb dX11_nth_67 rfl (lv_at hl 0 rfl) ?_
          refine wk_iV (As := [.int (nwfk_a a.toNatClampNeg)]) (rest := []) (wc := [(x, .inr (11, [.ref pg, .ref wr, .ref nw, .ref kp, .ref wk, .ref tr, lv, .int x_rowsRead, .int x_rowOfImage, .int x_bestsDone])), (nw, .inr (2, [.ref nwf, .ref nws, .ref nwe, .int nw_asked, .int nw_looksOfAsked, .int nw_changes])), (nwf, .inr (8, [.ref nwfk, .ref nwfv, .ref nwfh, .ref nwft, .int nwf_size])), (nwfk, .inl (cy, 8, .inl nwfk_a)), (nwfh, .inl (cy, 8, .inl nwfh_a)), (wk, .inr (10, [.int wk_number, .int wk_lane, .int wk_looks]))]) (wr := []) (n := 1) ⟨hx, hb, hml, hown, htb⟩ (c_X11_looksFor l D cy x pg wr nw kp wk tr nwf nws nwe nwfk nwfv nwfh nwft (lv) x_rowsRead x_rowOfImage x_bestsDone nw_asked nw_looksOfAsked nw_changes nwf_size nwfk_a nwfh_a wk_number wk_lane wk_looks (nwfk_a a.toNatClampNeg) (show 0 ≤ nwf_size.toInt ∧ nwf_size.toInt ≤ 8 from by omega) (show (-1) ≤ wk_number.toInt ∧ wk_number.toInt ≤ 7 from by omega)) tw_485 tw_482 tw_484 tw_8 tw_64 rfl rfl (by decide +kernel) ⟨Nat.le_of_ble_eq_true rfl, Nat.le_of_ble_eq_true rfl⟩ hK hP hD hS hA [3, 4, 5, 0, 1, 2] [] rfl rfl rfl rfl (by decide) 0 (ci := 11) rfl rfl rfl hl.1 rfl (Nat.le_of_ble_eq_true rfl) dX11_nth_68 ⟨Nat.le_of_ble_eq_true rfl, Nat.le_of_ble_eq_true rfl⟩ (fun r_13 u_14 H locs hw_15 hP hD hS => ?_)
          refine W.widen (k := 0) (n := 0) (by decide) (by decide) ?_
          obtain ⟨o_16, o_17, o_18⟩ := u_14
          obtain ⟨hw_15, k_19⟩ := hw_15
          have hw_15 : (r_13, o_16, o_17, o_18) = (fn_X11_looksFor nwf_size nwfk_a nwfh_a wk_number wk_lane wk_looks (nwfk_a a.toNatClampNeg)) := hw_15
          have k_19 : ((-1) ≤ o_16.toInt ∧ o_16.toInt ≤ 7) := k_19
          rw [← hw_15] at hF
          rw [pm2_mk r_13 (o_16, o_17, o_18), pm2_mk o_16 (o_17, o_18), pm2_mk o_17 o_18] at hF
          have hP : va_P D classes [(x, .inr (11, [.ref pg, .ref wr, .ref nw, .ref kp, .ref wk, .ref tr, lv, .int x_rowsRead, .int x_rowOfImage, .int x_bestsDone])), (nw, .inr (2, [.ref nwf, .ref nws, .ref nwe, .int nw_asked, .int nw_looksOfAsked, .int nw_changes])), (nwf, .inr (8, [.ref nwfk, .ref nwfv, .ref nwfh, .ref nwft, .int nwf_size])), (nwfk, .inl (cy, 8, .inl nwfk_a)), (nwfh, .inl (cy, 8, .inl nwfh_a)), (wk, .inr (10, [.int o_16, .int o_17, .int o_18]))] H := hP
          have hD : va_D A [(x, .inr (11, [.ref pg, .ref wr, .ref nw, .ref kp, .ref wk, .ref tr, lv, .int x_rowsRead, .int x_rowOfImage, .int x_bestsDone])), (nw, .inr (2, [.ref nwf, .ref nws, .ref nwe, .int nw_asked, .int nw_looksOfAsked, .int nw_changes])), (nwf, .inr (8, [.ref nwfk, .ref nwfv, .ref nwfh, .ref nwft, .int nwf_size])), (nwfk, .inl (cy, 8, .inl nwfk_a)), (nwfh, .inl (cy, 8, .inl nwfh_a)), (wk, .inr (10, [.int o_16, .int o_17, .int o_18]))] := hD
          refine W.widen (k := 0) (n := 0) (by decide) (by decide) ?_
          exact hret r_13 (o_16, o_17, o_18) _ _ _ 71 (wk_sub9 (is := [0, 1, 2, 3, 4, 5]) hP rfl) (hD.sub [0, 1, 2, 3, 4, 5] rfl rfl) hS dX11_nth_71 ⟨hF.symm, (show ((-1) ≤ o_16.toInt ∧ o_16.toInt ≤ 7) from by omega)⟩
        replace hF := hF.trans (if_neg c_12)
        have k_12 : ¬ b.toInt = 1 := wk_neq c_12
        refine lv_lookup (off := 35) (tgt := 72) hx hb dX11_nth_37 (by decide) ((lv_osw c_11 rfl).trans ((lv_osw c_12 rfl).trans rfl)) (by decide) ?_
        refine lv_aload_n hx hb dX11_nth_72 rfl (lv_at hl 1 rfl) ?_
        refine lv_iload_n hx hb dX11_nth_73 rfl (lv_at hl 0 rfl) ?_
        refine wk_iV (As := [.int (nwfk_a a.toNatClampNeg)]) (rest := []) (wc := [(x, .inr (11, [.ref pg, .ref wr, .ref nw, .ref kp, .ref wk, .ref tr, lv, .int x_rowsRead, .int x_rowOfImage, .int x_bestsDone])), (nw, .inr (2, [.ref nwf, .ref nws, .ref nwe, .int nw_asked, .int nw_looksOfAsked, .int nw_changes])), (nwf, .inr (8, [.ref nwfk, .ref nwfv, .ref nwfh, .ref nwft, .int nwf_size])), (nwfk, .inl (cy, 8, .inl nwfk_a)), (nwfh, .inl (cy, 8, .inl nwfh_a)), (wk, .inr (10, [.int wk_number, .int wk_lane, .int wk_looks]))]) (wr := []) (n := 1) ⟨hx, hb, hml, hown, htb⟩ (c_X11_laneOf l D cy x pg wr nw kp wk tr nwf nws nwe nwfk nwfv nwfh nwft (lv) x_rowsRead x_rowOfImage x_bestsDone nw_asked nw_looksOfAsked nw_changes nwf_size nwfk_a nwfh_a wk_number wk_lane wk_looks (nwfk_a a.toNatClampNeg) (show 0 ≤ nwf_size.toInt ∧ nwf_size.toInt ≤ 8 from by omega) (show (-1) ≤ wk_number.toInt ∧ wk_number.toInt ≤ 7 from by omega)) tw_504 tw_501 tw_503 tw_9 tw_64 rfl rfl (by decide +kernel) ⟨Nat.le_of_ble_eq_true rfl, Nat.le_of_ble_eq_true rfl⟩ hK hP hD hS hA [3, 4, 5, 0, 1, 2] [] rfl rfl rfl rfl (by decide) 0 (ci := 11) rfl rfl rfl hl.1 rfl (Nat.le_of_ble_eq_true rfl) dX11_nth_74 ⟨Nat.le_of_ble_eq_true rfl, Nat.le_of_ble_eq_true rfl⟩ (fun r_20 u_21 H locs hw_22 hP hD hS => ?_)
        refine W.widen (k := 0) (n := 0) (by decide) (by decide) ?_
        obtain ⟨o_23, o_24, o_25⟩ := u_21
        obtain ⟨hw_22, k_26⟩ := hw_22
        have hw_22 : (r_20, o_23, o_24, o_25) = (fn_X11_laneOf nwf_size nwfk_a nwfh_a wk_number wk_lane wk_looks (nwfk_a a.toNatClampNeg)) := hw_22
        have k_26 : ((-1) ≤ o_23.toInt ∧ o_23.toInt ≤ 7) := k_26
        rw [← hw_22] at hF
        rw [pm2_mk r_20 (o_23, o_24, o_25), pm2_mk o_23 (o_24, o_25), pm2_mk o_24 o_25] at hF
        have hP : va_P D classes [(x, .inr (11, [.ref pg, .ref wr, .ref nw, .ref kp, .ref wk, .ref tr, lv, .int x_rowsRead, .int x_rowOfImage, .int x_bestsDone])), (nw, .inr (2, [.ref nwf, .ref nws, .ref nwe, .int nw_asked, .int nw_looksOfAsked, .int nw_changes])), (nwf, .inr (8, [.ref nwfk, .ref nwfv, .ref nwfh, .ref nwft, .int nwf_size])), (nwfk, .inl (cy, 8, .inl nwfk_a)), (nwfh, .inl (cy, 8, .inl nwfh_a)), (wk, .inr (10, [.int o_23, .int o_24, .int o_25]))] H := hP
        have hD : va_D A [(x, .inr (11, [.ref pg, .ref wr, .ref nw, .ref kp, .ref wk, .ref tr, lv, .int x_rowsRead, .int x_rowOfImage, .int x_bestsDone])), (nw, .inr (2, [.ref nwf, .ref nws, .ref nwe, .int nw_asked, .int nw_looksOfAsked, .int nw_changes])), (nwf, .inr (8, [.ref nwfk, .ref nwfv, .ref nwfh, .ref nwft, .int nwf_size])), (nwfk, .inl (cy, 8, .inl nwfk_a)), (nwfh, .inl (cy, 8, .inl nwfh_a)), (wk, .inr (10, [.int o_23, .int o_24, .int o_25]))] := hD
        refine W.widen (k := 0) (n := 0) (by decide) (by decide) ?_
        exact hret r_20 (o_23, o_24, o_25) _ _ _ 77 (wk_sub9 (is := [0, 1, 2, 3, 4, 5]) hP rfl) (hD.sub [0, 1, 2, 3, 4, 5] rfl rfl) hS dX11_nth_77 ⟨hF.symm, (show ((-1) ≤ o_23.toInt ∧ o_23.toInt ≤ 7) from by omega)⟩
      · have k_10 : ¬ b.toInt ≤ 2 := wk_nle c_10
        replace hF := hF.trans (if_neg c_10)
        refine lv_bipush (v := (-102)) hx hb dX11_nth_20 (by decide) ?_
        refine W.widen (k := 0) (n := 0) (by decide) (by decide) ?_
        exact hret (-102) (wk_number, wk_lane, wk_looks) _ _ _ 22 (wk_sub9 (is := [3, 4, 5, 0, 1, 2]) hP rfl) (hD.sub [3, 4, 5, 0, 1, 2] rfl rfl) hS dX11_nth_22 ⟨hF.symm, (show ((-1) ≤ wk_number.toInt ∧ wk_number.toInt ≤ 7) from by omega)⟩
  · have k_7 : ¬ (fn_X11_namesNoKey nwf_size a).toInt = 0 := wk_neq c_7
    replace hF := hF.trans (if_neg c_7)
    refine lv_bipush (v := (-101)) hx hb dX11_nth_8 (by decide) ?_
    refine W.widen (k := 0) (n := 0) (by decide) (by decide) ?_
    exact hret (-101) (wk_number, wk_lane, wk_looks) _ _ _ 10 (wk_sub9 (is := [3, 4, 5, 0, 1, 2]) hP rfl) (hD.sub [3, 4, 5, 0, 1, 2] rfl rfl) hS dX11_nth_10 ⟨hF.symm, (show ((-1) ≤ wk_number.toInt ∧ wk_number.toInt ≤ 7) from by omega)⟩
def fn_X11_finger (nwf_size : Int32) (nwfk_a : Nat → Int32) (nwfh_a : Nat → Int32) (wk_number : Int32) (wk_lane : Int32) (wk_looks : Int32) (a : Int32) (b : Int32) (d : Int32) : Int32 × Int32 × Int32 × Int32 := (if (fn_X11_namesNoKey nwf_size a) = 0 then (if b < (nwfk_a a.toNatClampNeg) then ((-102), wk_number, wk_lane, wk_looks) else (if (99 : Int32) < b then ((-102), wk_number, wk_lane, wk_looks) else (if d < 0 then ((-102), wk_number, wk_lane, wk_looks) else (if d ≤ 1 then (pm2 (fn_X10_go wk_number wk_lane wk_looks nwf_size nwfk_a nwfh_a a b) (fun o_15 t_ => (pm2 (t_) (fun o_16 o_17 => (if d = 0 then (o_15, o_15, o_16, o_17) else (o_17, o_15, o_16, o_17)))))) else ((-102), wk_number, wk_lane, wk_looks))))) else ((-101), wk_number, wk_lane, wk_looks))
theorem dX11_finger_0 : decode cX11_finger 0 = .ok (.aload_n 0, 1) := by decide +kernel
theorem dX11_finger_1 : decode cX11_finger 1 = .ok (.iload_n 1, 1) := by decide +kernel
theorem dX11_finger_2 : decode cX11_finger 2 = .ok (.invokevirtual 102, 3) := by decide +kernel
theorem dX11_finger_5 : decode cX11_finger 5 = .ok (.ifCond .eq 6, 3) := by decide +kernel
theorem dX11_finger_8 : decode cX11_finger 8 = .ok (.bipush (-101), 2) := by decide +kernel
theorem dX11_finger_10 : decode cX11_finger 10 = .ok (.ireturn, 1) := by decide +kernel
theorem dX11_finger_11 : decode cX11_finger 11 = .ok (.iload_n 2, 1) := by decide +kernel
theorem dX11_finger_12 : decode cX11_finger 12 = .ok (.aload_n 0, 1) := by decide +kernel
theorem dX11_finger_13 : decode cX11_finger 13 = .ok (.getfield 22, 3) := by decide +kernel
theorem dX11_finger_16 : decode cX11_finger 16 = .ok (.getfield 77, 3) := by decide +kernel
theorem dX11_finger_19 : decode cX11_finger 19 = .ok (.getfield 105, 3) := by decide +kernel
theorem dX11_finger_22 : decode cX11_finger 22 = .ok (.iload_n 1, 1) := by decide +kernel
theorem dX11_finger_23 : decode cX11_finger 23 = .ok (.iaload, 1) := by decide +kernel
theorem dX11_finger_24 : decode cX11_finger 24 = .ok (.if_icmp .lt 18, 3) := by decide +kernel
theorem dX11_finger_27 : decode cX11_finger 27 = .ok (.iload_n 2, 1) := by decide +kernel
theorem dX11_finger_28 : decode cX11_finger 28 = .ok (.bipush 99, 2) := by decide +kernel
theorem dX11_finger_30 : decode cX11_finger 30 = .ok (.if_icmp .gt 12, 3) := by decide +kernel
theorem dX11_finger_33 : decode cX11_finger 33 = .ok (.iload_n 3, 1) := by decide +kernel
theorem dX11_finger_34 : decode cX11_finger 34 = .ok (.ifCond .lt 8, 3) := by decide +kernel
theorem dX11_finger_37 : decode cX11_finger 37 = .ok (.iload_n 3, 1) := by decide +kernel
theorem dX11_finger_38 : decode cX11_finger 38 = .ok (.iconst 1, 1) := by decide +kernel
theorem dX11_finger_39 : decode cX11_finger 39 = .ok (.if_icmp .le 6, 3) := by decide +kernel
theorem dX11_finger_42 : decode cX11_finger 42 = .ok (.bipush (-102), 2) := by decide +kernel
theorem dX11_finger_44 : decode cX11_finger 44 = .ok (.ireturn, 1) := by decide +kernel
theorem dX11_finger_45 : decode cX11_finger 45 = .ok (.aload_n 0, 1) := by decide +kernel
theorem dX11_finger_46 : decode cX11_finger 46 = .ok (.getfield 32, 3) := by decide +kernel
theorem dX11_finger_49 : decode cX11_finger 49 = .ok (.aload_n 0, 1) := by decide +kernel
theorem dX11_finger_50 : decode cX11_finger 50 = .ok (.getfield 22, 3) := by decide +kernel
theorem dX11_finger_53 : decode cX11_finger 53 = .ok (.getfield 77, 3) := by decide +kernel
theorem dX11_finger_56 : decode cX11_finger 56 = .ok (.aload_n 0, 1) := by decide +kernel
theorem dX11_finger_57 : decode cX11_finger 57 = .ok (.getfield 22, 3) := by decide +kernel
theorem dX11_finger_60 : decode cX11_finger 60 = .ok (.getfield 77, 3) := by decide +kernel
theorem dX11_finger_63 : decode cX11_finger 63 = .ok (.getfield 111, 3) := by decide +kernel
theorem dX11_finger_66 : decode cX11_finger 66 = .ok (.iload_n 1, 1) := by decide +kernel
theorem dX11_finger_67 : decode cX11_finger 67 = .ok (.iload_n 2, 1) := by decide +kernel
theorem dX11_finger_68 : decode cX11_finger 68 = .ok (.invokevirtual 150, 3) := by decide +kernel
theorem dX11_finger_71 : decode cX11_finger 71 = .ok (.iload_n 3, 1) := by decide +kernel
theorem dX11_finger_72 : decode cX11_finger 72 = .ok (.ifCond .ne 13, 3) := by decide +kernel
theorem dX11_finger_75 : decode cX11_finger 75 = .ok (.aload_n 0, 1) := by decide +kernel
theorem dX11_finger_76 : decode cX11_finger 76 = .ok (.getfield 32, 3) := by decide +kernel
theorem dX11_finger_79 : decode cX11_finger 79 = .ok (.getfield 154, 3) := by decide +kernel
theorem dX11_finger_82 : decode cX11_finger 82 = .ok (.goto 10, 3) := by decide +kernel
theorem dX11_finger_85 : decode cX11_finger 85 = .ok (.aload_n 0, 1) := by decide +kernel
theorem dX11_finger_86 : decode cX11_finger 86 = .ok (.getfield 32, 3) := by decide +kernel
theorem dX11_finger_89 : decode cX11_finger 89 = .ok (.getfield 157, 3) := by decide +kernel
theorem dX11_finger_92 : decode cX11_finger 92 = .ok (.ireturn, 1) := by decide +kernel
set_option maxHeartbeats 4000000 in
set_option maxRecDepth 100000 in
theorem c_X11_finger (l : Launch) (D : va_G) (cy : ClassId) (x pg wr nw kp wk tr nwf nws nwe nwfk nwfv nwfh nwft : Nat) (lv : Value) (x_rowsRead : Int32) (x_rowOfImage : Int32) (x_bestsDone : Int32) (nw_asked : Int32) (nw_looksOfAsked : Int32) (nw_changes : Int32) (nwf_size : Int32) (nwfk_a : Nat → Int32) (nwfh_a : Nat → Int32) (wk_number : Int32) (wk_lane : Int32) (wk_looks : Int32) (a : Int32) (b : Int32) (d : Int32) (g_0 : 0 ≤ nwf_size.toInt ∧ nwf_size.toInt ≤ 8) (g_1 : (-1) ≤ wk_number.toInt ∧ wk_number.toInt ≤ 7) : wk_Ci l yX11_finger cX11_finger 4 (some .int) { frames := 3, cells := 0, slots := 0, locals := 65 } D cy [.ref x, .int a, .int b, .int d] [(x, .inr (11, [.ref pg, .ref wr, .ref nw, .ref kp, .ref wk, .ref tr, lv, .int x_rowsRead, .int x_rowOfImage, .int x_bestsDone])), (nw, .inr (2, [.ref nwf, .ref nws, .ref nwe, .int nw_asked, .int nw_looksOfAsked, .int nw_changes])), (nwf, .inr (8, [.ref nwfk, .ref nwfv, .ref nwfh, .ref nwft, .int nwf_size])), (nwfk, .inl (cy, 8, .inl nwfk_a)), (nwfh, .inl (cy, 8, .inl nwfh_a)), (wk, .inr (10, [.int wk_number, .int wk_lane, .int wk_looks]))] 0 0 (fun (r : Int32) (u : Int32 × Int32 × Int32) => (r, u) = (fn_X11_finger nwf_size nwfk_a nwfh_a wk_number wk_lane wk_looks a b d) ∧ ((-1) ≤ u.1.toInt ∧ u.1.toInt ≤ 7)) (fun u => [(x, .inr (11, [.ref pg, .ref wr, .ref nw, .ref kp, .ref wk, .ref tr, lv, .int x_rowsRead, .int x_rowOfImage, .int x_bestsDone])), (nw, .inr (2, [.ref nwf, .ref nws, .ref nwe, .int nw_asked, .int nw_looksOfAsked, .int nw_changes])), (nwf, .inr (8, [.ref nwfk, .ref nwfv, .ref nwfh, .ref nwft, .int nwf_size])), (nwfk, .inl (cy, 8, .inl nwfk_a)), (nwfh, .inl (cy, 8, .inl nwfh_a)), (wk, .inr (10, [.int u.1, .int u.2.1, .int u.2.2]))]) := by
  refine wk_mk2Ci (by decide) (Nat.le_of_ble_eq_true rfl) ?_
  intro p e s m args below meth c A ls Q B hA hK hP hD hS hl hret
  obtain ⟨hx, hb, hr, hlocks, hml, hown, htb, hin⟩ := B
  have hl : lv_has ls 4 [(0, .ref x), (1, .int a), (2, .int b), (3, .int d)] := hl
  have hF : (fn_X11_finger nwf_size nwfk_a nwfh_a wk_number wk_lane wk_looks a b d) = (fn_X11_finger nwf_size nwfk_a nwfh_a wk_number wk_lane wk_looks a b d) := rfl
  conv at hF => rhs; unfold fn_X11_finger
  refine lv_aload_n hx hb dX11_finger_0 rfl (lv_at hl 0 rfl) ?_
  refine lv_iload_n hx hb dX11_finger_1 rfl (lv_at hl 1 rfl) ?_
  refine wk_iV (As := [.int a]) (rest := []) (wc := [(x, .inr (11, [.ref pg, .ref wr, .ref nw, .ref kp, .ref wk, .ref tr, lv, .int x_rowsRead, .int x_rowOfImage, .int x_bestsDone])), (nw, .inr (2, [.ref nwf, .ref nws, .ref nwe, .int nw_asked, .int nw_looksOfAsked, .int nw_changes])), (nwf, .inr (8, [.ref nwfk, .ref nwfv, .ref nwfh, .ref nwft, .int nwf_size]))]) (wr := [(nwfk, .inl (cy, 8, .inl nwfk_a)), (nwfh, .inl (cy, 8, .inl nwfh_a)), (wk, .inr (10, [.int wk_number, .int wk_lane, .int wk_looks]))]) (n := 1) ⟨hx, hb, hml, hown, htb⟩ (c_X11_namesNoKey l D cy x pg wr nw kp wk tr nwf nws nwe nwfk nwfv nwfh nwft (lv) x_rowsRead x_rowOfImage x_bestsDone nw_asked nw_looksOfAsked nw_changes nwf_size a (show 0 ≤ nwf_size.toInt ∧ nwf_size.toInt ≤ 8 from by omega)) tw_481 tw_478 tw_480 tw_7 tw_64 rfl rfl (by decide +kernel) ⟨Nat.le_of_ble_eq_true rfl, Nat.le_of_ble_eq_true rfl⟩ hK hP hD hS hA [0, 1, 2] [3, 4, 5] rfl rfl rfl rfl (by decide) 0 (ci := 11) rfl rfl rfl hl.1 rfl (Nat.le_of_ble_eq_true rfl) dX11_finger_2 ⟨Nat.le_of_ble_eq_true rfl, Nat.le_of_ble_eq_true rfl⟩ (fun r_1 u_2 H locs hw_3 hP hD hS => ?_)
  refine W.widen (k := 0) (n := 0) (by decide) (by decide) ?_
  obtain ⟨hw_3, k_4, k_5⟩ := hw_3
  have hw_3 : r_1 = (fn_X11_namesNoKey nwf_size a) := hw_3
  subst hw_3
  have k_4 : ((fn_X11_namesNoKey nwf_size a) = 0 ∨ (fn_X11_namesNoKey nwf_size a) = 1) := k_4
  have k_5 : (wk_or ((fn_X11_namesNoKey nwf_size a).toInt = 1) (0 ≤ a.toInt ∧ a.toInt < nwf_size.toInt)) := k_5
  have k_6 : 0 ≤ (fn_X11_namesNoKey nwf_size a).toInt ∧ (fn_X11_namesNoKey nwf_size a).toInt ≤ 1 := wk_b01 (by assumption)
  have hP : va_P D classes [(nwfk, .inl (cy, 8, .inl nwfk_a)), (nwfh, .inl (cy, 8, .inl nwfh_a)), (wk, .inr (10, [.int wk_number, .int wk_lane, .int wk_looks])), (x, .inr (11, [.ref pg, .ref wr, .ref nw, .ref kp, .ref wk, .ref tr, lv, .int x_rowsRead, .int x_rowOfImage, .int x_bestsDone])), (nw, .inr (2, [.ref nwf, .ref nws, .ref nwe, .int nw_asked, .int nw_looksOfAsked, .int nw_changes])), (nwf, .inr (8, [.ref nwfk, .ref nwfv, .ref nwfh, .ref nwft, .int nwf_size]))] H := hP
  have hD : va_D A [(nwfk, .inl (cy, 8, .inl nwfk_a)), (nwfh, .inl (cy, 8, .inl nwfh_a)), (wk, .inr (10, [.int wk_number, .int wk_lane, .int wk_looks])), (x, .inr (11, [.ref pg, .ref wr, .ref nw, .ref kp, .ref wk, .ref tr, lv, .int x_rowsRead, .int x_rowOfImage, .int x_bestsDone])), (nw, .inr (2, [.ref nwf, .ref nws, .ref nwe, .int nw_asked, .int nw_looksOfAsked, .int nw_changes])), (nwf, .inr (8, [.ref nwfk, .ref nwfv, .ref nwfh, .ref nwft, .int nwf_size]))] := hD
  refine lv_if_eq (tgt := 11) hx hb dX11_finger_5 (by decide) (fun c_7 => ?_) (fun c_7 => ?_)
  · have k_7 : (fn_X11_namesNoKey nwf_size a).toInt = 0 := wk_eq c_7
    have k_8 : 0 ≤ a.toInt ∧ a.toInt < nwf_size.toInt := wk_orR k_5 (by rw [k_7]; decide)
    replace hF := hF.trans (if_pos c_7)
    refine lv_iload_n hx hb dX11_finger_11 rfl (lv_at hl 2 rfl) ?_
    refine lv_aload_n hx hb dX11_finger_12 rfl (lv_at hl 0 rfl) ?_
    refine va_get (D := D) (ci := 11) (v := .ref nw) (C := RX11) (T := TX11) (N := 10) hx hb htb inX11 hown hK hP 3 rfl rfl 2 (by decide) (htb _ tw_254) (fun _ h9 => h9) rfl dX11_finger_13 ?_
    refine va_get (D := D) (ci := 2) (v := .ref nwf) (C := RX2) (T := TX2) (N := 6) hx hb htb inX2 hown hK hP 4 rfl rfl 0 (by decide) (htb _ tw_171) (fun _ h9 => h9) rfl dX11_finger_16 ?_
    refine va_get (D := D) (ci := 8) (v := .ref nwfk) (C := RX8) (T := TX8) (N := 5) hx hb htb inX8 hown hK hP 5 rfl rfl 0 (by decide) (htb _ tw_118) (fun _ h9 => h9) rfl dX11_finger_19 ?_
    refine lv_iload_n hx hb dX11_finger_22 rfl (lv_at hl 1 rfl) ?_
    refine va_iald hx hb hK hP 0 0 rfl rfl (show vp_in a 8 from vp_in_iff.mpr (show 0 ≤ a.toInt ∧ a.toInt < ((8 : Nat) : Int) from by omega)) dX11_finger_23 ?_
    refine lv_icmp_lt (tgt := 42) hx hb dX11_finger_24 (by decide) (fun c_9 => ?_) (fun c_9 => ?_)
    · have k_9 : b.toInt < (nwfk_a a.toNatClampNeg).toInt := wk_lt c_9
      replace hF := hF.trans (if_pos c_9)
      refine lv_bipush (v := (-102)) hx hb dX11_finger_42 (by decide) ?_
      refine W.widen (k := 0) (n := 0) (by decide) (by decide) ?_
      exact hret (-102) (wk_number, wk_lane, wk_looks) _ _ _ 44 (wk_sub9 (is := [3, 4, 5, 0, 1, 2]) hP rfl) (hD.sub [3, 4, 5, 0, 1, 2] rfl rfl) hS dX11_finger_44 ⟨hF.symm, (show ((-1) ≤ wk_number.toInt ∧ wk_number.toInt ≤ 7) from by omega)⟩
    · have k_9 : ¬ b.toInt < (nwfk_a a.toNatClampNeg).toInt := wk_nlt c_9
      replace hF := hF.trans (if_neg c_9)
      refine lv_iload_n hx hb dX11_finger_27 rfl (lv_at hl 2 rfl) ?_
      refine lv_bipush (v := 99) hx hb dX11_finger_28 (by decide) ?_
      refine lv_icmp_gt (tgt := 42) hx hb dX11_finger_30 (by decide) (fun c_10 => ?_) (fun c_10 => ?_)
      · have k_10 : 99 < b.toInt := wk_lt c_10
        replace hF := hF.trans (if_pos c_10)
        refine lv_bipush (v := (-102)) hx hb dX11_finger_42 (by decide) ?_
        refine W.widen (k := 0) (n := 0) (by decide) (by decide) ?_
        exact hret (-102) (wk_number, wk_lane, wk_looks) _ _ _ 44 (wk_sub9 (is := [3, 4, 5, 0, 1, 2]) hP rfl) (hD.sub [3, 4, 5, 0, 1, 2] rfl rfl) hS dX11_finger_44 ⟨hF.symm, (show ((-1) ≤ wk_number.toInt ∧ wk_number.toInt ≤ 7) from by omega)⟩
      · have k_10 : ¬ 99 < b.toInt := wk_nlt c_10
        replace hF := hF.trans (if_neg c_10)
        refine lv_iload_n hx hb dX11_finger_33 rfl (lv_at hl 3 rfl) ?_
        refine lv_if_lt (tgt := 42) hx hb dX11_finger_34 (by decide) (fun c_11 => ?_) (fun c_11 => ?_)
        · have k_11 : d.toInt < 0 := wk_lt c_11
          replace hF := hF.trans (if_pos c_11)
          refine lv_bipush (v := (-102)) hx hb dX11_finger_42 (by decide) ?_
          refine W.widen (k := 0) (n := 0) (by decide) (by decide) ?_
          exact hret (-102) (wk_number, wk_lane, wk_looks) _ _ _ 44 (wk_sub9 (is := [3, 4, 5, 0, 1, 2]) hP rfl) (hD.sub [3, 4, 5, 0, 1, 2] rfl rfl) hS dX11_finger_44 ⟨hF.symm, (show ((-1) ≤ wk_number.toInt ∧ wk_number.toInt ≤ 7) from by omega)⟩
        · have k_11 : ¬ d.toInt < 0 := wk_nlt c_11
          replace hF := hF.trans (if_neg c_11)
          refine lv_iload_n hx hb dX11_finger_37 rfl (lv_at hl 3 rfl) ?_
          refine lv_iconst (v := 1) hx hb dX11_finger_38 (by decide) ?_
          refine lv_icmp_le (tgt := 45) hx hb dX11_finger_39 (by decide) (fun c_12 => ?_) (fun c_12 => ?_)
          · have k_12 : d.toInt ≤ 1 := wk_le c_12
            replace hF := hF.trans (if_pos c_12)
            refine lv_aload_n hx hb dX11_finger_45 rfl (lv_at hl 0 rfl) ?_
            refine va_get (D := D) (ci := 11) (v := .ref wk) (C := RX11) (T := TX11) (N := 10) hx hb htb inX11 hown hK hP 3 rfl rfl 4 (by decide) (htb _ tw_256) (fun _ h9 => h9) rfl dX11_finger_46 ?_
            refine lv_aload_n hx hb dX11_finger_49 rfl (lv_at hl 0 rfl) ?_
            refine va_get (D := D) (ci := 11) (v := .ref nw) (C := RX11) (T := TX11) (N := 10) hx hb htb inX11 hown hK hP 3 rfl rfl 2 (by decide) (htb _ tw_254) (fun _ h9 => h9) rfl dX11_finger_50 ?_
            refine va_get (D := D) (ci := 2) (v := .ref nwf) (C := RX2) (T := TX2) (N := 6) hx hb htb inX2 hown hK hP 4 rfl rfl 0 (by decide) (htb _ tw_171) (fun _ h9 => h9) rfl dX11_finger_53 ?_
            refine lv_aload_n hx hb dX11_finger_56 rfl (lv_at hl 0 rfl) ?_
            refine va_get (D := D) (ci := 11) (v := .ref nw) (C := RX11) (T := TX11) (N := 10) hx hb htb inX11 hown hK hP 3 rfl rfl 2 (by decide) (htb _ tw_254) (fun _ h9 => h9) rfl dX11_finger_57 ?_
            refine va_get (D := D) (ci := 2) (v := .ref nwf) (C := RX2) (T := TX2) (N := 6) hx hb htb inX2 hown hK hP 4 rfl rfl 0 (by decide) (htb _ tw_171) (fun _ h9 => h9) rfl dX11_finger_60 ?_
            refine va_get (D := D) (ci := 8) (v := .ref nwfh) (C := RX8) (T := TX8) (N := 5) hx hb htb inX8 hown hK hP 5 rfl rfl 2 (by decide) (htb _ tw_125) (fun _ h9 => h9) rfl dX11_finger_63 ?_
            refine lv_iload_n hx hb dX11_finger_66 rfl (lv_at hl 1 rfl) ?_
            refine lv_iload_n hx hb dX11_finger_67 rfl (lv_at hl 2 rfl) ?_
            refine wk_vV (As := [.ref nwf, .ref nwfh, .int a, .int b]) (rest := []) (wc := [(wk, .inr (10, [.int wk_number, .int wk_lane, .int wk_looks])), (nwf, .inr (8, [.ref nwfk, .ref nwfv, .ref nwfh, .ref nwft, .int nwf_size])), (nwfk, .inl (cy, 8, .inl nwfk_a)), (nwfh, .inl (cy, 8, .inl nwfh_a))]) (wr := [(x, .inr (11, [.ref pg, .ref wr, .ref nw, .ref kp, .ref wk, .ref tr, lv, .int x_rowsRead, .int x_rowOfImage, .int x_bestsDone])), (nw, .inr (2, [.ref nwf, .ref nws, .ref nwe, .int nw_asked, .int nw_looksOfAsked, .int nw_changes]))]) (n := 4) ⟨hx, hb, hml, hown, htb⟩ (c_X10_go l D cy wk nwf nwfk nwfv nwfh nwft nwfh wk_number wk_lane wk_looks nwf_size nwfk_a nwfh_a a b (show (-1) ≤ wk_number.toInt ∧ wk_number.toInt ≤ 7 from by omega) (show 0 ≤ nwf_size.toInt ∧ nwf_size.toInt ≤ 8 from by omega)) tw_489 tw_486 tw_487 tw_488 tw_69 rfl rfl (by decide +kernel) ⟨Nat.le_of_ble_eq_true rfl, Nat.le_of_ble_eq_true rfl⟩ hK hP hD hS hA [2, 5, 0, 1] [3, 4] rfl rfl rfl rfl (by decide) 0 (ci := 10) rfl rfl rfl hl.1 rfl (Nat.le_of_ble_eq_true rfl) dX11_finger_68 ⟨Nat.le_of_ble_eq_true rfl, Nat.le_of_ble_eq_true rfl⟩ (fun u_14 H locs hw_15 hP hD hS => ?_)
            refine W.widen (k := 0) (n := 0) (by decide) (by decide) ?_
            obtain ⟨o_16, o_17, o_18⟩ := u_14
            obtain ⟨hw_15, k_19⟩ := hw_15
            have hw_15 : (o_16, o_17, o_18) = (fn_X10_go wk_number wk_lane wk_looks nwf_size nwfk_a nwfh_a a b) := hw_15
            have k_19 : ((-1) ≤ o_16.toInt ∧ o_16.toInt ≤ 7) := k_19
            rw [← hw_15] at hF
            rw [pm2_mk o_16 (o_17, o_18), pm2_mk o_17 o_18] at hF
            have hP : va_P D classes [(x, .inr (11, [.ref pg, .ref wr, .ref nw, .ref kp, .ref wk, .ref tr, lv, .int x_rowsRead, .int x_rowOfImage, .int x_bestsDone])), (nw, .inr (2, [.ref nwf, .ref nws, .ref nwe, .int nw_asked, .int nw_looksOfAsked, .int nw_changes])), (wk, .inr (10, [.int o_16, .int o_17, .int o_18])), (nwf, .inr (8, [.ref nwfk, .ref nwfv, .ref nwfh, .ref nwft, .int nwf_size])), (nwfk, .inl (cy, 8, .inl nwfk_a)), (nwfh, .inl (cy, 8, .inl nwfh_a))] H := hP
            have hD : va_D A [(x, .inr (11, [.ref pg, .ref wr, .ref nw, .ref kp, .ref wk, .ref tr, lv, .int x_rowsRead, .int x_rowOfImage, .int x_bestsDone])), (nw, .inr (2, [.ref nwf, .ref nws, .ref nwe, .int nw_asked, .int nw_looksOfAsked, .int nw_changes])), (wk, .inr (10, [.int o_16, .int o_17, .int o_18])), (nwf, .inr (8, [.ref nwfk, .ref nwfv, .ref nwfh, .ref nwft, .int nwf_size])), (nwfk, .inl (cy, 8, .inl nwfk_a)), (nwfh, .inl (cy, 8, .inl nwfh_a))] := hD
            refine lv_iload_n hx hb dX11_finger_71 rfl (lv_at hl 3 rfl) ?_
            refine lv_if_ne (tgt := 85) hx hb dX11_finger_72 (by decide) (fun c_20 => ?_) (fun c_20 => ?_)
            · have k_20 : ¬ d.toInt = 0 := wk_neq c_20
              replace hF := hF.trans (if_neg c_20)
              refine lv_aload_n hx hb dX11_finger_85 rfl (lv_at hl 0 rfl) ?_
              refine va_get (D := D) (ci := 11) (v := .ref wk) (C := RX11) (T := TX11) (N := 10) hx hb htb inX11 hown hK hP 0 rfl rfl 4 (by decide) (htb _ tw_256) (fun _ h9 => h9) rfl dX11_finger_86 ?_
              refine va_get (D := D) (ci := 10) (v := .int o_18) (C := RX10) (T := TX10) (N := 3) hx hb htb inX10 hown hK hP 2 rfl rfl 2 (by decide) (htb _ tw_207) (fun _ h9 => h9) rfl dX11_finger_89 ?_
              refine W.widen (k := 0) (n := 0) (by decide) (by decide) ?_
              exact hret o_18 (o_16, o_17, o_18) _ _ _ 92 (wk_sub9 (is := [0, 1, 3, 4, 5, 2]) hP rfl) (hD.sub [0, 1, 3, 4, 5, 2] rfl rfl) hS dX11_finger_92 ⟨hF.symm, (show ((-1) ≤ o_16.toInt ∧ o_16.toInt ≤ 7) from by omega)⟩
            · have k_20 : d.toInt = 0 := wk_eq c_20
              replace hF := hF.trans (if_pos c_20)
              refine lv_aload_n hx hb dX11_finger_75 rfl (lv_at hl 0 rfl) ?_
              refine va_get (D := D) (ci := 11) (v := .ref wk) (C := RX11) (T := TX11) (N := 10) hx hb htb inX11 hown hK hP 0 rfl rfl 4 (by decide) (htb _ tw_256) (fun _ h9 => h9) rfl dX11_finger_76 ?_
              refine va_get (D := D) (ci := 10) (v := .int o_16) (C := RX10) (T := TX10) (N := 3) hx hb htb inX10 hown hK hP 2 rfl rfl 0 (by decide) (htb _ tw_202) (fun _ h9 => h9) rfl dX11_finger_79 ?_
              refine lv_goto (tgt := 92) hx hb dX11_finger_82 (by decide) ?_
              refine W.widen (k := 0) (n := 0) (by decide) (by decide) ?_
              exact hret o_16 (o_16, o_17, o_18) _ _ _ 92 (wk_sub9 (is := [0, 1, 3, 4, 5, 2]) hP rfl) (hD.sub [0, 1, 3, 4, 5, 2] rfl rfl) hS dX11_finger_92 ⟨hF.symm, (show ((-1) ≤ o_16.toInt ∧ o_16.toInt ≤ 7) from by omega)⟩
          · have k_12 : ¬ d.toInt ≤ 1 := wk_nle c_12
            replace hF := hF.trans (if_neg c_12)
            refine lv_bipush (v := (-102)) hx hb dX11_finger_42 (by decide) ?_
            refine W.widen (k := 0) (n := 0) (by decide) (by decide) ?_
            exact hret (-102) (wk_number, wk_lane, wk_looks) _ _ _ 44 (wk_sub9 (is := [3, 4, 5, 0, 1, 2]) hP rfl) (hD.sub [3, 4, 5, 0, 1, 2] rfl rfl) hS dX11_finger_44 ⟨hF.symm, (show ((-1) ≤ wk_number.toInt ∧ wk_number.toInt ≤ 7) from by omega)⟩
  · have k_7 : ¬ (fn_X11_namesNoKey nwf_size a).toInt = 0 := wk_neq c_7
    replace hF := hF.trans (if_neg c_7)
    refine lv_bipush (v := (-101)) hx hb dX11_finger_8 (by decide) ?_
    refine W.widen (k := 0) (n := 0) (by decide) (by decide) ?_
    exact hret (-101) (wk_number, wk_lane, wk_looks) _ _ _ 10 (wk_sub9 (is := [3, 4, 5, 0, 1, 2]) hP rfl) (hD.sub [3, 4, 5, 0, 1, 2] rfl rfl) hS dX11_finger_10 ⟨hF.symm, (show ((-1) ≤ wk_number.toInt ∧ wk_number.toInt ≤ 7) from by omega)⟩
def fn_X11_see (nwf_size : Int32) (nwfk_a : Nat → Int32) (nwe_size : Int32) (nwea_a : Nat → Int32) (nweb_a : Nat → Int32) (nwec_a : Nat → Int32) (a : Int32) (b : Int32) (d : Int32) : Int32 × Int32 × (Nat → Int32) × (Nat → Int32) × (Nat → Int32) := (if (fn_X11_namesNoKey nwf_size a) = 0 then (if (fn_X11_isNoKey b) = 0 then (if d < 0 then ((-102), nwe_size, nwea_a, nweb_a, nwec_a) else (if d ≤ 99 then (if nwe_size < 6 then (pm2 (fn_X4_add nwe_size nwea_a nweb_a nwec_a (nwfk_a a.toNatClampNeg) b d) (fun r_18 t_ => (pm2 (t_) (fun o_21 t_ => (pm2 (t_) (fun o_22 t_ => (pm2 (t_) (fun o_23 o_24 => (r_18, o_21, o_22, o_23, o_24))))))))) else ((-104), nwe_size, nwea_a, nweb_a, nwec_a)) else ((-102), nwe_size, nwea_a, nweb_a, nwec_a))) else ((-102), nwe_size, nwea_a, nweb_a, nwec_a)) else ((-101), nwe_size, nwea_a, nweb_a, nwec_a))
theorem dX11_see_0 : decode cX11_see 0 = .ok (.aload_n 0, 1) := by decide +kernel
theorem dX11_see_1 : decode cX11_see 1 = .ok (.iload_n 1, 1) := by decide +kernel
theorem dX11_see_2 : decode cX11_see 2 = .ok (.invokevirtual 102, 3) := by decide +kernel
theorem dX11_see_5 : decode cX11_see 5 = .ok (.ifCond .eq 6, 3) := by decide +kernel
theorem dX11_see_8 : decode cX11_see 8 = .ok (.bipush (-101), 2) := by decide +kernel
theorem dX11_see_10 : decode cX11_see 10 = .ok (.ireturn, 1) := by decide +kernel
theorem dX11_see_11 : decode cX11_see 11 = .ok (.iload_n 2, 1) := by decide +kernel
theorem dX11_see_12 : decode cX11_see 12 = .ok (.invokestatic 147, 3) := by decide +kernel
theorem dX11_see_15 : decode cX11_see 15 = .ok (.ifCond .ne 13, 3) := by decide +kernel
theorem dX11_see_18 : decode cX11_see 18 = .ok (.iload_n 3, 1) := by decide +kernel
theorem dX11_see_19 : decode cX11_see 19 = .ok (.ifCond .lt 9, 3) := by decide +kernel
theorem dX11_see_22 : decode cX11_see 22 = .ok (.iload_n 3, 1) := by decide +kernel
theorem dX11_see_23 : decode cX11_see 23 = .ok (.bipush 99, 2) := by decide +kernel
theorem dX11_see_25 : decode cX11_see 25 = .ok (.if_icmp .le 6, 3) := by decide +kernel
theorem dX11_see_28 : decode cX11_see 28 = .ok (.bipush (-102), 2) := by decide +kernel
theorem dX11_see_30 : decode cX11_see 30 = .ok (.ireturn, 1) := by decide +kernel
theorem dX11_see_31 : decode cX11_see 31 = .ok (.aload_n 0, 1) := by decide +kernel
theorem dX11_see_32 : decode cX11_see 32 = .ok (.getfield 22, 3) := by decide +kernel
theorem dX11_see_35 : decode cX11_see 35 = .ok (.getfield 123, 3) := by decide +kernel
theorem dX11_see_38 : decode cX11_see 38 = .ok (.getfield 231, 3) := by decide +kernel
theorem dX11_see_41 : decode cX11_see 41 = .ok (.bipush 6, 2) := by decide +kernel
theorem dX11_see_43 : decode cX11_see 43 = .ok (.if_icmp .lt 6, 3) := by decide +kernel
theorem dX11_see_46 : decode cX11_see 46 = .ok (.bipush (-104), 2) := by decide +kernel
theorem dX11_see_48 : decode cX11_see 48 = .ok (.ireturn, 1) := by decide +kernel
theorem dX11_see_49 : decode cX11_see 49 = .ok (.aload_n 0, 1) := by decide +kernel
theorem dX11_see_50 : decode cX11_see 50 = .ok (.getfield 22, 3) := by decide +kernel
theorem dX11_see_53 : decode cX11_see 53 = .ok (.getfield 123, 3) := by decide +kernel
theorem dX11_see_56 : decode cX11_see 56 = .ok (.aload_n 0, 1) := by decide +kernel
theorem dX11_see_57 : decode cX11_see 57 = .ok (.getfield 22, 3) := by decide +kernel
theorem dX11_see_60 : decode cX11_see 60 = .ok (.getfield 77, 3) := by decide +kernel
theorem dX11_see_63 : decode cX11_see 63 = .ok (.getfield 105, 3) := by decide +kernel
theorem dX11_see_66 : decode cX11_see 66 = .ok (.iload_n 1, 1) := by decide +kernel
theorem dX11_see_67 : decode cX11_see 67 = .ok (.iaload, 1) := by decide +kernel
theorem dX11_see_68 : decode cX11_see 68 = .ok (.iload_n 2, 1) := by decide +kernel
theorem dX11_see_69 : decode cX11_see 69 = .ok (.iload_n 3, 1) := by decide +kernel
theorem dX11_see_70 : decode cX11_see 70 = .ok (.invokevirtual 234, 3) := by decide +kernel
theorem dX11_see_73 : decode cX11_see 73 = .ok (.ireturn, 1) := by decide +kernel
set_option maxHeartbeats 4000000 in
set_option maxRecDepth 100000 in
theorem c_X11_see (l : Launch) (D : va_G) (cy : ClassId) (x pg wr nw kp wk tr nwf nws nwe nwfk nwfv nwfh nwft nwea nweb nwec : Nat) (lv : Value) (x_rowsRead : Int32) (x_rowOfImage : Int32) (x_bestsDone : Int32) (nw_asked : Int32) (nw_looksOfAsked : Int32) (nw_changes : Int32) (nwf_size : Int32) (nwfk_a : Nat → Int32) (nwe_size : Int32) (nwea_a : Nat → Int32) (nweb_a : Nat → Int32) (nwec_a : Nat → Int32) (a : Int32) (b : Int32) (d : Int32) (g_0 : 0 ≤ nwf_size.toInt ∧ nwf_size.toInt ≤ 8) (g_1 : 0 ≤ nwe_size.toInt ∧ nwe_size.toInt ≤ 6) : wk_Ci l yX11_see cX11_see 4 (some .int) { frames := 1, cells := 0, slots := 0, locals := 23 } D cy [.ref x, .int a, .int b, .int d] [(x, .inr (11, [.ref pg, .ref wr, .ref nw, .ref kp, .ref wk, .ref tr, lv, .int x_rowsRead, .int x_rowOfImage, .int x_bestsDone])), (nw, .inr (2, [.ref nwf, .ref nws, .ref nwe, .int nw_asked, .int nw_looksOfAsked, .int nw_changes])), (nwf, .inr (8, [.ref nwfk, .ref nwfv, .ref nwfh, .ref nwft, .int nwf_size])), (nwfk, .inl (cy, 8, .inl nwfk_a)), (nwe, .inr (4, [.ref nwea, .ref nweb, .ref nwec, .int nwe_size])), (nwea, .inl (cy, 6, .inl nwea_a)), (nweb, .inl (cy, 6, .inl nweb_a)), (nwec, .inl (cy, 6, .inl nwec_a))] 0 0 (fun (r : Int32) (u : Int32 × (Nat → Int32) × (Nat → Int32) × (Nat → Int32)) => (r, u) = (fn_X11_see nwf_size nwfk_a nwe_size nwea_a nweb_a nwec_a a b d) ∧ (0 ≤ u.1.toInt ∧ u.1.toInt ≤ 6)) (fun u => [(x, .inr (11, [.ref pg, .ref wr, .ref nw, .ref kp, .ref wk, .ref tr, lv, .int x_rowsRead, .int x_rowOfImage, .int x_bestsDone])), (nw, .inr (2, [.ref nwf, .ref nws, .ref nwe, .int nw_asked, .int nw_looksOfAsked, .int nw_changes])), (nwf, .inr (8, [.ref nwfk, .ref nwfv, .ref nwfh, .ref nwft, .int nwf_size])), (nwfk, .inl (cy, 8, .inl nwfk_a)), (nwe, .inr (4, [.ref nwea, .ref nweb, .ref nwec, .int u.1])), (nwea, .inl (cy, 6, .inl u.2.1)), (nweb, .inl (cy, 6, .inl u.2.2.1)), (nwec, .inl (cy, 6, .inl u.2.2.2))]) := by
  refine wk_mk2Ci (by decide) (Nat.le_of_ble_eq_true rfl) ?_
  intro p e s m args below meth c A ls Q B hA hK hP hD hS hl hret
  obtain ⟨hx, hb, hr, hlocks, hml, hown, htb, hin⟩ := B
  have hl : lv_has ls 4 [(0, .ref x), (1, .int a), (2, .int b), (3, .int d)] := hl
  have hF : (fn_X11_see nwf_size nwfk_a nwe_size nwea_a nweb_a nwec_a a b d) = (fn_X11_see nwf_size nwfk_a nwe_size nwea_a nweb_a nwec_a a b d) := rfl
  conv at hF => rhs; unfold fn_X11_see
  refine lv_aload_n hx hb dX11_see_0 rfl (lv_at hl 0 rfl) ?_
  refine lv_iload_n hx hb dX11_see_1 rfl (lv_at hl 1 rfl) ?_
  refine wk_iV (As := [.int a]) (rest := []) (wc := [(x, .inr (11, [.ref pg, .ref wr, .ref nw, .ref kp, .ref wk, .ref tr, lv, .int x_rowsRead, .int x_rowOfImage, .int x_bestsDone])), (nw, .inr (2, [.ref nwf, .ref nws, .ref nwe, .int nw_asked, .int nw_looksOfAsked, .int nw_changes])), (nwf, .inr (8, [.ref nwfk, .ref nwfv, .ref nwfh, .ref nwft, .int nwf_size]))]) (wr := [(nwfk, .inl (cy, 8, .inl nwfk_a)), (nwe, .inr (4, [.ref nwea, .ref nweb, .ref nwec, .int nwe_size])), (nwea, .inl (cy, 6, .inl nwea_a)), (nweb, .inl (cy, 6, .inl nweb_a)), (nwec, .inl (cy, 6, .inl nwec_a))]) (n := 1) ⟨hx, hb, hml, hown, htb⟩ (c_X11_namesNoKey l D cy x pg wr nw kp wk tr nwf nws nwe nwfk nwfv nwfh nwft (lv) x_rowsRead x_rowOfImage x_bestsDone nw_asked nw_looksOfAsked nw_changes nwf_size a (show 0 ≤ nwf_size.toInt ∧ nwf_size.toInt ≤ 8 from by omega)) tw_481 tw_478 tw_480 tw_7 tw_64 rfl rfl (by decide +kernel) ⟨Nat.le_of_ble_eq_true rfl, Nat.le_of_ble_eq_true rfl⟩ hK hP hD hS hA [0, 1, 2] [3, 4, 5, 6, 7] rfl rfl rfl rfl (by decide) 0 (ci := 11) rfl rfl rfl hl.1 rfl (Nat.le_of_ble_eq_true rfl) dX11_see_2 ⟨Nat.le_of_ble_eq_true rfl, Nat.le_of_ble_eq_true rfl⟩ (fun r_1 u_2 H locs hw_3 hP hD hS => ?_)
  refine W.widen (k := 0) (n := 0) (by decide) (by decide) ?_
  obtain ⟨hw_3, k_4, k_5⟩ := hw_3
  have hw_3 : r_1 = (fn_X11_namesNoKey nwf_size a) := hw_3
  subst hw_3
  have k_4 : ((fn_X11_namesNoKey nwf_size a) = 0 ∨ (fn_X11_namesNoKey nwf_size a) = 1) := k_4
  have k_5 : (wk_or ((fn_X11_namesNoKey nwf_size a).toInt = 1) (0 ≤ a.toInt ∧ a.toInt < nwf_size.toInt)) := k_5
  have k_6 : 0 ≤ (fn_X11_namesNoKey nwf_size a).toInt ∧ (fn_X11_namesNoKey nwf_size a).toInt ≤ 1 := wk_b01 (by assumption)
  have hP : va_P D classes [(nwfk, .inl (cy, 8, .inl nwfk_a)), (nwe, .inr (4, [.ref nwea, .ref nweb, .ref nwec, .int nwe_size])), (nwea, .inl (cy, 6, .inl nwea_a)), (nweb, .inl (cy, 6, .inl nweb_a)), (nwec, .inl (cy, 6, .inl nwec_a)), (x, .inr (11, [.ref pg, .ref wr, .ref nw, .ref kp, .ref wk, .ref tr, lv, .int x_rowsRead, .int x_rowOfImage, .int x_bestsDone])), (nw, .inr (2, [.ref nwf, .ref nws, .ref nwe, .int nw_asked, .int nw_looksOfAsked, .int nw_changes])), (nwf, .inr (8, [.ref nwfk, .ref nwfv, .ref nwfh, .ref nwft, .int nwf_size]))] H := hP
  have hD : va_D A [(nwfk, .inl (cy, 8, .inl nwfk_a)), (nwe, .inr (4, [.ref nwea, .ref nweb, .ref nwec, .int nwe_size])), (nwea, .inl (cy, 6, .inl nwea_a)), (nweb, .inl (cy, 6, .inl nweb_a)), (nwec, .inl (cy, 6, .inl nwec_a)), (x, .inr (11, [.ref pg, .ref wr, .ref nw, .ref kp, .ref wk, .ref tr, lv, .int x_rowsRead, .int x_rowOfImage, .int x_bestsDone])), (nw, .inr (2, [.ref nwf, .ref nws, .ref nwe, .int nw_asked, .int nw_looksOfAsked, .int nw_changes])), (nwf, .inr (8, [.ref nwfk, .ref nwfv, .ref nwfh, .ref nwft, .int nwf_size]))] := hD
  refine lv_if_eq (tgt := 11) hx hb dX11_see_5 (by decide) (fun c_7 => ?_) (fun c_7 => ?_)
  · have k_7 : (fn_X11_namesNoKey nwf_size a).toInt = 0 := wk_eq c_7
    have k_8 : 0 ≤ a.toInt ∧ a.toInt < nwf_size.toInt := wk_orR k_5 (by rw [k_7]; decide)
    replace hF := hF.trans (if_pos c_7)
    refine lv_iload_n hx hb dX11_see_11 rfl (lv_at hl 2 rfl) ?_
    refine wk_iS (As := [.int b]) (rest := []) (wc := []) (wr := [(nwfk, .inl (cy, 8, .inl nwfk_a)), (nwe, .inr (4, [.ref nwea, .ref nweb, .ref nwec, .int nwe_size])), (nwea, .inl (cy, 6, .inl nwea_a)), (nweb, .inl (cy, 6, .inl nweb_a)), (nwec, .inl (cy, 6, .inl nwec_a)), (x, .inr (11, [.ref pg, .ref wr, .ref nw, .ref kp, .ref wk, .ref tr, lv, .int x_rowsRead, .int x_rowOfImage, .int x_bestsDone])), (nw, .inr (2, [.ref nwf, .ref nws, .ref nwe, .int nw_asked, .int nw_looksOfAsked, .int nw_changes])), (nwf, .inr (8, [.ref nwfk, .ref nwfv, .ref nwfh, .ref nwft, .int nwf_size]))]) (n := 1) ⟨hx, hb, hml, hown, htb⟩ (c_X11_isNoKey l D cy   b ) tw_563 tw_561 tw_562 tw_64 rfl rfl (by decide +kernel) ⟨Nat.le_of_ble_eq_true rfl, Nat.le_of_ble_eq_true rfl⟩ hK hP hD hS hA [] [0, 1, 2, 3, 4, 5, 6, 7] rfl rfl rfl rfl (by decide) rfl hl.1 rfl (Nat.le_of_ble_eq_true rfl) dX11_see_12 ⟨Nat.le_of_ble_eq_true rfl, Nat.le_of_ble_eq_true rfl⟩ (fun r_9 u_10 H locs hw_11 hP hD hS => ?_)
    refine W.widen (k := 0) (n := 0) (by decide) (by decide) ?_
    obtain ⟨hw_11, k_12, k_13⟩ := hw_11
    have hw_11 : r_9 = (fn_X11_isNoKey b) := hw_11
    subst hw_11
    have k_12 : ((fn_X11_isNoKey b) = 0 ∨ (fn_X11_isNoKey b) = 1) := k_12
    have k_13 : (wk_or ((fn_X11_isNoKey b).toInt = 1) (0 ≤ b.toInt ∧ b.toInt ≤ 99)) := k_13
    have k_14 : 0 ≤ (fn_X11_isNoKey b).toInt ∧ (fn_X11_isNoKey b).toInt ≤ 1 := wk_b01 (by assumption)
    have hP : va_P D classes [(nwfk, .inl (cy, 8, .inl nwfk_a)), (nwe, .inr (4, [.ref nwea, .ref nweb, .ref nwec, .int nwe_size])), (nwea, .inl (cy, 6, .inl nwea_a)), (nweb, .inl (cy, 6, .inl nweb_a)), (nwec, .inl (cy, 6, .inl nwec_a)), (x, .inr (11, [.ref pg, .ref wr, .ref nw, .ref kp, .ref wk, .ref tr, lv, .int x_rowsRead, .int x_rowOfImage, .int x_bestsDone])), (nw, .inr (2, [.ref nwf, .ref nws, .ref nwe, .int nw_asked, .int nw_looksOfAsked, .int nw_changes])), (nwf, .inr (8, [.ref nwfk, .ref nwfv, .ref nwfh, .ref nwft, .int nwf_size]))] H := hP
    have hD : va_D A [(nwfk, .inl (cy, 8, .inl nwfk_a)), (nwe, .inr (4, [.ref nwea, .ref nweb, .ref nwec, .int nwe_size])), (nwea, .inl (cy, 6, .inl nwea_a)), (nweb, .inl (cy, 6, .inl nweb_a)), (nwec, .inl (cy, 6, .inl nwec_a)), (x, .inr (11, [.ref pg, .ref wr, .ref nw, .ref kp, .ref wk, .ref tr, lv, .int x_rowsRead, .int x_rowOfImage, .int x_bestsDone])), (nw, .inr (2, [.ref nwf, .ref nws, .ref nwe, .int nw_asked, .int nw_looksOfAsked, .int nw_changes])), (nwf, .inr (8, [.ref nwfk, .ref nwfv, .ref nwfh, .ref nwft, .int nwf_size]))] := hD
    refine lv_if_ne (tgt := 28) hx hb dX11_see_15 (by decide) (fun c_15 => ?_) (fun c_15 => ?_)
    · have k_15 : ¬ (fn_X11_isNoKey b).toInt = 0 := wk_neq c_15
      replace hF := hF.trans (if_neg c_15)
      refine lv_bipush (v := (-102)) hx hb dX11_see_28 (by decide) ?_
      refine W.widen (k := 0) (n := 0) (by decide) (by decide) ?_
      exact hret (-102) (nwe_size, nwea_a, nweb_a, nwec_a) _ _ _ 30 (wk_sub9 (is := [5, 6, 7, 0, 1, 2, 3, 4]) hP rfl) (hD.sub [5, 6, 7, 0, 1, 2, 3, 4] rfl rfl) hS dX11_see_30 ⟨hF.symm, (show (0 ≤ nwe_size.toInt ∧ nwe_size.toInt ≤ 6) from by omega)⟩
    · have k_15 : (fn_X11_isNoKey b).toInt = 0 := wk_eq c_15
      have k_16 : 0 ≤ b.toInt ∧ b.toInt ≤ 99 := wk_orR k_13 (by rw [k_15]; decide)
      replace hF := hF.trans (if_pos c_15)
      refine lv_iload_n hx hb dX11_see_18 rfl (lv_at hl 3 rfl) ?_
      refine lv_if_lt (tgt := 28) hx hb dX11_see_19 (by decide) (fun c_17 => ?_) (fun c_17 => ?_)
      · have k_17 : d.toInt < 0 := wk_lt c_17
        replace hF := hF.trans (if_pos c_17)
        refine lv_bipush (v := (-102)) hx hb dX11_see_28 (by decide) ?_
        refine W.widen (k := 0) (n := 0) (by decide) (by decide) ?_
        exact hret (-102) (nwe_size, nwea_a, nweb_a, nwec_a) _ _ _ 30 (wk_sub9 (is := [5, 6, 7, 0, 1, 2, 3, 4]) hP rfl) (hD.sub [5, 6, 7, 0, 1, 2, 3, 4] rfl rfl) hS dX11_see_30 ⟨hF.symm, (show (0 ≤ nwe_size.toInt ∧ nwe_size.toInt ≤ 6) from by omega)⟩
      · have k_17 : ¬ d.toInt < 0 := wk_nlt c_17
        replace hF := hF.trans (if_neg c_17)
        refine lv_iload_n hx hb dX11_see_22 rfl (lv_at hl 3 rfl) ?_
        refine lv_bipush (v := 99) hx hb dX11_see_23 (by decide) ?_
        refine lv_icmp_le (tgt := 31) hx hb dX11_see_25 (by decide) (fun c_18 => ?_) (fun c_18 => ?_)
        · have k_18 : d.toInt ≤ 99 := wk_le c_18
          replace hF := hF.trans (if_pos c_18)
          refine lv_aload_n hx hb dX11_see_31 rfl (lv_at hl 0 rfl) ?_
          refine va_get (D := D) (ci := 11) (v := .ref nw) (C := RX11) (T := TX11) (N := 10) hx hb htb inX11 hown hK hP 5 rfl rfl 2 (by decide) (htb _ tw_254) (fun _ h9 => h9) rfl dX11_see_32 ?_
          refine va_get (D := D) (ci := 2) (v := .ref nwe) (C := RX2) (T := TX2) (N := 6) hx hb htb inX2 hown hK hP 6 rfl rfl 2 (by decide) (htb _ tw_175) (fun _ h9 => h9) rfl dX11_see_35 ?_
          refine va_get (D := D) (ci := 4) (v := .int nwe_size) (C := RX4) (T := TX4) (N := 4) hx hb htb inX4 hown hK hP 1 rfl rfl 3 (by decide) (htb _ tw_160) (fun _ h9 => h9) rfl dX11_see_38 ?_
          refine lv_bipush (v := 6) hx hb dX11_see_41 (by decide) ?_
          refine lv_icmp_lt (tgt := 49) hx hb dX11_see_43 (by decide) (fun c_19 => ?_) (fun c_19 => ?_)
          · have k_19 : nwe_size.toInt < 6 := wk_lt c_19
            replace hF := hF.trans (if_pos c_19)
            refine lv_aload_n hx hb dX11_see_49 rfl (lv_at hl 0 rfl) ?_
            refine va_get (D := D) (ci := 11) (v := .ref nw) (C := RX11) (T := TX11) (N := 10) hx hb htb inX11 hown hK hP 5 rfl rfl 2 (by decide) (htb _ tw_254) (fun _ h9 => h9) rfl dX11_see_50 ?_
            refine va_get (D := D) (ci := 2) (v := .ref nwe) (C := RX2) (T := TX2) (N := 6) hx hb htb inX2 hown hK hP 6 rfl rfl 2 (by decide) (htb _ tw_175) (fun _ h9 => h9) rfl dX11_see_53 ?_
            refine lv_aload_n hx hb dX11_see_56 rfl (lv_at hl 0 rfl) ?_
            refine va_get (D := D) (ci := 11) (v := .ref nw) (C := RX11) (T := TX11) (N := 10) hx hb htb inX11 hown hK hP 5 rfl rfl 2 (by decide) (htb _ tw_254) (fun _ h9 => h9) rfl dX11_see_57 ?_
            refine va_get (D := D) (ci := 2) (v := .ref nwf) (C := RX2) (T := TX2) (N := 6) hx hb htb inX2 hown hK hP 6 rfl rfl 0 (by decide) (htb _ tw_171) (fun _ h9 => h9) rfl dX11_see_60 ?_
            refine va_get (D := D) (ci := 8) (v := .ref nwfk) (C := RX8) (T := TX8) (N := 5) hx hb htb inX8 hown hK hP 7 rfl rfl 0 (by decide) (htb _ tw_118) (fun _ h9 => h9) rfl dX11_see_63 ?_
            refine lv_iload_n hx hb dX11_see_66 rfl (lv_at hl 1 rfl) ?_
            refine va_iald hx hb hK hP 0 0 rfl rfl (show vp_in a 8 from vp_in_iff.mpr (show 0 ≤ a.toInt ∧ a.toInt < ((8 : Nat) : Int) from by omega)) dX11_see_67 ?_
            refine lv_iload_n hx hb dX11_see_68 rfl (lv_at hl 2 rfl) ?_
            refine lv_iload_n hx hb dX11_see_69 rfl (lv_at hl 3 rfl) ?_
            refine wk_iV (As := [.int (nwfk_a a.toNatClampNeg), .int b, .int d]) (rest := []) (wc := [(nwe, .inr (4, [.ref nwea, .ref nweb, .ref nwec, .int nwe_size])), (nwea, .inl (cy, 6, .inl nwea_a)), (nweb, .inl (cy, 6, .inl nweb_a)), (nwec, .inl (cy, 6, .inl nwec_a))]) (wr := [(nwfk, .inl (cy, 8, .inl nwfk_a)), (x, .inr (11, [.ref pg, .ref wr, .ref nw, .ref kp, .ref wk, .ref tr, lv, .int x_rowsRead, .int x_rowOfImage, .int x_bestsDone])), (nw, .inr (2, [.ref nwf, .ref nws, .ref nwe, .int nw_asked, .int nw_looksOfAsked, .int nw_changes])), (nwf, .inr (8, [.ref nwfk, .ref nwfv, .ref nwfh, .ref nwft, .int nwf_size]))]) (n := 3) ⟨hx, hb, hml, hown, htb⟩ (c_X4_add l D cy nwe nwea nweb nwec nwe_size nwea_a nweb_a nwec_a (nwfk_a a.toNatClampNeg) b d (show 0 ≤ nwe_size.toInt ∧ nwe_size.toInt ≤ 6 from by omega)) tw_682 tw_679 tw_680 tw_681 tw_68 rfl rfl (by decide +kernel) ⟨Nat.le_of_ble_eq_true rfl, Nat.le_of_ble_eq_true rfl⟩ hK hP hD hS hA [1, 2, 3, 4] [0, 5, 6, 7] rfl rfl rfl rfl (by decide) 0 (ci := 4) rfl rfl rfl hl.1 rfl (Nat.le_of_ble_eq_true rfl) dX11_see_70 ⟨Nat.le_of_ble_eq_true rfl, Nat.le_of_ble_eq_true rfl⟩ (fun r_20 u_21 H locs hw_22 hP hD hS => ?_)
            refine W.widen (k := 0) (n := 0) (by decide) (by decide) ?_
            obtain ⟨o_23, o_24, o_25, o_26⟩ := u_21
            obtain ⟨hw_22, k_27⟩ := hw_22
            have hw_22 : (r_20, o_23, o_24, o_25, o_26) = (fn_X4_add nwe_size nwea_a nweb_a nwec_a (nwfk_a a.toNatClampNeg) b d) := hw_22
            have k_27 : (0 ≤ o_23.toInt ∧ o_23.toInt ≤ 6) := k_27
            rw [← hw_22] at hF
            rw [pm2_mk r_20 (o_23, o_24, o_25, o_26), pm2_mk o_23 (o_24, o_25, o_26), pm2_mk o_24 (o_25, o_26), pm2_mk o_25 o_26] at hF
            have hP : va_P D classes [(nwfk, .inl (cy, 8, .inl nwfk_a)), (x, .inr (11, [.ref pg, .ref wr, .ref nw, .ref kp, .ref wk, .ref tr, lv, .int x_rowsRead, .int x_rowOfImage, .int x_bestsDone])), (nw, .inr (2, [.ref nwf, .ref nws, .ref nwe, .int nw_asked, .int nw_looksOfAsked, .int nw_changes])), (nwf, .inr (8, [.ref nwfk, .ref nwfv, .ref nwfh, .ref nwft, .int nwf_size])), (nwe, .inr (4, [.ref nwea, .ref nweb, .ref nwec, .int o_23])), (nwea, .inl (cy, 6, .inl o_24)), (nweb, .inl (cy, 6, .inl o_25)), (nwec, .inl (cy, 6, .inl o_26))] H := hP
            have hD : va_D A [(nwfk, .inl (cy, 8, .inl nwfk_a)), (x, .inr (11, [.ref pg, .ref wr, .ref nw, .ref kp, .ref wk, .ref tr, lv, .int x_rowsRead, .int x_rowOfImage, .int x_bestsDone])), (nw, .inr (2, [.ref nwf, .ref nws, .ref nwe, .int nw_asked, .int nw_looksOfAsked, .int nw_changes])), (nwf, .inr (8, [.ref nwfk, .ref nwfv, .ref nwfh, .ref nwft, .int nwf_size])), (nwe, .inr (4, [.ref nwea, .ref nweb, .ref nwec, .int o_23])), (nwea, .inl (cy, 6, .inl o_24)), (nweb, .inl (cy, 6, .inl o_25)), (nwec, .inl (cy, 6, .inl o_26))] := hD
            refine W.widen (k := 0) (n := 0) (by decide) (by decide) ?_
            exact hret r_20 (o_23, o_24, o_25, o_26) _ _ _ 73 (wk_sub9 (is := [1, 2, 3, 0, 4, 5, 6, 7]) hP rfl) (hD.sub [1, 2, 3, 0, 4, 5, 6, 7] rfl rfl) hS dX11_see_73 ⟨hF.symm, (show (0 ≤ o_23.toInt ∧ o_23.toInt ≤ 6) from by omega)⟩
          · have k_19 : ¬ nwe_size.toInt < 6 := wk_nlt c_19
            replace hF := hF.trans (if_neg c_19)
            refine lv_bipush (v := (-104)) hx hb dX11_see_46 (by decide) ?_
            refine W.widen (k := 0) (n := 0) (by decide) (by decide) ?_
            exact hret (-104) (nwe_size, nwea_a, nweb_a, nwec_a) _ _ _ 48 (wk_sub9 (is := [5, 6, 7, 0, 1, 2, 3, 4]) hP rfl) (hD.sub [5, 6, 7, 0, 1, 2, 3, 4] rfl rfl) hS dX11_see_48 ⟨hF.symm, (show (0 ≤ nwe_size.toInt ∧ nwe_size.toInt ≤ 6) from by omega)⟩
        · have k_18 : ¬ d.toInt ≤ 99 := wk_nle c_18
          replace hF := hF.trans (if_neg c_18)
          refine lv_bipush (v := (-102)) hx hb dX11_see_28 (by decide) ?_
          refine W.widen (k := 0) (n := 0) (by decide) (by decide) ?_
          exact hret (-102) (nwe_size, nwea_a, nweb_a, nwec_a) _ _ _ 30 (wk_sub9 (is := [5, 6, 7, 0, 1, 2, 3, 4]) hP rfl) (hD.sub [5, 6, 7, 0, 1, 2, 3, 4] rfl rfl) hS dX11_see_30 ⟨hF.symm, (show (0 ≤ nwe_size.toInt ∧ nwe_size.toInt ≤ 6) from by omega)⟩
  · have k_7 : ¬ (fn_X11_namesNoKey nwf_size a).toInt = 0 := wk_neq c_7
    replace hF := hF.trans (if_neg c_7)
    refine lv_bipush (v := (-101)) hx hb dX11_see_8 (by decide) ?_
    refine W.widen (k := 0) (n := 0) (by decide) (by decide) ?_
    exact hret (-101) (nwe_size, nwea_a, nweb_a, nwec_a) _ _ _ 10 (wk_sub9 (is := [5, 6, 7, 0, 1, 2, 3, 4]) hP rfl) (hD.sub [5, 6, 7, 0, 1, 2, 3, 4] rfl rfl) hS dX11_see_10 ⟨hF.symm, (show (0 ≤ nwe_size.toInt ∧ nwe_size.toInt ≤ 6) from by omega)⟩
def fn_X11_forget (nwe_size : Int32) : Int32 × Int32 := (pm2 (fn_X4_clear nwe_size) (fun r_1 o_4 => (r_1, o_4)))
theorem dX11_forget_0 : decode cX11_forget 0 = .ok (.aload_n 0, 1) := by decide +kernel
theorem dX11_forget_1 : decode cX11_forget 1 = .ok (.getfield 22, 3) := by decide +kernel
theorem dX11_forget_4 : decode cX11_forget 4 = .ok (.getfield 123, 3) := by decide +kernel
theorem dX11_forget_7 : decode cX11_forget 7 = .ok (.invokevirtual 237, 3) := by decide +kernel
theorem dX11_forget_10 : decode cX11_forget 10 = .ok (.ireturn, 1) := by decide +kernel
set_option maxHeartbeats 4000000 in
set_option maxRecDepth 100000 in
theorem c_X11_forget (l : Launch) (D : va_G) (cy : ClassId) (x pg wr nw kp wk tr nwf nws nwe nwea nweb nwec : Nat) (lv : Value) (x_rowsRead : Int32) (x_rowOfImage : Int32) (x_bestsDone : Int32) (nw_asked : Int32) (nw_looksOfAsked : Int32) (nw_changes : Int32) (nwe_size : Int32)  (g_0 : 0 ≤ nwe_size.toInt ∧ nwe_size.toInt ≤ 6) : wk_Ci l yX11_forget cX11_forget 1 (some .int) { frames := 1, cells := 0, slots := 0, locals := 21 } D cy [.ref x] [(x, .inr (11, [.ref pg, .ref wr, .ref nw, .ref kp, .ref wk, .ref tr, lv, .int x_rowsRead, .int x_rowOfImage, .int x_bestsDone])), (nw, .inr (2, [.ref nwf, .ref nws, .ref nwe, .int nw_asked, .int nw_looksOfAsked, .int nw_changes])), (nwe, .inr (4, [.ref nwea, .ref nweb, .ref nwec, .int nwe_size]))] 0 0 (fun (r : Int32) (u : Int32) => (r, u) = (fn_X11_forget nwe_size) ∧ (0 ≤ u.toInt ∧ u.toInt ≤ 6)) (fun u => [(x, .inr (11, [.ref pg, .ref wr, .ref nw, .ref kp, .ref wk, .ref tr, lv, .int x_rowsRead, .int x_rowOfImage, .int x_bestsDone])), (nw, .inr (2, [.ref nwf, .ref nws, .ref nwe, .int nw_asked, .int nw_looksOfAsked, .int nw_changes])), (nwe, .inr (4, [.ref nwea, .ref nweb, .ref nwec, .int u]))]) := by
  refine wk_mk2Ci (by decide) (Nat.le_of_ble_eq_true rfl) ?_
  intro p e s m args below meth c A ls Q B hA hK hP hD hS hl hret
  obtain ⟨hx, hb, hr, hlocks, hml, hown, htb, hin⟩ := B
  have hl : lv_has ls 1 [(0, .ref x)] := hl
  have hF : (fn_X11_forget nwe_size) = (fn_X11_forget nwe_size) := rfl
  conv at hF => rhs; unfold fn_X11_forget
  refine lv_aload_n hx hb dX11_forget_0 rfl (lv_at hl 0 rfl) ?_
  refine va_get (D := D) (ci := 11) (v := .ref nw) (C := RX11) (T := TX11) (N := 10) hx hb htb inX11 hown hK hP 0 rfl rfl 2 (by decide) (htb _ tw_254) (fun _ h9 => h9) rfl dX11_forget_1 ?_
  refine va_get (D := D) (ci := 2) (v := .ref nwe) (C := RX2) (T := TX2) (N := 6) hx hb htb inX2 hown hK hP 1 rfl rfl 2 (by decide) (htb _ tw_175) (fun _ h9 => h9) rfl dX11_forget_4 ?_
  refine wk_iV (As := []) (rest := []) (wc := [(nwe, .inr (4, [.ref nwea, .ref nweb, .ref nwec, .int nwe_size]))]) (wr := [(x, .inr (11, [.ref pg, .ref wr, .ref nw, .ref kp, .ref wk, .ref tr, lv, .int x_rowsRead, .int x_rowOfImage, .int x_bestsDone])), (nw, .inr (2, [.ref nwf, .ref nws, .ref nwe, .int nw_asked, .int nw_looksOfAsked, .int nw_changes]))]) (n := 0) ⟨hx, hb, hml, hown, htb⟩ (c_X4_clear l D cy nwe nwea nweb nwec nwe_size  (show 0 ≤ nwe_size.toInt ∧ nwe_size.toInt ≤ 6 from by omega)) tw_377 tw_687 tw_375 tw_376 tw_68 rfl rfl (by decide +kernel) ⟨Nat.le_of_ble_eq_true rfl, Nat.le_of_ble_eq_true rfl⟩ hK hP hD hS hA [2] [0, 1] rfl rfl rfl rfl (by decide) 0 (ci := 4) rfl rfl rfl hl.1 rfl (Nat.le_of_ble_eq_true rfl) dX11_forget_7 ⟨Nat.le_of_ble_eq_true rfl, Nat.le_of_ble_eq_true rfl⟩ (fun r_1 u_2 H locs hw_3 hP hD hS => ?_)
  refine W.widen (k := 0) (n := 0) (by decide) (by decide) ?_
  obtain ⟨o_4, rfl⟩ : ∃ z, z = u_2 := ⟨_, rfl⟩
  obtain ⟨hw_3, k_5⟩ := hw_3
  have hw_3 : (r_1, o_4) = (fn_X4_clear nwe_size) := hw_3
  have k_5 : (0 ≤ o_4.toInt ∧ o_4.toInt ≤ 6) := k_5
  rw [← hw_3] at hF
  rw [pm2_mk r_1 o_4] at hF
  have hP : va_P D classes [(x, .inr (11, [.ref pg, .ref wr, .ref nw, .ref kp, .ref wk, .ref tr, lv, .int x_rowsRead, .int x_rowOfImage, .int x_bestsDone])), (nw, .inr (2, [.ref nwf, .ref nws, .ref nwe, .int nw_asked, .int nw_looksOfAsked, .int nw_changes])), (nwe, .inr (4, [.ref nwea, .ref nweb, .ref nwec, .int o_4]))] H := hP
  have hD : va_D A [(x, .inr (11, [.ref pg, .ref wr, .ref nw, .ref kp, .ref wk, .ref tr, lv, .int x_rowsRead, .int x_rowOfImage, .int x_bestsDone])), (nw, .inr (2, [.ref nwf, .ref nws, .ref nwe, .int nw_asked, .int nw_looksOfAsked, .int nw_changes])), (nwe, .inr (4, [.ref nwea, .ref nweb, .ref nwec, .int o_4]))] := hD
  refine W.widen (k := 0) (n := 0) (by decide) (by decide) ?_
  exact hret r_1 o_4 _ _ _ 10 (wk_sub9 (is := [0, 1, 2]) hP rfl) (hD.sub [0, 1, 2] rfl rfl) hS dX11_forget_10 ⟨hF.symm, (show (0 ≤ o_4.toInt ∧ o_4.toInt ≤ 6) from by omega)⟩
def fn_X11_restore (x_rowsRead : Int32) (x_rowOfImage : Int32) (nw_asked : Int32) (nw_looksOfAsked : Int32) (nw_changes : Int32) (nwf_size : Int32) (nwfk_a : Nat → Int32) (nwfv_a : Nat → Int32) (nwfh_a : Nat → Int32) (nwft_a : Nat → Int32) (nws_size : Int32) (nwsk_a : Nat → Int32) (nwsv_a : Nat → Int32) (nwsh_a : Nat → Int32) (nwst_a : Nat → Int32) (nwe_size : Int32) (nwea_a : Nat → Int32) (nweb_a : Nat → Int32) (nwec_a : Nat → Int32) (kp_asked : Int32) (kp_looksOfAsked : Int32) (kp_changes : Int32) (kpf_size : Int32) (kpfk_a : Nat → Int32) (kpfv_a : Nat → Int32) (kpfh_a : Nat → Int32) (kpft_a : Nat → Int32) (kps_size : Int32) (kpsk_a : Nat → Int32) (kpsv_a : Nat → Int32) (kpsh_a : Nat → Int32) (kpst_a : Nat → Int32) (kpe_size : Int32) (kpea_a : Nat → Int32) (kpeb_a : Nat → Int32) (kpec_a : Nat → Int32) : Int32 × Int32 × Int32 × Int32 × Int32 × (Nat → Int32) × (Nat → Int32) × (Nat → Int32) × (Nat → Int32) × Int32 × (Nat → Int32) × (Nat → Int32) × (Nat → Int32) × (Nat → Int32) × Int32 × (Nat → Int32) × (Nat → Int32) × (Nat → Int32) := (if x_rowOfImage = 0 then ((-103), nw_asked, nw_looksOfAsked, nw_changes, nwf_size, nwfk_a, nwfv_a, nwfh_a, nwft_a, nws_size, nwsk_a, nwsv_a, nwsh_a, nwst_a, nwe_size, nwea_a, nweb_a, nwec_a) else (if x_rowOfImage = x_rowsRead then (pm2 (fn_X2_copyFrom nw_asked nw_looksOfAsked nw_changes nwf_size nwfk_a nwfv_a nwfh_a nwft_a nws_size nwsk_a nwsv_a nwsh_a nwst_a nwe_size nwea_a nweb_a nwec_a kp_asked kp_looksOfAsked kp_changes kpf_size kpfk_a kpfv_a kpfh_a kpft_a kps_size kpsk_a kpsv_a kpsh_a kpst_a kpe_size kpea_a kpeb_a kpec_a) (fun o_6 t_ => (pm2 (t_) (fun o_7 t_ => (pm2 (t_) (fun o_8 t_ => (pm2 (t_) (fun o_9 t_ => (pm2 (t_) (fun o_10 t_ => (pm2 (t_) (fun o_11 t_ => (pm2 (t_) (fun o_12 t_ => (pm2 (t_) (fun o_13 t_ => (pm2 (t_) (fun o_14 t_ => (pm2 (t_) (fun o_15 t_ => (pm2 (t_) (fun o_16 t_ => (pm2 (t_) (fun o_17 t_ => (pm2 (t_) (fun o_18 t_ => (pm2 (t_) (fun o_19 t_ => (pm2 (t_) (fun o_20 t_ => (pm2 (t_) (fun o_21 o_22 => (o_8, o_6, o_7, o_8, o_9, o_10, o_11, o_12, o_13, o_14, o_15, o_16, o_17, o_18, o_19, o_20, o_21, o_22))))))))))))))))))))))))))))))))) else ((-103), nw_asked, nw_looksOfAsked, nw_changes, nwf_size, nwfk_a, nwfv_a, nwfh_a, nwft_a, nws_size, nwsk_a, nwsv_a, nwsh_a, nwst_a, nwe_size, nwea_a, nweb_a, nwec_a)))
theorem dX11_restore_0 : decode cX11_restore 0 = .ok (.aload_n 0, 1) := by decide +kernel
theorem dX11_restore_1 : decode cX11_restore 1 = .ok (.getfield 246, 3) := by decide +kernel
theorem dX11_restore_4 : decode cX11_restore 4 = .ok (.ifCond .eq 14, 3) := by decide +kernel
theorem dX11_restore_7 : decode cX11_restore 7 = .ok (.aload_n 0, 1) := by decide +kernel
theorem dX11_restore_8 : decode cX11_restore 8 = .ok (.getfield 246, 3) := by decide +kernel
theorem dX11_restore_11 : decode cX11_restore 11 = .ok (.aload_n 0, 1) := by decide +kernel
theorem dX11_restore_12 : decode cX11_restore 12 = .ok (.getfield 88, 3) := by decide +kernel
theorem dX11_restore_15 : decode cX11_restore 15 = .ok (.if_icmp .eq 6, 3) := by decide +kernel
theorem dX11_restore_18 : decode cX11_restore 18 = .ok (.bipush (-103), 2) := by decide +kernel
theorem dX11_restore_20 : decode cX11_restore 20 = .ok (.ireturn, 1) := by decide +kernel
theorem dX11_restore_21 : decode cX11_restore 21 = .ok (.aload_n 0, 1) := by decide +kernel
theorem dX11_restore_22 : decode cX11_restore 22 = .ok (.getfield 22, 3) := by decide +kernel
theorem dX11_restore_25 : decode cX11_restore 25 = .ok (.aload_n 0, 1) := by decide +kernel
theorem dX11_restore_26 : decode cX11_restore 26 = .ok (.getfield 26, 3) := by decide +kernel
theorem dX11_restore_29 : decode cX11_restore 29 = .ok (.invokevirtual 242, 3) := by decide +kernel
theorem dX11_restore_32 : decode cX11_restore 32 = .ok (.aload_n 0, 1) := by decide +kernel
theorem dX11_restore_33 : decode cX11_restore 33 = .ok (.getfield 22, 3) := by decide +kernel
theorem dX11_restore_36 : decode cX11_restore 36 = .ok (.getfield 249, 3) := by decide +kernel
theorem dX11_restore_39 : decode cX11_restore 39 = .ok (.ireturn, 1) := by decide +kernel
set_option maxHeartbeats 4000000 in
set_option maxRecDepth 100000 in
theorem c_X11_restore (l : Launch) (D : va_G) (cy : ClassId) (x pg wr nw kp wk tr nwf nws nwe nwfk nwfv nwfh nwft nwsk nwsv nwsh nwst nwea nweb nwec kpf kps kpe kpfk kpfv kpfh kpft kpsk kpsv kpsh kpst kpea kpeb kpec : Nat) (lv : Value) (x_rowsRead : Int32) (x_rowOfImage : Int32) (x_bestsDone : Int32) (nw_asked : Int32) (nw_looksOfAsked : Int32) (nw_changes : Int32) (nwf_size : Int32) (nwfk_a : Nat → Int32) (nwfv_a : Nat → Int32) (nwfh_a : Nat → Int32) (nwft_a : Nat → Int32) (nws_size : Int32) (nwsk_a : Nat → Int32) (nwsv_a : Nat → Int32) (nwsh_a : Nat → Int32) (nwst_a : Nat → Int32) (nwe_size : Int32) (nwea_a : Nat → Int32) (nweb_a : Nat → Int32) (nwec_a : Nat → Int32) (kp_asked : Int32) (kp_looksOfAsked : Int32) (kp_changes : Int32) (kpf_size : Int32) (kpfk_a : Nat → Int32) (kpfv_a : Nat → Int32) (kpfh_a : Nat → Int32) (kpft_a : Nat → Int32) (kps_size : Int32) (kpsk_a : Nat → Int32) (kpsv_a : Nat → Int32) (kpsh_a : Nat → Int32) (kpst_a : Nat → Int32) (kpe_size : Int32) (kpea_a : Nat → Int32) (kpeb_a : Nat → Int32) (kpec_a : Nat → Int32)  (g_0 : 0 ≤ nwf_size.toInt ∧ nwf_size.toInt ≤ 8) (g_1 : 0 ≤ nws_size.toInt ∧ nws_size.toInt ≤ 8) (g_2 : 0 ≤ nwe_size.toInt ∧ nwe_size.toInt ≤ 6) (g_3 : 0 ≤ kpf_size.toInt ∧ kpf_size.toInt ≤ 8) (g_4 : 0 ≤ kps_size.toInt ∧ kps_size.toInt ≤ 8) (g_5 : 0 ≤ kpe_size.toInt ∧ kpe_size.toInt ≤ 6) : wk_Ci l yX11_restore cX11_restore 1 (some .int) { frames := 4, cells := 0, slots := 0, locals := 88 } D cy [.ref x] [(x, .inr (11, [.ref pg, .ref wr, .ref nw, .ref kp, .ref wk, .ref tr, lv, .int x_rowsRead, .int x_rowOfImage, .int x_bestsDone])), (nw, .inr (2, [.ref nwf, .ref nws, .ref nwe, .int nw_asked, .int nw_looksOfAsked, .int nw_changes])), (nwf, .inr (8, [.ref nwfk, .ref nwfv, .ref nwfh, .ref nwft, .int nwf_size])), (nwfk, .inl (cy, 8, .inl nwfk_a)), (nwfv, .inl (cy, 8, .inl nwfv_a)), (nwfh, .inl (cy, 8, .inl nwfh_a)), (nwft, .inl (cy, 8, .inl nwft_a)), (nws, .inr (8, [.ref nwsk, .ref nwsv, .ref nwsh, .ref nwst, .int nws_size])), (nwsk, .inl (cy, 8, .inl nwsk_a)), (nwsv, .inl (cy, 8, .inl nwsv_a)), (nwsh, .inl (cy, 8, .inl nwsh_a)), (nwst, .inl (cy, 8, .inl nwst_a)), (nwe, .inr (4, [.ref nwea, .ref nweb, .ref nwec, .int nwe_size])), (nwea, .inl (cy, 6, .inl nwea_a)), (nweb, .inl (cy, 6, .inl nweb_a)), (nwec, .inl (cy, 6, .inl nwec_a)), (kp, .inr (2, [.ref kpf, .ref kps, .ref kpe, .int kp_asked, .int kp_looksOfAsked, .int kp_changes])), (kpf, .inr (8, [.ref kpfk, .ref kpfv, .ref kpfh, .ref kpft, .int kpf_size])), (kpfk, .inl (cy, 8, .inl kpfk_a)), (kpfv, .inl (cy, 8, .inl kpfv_a)), (kpfh, .inl (cy, 8, .inl kpfh_a)), (kpft, .inl (cy, 8, .inl kpft_a)), (kps, .inr (8, [.ref kpsk, .ref kpsv, .ref kpsh, .ref kpst, .int kps_size])), (kpsk, .inl (cy, 8, .inl kpsk_a)), (kpsv, .inl (cy, 8, .inl kpsv_a)), (kpsh, .inl (cy, 8, .inl kpsh_a)), (kpst, .inl (cy, 8, .inl kpst_a)), (kpe, .inr (4, [.ref kpea, .ref kpeb, .ref kpec, .int kpe_size])), (kpea, .inl (cy, 6, .inl kpea_a)), (kpeb, .inl (cy, 6, .inl kpeb_a)), (kpec, .inl (cy, 6, .inl kpec_a))] 0 0 (fun (r : Int32) (u : Int32 × Int32 × Int32 × Int32 × (Nat → Int32) × (Nat → Int32) × (Nat → Int32) × (Nat → Int32) × Int32 × (Nat → Int32) × (Nat → Int32) × (Nat → Int32) × (Nat → Int32) × Int32 × (Nat → Int32) × (Nat → Int32) × (Nat → Int32)) => (r, u) = (fn_X11_restore x_rowsRead x_rowOfImage nw_asked nw_looksOfAsked nw_changes nwf_size nwfk_a nwfv_a nwfh_a nwft_a nws_size nwsk_a nwsv_a nwsh_a nwst_a nwe_size nwea_a nweb_a nwec_a kp_asked kp_looksOfAsked kp_changes kpf_size kpfk_a kpfv_a kpfh_a kpft_a kps_size kpsk_a kpsv_a kpsh_a kpst_a kpe_size kpea_a kpeb_a kpec_a) ∧ (0 ≤ u.2.2.2.1.toInt ∧ u.2.2.2.1.toInt ≤ 8) ∧ (0 ≤ u.2.2.2.2.2.2.2.2.1.toInt ∧ u.2.2.2.2.2.2.2.2.1.toInt ≤ 8) ∧ (0 ≤ u.2.2.2.2.2.2.2.2.2.2.2.2.2.1.toInt ∧ u.2.2.2.2.2.2.2.2.2.2.2.2.2.1.toInt ≤ 6)) (fun u => [(x, .inr (11, [.ref pg, .ref wr, .ref nw, .ref kp, .ref wk, .ref tr, lv, .int x_rowsRead, .int x_rowOfImage, .int x_bestsDone])), (nw, .inr (2, [.ref nwf, .ref nws, .ref nwe, .int u.1, .int u.2.1, .int u.2.2.1])), (nwf, .inr (8, [.ref nwfk, .ref nwfv, .ref nwfh, .ref nwft, .int u.2.2.2.1])), (nwfk, .inl (cy, 8, .inl u.2.2.2.2.1)), (nwfv, .inl (cy, 8, .inl u.2.2.2.2.2.1)), (nwfh, .inl (cy, 8, .inl u.2.2.2.2.2.2.1)), (nwft, .inl (cy, 8, .inl u.2.2.2.2.2.2.2.1)), (nws, .inr (8, [.ref nwsk, .ref nwsv, .ref nwsh, .ref nwst, .int u.2.2.2.2.2.2.2.2.1])), (nwsk, .inl (cy, 8, .inl u.2.2.2.2.2.2.2.2.2.1)), (nwsv, .inl (cy, 8, .inl u.2.2.2.2.2.2.2.2.2.2.1)), (nwsh, .inl (cy, 8, .inl u.2.2.2.2.2.2.2.2.2.2.2.1)), (nwst, .inl (cy, 8, .inl u.2.2.2.2.2.2.2.2.2.2.2.2.1)), (nwe, .inr (4, [.ref nwea, .ref nweb, .ref nwec, .int u.2.2.2.2.2.2.2.2.2.2.2.2.2.1])), (nwea, .inl (cy, 6, .inl u.2.2.2.2.2.2.2.2.2.2.2.2.2.2.1)), (nweb, .inl (cy, 6, .inl u.2.2.2.2.2.2.2.2.2.2.2.2.2.2.2.1)), (nwec, .inl (cy, 6, .inl u.2.2.2.2.2.2.2.2.2.2.2.2.2.2.2.2)), (kp, .inr (2, [.ref kpf, .ref kps, .ref kpe, .int kp_asked, .int kp_looksOfAsked, .int kp_changes])), (kpf, .inr (8, [.ref kpfk, .ref kpfv, .ref kpfh, .ref kpft, .int kpf_size])), (kpfk, .inl (cy, 8, .inl kpfk_a)), (kpfv, .inl (cy, 8, .inl kpfv_a)), (kpfh, .inl (cy, 8, .inl kpfh_a)), (kpft, .inl (cy, 8, .inl kpft_a)), (kps, .inr (8, [.ref kpsk, .ref kpsv, .ref kpsh, .ref kpst, .int kps_size])), (kpsk, .inl (cy, 8, .inl kpsk_a)), (kpsv, .inl (cy, 8, .inl kpsv_a)), (kpsh, .inl (cy, 8, .inl kpsh_a)), (kpst, .inl (cy, 8, .inl kpst_a)), (kpe, .inr (4, [.ref kpea, .ref kpeb, .ref kpec, .int kpe_size])), (kpea, .inl (cy, 6, .inl kpea_a)), (kpeb, .inl (cy, 6, .inl kpeb_a)), (kpec, .inl (cy, 6, .inl kpec_a))]) := by
  refine wk_mk2Ci (by decide) (Nat.le_of_ble_eq_true rfl) ?_
  intro p e s m args below meth c A ls Q B hA hK hP hD hS hl hret
  obtain ⟨hx, hb, hr, hlocks, hml, hown, htb, hin⟩ := B
  have hl : lv_has ls 1 [(0, .ref x)] := hl
  have hF : (fn_X11_restore x_rowsRead x_rowOfImage nw_asked nw_looksOfAsked nw_changes nwf_size nwfk_a nwfv_a nwfh_a nwft_a nws_size nwsk_a nwsv_a nwsh_a nwst_a nwe_size nwea_a nweb_a nwec_a kp_asked kp_looksOfAsked kp_changes kpf_size kpfk_a kpfv_a kpfh_a kpft_a kps_size kpsk_a kpsv_a kpsh_a kpst_a kpe_size kpea_a kpeb_a kpec_a) = (fn_X11_restore x_rowsRead x_rowOfImage nw_asked nw_looksOfAsked nw_changes nwf_size nwfk_a nwfv_a nwfh_a nwft_a nws_size nwsk_a nwsv_a nwsh_a nwst_a nwe_size nwea_a nweb_a nwec_a kp_asked kp_looksOfAsked kp_changes kpf_size kpfk_a kpfv_a kpfh_a kpft_a kps_size kpsk_a kpsv_a kpsh_a kpst_a kpe_size kpea_a kpeb_a kpec_a) := rfl
  conv at hF => rhs; unfold fn_X11_restore
  refine lv_aload_n hx hb dX11_restore_0 rfl (lv_at hl 0 rfl) ?_
  refine va_get (D := D) (ci := 11) (v := .int x_rowOfImage) (C := RX11) (T := TX11) (N := 10) hx hb htb inX11 hown hK hP 0 rfl rfl 8 (by decide) (htb _ tw_260) (fun _ h9 => h9) rfl dX11_restore_1 ?_
  refine lv_if_eq (tgt := 18) hx hb dX11_restore_4 (by decide) (fun c_1 => ?_) (fun c_1 => ?_)
  · have k_1 : x_rowOfImage.toInt = 0 := wk_eq c_1
    replace hF := hF.trans (if_pos c_1)
    refine lv_bipush (v := (-103)) hx hb dX11_restore_18 (by decide) ?_
    refine W.widen (k := 0) (n := 0) (by decide) (by decide) ?_
    exact hret (-103) (nw_asked, nw_looksOfAsked, nw_changes, nwf_size, nwfk_a, nwfv_a, nwfh_a, nwft_a, nws_size, nwsk_a, nwsv_a, nwsh_a, nwst_a, nwe_size, nwea_a, nweb_a, nwec_a) _ _ _ 20 (wk_sub9 (is := [0, 1, 2, 3, 4, 5, 6, 7, 8, 9, 10, 11, 12, 13, 14, 15, 16, 17, 18, 19, 20, 21, 22, 23, 24, 25, 26, 27, 28, 29, 30]) hP rfl) (hD.sub [0, 1, 2, 3, 4, 5, 6, 7, 8, 9, 10, 11, 12, 13, 14, 15, 16, 17, 18, 19, 20, 21, 22, 23, 24, 25, 26, 27, 28, 29, 30] rfl rfl) hS dX11_restore_20 ⟨hF.symm, (show (0 ≤ nwf_size.toInt ∧ nwf_size.toInt ≤ 8) from by omega), (show (0 ≤ nws_size.toInt ∧ nws_size.toInt ≤ 8) from by omega), (show (0 ≤ nwe_size.toInt ∧ nwe_size.toInt ≤ 6) from by omega)⟩
  · have k_1 : ¬ x_rowOfImage.toInt = 0 := wk_neq c_1
    replace hF := hF.trans (if_neg c_1)
    refine lv_aload_n hx hb dX11_restore_7 rfl (lv_at hl 0 rfl) ?_
    refine va_get (D := D) (ci := 11) (v := .int x_rowOfImage) (C := RX11) (T := TX11) (N := 10) hx hb htb inX11 hown hK hP 0 rfl rfl 8 (by decide) (htb _ tw_260) (fun _ h9 => h9) rfl dX11_restore_8 ?_
    refine lv_aload_n hx hb dX11_restore_11 rfl (lv_at hl 0 rfl) ?_
    refine va_get (D := D) (ci := 11) (v := .int x_rowsRead) (C := RX11) (T := TX11) (N := 10) hx hb htb inX11 hown hK hP 0 rfl rfl 7 (by decide) (htb _ tw_259) (fun _ h9 => h9) rfl dX11_restore_12 ?_
    refine lv_icmp_eq (tgt := 21) hx hb dX11_restore_15 (by decide) (fun c_2 => ?_) (fun c_2 => ?_)
    · have k_2 : x_rowOfImage.toInt = x_rowsRead.toInt := wk_eq c_2
      replace hF := hF.trans (if_pos c_2)
      refine lv_aload_n hx hb dX11_restore_21 rfl (lv_at hl 0 rfl) ?_
      refine va_get (D := D) (ci := 11) (v := .ref nw) (C := RX11) (T := TX11) (N := 10) hx hb htb inX11 hown hK hP 0 rfl rfl 2 (by decide) (htb _ tw_254) (fun _ h9 => h9) rfl dX11_restore_22 ?_
      refine lv_aload_n hx hb dX11_restore_25 rfl (lv_at hl 0 rfl) ?_
      refine va_get (D := D) (ci := 11) (v := .ref kp) (C := RX11) (T := TX11) (N := 10) hx hb htb inX11 hown hK hP 0 rfl rfl 3 (by decide) (htb _ tw_255) (fun _ h9 => h9) rfl dX11_restore_26 ?_
      refine wk_vV (As := [.ref kp]) (rest := []) (wc := [(nw, .inr (2, [.ref nwf, .ref nws, .ref nwe, .int nw_asked, .int nw_looksOfAsked, .int nw_changes])), (nwf, .inr (8, [.ref nwfk, .ref nwfv, .ref nwfh, .ref nwft, .int nwf_size])), (nwfk, .inl (cy, 8, .inl nwfk_a)), (nwfv, .inl (cy, 8, .inl nwfv_a)), (nwfh, .inl (cy, 8, .inl nwfh_a)), (nwft, .inl (cy, 8, .inl nwft_a)), (nws, .inr (8, [.ref nwsk, .ref nwsv, .ref nwsh, .ref nwst, .int nws_size])), (nwsk, .inl (cy, 8, .inl nwsk_a)), (nwsv, .inl (cy, 8, .inl nwsv_a)), (nwsh, .inl (cy, 8, .inl nwsh_a)), (nwst, .inl (cy, 8, .inl nwst_a)), (nwe, .inr (4, [.ref nwea, .ref nweb, .ref nwec, .int nwe_size])), (nwea, .inl (cy, 6, .inl nwea_a)), (nweb, .inl (cy, 6, .inl nweb_a)), (nwec, .inl (cy, 6, .inl nwec_a)), (kp, .inr (2, [.ref kpf, .ref kps, .ref kpe, .int kp_asked, .int kp_looksOfAsked, .int kp_changes])), (kpf, .inr (8, [.ref kpfk, .ref kpfv, .ref kpfh, .ref kpft, .int kpf_size])), (kpfk, .inl (cy, 8, .inl kpfk_a)), (kpfv, .inl (cy, 8, .inl kpfv_a)), (kpfh, .inl (cy, 8, .inl kpfh_a)), (kpft, .inl (cy, 8, .inl kpft_a)), (kps, .inr (8, [.ref kpsk, .ref kpsv, .ref kpsh, .ref kpst, .int kps_size])), (kpsk, .inl (cy, 8, .inl kpsk_a)), (kpsv, .inl (cy, 8, .inl kpsv_a)), (kpsh, .inl (cy, 8, .inl kpsh_a)), (kpst, .inl (cy, 8, .inl kpst_a)), (kpe, .inr (4, [.ref kpea, .ref kpeb, .ref kpec, .int kpe_size])), (kpea, .inl (cy, 6, .inl kpea_a)), (kpeb, .inl (cy, 6, .inl kpeb_a)), (kpec, .inl (cy, 6, .inl kpec_a))]) (wr := [(x, .inr (11, [.ref pg, .ref wr, .ref nw, .ref kp, .ref wk, .ref tr, lv, .int x_rowsRead, .int x_rowOfImage, .int x_bestsDone]))]) (n := 1) ⟨hx, hb, hml, hown, htb⟩ (c_X2_copyFrom l D cy nw nwf nws nwe nwfk nwfv nwfh nwft nwsk nwsv nwsh nwst nwea nweb nwec kp kpf kps kpe kpfk kpfv kpfh kpft kpsk kpsv kpsh kpst kpea kpeb kpec nw_asked nw_looksOfAsked nw_changes nwf_size nwfk_a nwfv_a nwfh_a nwft_a nws_size nwsk_a nwsv_a nwsh_a nwst_a nwe_size nwea_a nweb_a nwec_a kp_asked kp_looksOfAsked kp_changes kpf_size kpfk_a kpfv_a kpfh_a kpft_a kps_size kpsk_a kpsv_a kpsh_a kpst_a kpe_size kpea_a kpeb_a kpec_a  (show 0 ≤ nwf_size.toInt ∧ nwf_size.toInt ≤ 8 from by omega) (show 0 ≤ nws_size.toInt ∧ nws_size.toInt ≤ 8 from by omega) (show 0 ≤ nwe_size.toInt ∧ nwe_size.toInt ≤ 6 from by omega) (show 0 ≤ kpf_size.toInt ∧ kpf_size.toInt ≤ 8 from by omega) (show 0 ≤ kps_size.toInt ∧ kps_size.toInt ≤ 8 from by omega) (show 0 ≤ kpe_size.toInt ∧ kpe_size.toInt ≤ 6 from by omega)) tw_706 tw_703 tw_704 tw_705 tw_66 rfl rfl (by decide +kernel) ⟨Nat.le_of_ble_eq_true rfl, Nat.le_of_ble_eq_true rfl⟩ hK hP hD hS hA [1, 2, 3, 4, 5, 6, 7, 8, 9, 10, 11, 12, 13, 14, 15, 16, 17, 18, 19, 20, 21, 22, 23, 24, 25, 26, 27, 28, 29, 30] [0] rfl rfl rfl rfl (by decide) 0 (ci := 2) rfl rfl rfl hl.1 rfl (Nat.le_of_ble_eq_true rfl) dX11_restore_29 ⟨Nat.le_of_ble_eq_true rfl, Nat.le_of_ble_eq_true rfl⟩ (fun u_4 H locs hw_5 hP hD hS => ?_)
      refine W.widen (k := 0) (n := 0) (by decide) (by decide) ?_
      obtain ⟨o_6, o_7, o_8, o_9, o_10, o_11, o_12, o_13, o_14, o_15, o_16, o_17, o_18, o_19, o_20, o_21, o_22⟩ := u_4
      obtain ⟨hw_5, k_23, k_24, k_25⟩ := hw_5
      have hw_5 : (o_6, o_7, o_8, o_9, o_10, o_11, o_12, o_13, o_14, o_15, o_16, o_17, o_18, o_19, o_20, o_21, o_22) = (fn_X2_copyFrom nw_asked nw_looksOfAsked nw_changes nwf_size nwfk_a nwfv_a nwfh_a nwft_a nws_size nwsk_a nwsv_a nwsh_a nwst_a nwe_size nwea_a nweb_a nwec_a kp_asked kp_looksOfAsked kp_changes kpf_size kpfk_a kpfv_a kpfh_a kpft_a kps_size kpsk_a kpsv_a kpsh_a kpst_a kpe_size kpea_a kpeb_a kpec_a) := hw_5
      have k_23 : (0 ≤ o_9.toInt ∧ o_9.toInt ≤ 8) := k_23
      have k_24 : (0 ≤ o_14.toInt ∧ o_14.toInt ≤ 8) := k_24
      have k_25 : (0 ≤ o_19.toInt ∧ o_19.toInt ≤ 6) := k_25
      rw [← hw_5] at hF
      rw [pm2_mk o_6 (o_7, o_8, o_9, o_10, o_11, o_12, o_13, o_14, o_15, o_16, o_17, o_18, o_19, o_20, o_21, o_22), pm2_mk o_7 (o_8, o_9, o_10, o_11, o_12, o_13, o_14, o_15, o_16, o_17, o_18, o_19, o_20, o_21, o_22), pm2_mk o_8 (o_9, o_10, o_11, o_12, o_13, o_14, o_15, o_16, o_17, o_18, o_19, o_20, o_21, o_22), pm2_mk o_9 (o_10, o_11, o_12, o_13, o_14, o_15, o_16, o_17, o_18, o_19, o_20, o_21, o_22), pm2_mk o_10 (o_11, o_12, o_13, o_14, o_15, o_16, o_17, o_18, o_19, o_20, o_21, o_22), pm2_mk o_11 (o_12, o_13, o_14, o_15, o_16, o_17, o_18, o_19, o_20, o_21, o_22), pm2_mk o_12 (o_13, o_14, o_15, o_16, o_17, o_18, o_19, o_20, o_21, o_22), pm2_mk o_13 (o_14, o_15, o_16, o_17, o_18, o_19, o_20, o_21, o_22), pm2_mk o_14 (o_15, o_16, o_17, o_18, o_19, o_20, o_21, o_22), pm2_mk o_15 (o_16, o_17, o_18, o_19, o_20, o_21, o_22), pm2_mk o_16 (o_17, o_18, o_19, o_20, o_21, o_22), pm2_mk o_17 (o_18, o_19, o_20, o_21, o_22), pm2_mk o_18 (o_19, o_20, o_21, o_22), pm2_mk o_19 (o_20, o_21, o_22), pm2_mk o_20 (o_21, o_22), pm2_mk o_21 o_22] at hF
      have hP : va_P D classes [(x, .inr (11, [.ref pg, .ref wr, .ref nw, .ref kp, .ref wk, .ref tr, lv, .int x_rowsRead, .int x_rowOfImage, .int x_bestsDone])), (nw, .inr (2, [.ref nwf, .ref nws, .ref nwe, .int o_6, .int o_7, .int o_8])), (nwf, .inr (8, [.ref nwfk, .ref nwfv, .ref nwfh, .ref nwft, .int o_9])), (nwfk, .inl (cy, 8, .inl o_10)), (nwfv, .inl (cy, 8, .inl o_11)), (nwfh, .inl (cy, 8, .inl o_12)), (nwft, .inl (cy, 8, .inl o_13)), (nws, .inr (8, [.ref nwsk, .ref nwsv, .ref nwsh, .ref nwst, .int o_14])), (nwsk, .inl (cy, 8, .inl o_15)), (nwsv, .inl (cy, 8, .inl o_16)), (nwsh, .inl (cy, 8, .inl o_17)), (nwst, .inl (cy, 8, .inl o_18)), (nwe, .inr (4, [.ref nwea, .ref nweb, .ref nwec, .int o_19])), (nwea, .inl (cy, 6, .inl o_20)), (nweb, .inl (cy, 6, .inl o_21)), (nwec, .inl (cy, 6, .inl o_22)), (kp, .inr (2, [.ref kpf, .ref kps, .ref kpe, .int kp_asked, .int kp_looksOfAsked, .int kp_changes])), (kpf, .inr (8, [.ref kpfk, .ref kpfv, .ref kpfh, .ref kpft, .int kpf_size])), (kpfk, .inl (cy, 8, .inl kpfk_a)), (kpfv, .inl (cy, 8, .inl kpfv_a)), (kpfh, .inl (cy, 8, .inl kpfh_a)), (kpft, .inl (cy, 8, .inl kpft_a)), (kps, .inr (8, [.ref kpsk, .ref kpsv, .ref kpsh, .ref kpst, .int kps_size])), (kpsk, .inl (cy, 8, .inl kpsk_a)), (kpsv, .inl (cy, 8, .inl kpsv_a)), (kpsh, .inl (cy, 8, .inl kpsh_a)), (kpst, .inl (cy, 8, .inl kpst_a)), (kpe, .inr (4, [.ref kpea, .ref kpeb, .ref kpec, .int kpe_size])), (kpea, .inl (cy, 6, .inl kpea_a)), (kpeb, .inl (cy, 6, .inl kpeb_a)), (kpec, .inl (cy, 6, .inl kpec_a))] H := hP
      have hD : va_D A [(x, .inr (11, [.ref pg, .ref wr, .ref nw, .ref kp, .ref wk, .ref tr, lv, .int x_rowsRead, .int x_rowOfImage, .int x_bestsDone])), (nw, .inr (2, [.ref nwf, .ref nws, .ref nwe, .int o_6, .int o_7, .int o_8])), (nwf, .inr (8, [.ref nwfk, .ref nwfv, .ref nwfh, .ref nwft, .int o_9])), (nwfk, .inl (cy, 8, .inl o_10)), (nwfv, .inl (cy, 8, .inl o_11)), (nwfh, .inl (cy, 8, .inl o_12)), (nwft, .inl (cy, 8, .inl o_13)), (nws, .inr (8, [.ref nwsk, .ref nwsv, .ref nwsh, .ref nwst, .int o_14])), (nwsk, .inl (cy, 8, .inl o_15)), (nwsv, .inl (cy, 8, .inl o_16)), (nwsh, .inl (cy, 8, .inl o_17)), (nwst, .inl (cy, 8, .inl o_18)), (nwe, .inr (4, [.ref nwea, .ref nweb, .ref nwec, .int o_19])), (nwea, .inl (cy, 6, .inl o_20)), (nweb, .inl (cy, 6, .inl o_21)), (nwec, .inl (cy, 6, .inl o_22)), (kp, .inr (2, [.ref kpf, .ref kps, .ref kpe, .int kp_asked, .int kp_looksOfAsked, .int kp_changes])), (kpf, .inr (8, [.ref kpfk, .ref kpfv, .ref kpfh, .ref kpft, .int kpf_size])), (kpfk, .inl (cy, 8, .inl kpfk_a)), (kpfv, .inl (cy, 8, .inl kpfv_a)), (kpfh, .inl (cy, 8, .inl kpfh_a)), (kpft, .inl (cy, 8, .inl kpft_a)), (kps, .inr (8, [.ref kpsk, .ref kpsv, .ref kpsh, .ref kpst, .int kps_size])), (kpsk, .inl (cy, 8, .inl kpsk_a)), (kpsv, .inl (cy, 8, .inl kpsv_a)), (kpsh, .inl (cy, 8, .inl kpsh_a)), (kpst, .inl (cy, 8, .inl kpst_a)), (kpe, .inr (4, [.ref kpea, .ref kpeb, .ref kpec, .int kpe_size])), (kpea, .inl (cy, 6, .inl kpea_a)), (kpeb, .inl (cy, 6, .inl kpeb_a)), (kpec, .inl (cy, 6, .inl kpec_a))] := hD
      refine lv_aload_n hx hb dX11_restore_32 rfl (lv_at hl 0 rfl) ?_
      refine va_get (D := D) (ci := 11) (v := .ref nw) (C := RX11) (T := TX11) (N := 10) hx hb htb inX11 hown hK hP 0 rfl rfl 2 (by decide) (htb _ tw_254) (fun _ h9 => h9) rfl dX11_restore_33 ?_
      refine va_get (D := D) (ci := 2) (v := .int o_8) (C := RX2) (T := TX2) (N := 6) hx hb htb inX2 hown hK hP 1 rfl rfl 5 (by decide) (htb _ tw_181) (fun _ h9 => h9) rfl dX11_restore_36 ?_
      refine W.widen (k := 0) (n := 0) (by decide) (by decide) ?_
      exact hret o_8 (o_6, o_7, o_8, o_9, o_10, o_11, o_12, o_13, o_14, o_15, o_16, o_17, o_18, o_19, o_20, o_21, o_22) _ _ _ 39 (wk_sub9 (is := [0, 1, 2, 3, 4, 5, 6, 7, 8, 9, 10, 11, 12, 13, 14, 15, 16, 17, 18, 19, 20, 21, 22, 23, 24, 25, 26, 27, 28, 29, 30]) hP rfl) (hD.sub [0, 1, 2, 3, 4, 5, 6, 7, 8, 9, 10, 11, 12, 13, 14, 15, 16, 17, 18, 19, 20, 21, 22, 23, 24, 25, 26, 27, 28, 29, 30] rfl rfl) hS dX11_restore_39 ⟨hF.symm, (show (0 ≤ o_9.toInt ∧ o_9.toInt ≤ 8) from by omega), (show (0 ≤ o_14.toInt ∧ o_14.toInt ≤ 8) from by omega), (show (0 ≤ o_19.toInt ∧ o_19.toInt ≤ 6) from by omega)⟩
    · have k_2 : ¬ x_rowOfImage.toInt = x_rowsRead.toInt := wk_neq c_2
      replace hF := hF.trans (if_neg c_2)
      refine lv_bipush (v := (-103)) hx hb dX11_restore_18 (by decide) ?_
      refine W.widen (k := 0) (n := 0) (by decide) (by decide) ?_
      exact hret (-103) (nw_asked, nw_looksOfAsked, nw_changes, nwf_size, nwfk_a, nwfv_a, nwfh_a, nwft_a, nws_size, nwsk_a, nwsv_a, nwsh_a, nwst_a, nwe_size, nwea_a, nweb_a, nwec_a) _ _ _ 20 (wk_sub9 (is := [0, 1, 2, 3, 4, 5, 6, 7, 8, 9, 10, 11, 12, 13, 14, 15, 16, 17, 18, 19, 20, 21, 22, 23, 24, 25, 26, 27, 28, 29, 30]) hP rfl) (hD.sub [0, 1, 2, 3, 4, 5, 6, 7, 8, 9, 10, 11, 12, 13, 14, 15, 16, 17, 18, 19, 20, 21, 22, 23, 24, 25, 26, 27, 28, 29, 30] rfl rfl) hS dX11_restore_20 ⟨hF.symm, (show (0 ≤ nwf_size.toInt ∧ nwf_size.toInt ≤ 8) from by omega), (show (0 ≤ nws_size.toInt ∧ nws_size.toInt ≤ 8) from by omega), (show (0 ≤ nwe_size.toInt ∧ nwe_size.toInt ≤ 6) from by omega)⟩
