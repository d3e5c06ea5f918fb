def fn_law_heightOf (lc : Nat) (k1 k2 k3 : Int32) : Int32 := if lc = 0 then (fn_X0_heightOf k1 k2 k3) else if lc = 1 then (fn_X1_heightOf k1 k2 k3) else if lc = 3 then (fn_X3_heightOf k1 k2 k3) else if lc = 5 then (fn_X5_heightOf k1 k2 k3) else (fn_X7_heightOf k1 k2 k3)
set_option maxRecDepth 100000 in
theorem cv_heightOf {p : Program} {l : Launch} {e : Env} {R : Room} {s : State} {m : MethodId} {args : Array Value} {below : List Frame} {meth : Method} {c : Code} {H : Heap} {locs : List Loc} {cells slots : Nat} {Q : State → Prop} {cc : ByteArray} {pc : Nat} {ls : Array Slot} {rest : List Value} {A : Nat → Prop} {ws : va_W} {H0 : Heap} {D : va_G} {cy : ClassId} {b nL lc : Nat} {st0 : List Value} {wr : va_W} {k1 k2 k3 : Int32} (hlc : wk_law lc) (F : CallFix p m c cc nL s args lw_g RX11) (hfr : 2 ≤ R.frames) (hlo : 46 ≤ R.locals) (hK : va_K D classes [(cy, .int)] s) (hP : va_P D classes ws H) (hD : va_D A ws) (hS : va_S A H0 H locs) (hA : ∀ q, H0.size ≤ q → A q) (isC isR : List Nat) (hC : isC.map (fun i => ws[i]?) = ([(b, .inr (lc, []))] : va_W).map some) (hR2 : isR.map (fun i => ws[i]?) = wr.map some) (hnC : va_nd isC = true) (hnR : va_nd isR = true) (hdis : ∀ i ∈ isR, i ∉ isC) (hsize : ls.size = nL) (hstack : st0 = [.int k3, .int k2, .int k1] ++ .ref b :: rest) (hW : (rest.map fun v => v.category).sum ≤ 8) (hdg : decode cc pc = .ok (.invokevirtual 309, 3)) (hf : cells ≤ R.cells ∧ slots ≤ R.slots) (kk : ∀ (r : Int32) (H1 : Heap) (locs1 : List Loc), r = fn_law_heightOf lc k1 k2 k3 → va_P D classes (wr ++ [(b, .inr (lc, []))]) H1 → va_D A (wr ++ [(b, .inr (lc, []))]) → va_S A H0 H1 locs1 → W p l e R s m args below meth c H1 locs1 cells slots Q (F0 m (pc + 3) ls (.int r :: rest))) : W p l e R s m args below meth c H locs cells slots Q (F0 m pc ls st0) := by
  rcases hlc with rfl | rfl | rfl | rfl | rfl
  · exact wk_iO (As := [.int k1, .int k2, .int k3]) (rest := rest) (wc := [(b, .inr (0, []))]) (wr := wr) (n := 3) (C := RX0) F (c_X0_heightOf l D cy b 0 k1 k2 k3) tw_401 tw_395 tw_398 tw_396 tw_399 tw_400 tw_75 tw_419 rfl rfl (by decide +kernel) ⟨by show 1 + 1 ≤ R.frames; omega, by show 8 + (4 + 11) + 23 ≤ R.locals; omega⟩ hK hP hD hS hA isC isR hC hR2 hnC hnR hdis 0 (ci := 0) rfl rfl rfl hsize hstack hW hdg hf (fun r u H1 locs1 hw hP1 hD1 hS1 => kk r H1 locs1 (by rw [fn_law_heightOf, if_pos rfl]; exact hw) hP1 hD1 hS1)
  · exact wk_iO (As := [.int k1, .int k2, .int k3]) (rest := rest) (wc := [(b, .inr (1, []))]) (wr := wr) (n := 3) (C := RX1) F (c_X1_heightOf l D cy b 1 k1 k2 k3) tw_408 tw_395 tw_398 tw_396 tw_406 tw_407 tw_73 tw_419 rfl rfl (by decide +kernel) ⟨by show 1 + 1 ≤ R.frames; omega, by show 8 + (4 + 11) + 23 ≤ R.locals; omega⟩ hK hP hD hS hA isC isR hC hR2 hnC hnR hdis 0 (ci := 1) rfl rfl rfl hsize hstack hW hdg hf (fun r u H1 locs1 hw hP1 hD1 hS1 => kk r H1 locs1 (by rw [fn_law_heightOf, if_neg (by decide), if_pos rfl]; exact hw) hP1 hD1 hS1)
  · exact wk_iV (As := [.int k1, .int k2, .int k3]) (rest := rest) (wc := [(b, .inr (3, []))]) (wr := wr) (n := 3) F (c_X3_heightOf l D cy b 3 k1 k2 k3) tw_419 tw_395 tw_396 tw_397 tw_72 rfl rfl (by decide +kernel) ⟨by show 0 + 1 ≤ R.frames; omega, by show 8 + (4 + 11) + 0 ≤ R.locals; omega⟩ hK hP hD hS hA isC isR hC hR2 hnC hnR hdis 0 (ci := 3) rfl rfl rfl hsize hstack hW hdg hf (fun r u H1 locs1 hw hP1 hD1 hS1 => kk r H1 locs1 (by rw [fn_law_heightOf, if_neg (by decide), if_neg (by decide), if_pos rfl]; exact hw) hP1 hD1 hS1)
  · exact wk_iO (As := [.int k1, .int k2, .int k3]) (rest := rest) (wc := [(b, .inr (5, []))]) (wr := wr) (n := 3) (C := RX5) F (c_X5_heightOf l D cy b 5 k1 k2 k3) tw_413 tw_395 tw_398 tw_396 tw_411 tw_412 tw_74 tw_419 rfl rfl (by decide +kernel) ⟨by show 0 + 1 ≤ R.frames; omega, by show 8 + (4 + 11) + 0 ≤ R.locals; omega⟩ hK hP hD hS hA isC isR hC hR2 hnC hnR hdis 0 (ci := 5) rfl rfl rfl hsize hstack hW hdg hf (fun r u H1 locs1 hw hP1 hD1 hS1 => kk r H1 locs1 (by rw [fn_law_heightOf, if_neg (by decide), if_neg (by decide), if_neg (by decide), if_pos rfl]; exact hw) hP1 hD1 hS1)
  · exact wk_iO (As := [.int k1, .int k2, .int k3]) (rest := rest) (wc := [(b, .inr (7, []))]) (wr := wr) (n := 3) (C := RX7) F (c_X7_heightOf l D cy b 7 k1 k2 k3) tw_416 tw_395 tw_398 tw_396 tw_414 tw_415 tw_76 tw_419 rfl rfl (by decide +kernel) ⟨by show 1 + 1 ≤ R.frames; omega, by show 8 + (4 + 11) + 23 ≤ R.locals; omega⟩ hK hP hD hS hA isC isR hC hR2 hnC hnR hdis 0 (ci := 7) rfl rfl rfl hsize hstack hW hdg hf (fun r u H1 locs1 hw hP1 hD1 hS1 => kk r H1 locs1 (by rw [fn_law_heightOf, if_neg (by decide), if_neg (by decide), if_neg (by decide), if_neg (by decide)]; exact hw) hP1 hD1 hS1)
def fn_law_sign (lc : Nat) : Int32 := if lc = 0 then fn_X0_sign else if lc = 1 then fn_X1_sign else if lc = 3 then fn_X3_sign else if lc = 5 then fn_X5_sign else fn_X7_sign
set_option maxRecDepth 100000 in
theorem cv_sign {p : Program} {l : Launch} {e : Env} {R : Room} {s : State} {m : MethodId} {args : Array Value} {below : List Frame} {meth : Method} {c : Code} {H : Heap} {locs : List Loc} {cells slots : Nat} {Q : State → Prop} {cc : ByteArray} {pc : Nat} {ls : Array Slot} {rest : List Value} {A : Nat → Prop} {ws : va_W} {H0 : Heap} {D : va_G} {cy : ClassId} {b nL lc : Nat} {st0 : List Value} {wr : va_W} (hlc : wk_law lc) (F : CallFix p m c cc nL s args lw_g RX6) (hfr : 1 ≤ R.frames) (hlo : 20 ≤ R.locals) (hK : va_K D classes [(cy, .int)] s) (hP : va_P D classes ws H) (hD : va_D A ws) (hS : va_S A H0 H locs) (hA : ∀ q, H0.size ≤ q → A q) (isC isR : List Nat) (hC : isC.map (fun i => ws[i]?) = ([(b, .inr (lc, []))] : va_W).map some) (hR2 : isR.map (fun i => ws[i]?) = wr.map some) (hnC : va_nd isC = true) (hnR : va_nd isR = true) (hdis : ∀ i ∈ isR, i ∉ isC) (hsize : ls.size = nL) (hstack : st0 = [] ++ .ref b :: rest) (hW : (rest.map fun v => v.category).sum ≤ 8) (hdg : decode cc pc = .ok (.invokevirtual 23, 3)) (hf : cells ≤ R.cells ∧ slots ≤ R.slots) (kk : ∀ (r : Int32) (H1 : Heap) (locs1 : List Loc), r = fn_law_sign lc → va_P D classes (wr ++ [(b, .inr (lc, []))]) H1 → va_D A (wr ++ [(b, .inr (lc, []))]) → va_S A H0 H1 locs1 → W p l e R s m args below meth c H1 locs1 cells slots Q (F0 m (pc + 3) ls (.int r :: rest))) : W p l e R s m args below meth c H locs cells slots Q (F0 m pc ls st0) := by
  rcases hlc with rfl | rfl | rfl | rfl | rfl
  · exact wk_iO (As := []) (rest := rest) (wc := [(b, .inr (0, []))]) (wr := wr) (n := 0) (C := RX0) F (c_X0_sign l D cy b 0) tw_435 tw_429 tw_432 tw_430 tw_433 tw_434 tw_75 tw_445 rfl rfl (by decide +kernel) ⟨by show 0 + 1 ≤ R.frames; omega, by show 8 + (1 + 11) + 0 ≤ R.locals; omega⟩ hK hP hD hS hA isC isR hC hR2 hnC hnR hdis 0 (ci := 0) rfl rfl rfl hsize hstack hW hdg hf (fun r u H1 locs1 hw hP1 hD1 hS1 => kk r H1 locs1 (by rw [fn_law_sign, if_pos rfl]; exact hw) hP1 hD1 hS1)
  · exact wk_iO (As := []) (rest := rest) (wc := [(b, .inr (1, []))]) (wr := wr) (n := 0) (C := RX1) F (c_X1_sign l D cy b 1) tw_438 tw_429 tw_432 tw_430 tw_436 tw_437 tw_73 tw_445 rfl rfl (by decide +kernel) ⟨by show 0 + 1 ≤ R.frames; omega, by show 8 + (1 + 11) + 0 ≤ R.locals; omega⟩ hK hP hD hS hA isC isR hC hR2 hnC hnR hdis 0 (ci := 1) rfl rfl rfl hsize hstack hW hdg hf (fun r u H1 locs1 hw hP1 hD1 hS1 => kk r H1 locs1 (by rw [fn_law_sign, if_neg (by decide), if_pos rfl]; exact hw) hP1 hD1 hS1)
  · exact wk_iV (As := []) (rest := rest) (wc := [(b, .inr (3, []))]) (wr := wr) (n := 0) F (c_X3_sign l D cy b 3) tw_445 tw_429 tw_430 tw_431 tw_72 rfl rfl (by decide +kernel) ⟨by show 0 + 1 ≤ R.frames; omega, by show 8 + (1 + 11) + 0 ≤ R.locals; omega⟩ hK hP hD hS hA isC isR hC hR2 hnC hnR hdis 0 (ci := 3) rfl rfl rfl hsize hstack hW hdg hf (fun r u H1 locs1 hw hP1 hD1 hS1 => kk r H1 locs1 (by rw [fn_law_sign, if_neg (by decide), if_neg (by decide), if_pos rfl]; exact hw) hP1 hD1 hS1)
  · exact wk_iO (As := []) (rest := rest) (wc := [(b, .inr (5, []))]) (wr := wr) (n := 0) (C := RX5) F (c_X5_sign l D cy b 5) tw_441 tw_429 tw_432 tw_430 tw_439 tw_440 tw_74 tw_445 rfl rfl (by decide +kernel) ⟨by show 0 + 1 ≤ R.frames; omega, by show 8 + (1 + 11) + 0 ≤ R.locals; omega⟩ hK hP hD hS hA isC isR hC hR2 hnC hnR hdis 0 (ci := 5) rfl rfl rfl hsize hstack hW hdg hf (fun r u H1 locs1 hw hP1 hD1 hS1 => kk r H1 locs1 (by rw [fn_law_sign, if_neg (by decide), if_neg (by decide), if_neg (by decide), if_pos rfl]; exact hw) hP1 hD1 hS1)
  · exact wk_iO (As := []) (rest := rest) (wc := [(b, .inr (7, []))]) (wr := wr) (n := 0) (C := RX7) F (c_X7_sign l D cy b 7) tw_444 tw_429 tw_432 tw_430 tw_442 tw_443 tw_76 tw_445 rfl rfl (by decide +kernel) ⟨by show 0 + 1 ≤ R.frames; omega, by show 8 + (1 + 11) + 0 ≤ R.locals; omega⟩ hK hP hD hS hA isC isR hC hR2 hnC hnR hdis 0 (ci := 7) rfl rfl rfl hsize hstack hW hdg hf (fun r u H1 locs1 hw hP1 hD1 hS1 => kk r H1 locs1 (by rw [fn_law_sign, if_neg (by decide), if_neg (by decide), if_neg (by decide), if_neg (by decide)]; exact hw) hP1 hD1 hS1)
def fn_law_tellsHeights (lc : Nat) : Int32 := if lc = 0 then fn_X0_tellsHeights else if lc = 1 then fn_X1_tellsHeights else if lc = 3 then fn_X3_tellsHeights else if lc = 5 then fn_X5_tellsHeights else fn_X1_tellsHeights
set_option maxRecDepth 100000 in
theorem cv_tellsHeights {p : Program} {l : Launch} {e : Env} {R : Room} {s : State} {m : MethodId} {args : Array Value} {below : List Frame} {meth : Method} {c : Code} {H : Heap} {locs : List Loc} {cells slots : Nat} {Q : State → Prop} {cc : ByteArray} {pc : Nat} {ls : Array Slot} {rest : List Value} {A : Nat → Prop} {ws : va_W} {H0 : Heap} {D : va_G} {cy : ClassId} {b nL lc : Nat} {st0 : List Value} {wr : va_W} (hlc : wk_law lc) (F : CallFix p m c cc nL s args lw_g RX6) (hfr : 1 ≤ R.frames) (hlo : 20 ≤ R.locals) (hK : va_K D classes [(cy, .int)] s) (hP : va_P D classes ws H) (hD : va_D A ws) (hS : va_S A H0 H locs) (hA : ∀ q, H0.size ≤ q → A q) (isC isR : List Nat) (hC : isC.map (fun i => ws[i]?) = ([(b, .inr (lc, []))] : va_W).map some) (hR2 : isR.map (fun i => ws[i]?) = wr.map some) (hnC : va_nd isC = true) (hnR : va_nd isR = true) (hdis : ∀ i ∈ isR, i ∉ isC) (hsize : ls.size = nL) (hstack : st0 = [] ++ .ref b :: rest) (hW : (rest.map fun v => v.category).sum ≤ 8) (hdg : decode cc pc = .ok (.invokevirtual 42, 3)) (hf : cells ≤ R.cells ∧ slots ≤ R.slots) (kk : ∀ (r : Int32) (H1 : Heap) (locs1 : List Loc), r = fn_law_tellsHeights lc → va_P D classes (wr ++ [(b, .inr (lc, []))]) H1 → va_D A (wr ++ [(b, .inr (lc, []))]) → va_S A H0 H1 locs1 → W p l e R s m args below meth c H1 locs1 cells slots Q (F0 m (pc + 3) ls (.int r :: rest))) : W p l e R s m args below meth c H locs cells slots Q (F0 m pc ls st0) := by
  rcases hlc with rfl | rfl | rfl | rfl | rfl
  · exact wk_iO (As := []) (rest := rest) (wc := [(b, .inr (0, []))]) (wr := wr) (n := 0) (C := RX0) F (c_X0_tellsHeights l D cy b 0) tw_453 tw_447 tw_450 tw_448 tw_451 tw_452 tw_75 tw_461 rfl rfl (by decide +kernel) ⟨by show 0 + 1 ≤ R.frames; omega, by show 8 + (1 + 11) + 0 ≤ R.locals; omega⟩ hK hP hD hS hA isC isR hC hR2 hnC hnR hdis 0 (ci := 0) rfl rfl rfl hsize hstack hW hdg hf (fun r u H1 locs1 hw hP1 hD1 hS1 => kk r H1 locs1 (by rw [fn_law_tellsHeights, if_pos rfl]; exact hw.1) hP1 hD1 hS1)
  · exact wk_iO (As := []) (rest := rest) (wc := [(b, .inr (1, []))]) (wr := wr) (n := 0) (C := RX1) F (c_X1_tellsHeights l D cy b 1) tw_456 tw_447 tw_450 tw_448 tw_454 tw_455 tw_73 tw_461 rfl rfl (by decide +kernel) ⟨by show 0 + 1 ≤ R.frames; omega, by show 8 + (1 + 11) + 0 ≤ R.locals; omega⟩ hK hP hD hS hA isC isR hC hR2 hnC hnR hdis 0 (ci := 1) rfl rfl rfl hsize hstack hW hdg hf (fun r u H1 locs1 hw hP1 hD1 hS1 => kk r H1 locs1 (by rw [fn_law_tellsHeights, if_neg (by decide), if_pos rfl]; exact hw.1) hP1 hD1 hS1)
  · exact wk_iV (As := []) (rest := rest) (wc := [(b, .inr (3, []))]) (wr := wr) (n := 0) F (c_X3_tellsHeights l D cy b 3) tw_461 tw_447 tw_448 tw_449 tw_72 rfl rfl (by decide +kernel) ⟨by show 0 + 1 ≤ R.frames; omega, by show 8 + (1 + 11) + 0 ≤ R.locals; omega⟩ hK hP hD hS hA isC isR hC hR2 hnC hnR hdis 0 (ci := 3) rfl rfl rfl hsize hstack hW hdg hf (fun r u H1 locs1 hw hP1 hD1 hS1 => kk r H1 locs1 (by rw [fn_law_tellsHeights, if_neg (by decide), if_neg (by decide), if_pos rfl]; exact hw.1) hP1 hD1 hS1)
  · exact wk_iO (As := []) (rest := rest) (wc := [(b, .inr (5, []))]) (wr := wr) (n := 0) (C := RX5) F (c_X5_tellsHeights l D cy b 5) tw_459 tw_447 tw_450 tw_448 tw_457 tw_458 tw_74 tw_461 rfl rfl (by decide +kernel) ⟨by show 0 + 1 ≤ R.frames; omega, by show 8 + (1 + 11) + 0 ≤ R.locals; omega⟩ hK hP hD hS hA isC isR hC hR2 hnC hnR hdis 0 (ci := 5) rfl rfl rfl hsize hstack hW hdg hf (fun r u H1 locs1 hw hP1 hD1 hS1 => kk r H1 locs1 (by rw [fn_law_tellsHeights, if_neg (by decide), if_neg (by decide), if_neg (by decide), if_pos rfl]; exact hw.1) hP1 hD1 hS1)
  · exact wk_iO (As := []) (rest := rest) (wc := [(b, .inr (7, []))]) (wr := wr) (n := 0) (C := RX7) F (c_X1_tellsHeights l D cy b 7) tw_456 tw_447 tw_450 tw_448 tw_460 tw_455 tw_73 tw_461 rfl rfl (by decide +kernel) ⟨by show 0 + 1 ≤ R.frames; omega, by show 8 + (1 + 11) + 0 ≤ R.locals; omega⟩ hK hP hD hS hA isC isR hC hR2 hnC hnR hdis 0 (ci := 7) rfl rfl rfl hsize hstack hW hdg hf (fun r u H1 locs1 hw hP1 hD1 hS1 => kk r H1 locs1 (by rw [fn_law_tellsHeights, if_neg (by decide), if_neg (by decide), if_neg (by decide), if_neg (by decide)]; exact hw.1) hP1 hD1 hS1)
theorem fn_law_tells_b (lc : Nat) : fn_law_tellsHeights lc = 0 ∨ fn_law_tellsHeights lc = 1 := by
  unfold fn_law_tellsHeights fn_X0_tellsHeights fn_X1_tellsHeights fn_X3_tellsHeights fn_X5_tellsHeights
  split
  · exact Or.inl rfl
  · split
    · exact Or.inl rfl
    · split
      · exact Or.inr rfl
      · split <;> exact Or.inl rfl
theorem dX3_bySign_0 : decode cX3_bySign 0 = .ok (.iload_n 0, 1) := by decide +kernel
theorem dX3_bySign_1 : decode cX3_bySign 1 = .ok (.lookupswitch 91 #[(100, 83), (101, 75), (104, 59), (115, 67), (116, 51)], 51) := by decide +kernel
theorem dX3_bySign_52 : decode cX3_bySign 52 = .ok (.new 9, 3) := by decide +kernel
theorem dX3_bySign_55 : decode cX3_bySign 55 = .ok (.dup, 1) := by decide +kernel
theorem dX3_bySign_56 : decode cX3_bySign 56 = .ok (.invokespecial 11, 3) := by decide +kernel
theorem dX3_bySign_59 : decode cX3_bySign 59 = .ok (.areturn, 1) := by decide +kernel
theorem dX3_bySign_60 : decode cX3_bySign 60 = .ok (.new 12, 3) := by decide +kernel
theorem dX3_bySign_63 : decode cX3_bySign 63 = .ok (.dup, 1) := by decide +kernel
theorem dX3_bySign_64 : decode cX3_bySign 64 = .ok (.invokespecial 14, 3) := by decide +kernel
theorem dX3_bySign_67 : decode cX3_bySign 67 = .ok (.areturn, 1) := by decide +kernel
theorem dX3_bySign_68 : decode cX3_bySign 68 = .ok (.new 15, 3) := by decide +kernel
theorem dX3_bySign_71 : decode cX3_bySign 71 = .ok (.dup, 1) := by decide +kernel
theorem dX3_bySign_72 : decode cX3_bySign 72 = .ok (.invokespecial 17, 3) := by decide +kernel
theorem dX3_bySign_75 : decode cX3_bySign 75 = .ok (.areturn, 1) := by decide +kernel
theorem dX3_bySign_76 : decode cX3_bySign 76 = .ok (.new 18, 3) := by decide +kernel
theorem dX3_bySign_79 : decode cX3_bySign 79 = .ok (.dup, 1) := by decide +kernel
theorem dX3_bySign_80 : decode cX3_bySign 80 = .ok (.invokespecial 20, 3) := by decide +kernel
theorem dX3_bySign_83 : decode cX3_bySign 83 = .ok (.areturn, 1) := by decide +kernel
theorem dX3_bySign_84 : decode cX3_bySign 84 = .ok (.new 21, 3) := by decide +kernel
theorem dX3_bySign_87 : decode cX3_bySign 87 = .ok (.dup, 1) := by decide +kernel
theorem dX3_bySign_88 : decode cX3_bySign 88 = .ok (.invokespecial 23, 3) := by decide +kernel
theorem dX3_bySign_91 : decode cX3_bySign 91 = .ok (.areturn, 1) := by decide +kernel
theorem dX3_bySign_92 : decode cX3_bySign 92 = .ok (.aconst_null, 1) := by decide +kernel
theorem dX3_bySign_93 : decode cX3_bySign 93 = .ok (.areturn, 1) := by decide +kernel
set_option maxHeartbeats 4000000 in
set_option maxRecDepth 100000 in
theorem c_X3_bySign (l : Launch) (D : va_G) (cy : ClassId) (a : Int32) : wk_Cq l yX3_bySign cX3_bySign 1 (some (.object "LaneRow$Law")) { frames := 4, cells := 1, slots := 0, locals := 72 } D cy [.int a] [] 1 0 (fun r u => r = u.map Prod.fst ∧ u.map Prod.snd = wk_bySign a) wk_LW := by
  unfold wk_Cq
  refine wk_mk (y := yX3_bySign) (As := [.int a]) (maxL := 1) (Qc := fun A => va_Qq (fun r u => r = u.map Prod.fst ∧ u.map Prod.snd = wk_bySign a) (fun u t => wk_Post D cy A (wk_LW u) t) A) (by decide) (Nat.le_of_ble_eq_true rfl) ?_
  intro p e s m below meth c A ls B hA hK hP hD hS hl
  obtain ⟨hx, hb, hr, hlocks, hml, hown, htb, hin⟩ := B
  have hl : lv_has ls 1 [(0, .int a)] := hl
  refine lv_iload_n hx hb dX3_bySign_0 rfl (lv_at hl 0 rfl) ?_
  by_cases c_1 : a = 100
  · refine wk_toi c_1 ?_
    have k_1 : a.toInt = 100 := wk_eq c_1
    refine lv_lookup (off := 83) (tgt := 84) hx hb dX3_bySign_1 (by decide) (by decide) (by decide) ?_
    refine va_new (ci := 7) (fs := []) (C := RX7) (T := TX7) (N := 0) hx hb htb inX7 (fun _ => .int) (fun _ h9 => absurd h9 (Nat.not_lt_zero _)) hown (htb _ tw_363) (htb _ tw_364) (htb _ tw_76) hK hP hD hS hA rfl (fun j hj => absurd hj (Nat.not_lt_zero j)) (Nat.le_of_ble_eq_true rfl) (Nat.le_of_ble_eq_true rfl) dX3_bySign_84 (fun q_2 H hP hD hS => ?_)
    refine W.widen (k := 1) (n := 0) (by decide) (by decide) ?_
    have hP : va_P D classes [(q_2, .inr (7, []))] H := hP
    have hD : va_D A [(q_2, .inr (7, []))] := hD
    refine lv_dup hx hb dX3_bySign_87 rfl ?_
    refine wk_vI (As := []) (rest := [.ref q_2]) (wc := []) (wr := [(q_2, .inr (7, []))]) (n := 0) ⟨hx, hb, hml, hown, htb⟩ (c_X7_init l D cy q_2   ) tw_367 tw_365 tw_366 tw_76 rfl rfl rfl (by decide +kernel) ⟨Nat.le_of_ble_eq_true rfl, Nat.le_of_ble_eq_true rfl⟩ hK hP hD hS hA [] [0] rfl rfl rfl rfl (by decide) rfl hl.1 rfl (Nat.le_of_ble_eq_true rfl) dX3_bySign_88 ⟨Nat.le_of_ble_eq_true rfl, Nat.le_of_ble_eq_true rfl⟩ (fun u_4 H locs hw_5 hP hD hS => ?_)
    refine W.widen (k := 1) (n := 0) (by decide) (by decide) ?_
    have hP : va_P D classes [(q_2, .inr (7, []))] H := hP
    have hD : va_D A [(q_2, .inr (7, []))] := hD
    refine W.widen (k := 1) (n := 0) (by decide) (by decide) ?_
    exact wk_qret (some q_2) (some (q_2, 7)) hx hb hr (Or.inl ⟨_, rfl⟩) hlocks rfl ⟨rfl, by rw [wk_bySign, if_pos c_1]; rfl⟩ hK hP hD hS [0] rfl rfl dX3_bySign_91
  have k_1 : ¬ a.toInt = 100 := wk_neq c_1
  by_cases c_6 : a = 101
  · refine wk_toi c_6 ?_
    have k_6 : a.toInt = 101 := wk_eq c_6
    refine lv_lookup (off := 75) (tgt := 76) hx hb dX3_bySign_1 (by decide) (by decide) (by decide) ?_
    refine va_new (ci := 0) (fs := []) (C := RX0) (T := TX0) (N := 0) hx hb htb inX0 (fun _ => .int) (fun _ h9 => absurd h9 (Nat.not_lt_zero _)) hown (htb _ tw_356) (htb _ tw_357) (htb _ tw_75) hK hP hD hS hA rfl (fun j hj => absurd hj (Nat.not_lt_zero j)) (Nat.le_of_ble_eq_true rfl) (Nat.le_of_ble_eq_true rfl) dX3_bySign_76 (fun q_7 H hP hD hS => ?_)
    refine W.widen (k := 1) (n := 0) (by decide) (by decide) ?_
    have hP : va_P D classes [(q_7, .inr (0, []))] H := hP
    have hD : va_D A [(q_7, .inr (0, []))] := hD
    refine lv_dup hx hb dX3_bySign_79 rfl ?_
    refine wk_vI (As := []) (rest := [.ref q_7]) (wc := []) (wr := [(q_7, .inr (0, []))]) (n := 0) ⟨hx, hb, hml, hown, htb⟩ (c_X0_init l D cy q_7   ) tw_360 tw_358 tw_359 tw_75 rfl rfl rfl (by decide +kernel) ⟨Nat.le_of_ble_eq_true rfl, Nat.le_of_ble_eq_true rfl⟩ hK hP hD hS hA [] [0] rfl rfl rfl rfl (by decide) rfl hl.1 rfl (Nat.le_of_ble_eq_true rfl) dX3_bySign_80 ⟨Nat.le_of_ble_eq_true rfl, Nat.le_of_ble_eq_true rfl⟩ (fun u_9 H locs hw_10 hP hD hS => ?_)
    refine W.widen (k := 1) (n := 0) (by decide) (by decide) ?_
    have hP : va_P D classes [(q_7, .inr (0, []))] H := hP
    have hD : va_D A [(q_7, .inr (0, []))] := hD
    refine W.widen (k := 1) (n := 0) (by decide) (by decide) ?_
    exact wk_qret (some q_7) (some (q_7, 0)) hx hb hr (Or.inl ⟨_, rfl⟩) hlocks rfl ⟨rfl, by rw [wk_bySign, if_neg c_1, if_pos c_6]; rfl⟩ hK hP hD hS [0] rfl rfl dX3_bySign_83
  have k_6 : ¬ a.toInt = 101 := wk_neq c_6
  by_cases c_11 : a = 104
  · refine wk_toi c_11 ?_
    have k_11 : a.toInt = 104 := wk_eq c_11
    refine lv_lookup (off := 59) (tgt := 60) hx hb dX3_bySign_1 (by decide) (by decide) (by decide) ?_
    refine va_new (ci := 1) (fs := []) (C := RX1) (T := TX1) (N := 0) hx hb htb inX1 (fun _ => .int) (fun _ h9 => absurd h9 (Nat.not_lt_zero _)) hown (htb _ tw_342) (htb _ tw_343) (htb _ tw_73) hK hP hD hS hA rfl (fun j hj => absurd hj (Nat.not_lt_zero j)) (Nat.le_of_ble_eq_true rfl) (Nat.le_of_ble_eq_true rfl) dX3_bySign_60 (fun q_12 H hP hD hS => ?_)
    refine W.widen (k := 1) (n := 0) (by decide) (by decide) ?_
    have hP : va_P D classes [(q_12, .inr (1, []))] H := hP
    have hD : va_D A [(q_12, .inr (1, []))] := hD
    refine lv_dup hx hb dX3_bySign_63 rfl ?_
    refine wk_vI (As := []) (rest := [.ref q_12]) (wc := []) (wr := [(q_12, .inr (1, []))]) (n := 0) ⟨hx, hb, hml, hown, htb⟩ (c_X1_init l D cy q_12   ) tw_346 tw_344 tw_345 tw_73 rfl rfl rfl (by decide +kernel) ⟨Nat.le_of_ble_eq_true rfl, Nat.le_of_ble_eq_true rfl⟩ hK hP hD hS hA [] [0] rfl rfl rfl rfl (by decide) rfl hl.1 rfl (Nat.le_of_ble_eq_true rfl) dX3_bySign_64 ⟨Nat.le_of_ble_eq_true rfl, Nat.le_of_ble_eq_true rfl⟩ (fun u_14 H locs hw_15 hP hD hS => ?_)
    refine W.widen (k := 1) (n := 0) (by decide) (by decide) ?_
    have hP : va_P D classes [(q_12, .inr (1, []))] H := hP
    have hD : va_D A [(q_12, .inr (1, []))] := hD
    refine W.widen (k := 1) (n := 0) (by decide) (by decide) ?_
    exact wk_qret (some q_12) (some (q_12, 1)) hx hb hr (Or.inl ⟨_, rfl⟩) hlocks rfl ⟨rfl, by rw [wk_bySign, if_neg c_1, if_neg c_6, if_pos c_11]; rfl⟩ hK hP hD hS [0] rfl rfl dX3_bySign_67
  have k_11 : ¬ a.toInt = 104 := wk_neq c_11
  by_cases c_16 : a = 115
  · refine wk_toi c_16 ?_
    have k_16 : a.toInt = 115 := wk_eq c_16
    refine lv_lookup (off := 67) (tgt := 68) hx hb dX3_bySign_1 (by decide) (by decide) (by decide) ?_
    refine va_new (ci := 5) (fs := []) (C := RX5) (T := TX5) (N := 0) hx hb htb inX5 (fun _ => .int) (fun _ h9 => absurd h9 (Nat.not_lt_zero _)) hown (htb _ tw_349) (htb _ tw_350) (htb _ tw_74) hK hP hD hS hA rfl (fun j hj => absurd hj (Nat.not_lt_zero j)) (Nat.le_of_ble_eq_true rfl) (Nat.le_of_ble_eq_true rfl) dX3_bySign_68 (fun q_17 H hP hD hS => ?_)
    refine W.widen (k := 1) (n := 0) (by decide) (by decide) ?_
    have hP : va_P D classes [(q_17, .inr (5, []))] H := hP
    have hD : va_D A [(q_17, .inr (5, []))] := hD
    refine lv_dup hx hb dX3_bySign_71 rfl ?_
    refine wk_vI (As := []) (rest := [.ref q_17]) (wc := []) (wr := [(q_17, .inr (5, []))]) (n := 0) ⟨hx, hb, hml, hown, htb⟩ (c_X5_init l D cy q_17   ) tw_353 tw_351 tw_352 tw_74 rfl rfl rfl (by decide +kernel) ⟨Nat.le_of_ble_eq_true rfl, Nat.le_of_ble_eq_true rfl⟩ hK hP hD hS hA [] [0] rfl rfl rfl rfl (by decide) rfl hl.1 rfl (Nat.le_of_ble_eq_true rfl) dX3_bySign_72 ⟨Nat.le_of_ble_eq_true rfl, Nat.le_of_ble_eq_true rfl⟩ (fun u_19 H locs hw_20 hP hD hS => ?_)
    refine W.widen (k := 1) (n := 0) (by decide) (by decide) ?_
    have hP : va_P D classes [(q_17, .inr (5, []))] H := hP
    have hD : va_D A [(q_17, .inr (5, []))] := hD
    refine W.widen (k := 1) (n := 0) (by decide) (by decide) ?_
    exact wk_qret (some q_17) (some (q_17, 5)) hx hb hr (Or.inl ⟨_, rfl⟩) hlocks rfl ⟨rfl, by rw [wk_bySign, if_neg c_1, if_neg c_6, if_neg c_11, if_pos c_16]; rfl⟩ hK hP hD hS [0] rfl rfl dX3_bySign_75
  have k_16 : ¬ a.toInt = 115 := wk_neq c_16
  by_cases c_21 : a = 116
  · refine wk_toi c_21 ?_
    have k_21 : a.toInt = 116 := wk_eq c_21
    refine lv_lookup (off := 51) (tgt := 52) hx hb dX3_bySign_1 (by decide) (by decide) (by decide) ?_
    refine va_new (ci := 3) (fs := []) (C := RX3) (T := TX3) (N := 0) hx hb htb inX3 (fun _ => .int) (fun _ h9 => absurd h9 (Nat.not_lt_zero _)) hown (htb _ tw_335) (htb _ tw_336) (htb _ tw_72) hK hP hD hS hA rfl (fun j hj => absurd hj (Nat.not_lt_zero j)) (Nat.le_of_ble_eq_true rfl) (Nat.le_of_ble_eq_true rfl) dX3_bySign_52 (fun q_22 H hP hD hS => ?_)
    refine W.widen (k := 1) (n := 0) (by decide) (by decide) ?_
    have hP : va_P D classes [(q_22, .inr (3, []))] H := hP
    have hD : va_D A [(q_22, .inr (3, []))] := hD
    refine lv_dup hx hb dX3_bySign_55 rfl ?_
    refine wk_vI (As := []) (rest := [.ref q_22]) (wc := []) (wr := [(q_22, .inr (3, []))]) (n := 0) ⟨hx, hb, hml, hown, htb⟩ (c_X3_init l D cy q_22   ) tw_339 tw_337 tw_338 tw_72 rfl rfl rfl (by decide +kernel) ⟨Nat.le_of_ble_eq_true rfl, Nat.le_of_ble_eq_true rfl⟩ hK hP hD hS hA [] [0] rfl rfl rfl rfl (by decide) rfl hl.1 rfl (Nat.le_of_ble_eq_true rfl) dX3_bySign_56 ⟨Nat.le_of_ble_eq_true rfl, Nat.le_of_ble_eq_true rfl⟩ (fun u_24 H locs hw_25 hP hD hS => ?_)
    refine W.widen (k := 1) (n := 0) (by decide) (by decide) ?_
    have hP : va_P D classes [(q_22, .inr (3, []))] H := hP
    have hD : va_D A [(q_22, .inr (3, []))] := hD
    refine W.widen (k := 1) (n := 0) (by decide) (by decide) ?_
    exact wk_qret (some q_22) (some (q_22, 3)) hx hb hr (Or.inl ⟨_, rfl⟩) hlocks rfl ⟨rfl, by rw [wk_bySign, if_neg c_1, if_neg c_6, if_neg c_11, if_neg c_16, if_pos c_21]; rfl⟩ hK hP hD hS [0] rfl rfl dX3_bySign_59
  have k_21 : ¬ a.toInt = 116 := wk_neq c_21
  refine lv_lookup (off := 91) (tgt := 92) hx hb dX3_bySign_1 (by decide) ((lv_osw c_1 rfl).trans ((lv_osw c_6 rfl).trans ((lv_osw c_11 rfl).trans ((lv_osw c_16 rfl).trans ((lv_osw c_21 rfl).trans rfl))))) (by decide) ?_
  refine lv_null hx hb dX3_bySign_92 ?_
  refine W.widen (k := 1) (n := 0) (by decide) (by decide) ?_
  exact wk_qret none none hx hb hr (Or.inl ⟨_, rfl⟩) hlocks rfl ⟨rfl, by rw [wk_bySign, if_neg c_1, if_neg c_6, if_neg c_11, if_neg c_16, if_neg c_21]; rfl⟩ hK hP hD hS [] rfl rfl dX3_bySign_93
