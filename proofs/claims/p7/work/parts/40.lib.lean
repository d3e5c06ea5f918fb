def wk_law (lc : Nat) : Prop := lc = 0 ∨ lc = 1 ∨ lc = 3 ∨ lc = 5 ∨ lc = 7
theorem wk_lawC {lc : Nat} (h : wk_law lc) : ∃ q : vw_C, classes[lc]? = some q := by
  rcases h with rfl | rfl | rfl | rfl | rfl
  · exact ⟨_, rfl⟩
  · exact ⟨_, rfl⟩
  · exact ⟨_, rfl⟩
  · exact ⟨_, rfl⟩
  · exact ⟨_, rfl⟩
theorem wk_lawR {s : State} {H : Heap} {D : va_G} {a q0 lc : Nat} {fs : List Value} {ws : va_W} {tys : List (ClassId × FieldType)} (h : wk_law lc) (hK : va_K D classes tys s) (hP : va_P D classes ws H) (he : ws[q0]? = some (a, .inr (lc, fs))) : ∃ (C : String) (cell : Cell), H[a]? = some cell ∧ cell.vm.isStatics = false ∧ s.vm.findClass C = some cell.cls := by
  obtain ⟨q, hq⟩ := wk_lawC h
  obtain ⟨cell, h1, h2, h3⟩ := va_recv hK hP hq he
  exact ⟨q.1, cell, h1, h2, h3⟩
def wk_LW : Option (Nat × Nat) → va_W
  | none => []
  | some q => [(q.1, .inr (q.2, []))]
def wk_lv (lv : Value) : Option (Nat × Nat) → Value
  | none => lv
  | some q => .ref q.1
def wk_bySign (a : Int32) : Option Nat := if a = 100 then some 7 else if a = 101 then some 0 else if a = 104 then some 1 else if a = 115 then some 5 else if a = 116 then some 3 else none
def wk_lcO (a : Int32) : Nat := (wk_bySign a).getD 3
theorem wk_bsl {a : Int32} {lc : Nat} (h : wk_bySign a = some lc) : wk_law lc := by
  unfold wk_bySign at h
  unfold wk_law
  split at h
  · cases h; omega
  · split at h
    · cases h; omega
    · split at h
      · cases h; omega
      · split at h
        · cases h; omega
        · split at h
          · cases h; omega
          · cases h
theorem wk_ksb {sz : Int32} {f : Nat → Int32} (h : ¬ fn_X6_keysTold sz f = (-1)) : ¬ (wk_bySign (f (0 : Int32).toNatClampNeg) = none) := by
  intro k
  apply h
  unfold fn_X6_keysTold
  refine if_pos ?_
  unfold fn_X6_signsOfKey
  split
  · rfl
  · unfold wk_bySign at k
    split at k
    · cases k
    · rename_i h1
      rw [if_neg h1]
      split at k
      · cases k
      · rename_i h2
        rw [if_neg h2]
        split at k
        · cases k
        · rename_i h3
          rw [if_neg h3]
          split at k
          · cases k
          · rename_i h4
            rw [if_neg h4]
            split at k
            · cases k
            · rename_i h5
              rw [if_neg h5]
def wk_Cq (l : Launch) (y : MethodName) (cc : ByteArray) (maxL : Nat) (ret : Option FieldType) (rm : Room) (D : va_G) (cy : ClassId) (As : List Value) (wc : va_W) (mc ms : Nat) {S : Type} (post : Option Nat → S → Prop) (w1 : S → va_W) : Prop :=
  ∀ sz : Nat, Met l y (lw_c y cc maxL ret) rm (va_Pc As (wk_Pre D cy wc sz)) (va_Qq post (fun u t => wk_Post D cy (va_A wc sz) (w1 u) t) (va_A wc sz)) mc ms (va_A wc sz)
theorem wk_goodL {L : List Cond} (h : ∀ w ∈ L, w ∈ lw_g) : GoodIn lw_g L := fun w hw => ⟨h w hw, good_of_word (List.mem_filter.mp (h w hw)).2⟩
section WKO
variable {p : Program} {l : Launch} {e : Env} {R : Room} {s : State} {m : MethodId} {args : Array Value} {below : List Frame} {meth : Method} {c : Code} {H : Heap} {locs : List Loc} {cells slots : Nat} {Q : State → Prop}
variable {cc : ByteArray} {pc : Nat} {ls : Array Slot} {rest : List Value} {A : Nat → Prop} {a : Nat} {ws : va_W} {H0 : Heap} {D : va_G} {cy : ClassId}
variable {y : MethodName} {bytes : ByteArray} {maxL nL mc ms n index : Nat} {ret : Option FieldType} {rm : Room} {own : String} {b : Addr} {As st0 : List Value} {wc wr : va_W}
theorem wk_inst (hexec : p.tables.exec = Jvm.exec) (hb : c.code = cc) {nm : String} (hown : s.vm.findClass own = some m.cls) (hlink : (Cond.classLink own index nm).before args s = true)
    (hr : ∃ (C : String) (cell : Cell), H[a]? = some cell ∧ cell.vm.isStatics = false ∧ s.vm.findClass C = some cell.cls) (hdg : decode cc pc = .ok (.instanceof index, 3))
    (k : ∀ r : Int32, (r = 0 ∨ r = 1) → W p l e R s m args below meth c H locs cells slots Q (F0 m (pc + 3) ls (.int r :: rest))) : W p l e R s m args below meth c H locs cells slots Q (F0 m pc ls (.ref a :: rest)) := by
  obtain ⟨C, cell, h1, h2, h3⟩ := hr
  intro T hT X
  have hpl : e.platform.magicAccessors = ({} : Platform).magicAccessors := by rw [X.admits.platform]
  obtain ⟨c', hc', hcl⟩ := Cond.classLink_spec hown hlink e.platform hpl
  cases has : s.vm.assignable cell.cls c' with
  | false =>
    obtain ⟨ks, hks, -⟩ := Vm.findClass_spec h3
    obtain ⟨vm', X', st⟩ := va_instofNo X hexec hown hlink (by rw [hT]; exact h1) h2 hks hc' has (g := F0 m pc ls (.ref a :: rest)) rfl rfl (by rw [hb]; exact hdg)
    obtain ⟨t, a1, b1⟩ := k 0 (Or.inl rfl) (T.setVm vm') hT X'
    exact ⟨t, st t a1, b1⟩
  | true =>
    obtain ⟨vm', X', st⟩ := X.instanceofYes hexec hown hlink (by rw [hT]; exact h1) h2 hc' has (g := F0 m pc ls (.ref a :: rest)) rfl rfl (by rw [hb]; exact hdg)
    obtain ⟨t, a1, b1⟩ := k 1 (Or.inr rfl) (T.setVm vm') hT X'
    exact ⟨t, st t a1, b1⟩
theorem wk_qret {S : Type} {post : Option Nat → S → Prop} {w1 : S → va_W} {rt : FieldType} (r : Option Nat) (u : S) (hx : p.tables.exec = Jvm.exec) (hb : c.code = cc) (hr : meth.sig.returnType = some rt) (hrt : (∃ n, rt = .object n) ∨ ∃ t, rt = .array t) (hlocks : meth.locks = false) {v : Value} (hv : v = va_rf r) (hp : post r u) (hK : va_K D classes [(cy, .int)] s) (hP : va_P D classes ws H) (hD : va_D A ws) (hS : va_S A s.heap H locs)
    (is : List Nat) (hnd : va_nd is = true) (hs : is.map (fun i => ws[i]?) = (w1 u).map some) (hdg : decode cc pc = .ok (.areturn, 1)) :
    W p l e R s m args below meth c H locs cells slots (MQ below (va_Qq post (fun u t => wk_Post D cy A (w1 u) t) A) args s cells slots A) (F0 m pc ls [v]) := by
  have hD9 := hD.sub is hnd hs
  have hP9 := wk_sub9 hP hs
  subst hv
  exact W.aret hx hb hr hrt (va_rf_or r) (fun t ht hW => ⟨⟨r, u, rfl, hp, by rw [ht]; exact hP9, va_K.moved hW.alike hK, hD9⟩, hS.F ht⟩) hS.2.2 hdg hlocks
theorem wk_qS {S : Type} {post : Option Nat → S → Prop} {w1 : S → va_W} (F : CallFix p m c cc nL s args lw_g own) (hM : wk_Cq l y bytes maxL ret rm D cy As wc mc ms post w1) (hco : Cond.code y bytes maxL ret ∈ lw_g) (hl : Cond.methodLink own index y ∈ lw_g) (hst : Cond.static y ∈ lw_g) (hini : Cond.initialized y.cls ∈ lw_g)
    (hrc : rm.cells = mc) (hrs : rm.slots = ms) (hd : y.cls ≠ "java/lang/invoke/MethodHandle" ∧ y.cls ≠ "java/lang/invoke/VarHandle" ∧ (parseMethodDescriptor y.desc).map (fun d => d.parameters.length) = some n) (hR : rm.frames + 1 ≤ R.frames ∧ 8 + (maxL + 11) + rm.locals ≤ R.locals)
    (hK : va_K D classes [(cy, .int)] s) (hP : va_P D classes ws H) (hD : va_D A ws) (hS : va_S A H0 H locs) (hA : ∀ q, H0.size ≤ q → A q) (isC isR : List Nat) (hC : isC.map (fun i => ws[i]?) = wc.map some) (hR2 : isR.map (fun i => ws[i]?) = wr.map some) (hnC : va_nd isC = true) (hnR : va_nd isR = true) (hdis : ∀ i ∈ isR, i ∉ isC)
    (hn : As.length = n) (hsize : ls.size = nL) (hstack : st0 = As.reverse ++ rest) (hW : (rest.map fun v => v.category).sum ≤ 8) (hdg : decode cc pc = .ok (.invokestatic index, 3)) (hf : cells + mc ≤ R.cells ∧ slots + ms ≤ R.slots)
    (kk : ∀ (r : Option Nat) (u : S) (H1 : Heap) (locs1 : List Loc), post r u → va_P D classes (wr ++ w1 u) H1 → va_D A (wr ++ w1 u) → va_S A H0 H1 locs1 → W p l e R s m args below meth c H1 locs1 (cells + mc) (slots + ms) Q (F0 m (pc + 3) ls (va_rf r :: rest))) : W p l e R s m args below meth c H locs cells slots Q (F0 m pc ls st0) := by
  have hFc := va_free (wc := wc) hD hS hA isC hC
  refine va_callq (va_runS (As := As) (rest := rest) F (hM H.size) ⟨callB_of n F.2.2.2.2 (wk_good hco) rfl hrc hrs (F.2.2.2.2 _ hini) (F.2.2.2.2 _ hl) hd hR, F.2.2.2.2 _ hst⟩ ⟨wk_blind, wk_pre (av := As) hK hP hD hnC hC⟩ rfl hn hsize hstack (lv_room hW) hdg hf) hS (fun q _ h => hFc q h) hFc (fun r u t H1 locs1 ht hvm hw hB hz1 hk1 hS1 => ?_)
  obtain ⟨hP1, hK1, hD1⟩ := hB
  rw [ht] at hP1
  obtain ⟨hP2, hD2⟩ := va_join hP hD isC isR hC hR2 hnR hdis hk1 hFc hP1 hD1
  exact kk r u H1 locs1 hw hP2 hD2 hS1
/-- an overriding method: x is named, y is run -/
theorem wk_iO {S : Type} {post : Int32 → S → Prop} {w1 : S → va_W} {x : MethodName} {C : String} {b0 : ByteArray} {m0 : Nat} {r0 : Option FieldType} (F : CallFix p m c cc nL s args lw_g own) (hM : wk_Ci l y bytes maxL ret rm D cy (.ref b :: As) wc mc ms post w1) (hco : Cond.code y bytes maxL ret ∈ lw_g) (hl : Cond.methodLink own index x ∈ lw_g) (hsm : Cond.sameMethod x.cls x.cls x.name x.desc ∈ lw_g) (hix : Cond.instanceMethod x ∈ lw_g) (hse : Cond.selects C x y ∈ lw_g) (hiy : Cond.instanceMethod y ∈ lw_g) (hini : Cond.initialized y.cls ∈ lw_g) (h0 : Cond.code x b0 m0 r0 ∈ lw_g)
    (hrc : rm.cells = mc) (hrs : rm.slots = ms) (hd : x.cls ≠ "java/lang/invoke/MethodHandle" ∧ x.cls ≠ "java/lang/invoke/VarHandle" ∧ (parseMethodDescriptor x.desc).map (fun d => d.parameters.length) = some n) (hR : rm.frames + 1 ≤ R.frames ∧ 8 + (maxL + 11) + rm.locals ≤ R.locals)
    (hK : va_K D classes [(cy, .int)] s) (hP : va_P D classes ws H) (hD : va_D A ws) (hS : va_S A H0 H locs) (hA : ∀ q, H0.size ≤ q → A q) (isC isR : List Nat) (hC : isC.map (fun i => ws[i]?) = wc.map some) (hR2 : isR.map (fun i => ws[i]?) = wr.map some) (hnC : va_nd isC = true) (hnR : va_nd isR = true) (hdis : ∀ i ∈ isR, i ∉ isC)
    (q0 : Nat) {ci : Nat} {T : u_T} {N : Nat} {fs : List Value} (hc : classes[ci]? = some (C, T, N)) (he : wc[q0]? = some (b, .inr (ci, fs))) (hn : As.length = n) (hsize : ls.size = nL) (hstack : st0 = As.reverse ++ .ref b :: rest) (hW : (rest.map fun v => v.category).sum ≤ 8) (hdg : decode cc pc = .ok (.invokevirtual index, 3)) (hf : cells + mc ≤ R.cells ∧ slots + ms ≤ R.slots)
    (kk : ∀ (r : Int32) (u : S) (H1 : Heap) (locs1 : List Loc), post r u → va_P D classes (wr ++ w1 u) H1 → va_D A (wr ++ w1 u) → va_S A H0 H1 locs1 → W p l e R s m args below meth c H1 locs1 (cells + mc) (slots + ms) Q (F0 m (pc + 3) ls (.int r :: rest))) : W p l e R s m args below meth c H locs cells slots Q (F0 m pc ls st0) := by
  have hFc := va_free (wc := wc) hD hS hA isC hC
  have hG : GoodIn lw_g (va_wsO own index C x.cls x y (lw_c y bytes maxL ret)) := wk_goodL (by
    intro w hw
    simp only [va_wsO, lw_c, List.cons_append, List.nil_append, List.mem_cons] at hw
    rcases hw with rfl | rfl | rfl | rfl | rfl | rfl | rfl | h
    · exact hl
    · exact hsm
    · exact hix
    · exact hse
    · exact hiy
    · exact hini
    · exact hco
    · exact h)
  refine va_calli (va_runU (As := As) (rest := rest) F (hM H.size) (va_cwO n F.2.2.2.2 hG rfl hrc hrs h0 hd hR) ⟨wk_blind, va_recv hK (wk_sub9 hP hC) hc he, wk_pre (av := .ref b :: As) hK hP hD hnC hC⟩ rfl hn hsize hstack (lv_room hW) hdg hf) hS (fun q _ h => hFc q h) hFc (fun r u t H1 locs1 ht hvm hw hB hz1 hk1 hS1 => ?_)
  obtain ⟨hP1, hK1, hD1⟩ := hB
  rw [ht] at hP1
  obtain ⟨hP2, hD2⟩ := va_join hP hD isC isR hC hR2 hnR hdis hk1 hFc hP1 hD1
  exact kk r u H1 locs1 hw hP2 hD2 hS1
end WKO

