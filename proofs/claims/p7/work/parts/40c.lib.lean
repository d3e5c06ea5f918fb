def wk_np : List (String × String) := [(RX0, RX1), (RX3, RX1), (RX5, RX1), (RX0, RX5), (RX1, RX5), (RX3, RX5), (RX7, RX5), (RX1, RX0), (RX3, RX0), (RX5, RX0), (RX7, RX0), (RX0, RX7), (RX1, RX7), (RX3, RX7), (RX5, RX7)]
theorem wk_np_0_1 : (RX0, RX1) ∈ wk_np := List.Mem.head _
theorem wk_np_3_1 : (RX3, RX1) ∈ wk_np := List.Mem.tail _ (List.Mem.head _)
theorem wk_np_5_1 : (RX5, RX1) ∈ wk_np := List.Mem.tail _ (List.Mem.tail _ (List.Mem.head _))
theorem wk_np_0_5 : (RX0, RX5) ∈ wk_np := List.Mem.tail _ (List.Mem.tail _ (List.Mem.tail _ (List.Mem.head _)))
theorem wk_np_1_5 : (RX1, RX5) ∈ wk_np := List.Mem.tail _ (List.Mem.tail _ (List.Mem.tail _ (List.Mem.tail _ (List.Mem.head _))))
theorem wk_np_3_5 : (RX3, RX5) ∈ wk_np := List.Mem.tail _ (List.Mem.tail _ (List.Mem.tail _ (List.Mem.tail _ (List.Mem.tail _ (List.Mem.head _)))))
theorem wk_np_7_5 : (RX7, RX5) ∈ wk_np := List.Mem.tail _ (List.Mem.tail _ (List.Mem.tail _ (List.Mem.tail _ (List.Mem.tail _ (List.Mem.tail _ (List.Mem.head _))))))
theorem wk_np_1_0 : (RX1, RX0) ∈ wk_np := List.Mem.tail _ (List.Mem.tail _ (List.Mem.tail _ (List.Mem.tail _ (List.Mem.tail _ (List.Mem.tail _ (List.Mem.tail _ (List.Mem.head _)))))))
theorem wk_np_3_0 : (RX3, RX0) ∈ wk_np := List.Mem.tail _ (List.Mem.tail _ (List.Mem.tail _ (List.Mem.tail _ (List.Mem.tail _ (List.Mem.tail _ (List.Mem.tail _ (List.Mem.tail _ (List.Mem.head _))))))))
theorem wk_np_5_0 : (RX5, RX0) ∈ wk_np := List.Mem.tail _ (List.Mem.tail _ (List.Mem.tail _ (List.Mem.tail _ (List.Mem.tail _ (List.Mem.tail _ (List.Mem.tail _ (List.Mem.tail _ (List.Mem.tail _ (List.Mem.head _)))))))))
theorem wk_np_7_0 : (RX7, RX0) ∈ wk_np := List.Mem.tail _ (List.Mem.tail _ (List.Mem.tail _ (List.Mem.tail _ (List.Mem.tail _ (List.Mem.tail _ (List.Mem.tail _ (List.Mem.tail _ (List.Mem.tail _ (List.Mem.tail _ (List.Mem.head _))))))))))
theorem wk_np_0_7 : (RX0, RX7) ∈ wk_np := List.Mem.tail _ (List.Mem.tail _ (List.Mem.tail _ (List.Mem.tail _ (List.Mem.tail _ (List.Mem.tail _ (List.Mem.tail _ (List.Mem.tail _ (List.Mem.tail _ (List.Mem.tail _ (List.Mem.tail _ (List.Mem.head _)))))))))))
theorem wk_np_1_7 : (RX1, RX7) ∈ wk_np := List.Mem.tail _ (List.Mem.tail _ (List.Mem.tail _ (List.Mem.tail _ (List.Mem.tail _ (List.Mem.tail _ (List.Mem.tail _ (List.Mem.tail _ (List.Mem.tail _ (List.Mem.tail _ (List.Mem.tail _ (List.Mem.tail _ (List.Mem.head _))))))))))))
theorem wk_np_3_7 : (RX3, RX7) ∈ wk_np := List.Mem.tail _ (List.Mem.tail _ (List.Mem.tail _ (List.Mem.tail _ (List.Mem.tail _ (List.Mem.tail _ (List.Mem.tail _ (List.Mem.tail _ (List.Mem.tail _ (List.Mem.tail _ (List.Mem.tail _ (List.Mem.tail _ (List.Mem.tail _ (List.Mem.head _)))))))))))))
theorem wk_np_5_7 : (RX5, RX7) ∈ wk_np := List.Mem.tail _ (List.Mem.tail _ (List.Mem.tail _ (List.Mem.tail _ (List.Mem.tail _ (List.Mem.tail _ (List.Mem.tail _ (List.Mem.tail _ (List.Mem.tail _ (List.Mem.tail _ (List.Mem.tail _ (List.Mem.tail _ (List.Mem.tail _ (List.Mem.tail _ (List.Mem.head _))))))))))))))
def wk_E (s : State) : Prop := (∀ q ∈ wk_np, ∀ c t : ClassId, s.vm.findClass q.1 = some c → s.vm.findClass q.2 = some t → s.vm.assignable c t = false) ∧ ∀ c t : ClassId, s.vm.findClass RX7 = some c → s.vm.findClass RX1 = some t → s.vm.assignable c t = true
theorem wk_Em {u U : State} (h : u.vm.Alike U.vm) (hE : wk_E u) : wk_E U := by
  refine ⟨fun q hq c t h1 h2 => ?_, fun c t h1 h2 => ?_⟩
  · rw [h.findClass] at h1 h2
    rw [h.assignable]
    exact hE.1 q hq c t h1 h2
  · rw [h.findClass] at h1 h2
    rw [h.assignable]
    exact hE.2 c t h1 h2
theorem wk_nc {a b : String} {args : Array Value} {s : State} (h : (Cond.not (Cond.castable a b)).before args s = true) {c t : ClassId} (h1 : s.vm.findClass a = some c) (h2 : s.vm.findClass b = some t) : s.vm.assignable c t = false := by
  simpa [Cond.before, Cond.holds, Cond.value, h1, h2] using h
theorem wk_yc {a b : String} {args : Array Value} {s : State} (h : (Cond.castable a b).before args s = true) {c t : ClassId} (h1 : s.vm.findClass a = some c) (h2 : s.vm.findClass b = some t) : s.vm.assignable c t = true := by
  simpa [Cond.before, Cond.holds, Cond.value, h1, h2] using h
theorem wk_asgS (vm : Vm) (c : ClassId) : vm.assignable c c = true := by
  show vm.assignableAux (255 + 1) c c = true
  rw [Vm.assignableAux]
  simp only [beq_self_eq_true, Bool.true_or]
def fn_law_is (lc t : Nat) : Int32 := if lc = t then 1 else if lc = 7 ∧ t = 1 then 1 else 0
theorem wk_law_is01 (lc t : Nat) : fn_law_is lc t = 0 ∨ fn_law_is lc t = 1 := by
  unfold fn_law_is
  split
  · exact Or.inr rfl
  · split
    · exact Or.inr rfl
    · exact Or.inl rfl
theorem wk_asg1 {s : State} (hE : wk_E s) {lc : Nat} (hlc : wk_law lc) {q : vw_C} (hq : classes[lc]? = some q) {c t : ClassId} (h1 : s.vm.findClass q.1 = some c) (h2 : s.vm.findClass RX1 = some t) : s.vm.assignable c t = decide (fn_law_is lc 1 = 1) := by
  rcases hlc with rfl | rfl | rfl | rfl | rfl
  · cases hq
    exact (hE.1 _ wk_np_0_1 c t h1 h2).trans (by decide)
  · cases hq
    have e : c = t := Option.some.inj (h1.symm.trans h2)
    rw [e, wk_asgS]
    rfl
  · cases hq
    exact (hE.1 _ wk_np_3_1 c t h1 h2).trans (by decide)
  · cases hq
    exact (hE.1 _ wk_np_5_1 c t h1 h2).trans (by decide)
  · cases hq
    exact (hE.2 c t h1 h2).trans (by decide)
theorem wk_asg5 {s : State} (hE : wk_E s) {lc : Nat} (hlc : wk_law lc) {q : vw_C} (hq : classes[lc]? = some q) {c t : ClassId} (h1 : s.vm.findClass q.1 = some c) (h2 : s.vm.findClass RX5 = some t) : s.vm.assignable c t = decide (fn_law_is lc 5 = 1) := by
  rcases hlc with rfl | rfl | rfl | rfl | rfl
  · cases hq
    exact (hE.1 _ wk_np_0_5 c t h1 h2).trans (by decide)
  · cases hq
    exact (hE.1 _ wk_np_1_5 c t h1 h2).trans (by decide)
  · cases hq
    exact (hE.1 _ wk_np_3_5 c t h1 h2).trans (by decide)
  · cases hq
    have e : c = t := Option.some.inj (h1.symm.trans h2)
    rw [e, wk_asgS]
    rfl
  · cases hq
    exact (hE.1 _ wk_np_7_5 c t h1 h2).trans (by decide)
theorem wk_asg0 {s : State} (hE : wk_E s) {lc : Nat} (hlc : wk_law lc) {q : vw_C} (hq : classes[lc]? = some q) {c t : ClassId} (h1 : s.vm.findClass q.1 = some c) (h2 : s.vm.findClass RX0 = some t) : s.vm.assignable c t = decide (fn_law_is lc 0 = 1) := by
  rcases hlc with rfl | rfl | rfl | rfl | rfl
  · cases hq
    have e : c = t := Option.some.inj (h1.symm.trans h2)
    rw [e, wk_asgS]
    rfl
  · cases hq
    exact (hE.1 _ wk_np_1_0 c t h1 h2).trans (by decide)
  · cases hq
    exact (hE.1 _ wk_np_3_0 c t h1 h2).trans (by decide)
  · cases hq
    exact (hE.1 _ wk_np_5_0 c t h1 h2).trans (by decide)
  · cases hq
    exact (hE.1 _ wk_np_7_0 c t h1 h2).trans (by decide)
theorem wk_asg7 {s : State} (hE : wk_E s) {lc : Nat} (hlc : wk_law lc) {q : vw_C} (hq : classes[lc]? = some q) {c t : ClassId} (h1 : s.vm.findClass q.1 = some c) (h2 : s.vm.findClass RX7 = some t) : s.vm.assignable c t = decide (fn_law_is lc 7 = 1) := by
  rcases hlc with rfl | rfl | rfl | rfl | rfl
  · cases hq
    exact (hE.1 _ wk_np_0_7 c t h1 h2).trans (by decide)
  · cases hq
    exact (hE.1 _ wk_np_1_7 c t h1 h2).trans (by decide)
  · cases hq
    exact (hE.1 _ wk_np_3_7 c t h1 h2).trans (by decide)
  · cases hq
    exact (hE.1 _ wk_np_5_7 c t h1 h2).trans (by decide)
  · cases hq
    have e : c = t := Option.some.inj (h1.symm.trans h2)
    rw [e, wk_asgS]
    rfl
def wk_PreE (D : va_G) (cy : ClassId) (wc : va_W) (sz : Nat) (U : State) : Prop := wk_Pre D cy wc sz U ∧ wk_E U
def wk_CiE (l : Launch) (y : MethodName) (cc : ByteArray) (maxL : Nat) (ret : Option FieldType) (rm : Room) (D : va_G) (cy : ClassId) (As : List Value) (wc : va_W) (mc ms : Nat) {S : Type} (post : Int32 → S → Prop) (w1 : S → va_W) : Prop :=
  ∀ sz : Nat, Met l y (lw_c y cc maxL ret) rm (va_Pc As (wk_PreE D cy wc sz)) (va_Qi post (fun u t => wk_Post D cy (va_A wc sz) (w1 u) t) (va_A wc sz)) mc ms (va_A wc sz)
section WKE
variable {l : Launch} {y : MethodName} {rm : Room} {D : va_G} {cy : ClassId} {As : List Value} {wc : va_W} {mc ms : Nat} {cc : ByteArray} {maxL : Nat} {ret : Option FieldType}
theorem wk_mkE {Qc : (Nat → Prop) → Array Value → State → Outcome → State → Prop} (hy : plainName y.cls = true) (hlen : (lg_sl As).length ≤ maxL)
    (body : ∀ (p : Program) (e : Env) (s : State) (m : MethodId) (below : List Frame) (meth : Method) (c : Code) (A : Nat → Prop) (ls : Array Slot), wk_B p s m As.toArray meth c cc maxL ret y.cls y.name → (∀ q : Nat, s.heap.size ≤ q → A q) → va_K D classes [(cy, .int)] s → wk_E s → va_P D classes wc s.heap → va_D A wc → va_S A s.heap s.heap [] → lv_has ls maxL (lv_args 0 As) →
      W p l e rm s m As.toArray below meth c s.heap [] 0 0 (MQ below (Qc A) As.toArray s mc ms A) (F0 m 0 ls [])) :
    ∀ sz : Nat, Met l y (lw_c y cc maxL ret) rm (va_Pc As (wk_PreE D cy wc sz)) (Qc (va_A wc sz)) mc ms (va_A wc sz) := by
  intro sz
  refine Met.ofW (cc := cc) (maxL := maxL) (ret := ret) hy rfl ?_
  intro p e s m args below meth c s₁ B hml hv
  obtain ⟨rfl, ⟨hsz, hP, hK, hD0⟩, hE⟩ := hv
  subst hsz
  have hD := hD0.self (sz := s.heap.size)
  have hl := lv_entry As (n := maxL) hlen
  rw [lg_entry_eq]
  exact body p e s m below meth c _ _ ⟨B.exec, B.bytes, B.returns, B.notSynchronized, hml, findClass_of_methodNamed B.named, fun w h => atoms_spec (ws := lw_c y cc maxL ret) B.pre w (List.mem_cons_of_mem _ h), (name_of_methodNamed B.named B.method).1⟩ (fun q h => Or.inr h) hK hE hP hD va_S.rf hl
theorem wk_mkCiE {S : Type} {post : Int32 → S → Prop} {w1 : S → va_W} (hy : plainName y.cls = true) (hlen : (lg_sl As).length ≤ maxL)
    (body : ∀ (p : Program) (e : Env) (s : State) (m : MethodId) (below : List Frame) (meth : Method) (c : Code) (A : Nat → Prop) (ls : Array Slot), wk_B p s m As.toArray meth c cc maxL ret y.cls y.name → (∀ q : Nat, s.heap.size ≤ q → A q) → va_K D classes [(cy, .int)] s → wk_E s → va_P D classes wc s.heap → va_D A wc → va_S A s.heap s.heap [] → lv_has ls maxL (lv_args 0 As) →
      W p l e rm s m As.toArray below meth c s.heap [] 0 0 (MQ below (va_Qi post (fun u t => wk_Post D cy A (w1 u) t) A) As.toArray s mc ms A) (F0 m 0 ls [])) :
    wk_CiE l y cc maxL ret rm D cy As wc mc ms post w1 := wk_mkE (Qc := fun A => va_Qi post (fun u t => wk_Post D cy A (w1 u) t) A) hy hlen body
theorem wk_mk2CiE {S : Type} {post : Int32 → S → Prop} {w1 : S → va_W} (hy : plainName y.cls = true) (hlen : (lg_sl As).length ≤ maxL)
    (body : ∀ (p : Program) (e : Env) (s : State) (m : MethodId) (args : Array Value) (below : List Frame) (meth : Method) (c : Code) (A : Nat → Prop) (ls : Array Slot) (Q : State → Prop), wk_B p s m args meth c cc maxL (some .int) y.cls y.name → (∀ q : Nat, s.heap.size ≤ q → A q) → va_K D classes [(cy, .int)] s → wk_E s → va_P D classes wc s.heap → va_D A wc → va_S A s.heap s.heap [] → lv_has ls maxL (lv_args 0 As) →
      (∀ (v : Int32) (u : S) (H : Heap) (locs : List Loc) (ls : Array Slot) (pc : Nat), va_P D classes (w1 u) H → va_D A (w1 u) → va_S A s.heap H locs → decode cc pc = .ok (.ireturn, 1) → post v u → W p l e rm s m args below meth c H locs mc ms Q (F0 m pc ls [.int v])) →
      W p l e rm s m args below meth c s.heap [] 0 0 Q (F0 m 0 ls [])) :
    wk_CiE l y cc maxL (some .int) rm D cy As wc mc ms post w1 := by
  refine wk_mkCiE hy hlen ?_
  intro p e s m below meth c A ls B hA hK hE hP hD hS hl
  refine body p e s m As.toArray below meth c A ls _ B hA hK hE hP hD hS hl ?_
  intro v u H locs ls pc hP1 hD1 hS1 hdg hp
  have hr := B.2.2.1
  have key := wk_all (w1 u)
  exact wk_iret u B.1 B.2.1 hr B.2.2.2.1 hp hK hP1 hD1 hS1 (List.range (w1 u).length) key.1 key.2 hdg
theorem wk_mk2CzE {S : Type} {post : Int32 → S → Prop} {w1 : S → va_W} {ty : FieldType} (hy : plainName y.cls = true) (hlen : (lg_sl As).length ≤ maxL)
    (body : ∀ (p : Program) (e : Env) (s : State) (m : MethodId) (args : Array Value) (below : List Frame) (meth : Method) (c : Code) (A : Nat → Prop) (ls : Array Slot) (Q : State → Prop), wk_B p s m args meth c cc maxL (some ty) y.cls y.name → (∀ q : Nat, s.heap.size ≤ q → A q) → va_K D classes [(cy, .int)] s → wk_E s → va_P D classes wc s.heap → va_D A wc → va_S A s.heap s.heap [] → lv_has ls maxL (lv_args 0 As) →
      (∀ (v : Int32) (u : S) (H : Heap) (locs : List Loc) (ls : Array Slot) (pc : Nat), narrow ty (.int v) = .int v → va_P D classes (w1 u) H → va_D A (w1 u) → va_S A s.heap H locs → decode cc pc = .ok (.ireturn, 1) → post v u → W p l e rm s m args below meth c H locs mc ms Q (F0 m pc ls [.int v])) →
      W p l e rm s m args below meth c s.heap [] 0 0 Q (F0 m 0 ls [])) :
    wk_CiE l y cc maxL (some ty) rm D cy As wc mc ms post w1 := by
  refine wk_mkCiE hy hlen ?_
  intro p e s m below meth c A ls B hA hK hE hP hD hS hl
  refine body p e s m As.toArray below meth c A ls _ B hA hK hE hP hD hS hl ?_
  intro v u H locs ls pc hn hP1 hD1 hS1 hdg hp
  have hr := B.2.2.1
  have key := wk_all (w1 u)
  exact wk_zret u B.1 B.2.1 hr B.2.2.2.1 hn hp hK hP1 hD1 hS1 (List.range (w1 u).length) key.1 key.2 hdg
end WKE
section WKF
variable {p : Program} {l : Launch} {e : Env} {R : Room} {s : State} {m : MethodId} {args : Array Value} {below : List Frame} {meth : Method} {c : Code} {H : Heap} {locs : List Loc} {cells slots : Nat} {Q : State → Prop}
variable {cc : ByteArray} {pc : Nat} {ls : Array Slot} {rest : List Value} {A : Nat → Prop} {a : Nat} {ws : va_W} {H0 : Heap} {D : va_G} {cy : ClassId}
variable {y : MethodName} {bytes : ByteArray} {maxL nL mc ms n index : Nat} {ret : Option FieldType} {rm : Room} {own : String} {b : Addr} {As st0 : List Value} {wc wr : va_W}
theorem wk_blindE {sz : Nat} {av : List Value} : ∀ (a : Array Value) (U : State) (g : JFrame) (mk : MethodId), va_Pc av (wk_PreE D cy wc sz) a U → va_Pc av (wk_PreE D cy wc sz) a (U.calling g mk a) := fun a U g mk q => by
  obtain ⟨q0, ⟨q1, qP, qK, qD⟩, qE⟩ := q
  exact ⟨q0, ⟨q1, qP, va_K.moved (u := U) (U := U.calling g mk a) (Vm.Alike.refl U.vm) qK, qD⟩, wk_Em (u := U) (U := U.calling g mk a) (Vm.Alike.refl U.vm) qE⟩
theorem wk_preE {isC : List Nat} {av : List Value} (hK : va_K D classes [(cy, .int)] s) (hE : wk_E s) (hP : va_P D classes ws H) (hD : va_D A ws) (hnC : va_nd isC = true) (hC : isC.map (fun i => ws[i]?) = wc.map some) : ∀ U : State, U.heap = H → s.WarmedH U.vm → va_Pc av (wk_PreE D cy wc H.size) av.toArray U := fun U hU hW =>
  ⟨rfl, ⟨by rw [hU], by rw [hU]; exact wk_sub9 hP hC, va_K.moved hW.alike hK, (hD.sub isC hnC hC).weaken (fun _ _ _ _ => trivial)⟩, wk_Em hW.alike hE⟩
theorem wk_iVE {S : Type} {post : Int32 → S → Prop} {w1 : S → va_W} (F : CallFix p m c cc nL s args lw_g own) (hM : wk_CiE l y bytes maxL ret rm D cy (.ref b :: As) wc mc ms post w1) (hco : Cond.code y bytes maxL ret ∈ lw_g) (hl : Cond.methodLink own index y ∈ lw_g) (hin : Cond.instanceMethod y ∈ lw_g) (hse : Cond.selects y.cls y y ∈ lw_g) (hini : Cond.initialized y.cls ∈ lw_g)
    (hrc : rm.cells = mc) (hrs : rm.slots = ms) (hd : y.cls ≠ "java/lang/invoke/MethodHandle" ∧ y.cls ≠ "java/lang/invoke/VarHandle" ∧ (parseMethodDescriptor y.desc).map (fun d => d.parameters.length) = some n) (hR : rm.frames + 1 ≤ R.frames ∧ 8 + (maxL + 11) + rm.locals ≤ R.locals)
    (hK : va_K D classes [(cy, .int)] s) (hE : wk_E s) (hP : va_P D classes ws H) (hD : va_D A ws) (hS : va_S A H0 H locs) (hA : ∀ q, H0.size ≤ q → A q) (isC isR : List Nat) (hC : isC.map (fun i => ws[i]?) = wc.map some) (hR2 : isR.map (fun i => ws[i]?) = wr.map some) (hnC : va_nd isC = true) (hnR : va_nd isR = true) (hdis : ∀ i ∈ isR, i ∉ isC)
    (q0 : Nat) {ci : Nat} {T : u_T} {N : Nat} {fs : List Value} (hc : classes[ci]? = some (y.cls, T, N)) (he : wc[q0]? = some (b, .inr (ci, fs))) (hn : As.length = n) (hsize : ls.size = nL) (hstack : st0 = As.reverse ++ .ref b :: rest) (hW : (rest.map fun v => v.category).sum ≤ 8) (hdg : decode cc pc = .ok (.invokevirtual index, 3)) (hf : cells + mc ≤ R.cells ∧ slots + ms ≤ R.slots)
    (kk : ∀ (r : Int32) (u : S) (H1 : Heap) (locs1 : List Loc), post r u → va_P D classes (wr ++ w1 u) H1 → va_D A (wr ++ w1 u) → va_S A H0 H1 locs1 → W p l e R s m args below meth c H1 locs1 (cells + mc) (slots + ms) Q (F0 m (pc + 3) ls (.int r :: rest))) : W p l e R s m args below meth c H locs cells slots Q (F0 m pc ls st0) := by
  have hFc := va_free (wc := wc) hD hS hA isC hC
  refine va_calli (va_runV (As := As) (rest := rest) F (hM H.size) ⟨callB_of n F.2.2.2.2 (wk_good hco) rfl hrc hrs (F.2.2.2.2 _ hini) (F.2.2.2.2 _ hl) hd hR, F.2.2.2.2 _ hin, F.2.2.2.2 _ hse⟩ ⟨wk_blindE, va_recv hK (wk_sub9 hP hC) hc he, wk_preE (av := .ref b :: As) hK hE hP hD hnC hC⟩ rfl hn hsize hstack (lv_room hW) hdg hf) hS (fun q _ h => hFc q h) hFc (fun r u t H1 locs1 ht hvm hw hB hz1 hk1 hS1 => ?_)
  obtain ⟨hP1, hK1, hD1⟩ := hB
  rw [ht] at hP1
  obtain ⟨hP2, hD2⟩ := va_join hP hD isC isR hC hR2 hnR hdis hk1 hFc hP1 hD1
  exact kk r u H1 locs1 hw hP2 hD2 hS1
theorem wk_instE (hexec : p.tables.exec = Jvm.exec) (hb : c.code = cc) {nm C : String} (hown : s.vm.findClass own = some m.cls) (hlink : (Cond.classLink own index nm).before args s = true)
    (hr : ∃ cell : Cell, H[a]? = some cell ∧ cell.vm.isStatics = false ∧ s.vm.findClass C = some cell.cls) (r : Int32) (h01 : r = 0 ∨ r = 1) (has : ∀ c1 t1 : ClassId, s.vm.findClass C = some c1 → s.vm.findClass nm = some t1 → s.vm.assignable c1 t1 = decide (r = 1)) (hdg : decode cc pc = .ok (.instanceof index, 3))
    (k : W p l e R s m args below meth c H locs cells slots Q (F0 m (pc + 3) ls (.int r :: rest))) : W p l e R s m args below meth c H locs cells slots Q (F0 m pc ls (.ref a :: rest)) := by
  obtain ⟨cell, h1, h2, h3⟩ := hr
  intro T hT X
  have hpl : e.platform.magicAccessors = ({} : Platform).magicAccessors := by rw [X.admits.platform]
  obtain ⟨c', hc', hcl⟩ := Cond.classLink_spec hown hlink e.platform hpl
  have hz := has cell.cls c' h3 hc'
  rcases h01 with rfl | rfl
  · obtain ⟨ks, hks, -⟩ := Vm.findClass_spec h3
    obtain ⟨vm', X', st⟩ := va_instofNo X hexec hown hlink (by rw [hT]; exact h1) h2 hks hc' (hz.trans (by decide)) (g := F0 m pc ls (.ref a :: rest)) rfl rfl (by rw [hb]; exact hdg)
    obtain ⟨t, a1, b1⟩ := k (T.setVm vm') hT X'
    exact ⟨t, st t a1, b1⟩
  · obtain ⟨vm', X', st⟩ := X.instanceofYes hexec hown hlink (by rw [hT]; exact h1) h2 hc' (hz.trans (by decide)) (g := F0 m pc ls (.ref a :: rest)) rfl rfl (by rw [hb]; exact hdg)
    obtain ⟨t, a1, b1⟩ := k (T.setVm vm') hT X'
    exact ⟨t, st t a1, b1⟩
end WKF
