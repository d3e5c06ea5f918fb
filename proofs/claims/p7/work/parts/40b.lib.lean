section WKU
variable {p : Program} {l : Launch} {e : Env} {R : Room} {s : State} {m : MethodId} {args : Array Value} {below : List Frame} {meth : Method} {c : Code} {H : Heap} {locs : List Loc} {cells slots : Nat} {Q : State → Prop}
/-- asking for the class and the method first changes nothing of what the instruction does -/
theorem wk_askS {K : Unit → Pre} {E0 : CtlPost} {b0 : Bool} {acts : List Action} {t s0 : State} {f : JFrame} {ix ci nt cx : Nat} {mk : MethodId} {dk ck : Class} {cf : ClassFile} {nm ds : String}
    (htop : t.topJava?.isSome) (hpv : e.platform.polymorphicOnlyByInvokevirtual = true) (hwm : s0.WarmedH t.vm) (hent : s0.MethodEntryUp e t.vm f.method.cls ix cx mk ci)
    (hdk : s0.vm.classes[f.method.cls]? = some dk) (hcf : dk.cf = some cf) (hcp : cf.constantPool[ix]? = some (.methodref ci nt)) (hnt : cf.constantPool.nameAndType? nt = some (nm, ds))
    (hck : s0.vm.classes[cx]? = some ck) (hpoly : (ck.methods.any fun z => z.name == nm && !z.isStatic && signaturePolymorphic ck z) = false) :
    wp (invokestatic.sem ix) K E0 e b0 acts (t.setTop f) ↔ wp (invokestatic.sem ix) K E0 e b0 acts ((t.setVm (t.vm.calledUp f.method.cls ci ix cx mk)).setTop f) := by
  obtain ⟨w1, w2, w3, w4⟩ := hent.classFirst
  have hcp1 : cf.constantPool[ix]? = some (if false then .interfaceMethodref ci nt else .methodref ci nt) := hcp
  obtain ⟨d1, hd1, ed1⟩ := hwm.alike.2.2 _ _ hdk
  obtain ⟨d2, hd2, ed2⟩ := hent.warmed.alike.2.2 _ _ hdk
  have r1 := memberRef_ask_via (e := e) hd1 (by rw [ed1]; exact hcf) hcp1 hnt
  have r2 := memberRef_ask_via (e := e) hd2 (by rw [ed2]; exact hcf) hcp1 hnt
  obtain ⟨g1, hg1, eg1⟩ := w3.alike.2.2 _ _ hck
  obtain ⟨g2, hg2, eg2⟩ := hent.warmed.alike.2.2 _ _ hck
  have q1 : (g1.methods.any fun z => z.name == nm && !z.isStatic && signaturePolymorphic g1 z) = false := by rw [eg1]; exact hpoly
  have q2 : (g2.methods.any fun z => z.name == nm && !z.isStatic && signaturePolymorphic g2 z) = false := by rw [eg2]; exact hpoly
  have tA : (t.setVm (t.vm.noted f.method.cls ci (.cls cx))).topJava?.isSome := htop
  have tB : (t.setVm (t.vm.calledUp f.method.cls ci ix cx mk)).topJava?.isSome := htop
  have mA := State.method?_setTop f htop
  have mB := State.method?_setTop f tB
  have askC : ∀ {K' : ClassId → Pre} {b' : Bool} {as' : List Action}, wp (Jvm.resolveClassAt ci) K' E0 e b' as' (t.setTop f) ↔ K' cx b' as' ((t.setVm (t.vm.noted f.method.cls ci (.cls cx))).setTop f) := W.resolveClassAt_links (t := t.setTop f) mA w1
  have askM : ∀ {K' : MethodId → Pre} {b' : Bool} {as' : List Action}, wp (Jvm.resolveMethodAt ix) K' E0 e b' as' ((t.setVm (t.vm.noted f.method.cls ci (.cls cx))).setTop f) ↔ K' mk b' as' ((t.setVm (t.vm.calledUp f.method.cls ci ix cx mk)).setTop f) :=
    W.resolveMethodAt_links (t := (t.setVm (t.vm.noted f.method.cls ci (.cls cx))).setTop f) (State.method?_setTop f tA) w4
  simp [invokestatic.sem, hpv, Seam.memberRefOf, mA, mB, r1, r2, askC, hg1, hg2, q1, q2, askM, W.resolveClassAt_ready (s := (t.setVm (t.vm.calledUp f.method.cls ci ix cx mk)).setTop f) mB hent.classReady, W.resolveMethodAt_ready (s := (t.setVm (t.vm.calledUp f.method.cls ci ix cx mk)).setTop f) mB hent.ready, -Array.any_eq_true]
variable {cc : ByteArray} {pc : Nat} {ls : Array Slot} {rest : List Value} {A : Nat → Prop} {ws : va_W} {H0 : Heap} {D : va_G} {cy : ClassId}
variable {x y : MethodName} {bytes : ByteArray} {maxL nL mc ms n index : Nat} {ret : Option FieldType} {rm : Room} {own : String} {As st0 : List Value} {wc wr : va_W}
/-- the run of such a call -/
theorem wk_runU {Pc : Array Value → State → Prop} {Qc : Array Value → State → Outcome → State → Prop} {free : Addr → Prop} {wds wds' : List Cond} {g : JFrame}
    (F : CallFix p m c cc nL s args lw_g own) (hM : Met l y wds rm Pc Qc mc ms free) (hgood : GoodIn lw_g wds) (hwds : wds = Cond.code y bytes maxL ret :: wds') (hl : Cond.methodLink own index x ∈ lw_g) (hsm : Cond.sameMethod x.cls y.cls x.name x.desc ∈ lw_g) (hst : Cond.static y ∈ lw_g) (hini : Cond.initialized y.cls ∈ lw_g)
    (hxy : y.name = x.name ∧ y.desc = x.desc) (hrc : rm.cells = mc) (hrs : rm.slots = ms) (hd : y.cls ≠ "java/lang/invoke/MethodHandle" ∧ y.cls ≠ "java/lang/invoke/VarHandle" ∧ (parseMethodDescriptor x.desc).map (fun d => d.parameters.length) = some n) (hR : rm.frames + 1 ≤ R.frames ∧ 8 + (maxL + 11) + rm.locals ≤ R.locals) (hp : PreS s H Pc As)
    (hg : g.method = m) (hn : As.length = n) (hsize : g.locals.size = nL) (hstack : g.stack = As.reverse ++ rest) (hW : 2 * g.monitorRoom + (rest.map fun v => v.category).sum ≤ 8) (hdg : decode cc g.pc = .ok (.invokestatic index, 3)) (hf : cells + mc ≤ R.cells ∧ slots + ms ≤ R.slots) :
    va_Run p l e R s m args below meth c H locs cells slots mc ms g rest (Qc As.toArray) free := by
  obtain ⟨hx, hb, hml, ho, ht⟩ := F
  have hcm : Cond.code y bytes maxL ret ∈ wds := by rw [hwds]; exact List.mem_cons_self
  have hcode := ht _ (hgood _ hcm).1
  have hinit := ht _ hini
  have hy0 : (⟨y.cls, x.name, x.desc⟩ : MethodName) = y := by rw [← hxy.1, ← hxy.2]
  have hK : Back l R p e below s args y 3 8 (PreOf R mc ms Pc) (PostOf Qc mc ms free) := back_of (bytes := bytes) (maxL := maxL) (ret := ret) hM hp.1 hrc hrs hR.1 hR.2 (pay_in ht hgood) hcm (fun a' U hw => word_at hw (Or.inl (by first | rfl | simp [Cond.onTables, Cond.keeps, Cond.steady])) hinit)
  intro T hT X
  have hpl : e.platform.magicAccessors = ({} : Platform).magicAccessors := by rw [X.admits.platform]
  have hpv : e.platform.polymorphicOnlyByInvokevirtual = true := by rw [X.admits.platform]
  obtain ⟨cx, kx, mk, hcx, hkx, hni, hfound, hnamed⟩ := Cond.sameMethod_found (ht _ hsm)
  rw [hy0] at hnamed
  obtain ⟨methM, cM, hmM, -, -, -, -, -, -, hsig⟩ := Cond.code_spec hnamed hcode
  have hstat : methM.isStatic = true := Cond.static_spec hnamed hmM (ht _ hst)
  obtain ⟨ky, hky, hny⟩ := className_of_methodNamed hnamed
  have hiy : ky.init = .initialized := Cond.initialized_spec (findClass_of_methodNamed hnamed) hky hinit
  obtain ⟨ci, hlk, hright⟩ := Cond.methodLink_specUp ho hcx hkx hni hfound (ht _ hl) e.platform hpl (by rw [X.admits.platform])
  have hE : s.MethodEntryUp e T.vm m.cls index cx mk ci := State.methodEntryUp X.warmed hlk hright
  obtain ⟨dk, cf, nt, nm, ds, kx', _, _, hdk, hcf, hcp, hnt, -, -, hkx', -, hnop, -⟩ := hlk.here
  cases hkx.symm.trans hkx'
  obtain ⟨dk2, hdk2, edk2⟩ := hE.warmed.alike.2.2 _ _ hdk
  obtain ⟨ky2, hky2, eky2⟩ := hE.warmed.alike.2.2 _ _ hky
  obtain ⟨kx2, hkx2, ekx2⟩ := hE.warmed.alike.2.2 _ _ hkx
  have hpo : (kx.methods.any fun z => z.name == nm && !z.isStatic && signaturePolymorphic kx z) = false := by simp [hnop]
  have hpo2 : (kx2.methods.any fun z => z.name == nm && !z.isStatic && signaturePolymorphic kx2 z) = false := by rw [ekx2]; exact hpo
  have hcp1 : cf.constantPool[index]? = some (if false then .interfaceMethodref ci nt else .methodref ci nt) := hcp
  have hlen : As.length = methM.sig.parameters.length := by
    have h5 := hd.2.2
    rw [← hxy.2, hsig] at h5
    rw [hn]
    exact (Option.some.inj h5).symm
  have X1 : Stand p l e R s m args below meth c (T.setVm (T.vm.calledUp m.cls ci index cx mk)) locs cells slots := X.noted hE.warmed
  have step : ∀ target, (∀ acts, Steps p.tables e below (doInvoke e ((T.setVm (T.vm.calledUp m.cls ci index cx mk)).setTop { g with stack := rest }) acts mk As.toArray).1 target) → Steps p.tables e below (T.setTop g) target := by
    intro target hrest
    subst hg
    have hdg1 : decode c.code g.pc = .ok (.invokestatic index, 3) := by rw [hb]; exact hdg
    jvm_step X.here [hx, hdg1, wk_askS (e := e) (t := T) (s0 := s) (f := g) X.here.top hpv X.warmed hE hdk hcf hcp hnt hkx hpo,
      invokestatic.wp_ready (e := e) (s := T.setVm (T.vm.calledUp g.method.cls ci index cx mk)) (k := ky2) (meth := methM) (m := mk) (args := As) (rest := rest) (f := g)
        X.here.top ⟨ci, nm, ds, false, cx, kx2, memberRef_ask_via (e := e) hdk2 (by rw [edk2]; exact hcf) hcp1 hnt, hE.classReady, hkx2, hpo2⟩ hE.ready hky2
        (by show (T.vm.calledUp g.method.cls ci index cx mk).method? mk = some methM; rw [hE.warmed.alike.method?]; exact hmM)
        (by rw [eky2]; show signaturePolymorphic ky methM = false; simp [signaturePolymorphic, hny, hd.1, hd.2.1]) hstat (by rw [eky2]; exact hiy) hlen hstack]
    exact fun acts => hrest _
  obtain ⟨v, ⟨U', l2, c2, s2⟩, X', ⟨g', mk', t, L, e1, e2, hq, h1, hL, h2, h3⟩, hsteps⟩ := hK m meth c ⟨T.setVm (T.vm.calledUp m.cls ci index cx mk), locs, cells, slots⟩ { g with stack := rest } (.invokestatic index) mk As.toArray X1 hg (hsize.trans hml.symm) (by rw [hb]; exact hdg) hW (X1.named hnamed) ⟨hf.1, hf.2, hp.2 (T.setVm _) hT X1.warmed⟩
  dsimp only [Pt.U, Pt.locs, Pt.cells, Pt.slots] at X' e1 e2 h1 h2 h3 hsteps
  subst h1; subst h2; subst h3
  exact ⟨v, (T.setVm (T.vm.calledUp m.cls ci index cx mk)).calling g' mk' As.toArray, t, U', L, hT, X', hL, e1, e2, hq, fun target h => step _ (fun acts => by rw [doInvoke_state]; exact hsteps.trans h)⟩
theorem wk_iU {S : Type} {post : Int32 → S → Prop} {w1 : S → va_W} (F : CallFix p m c cc nL s args lw_g own) (hM : wk_Ci l y bytes maxL ret rm D cy As wc mc ms post w1) (hco : Cond.code y bytes maxL ret ∈ lw_g) (hl : Cond.methodLink own index x ∈ lw_g) (hsm : Cond.sameMethod x.cls y.cls x.name x.desc ∈ lw_g) (hst : Cond.static y ∈ lw_g) (hini : Cond.initialized y.cls ∈ lw_g) (hxy : y.name = x.name ∧ y.desc = x.desc)
    (hrc : rm.cells = mc) (hrs : rm.slots = ms) (hd : y.cls ≠ "java/lang/invoke/MethodHandle" ∧ y.cls ≠ "java/lang/invoke/VarHandle" ∧ (parseMethodDescriptor x.desc).map (fun d => d.parameters.length) = some n) (hR : rm.frames + 1 ≤ R.frames ∧ 8 + (maxL + 11) + rm.locals ≤ R.locals)
    (hK : va_K D classes [(cy, .int)] s) (hP : va_P D classes ws H) (hD : va_D A ws) (hS : va_S A H0 H locs) (hA : ∀ q, H0.size ≤ q → A q) (isC isR : List Nat) (hC : isC.map (fun i => ws[i]?) = wc.map some) (hR2 : isR.map (fun i => ws[i]?) = wr.map some) (hnC : va_nd isC = true) (hnR : va_nd isR = true) (hdis : ∀ i ∈ isR, i ∉ isC)
    (hn : As.length = n) (hsize : ls.size = nL) (hstack : st0 = As.reverse ++ rest) (hW : (rest.map fun v => v.category).sum ≤ 8) (hdg : decode cc pc = .ok (.invokestatic index, 3)) (hf : cells + mc ≤ R.cells ∧ slots + ms ≤ R.slots)
    (kk : ∀ (r : Int32) (u : S) (H1 : Heap) (locs1 : List Loc), post r u → va_P D classes (wr ++ w1 u) H1 → va_D A (wr ++ w1 u) → va_S A H0 H1 locs1 → W p l e R s m args below meth c H1 locs1 (cells + mc) (slots + ms) Q (F0 m (pc + 3) ls (.int r :: rest))) : W p l e R s m args below meth c H locs cells slots Q (F0 m pc ls st0) := by
  have hFc := va_free (wc := wc) hD hS hA isC hC
  refine va_calli (wk_runU (As := As) (rest := rest) (g := F0 m pc ls st0) F (hM H.size) (wk_good hco) rfl hl hsm hst hini hxy hrc hrs hd hR ⟨wk_blind, wk_pre (av := As) hK hP hD hnC hC⟩ rfl hn hsize hstack (lv_room hW) hdg hf) hS (fun q _ h => hFc q h) hFc (fun r u t H1 locs1 ht hvm hw hB hz1 hk1 hS1 => ?_)
  obtain ⟨hP1, hK1, hD1⟩ := hB
  rw [ht] at hP1
  obtain ⟨hP2, hD2⟩ := va_join hP hD isC isR hC hR2 hnR hdis hk1 hFc hP1 hD1
  exact kk r u H1 locs1 hw hP2 hD2 hS1
end WKU

