section XI
variable {p : Program} {l : Launch} {e : Env} {R : Room} {s : State} {m : MethodId} {args : Array Value} {below : List Frame} {meth : Method} {c : Code} {T : State} {locs : List Loc} {cells slots : Nat}
theorem xi_cold {Qq : Unit → Pre} {E : CtlPost} {d : Bool} {acts : List Action} {s₀ : State} {f : JFrame} {index ci nt cn : Nat} {m1 : MethodId} {dk ck : Class} {cf : ClassFile} {nm ds : String} (hs : s.topJava?.isSome) (hp : e.platform.polymorphicOnlyByInvokevirtual = true)
    (hW : s₀.WarmedH s.vm) (hE : s₀.MethodEntryUp e s.vm f.method.cls index cn m1 ci) (h1 : s₀.vm.classes[f.method.cls]? = some dk) (h2 : dk.cf = some cf) (h3 : cf.constantPool[index]? = some (if false then .interfaceMethodref ci nt else .methodref ci nt)) (h4 : cf.constantPool.nameAndType? nt = some (nm, ds))
    (hck : s₀.vm.classes[cn]? = some ck) (hno : (ck.methods.any fun x => x.name == nm && !x.isStatic && signaturePolymorphic ck x) = false) :
    wp (invokestatic.sem index) Qq E e d acts (s.setTop f) ↔ wp (invokestatic.sem index) Qq E e d acts ((s.setVm (s.vm.calledUp f.method.cls ci index cn m1)).setTop f) := by
  obtain ⟨g1, -, w1, g2⟩ := hE.classFirst
  obtain ⟨kA, hA, eA⟩ := hW.alike.2.2 _ _ h1
  obtain ⟨kB, hB, eB⟩ := hE.warmed.alike.2.2 _ _ h1
  obtain ⟨kC, hC, eC⟩ := w1.alike.2.2 _ _ hck
  obtain ⟨kD, hD, eD⟩ := hE.warmed.alike.2.2 _ _ hck
  have rA := memberRef_ask_via (e := e) hA (by rw [eA]; exact h2) h3 h4
  have rB := memberRef_ask_via (e := e) hB (by rw [eB]; exact h2) h3 h4
  have nC : (kC.methods.any fun x => x.name == nm && !x.isStatic && signaturePolymorphic kC x) = false := by rw [eC]; exact hno
  have nD : (kD.methods.any fun x => x.name == nm && !x.isStatic && signaturePolymorphic kD x) = false := by rw [eD]; exact hno
  have t1 : (s.setVm (s.vm.noted f.method.cls ci (.cls cn))).topJava?.isSome := hs
  have t2 : (s.setVm (s.vm.calledUp f.method.cls ci index cn m1)).topJava?.isSome := hs
  have uC : ∀ {Q' : ClassId → Pre} {d' : Bool} {acts' : List Action}, wp (Jvm.resolveClassAt ci) Q' E e d' acts' (s.setTop f) ↔ Q' cn d' acts' ((s.setVm (s.vm.noted f.method.cls ci (.cls cn))).setTop f) := W.resolveClassAt_links (t := s.setTop f) (State.method?_setTop f hs) g1
  have uM : ∀ {Q' : MethodId → Pre} {d' : Bool} {acts' : List Action}, wp (Jvm.resolveMethodAt index) Q' E e d' acts' ((s.setVm (s.vm.noted f.method.cls ci (.cls cn))).setTop f) ↔ Q' m1 d' acts' ((s.setVm (s.vm.calledUp f.method.cls ci index cn m1)).setTop f) := W.resolveMethodAt_links (t := (s.setVm (s.vm.noted f.method.cls ci (.cls cn))).setTop f) (State.method?_setTop f t1) g2
  simp [invokestatic.sem, hp, Seam.memberRefOf, State.method?_setTop f hs, State.method?_setTop f t2, rA, rB, uC, hC, hD, nC, nD, uM, W.resolveClassAt_ready (s := (s.setVm (s.vm.calledUp f.method.cls ci index cn m1)).setTop f) (State.method?_setTop f t2) hE.classReady, W.resolveMethodAt_ready (s := (s.setVm (s.vm.calledUp f.method.cls ci index cn m1)).setTop f) (State.method?_setTop f t2) hE.ready, -Array.any_eq_true]
theorem xi_step (X : Stand p l e R s m args below meth c T locs cells slots) (hexec : p.tables.exec = Jvm.exec) {own owner : String} {index : Nat} {x : MethodName} (hown : s.vm.findClass own = some m.cls) (hlink : (Cond.methodLink own index x).before args s = true) (hsame : (Cond.sameMethod x.cls owner x.name x.desc).before args s = true) (hnm : owner ≠ "java/lang/invoke/MethodHandle" ∧ owner ≠ "java/lang/invoke/VarHandle")
    {m1 : MethodId} {me1 : Method} {k1 : Class} (hn : s.methodNamed? ⟨owner, x.name, x.desc⟩ = some m1) (hm1 : s.vm.method? m1 = some me1) (hst : me1.isStatic = true) (hk1 : s.vm.classes[m1.cls]? = some k1) (hi : k1.init = .initialized)
    {g : JFrame} (hg : g.method = m) {As rest : List Value} (hlen : As.length = me1.sig.parameters.length) (hstack : g.stack = As.reverse ++ rest) (hdg : decode c.code g.pc = .ok (.invokestatic index, 3)) :
    ∃ vm1, Stand p l e R s m args below meth c (T.setVm vm1) locs cells slots ∧ ∀ target, (∀ acts, Steps p.tables e below (doInvoke e ((T.setVm vm1).setTop { g with stack := rest }) acts m1 As.toArray).1 target) → Steps p.tables e below (T.setTop g) target := by
  have f1 : e.platform.magicAccessors = ({} : Platform).magicAccessors := by rw [X.admits.platform]
  have f2 : e.platform.polymorphicOnlyByInvokevirtual = true := by rw [X.admits.platform]
  obtain ⟨cn, ck, r1, hcn, hck, hni, hf, hn1⟩ := Cond.sameMethod_found hsame
  cases hn.symm.trans hn1
  obtain ⟨ci, hl, hright⟩ := Cond.methodLink_specUp hown hcn hck hni hf hlink e.platform f1 (by rw [X.admits.platform])
  have hE : s.MethodEntryUp e T.vm m.cls index cn m1 ci := State.methodEntryUp X.warmed hl hright
  obtain ⟨kx, hkx, hnx⟩ := className_of_methodNamed hn
  cases hk1.symm.trans hkx
  obtain ⟨dk, cfile, nt, mname, mdesc, ck', _, _, hd, hcf, hcp, hnt, -, -, hck', -, hnopoly, -⟩ := hl.here
  cases hck.symm.trans hck'
  have al := hE.warmed.alike
  obtain ⟨dk2, hdk2, hed2⟩ := al.2.2 _ _ hd
  obtain ⟨k2, hk2, he2⟩ := al.2.2 _ _ hk1
  obtain ⟨ck2, hck2, hec2⟩ := al.2.2 _ _ hck
  have hno : (ck.methods.any fun y => y.name == mname && !y.isStatic && signaturePolymorphic ck y) = false := by simp [hnopoly]
  have hno2 : (ck2.methods.any fun y => y.name == mname && !y.isStatic && signaturePolymorphic ck2 y) = false := by rw [hec2]; exact hno
  have hcp1 : cfile.constantPool[index]? = some (if false then .interfaceMethodref ci nt else .methodref ci nt) := hcp
  refine ⟨T.vm.calledUp m.cls ci index cn m1, X.noted hE.warmed, fun target hrest => ?_⟩
  subst hg
  jvm_step X.here [hexec, hdg, xi_cold (e := e) (s := T) (s₀ := s) (f := g) X.here.top f2 X.warmed hE hd hcf hcp1 hnt hck hno,
    invokestatic.wp_ready (e := e) (s := T.setVm (T.vm.calledUp g.method.cls ci index cn m1)) (k := k2) (meth := me1) (m := m1) (args := As) (rest := rest) (f := g)
      X.here.top ⟨ci, mname, mdesc, false, cn, ck2, memberRef_ask_via (e := e) hdk2 (by rw [hed2]; exact hcf) hcp1 hnt, hE.classReady, hck2, hno2⟩ hE.ready hk2
      (by show (T.vm.calledUp g.method.cls ci index cn m1).method? m1 = some me1; rw [al.method?]; exact hm1)
      (by rw [he2]; show signaturePolymorphic k1 me1 = false; simp [signaturePolymorphic, hnx, hnm.1, hnm.2]) hst (by rw [he2]; exact hi) hlen hstack]
  exact fun acts => hrest _
theorem xi_callS (X : Stand p l e R s m args below meth c T locs cells slots) (hexec : p.tables.exec = Jvm.exec) {own : String} {index : Nat} {x y : MethodName} {bytes : ByteArray} {maxL : Nat} {ret : Option FieldType} (hyx : y = ⟨y.cls, x.name, x.desc⟩)
    (hown : s.vm.findClass own = some m.cls) (hlink : (Cond.methodLink own index x).before args s = true) (hsame : (Cond.sameMethod x.cls y.cls x.name x.desc).before args s = true) (hstat : (Cond.static y).before args s = true) (hini : (Cond.initialized y.cls).before args s = true) (hcode : (Cond.code y bytes maxL ret).before args s = true) (hnm : y.cls ≠ "java/lang/invoke/MethodHandle" ∧ y.cls ≠ "java/lang/invoke/VarHandle")
    {W : Nat} {Pre : Pt → Array Value → Prop} {Post : Pt → Array Value → Option Value → Pt → Prop} (hK : Back l R p e below s args y 3 W Pre Post)
    {g : JFrame} (hg : g.method = m) (hsize : g.locals.size = c.maxLocals) {As rest : List Value} (hlen : ∀ sig, parseMethodDescriptor y.desc = some sig → As.length = sig.parameters.length) (hstack : g.stack = As.reverse ++ rest) (hW : 2 * g.monitorRoom + (rest.map fun v => v.category).sum ≤ W) (hdg : decode c.code g.pc = .ok (.invokestatic index, 3))
    (hpre : ∀ vm1, s.WarmedH vm1 → Pre ⟨T.setVm vm1, locs, cells, slots⟩ As.toArray) :
    ∃ (v : Option Value) (vm1 : Vm) (B : Pt), s.WarmedH vm1 ∧ Stand p l e R s m args below meth c B.U B.locs B.cells B.slots ∧ Post ⟨T.setVm vm1, locs, cells, slots⟩ As.toArray v B ∧ ∀ target, Steps p.tables e below (B.U.setTop { g with pc := g.pc + 3, stack := v.toList ++ rest }) target → Steps p.tables e below (T.setTop g) target := by
  have hin : ∃ mk : MethodId, s.methodNamed? y = some mk := by
    obtain ⟨cn, ck, r1, -, -, -, -, hn1⟩ := Cond.sameMethod_found hsame
    exact ⟨r1, by rw [hyx]; exact hn1⟩
  obtain ⟨mk, hnamed⟩ := hin
  obtain ⟨me, cM, hme, -, -, -, -, -, -, hsig⟩ := Cond.code_spec hnamed hcode
  have hst : me.isStatic = true := Cond.static_spec hnamed hme hstat
  obtain ⟨kP, hkP, -⟩ := className_of_methodNamed hnamed
  have hi : kP.init = .initialized := Cond.initialized_spec (findClass_of_methodNamed hnamed) hkP hini
  have hn0 : s.methodNamed? ⟨y.cls, x.name, x.desc⟩ = some mk := by rw [← hyx]; exact hnamed
  obtain ⟨vm1, X1, st1⟩ := xi_step X hexec hown hlink hsame hnm hn0 hme hst hkP hi (g := g) hg (As := As) (rest := rest) (hlen _ hsig) hstack hdg
  obtain ⟨v, B, X2, hpost, st2⟩ := hK m meth c ⟨T.setVm vm1, locs, cells, slots⟩ { g with stack := rest } (.invokestatic index) mk As.toArray X1 hg hsize hdg hW (X1.named hnamed) (hpre vm1 X1.warmed)
  exact ⟨v, vm1, B, X1.warmed, X2, hpost, fun target h => st1 _ fun acts => by rw [doInvoke_state]; exact st2.trans h⟩
theorem xi_callP (X : Stand p l e R s m args below meth c T locs cells slots) (hexec : p.tables.exec = Jvm.exec) {own : String} {index : Nat} {x y : MethodName} {bytes : ByteArray} {maxL : Nat} {ret : Option FieldType} (hyx : y = ⟨y.cls, x.name, x.desc⟩)
    (hown : s.vm.findClass own = some m.cls) (hlink : (Cond.methodLink own index x).before args s = true) (hsame : (Cond.sameMethod x.cls y.cls x.name x.desc).before args s = true) (hsup : (Cond.superclass own x.cls).before args s = true) (hsup2 : (Cond.superclass x.cls y.cls).before args s = true)
    (hinst : (Cond.instanceMethod y).before args s = true) (hcode : (Cond.code y bytes maxL ret).before args s = true) (hno : x.name ≠ "<init>")
    {W : Nat} {Pre : Pt → Array Value → Prop} {Post : Pt → Array Value → Option Value → Pt → Prop} (hK : Back l R p e below s args y 3 W Pre Post)
    {b : Addr} {cellB : Cell} {kB : Class} (hcell : T.heap[b]? = some cellB) (hobj : cellB.vm.isStatics = false) (hkB : s.vm.classes[cellB.cls]? = some kB)
    {g : JFrame} (hg : g.method = m) (hsize : g.locals.size = c.maxLocals) {As rest : List Value} (hlen : ∀ sig, parseMethodDescriptor y.desc = some sig → As.length = sig.parameters.length)
    (hstack : g.stack = As.reverse ++ .ref b :: rest) (hW : 2 * g.monitorRoom + (rest.map fun v => v.category).sum ≤ W) (hdg : decode c.code g.pc = .ok (.invokespecial index, 3))
    (hpre : ∀ vm1, s.WarmedH vm1 → Pre ⟨T.setVm vm1, locs, cells, slots⟩ (Value.ref b :: As).toArray) :
    ∃ (v : Option Value) (vm1 : Vm) (B : Pt), s.WarmedH vm1 ∧ Stand p l e R s m args below meth c B.U B.locs B.cells B.slots ∧ Post ⟨T.setVm vm1, locs, cells, slots⟩ (Value.ref b :: As).toArray v B ∧
      ∀ target, Steps p.tables e below (B.U.setTop { g with pc := g.pc + 3, stack := v.toList ++ rest }) target → Steps p.tables e below (T.setTop g) target := by
  obtain ⟨mk, me, hnamed, hme, hst, hab⟩ := Cond.instanceMethod_spec hinst
  obtain ⟨me', cM, hme', -, -, -, -, -, -, hsig⟩ := Cond.code_spec hnamed hcode
  cases hme.symm.trans hme'
  obtain ⟨ps, dk, kp, hps, hdk, hkp, hsuper, -, -, hnid⟩ := Cond.superclass_spec hown hsup
  obtain ⟨ps2, dk2, kp2, hps2, hdk2, hkp2, hsuper2, -, -, -⟩ := Cond.superclass_spec hps hsup2
  have hn : s.methodNamed? ⟨y.cls, x.name, x.desc⟩ = some mk := by rw [← hyx]; exact hnamed
  have hpm : ps2 = mk.cls := Option.some.inj (hps2.symm.trans (findClass_of_methodNamed hnamed))
  have hsz : 0 < s.vm.classes.size := by have := (Array.getElem?_eq_some_iff.mp hdk2).1; omega
  have hsub : s.vm.isSubclass ps mk.cls = true := by
    rw [← hpm]
    unfold Vm.isSubclass
    obtain ⟨q, hq⟩ : ∃ q, s.vm.classes.size = q + 1 := ⟨s.vm.classes.size - 1, by omega⟩
    rw [hq]
    simp [Vm.isSubclassAux, hdk2, hsuper2]
  obtain ⟨vm1, X1, st1⟩ := X.invokespecialUp hexec hown hlink hsame hn hme hst hab hno hdk hnid hps hsuper hsub (a := b) (cell := cellB) hcell (fun z h => by rw [h] at hobj; cases hobj) hkB (g := g) hg (argsL := As) (rest := rest) (hlen _ hsig) hstack hdg
  obtain ⟨v, B, X2, hpost, st2⟩ := hK m meth c ⟨T.setVm vm1, locs, cells, slots⟩ { g with stack := rest } (.invokespecial index) mk (Value.ref b :: As).toArray X1 hg hsize hdg hW (X1.named hnamed) (hpre vm1 X1.warmed)
  exact ⟨v, vm1, B, X1.warmed, X2, hpost, fun target h => st1 _ (by rw [doInvoke_state]; exact st2.trans h)⟩
abbrev xi_C (R : Room) (s : State) (args : Array Value) (y : MethodName) (bytes : ByteArray) (maxL : Nat) (ret : Option FieldType) (ws : List Cond) (rm : Room) (mc ms : Nat) : Prop := rm.cells = mc ∧ rm.slots = ms ∧ rm.frames + 1 ≤ R.frames ∧ 8 + (maxL + 11) + rm.locals ≤ R.locals ∧ (∀ w ∈ ws, ∀ (a' : Array Value) (U : State), s.WarmedH U.vm → w.before a' U = true) ∧ Cond.code y bytes maxL ret ∈ ws
variable {H : Heap}
theorem xi_runS {own : String} {index maxL nL mc ms : Nat} {x y : MethodName} {bytes cc : ByteArray} {ret : Option FieldType} {Ts ws ws' : List Cond} {rm : Room} {Pc : Array Value → State → Prop} {Qc : Array Value → State → Outcome → State → Prop} {free : Addr → Prop} {As rest : List Value} {g : JFrame} (S : CallFix p m c cc nL s args Ts own) (hM : Met l y ws rm Pc Qc mc ms free) (hyx : y = ⟨y.cls, x.name, x.desc⟩)
    (ht : ∀ w ∈ Ts, w.before args s = true) (hT : GoodIn Ts (([.methodLink own index x, .sameMethod x.cls y.cls x.name x.desc, .static y, .initialized y.cls] : List Cond) ++ ws)) (hw : ws = Cond.code y bytes maxL ret :: ws') (hrc : rm.cells = mc) (hrs : rm.slots = ms) (hR : rm.frames + 1 ≤ R.frames ∧ 8 + (maxL + 11) + rm.locals ≤ R.locals) (hnm : y.cls ≠ "java/lang/invoke/MethodHandle" ∧ y.cls ≠ "java/lang/invoke/VarHandle") (hlen : ∀ sig, parseMethodDescriptor y.desc = some sig → As.length = sig.parameters.length)
    (hp : PreS s H Pc As) (hg : g.method = m) (hsize : g.locals.size = nL) (hstack : g.stack = As.reverse ++ rest) (hW : 2 * g.monitorRoom + (rest.map fun v => v.category).sum ≤ 8) (hdg : decode cc g.pc = .ok (.invokestatic index, 3)) (hf : cells + mc ≤ R.cells ∧ slots + ms ≤ R.slots) :
    va_Run p l e R s m args below meth c H locs cells slots mc ms g rest (Qc As.toArray) (free) := by
  have ok : ∀ w ∈ ([.methodLink own index x, .sameMethod x.cls y.cls x.name x.desc, .static y, .initialized y.cls] : List Cond) ++ ws, w.before args s = true := fun w h => ht w (hT w h).1
  have hG : GoodIn Ts ws := fun w h => hT w (List.mem_append_right _ h)
  have hcw : Cond.code y bytes maxL ret ∈ ws := by rw [hw]; exact List.mem_cons_self
  have hini : (Cond.initialized y.cls).before args s = true := ok _ (by simp)
  have hcode : (Cond.code y bytes maxL ret).before args s = true := ht _ (hG _ hcw).1
  have hK : Back l R p e below s args y 3 8 (PreOf R mc ms Pc) (PostOf Qc mc ms free) := back_of (bytes := bytes) (maxL := maxL) (ret := ret) hM hp.1 hrc hrs hR.1 hR.2 (pay_in ht hG) hcw (fun a' U hW => word_at hW (Or.inl (by first | rfl | simp [Cond.onTables, Cond.keeps, Cond.steady])) hini)
  obtain ⟨hx, hb, hml, ho, -⟩ := S
  intro T hT X
  obtain ⟨v, vm1, ⟨U', l2, c2, s2⟩, hW1, X', ⟨g', mk, t, L, e1, e2, hq, h1, hL, h2, h3⟩, st⟩ := xi_callS X hx (index := index) (bytes := bytes) (maxL := maxL) (ret := ret) hyx ho (ok _ (by simp)) (ok _ (by simp)) (ok _ (by simp)) hini hcode hnm hK hg (hsize.trans hml.symm) (As := As) (rest := rest) hlen hstack hW (by rw [hb]; exact hdg)
    (fun vm1 hW1 => ⟨hf.1, hf.2, hp.2 (T.setVm vm1) hT hW1⟩)
  dsimp only [Pt.U, Pt.locs, Pt.cells, Pt.slots] at X' e1 e2 h1 h2 h3 st
  subst h1; subst h2; subst h3
  exact ⟨v, (T.setVm vm1).calling g' mk As.toArray, t, U', L, hT, X', hL, e1, e2, hq, st⟩
theorem xi_runP {own C : String} {cC : ClassId} {b : Addr} {index maxL nL mc ms : Nat} {x y : MethodName} {bytes cc : ByteArray} {ret : Option FieldType} {Ts ws ws' : List Cond} {rm : Room} {Pc : Array Value → State → Prop} {Qc : Array Value → State → Outcome → State → Prop} {free : Addr → Prop} {As rest : List Value} {g : JFrame} (hat : ClassAt s C cC) (S : CallFix p m c cc nL s args Ts own) (hM : Met l y ws rm Pc Qc mc ms free) (hyx : y = ⟨y.cls, x.name, x.desc⟩)
    (ht : ∀ w ∈ Ts, w.before args s = true) (hT : GoodIn Ts (([.methodLink own index x, .sameMethod x.cls y.cls x.name x.desc, .superclass own x.cls, .superclass x.cls y.cls, .instanceMethod y, .initialized y.cls] : List Cond) ++ ws)) (hw : ws = Cond.code y bytes maxL ret :: ws') (hrc : rm.cells = mc) (hrs : rm.slots = ms) (hR : rm.frames + 1 ≤ R.frames ∧ 8 + (maxL + 11) + rm.locals ≤ R.locals) (hno : x.name ≠ "<init>") (hlen : ∀ sig, parseMethodDescriptor y.desc = some sig → As.length = sig.parameters.length)
    (hp : PreV s H C b Pc As) (hg : g.method = m) (hsize : g.locals.size = nL) (hstack : g.stack = As.reverse ++ .ref b :: rest) (hW : 2 * g.monitorRoom + (rest.map fun v => v.category).sum ≤ 8) (hdg : decode cc g.pc = .ok (.invokespecial index, 3)) (hf : cells + mc ≤ R.cells ∧ slots + ms ≤ R.slots) :
    va_Run p l e R s m args below meth c H locs cells slots mc ms g rest (Qc (Value.ref b :: As).toArray) (free) := by
  have ok : ∀ w ∈ ([.methodLink own index x, .sameMethod x.cls y.cls x.name x.desc, .superclass own x.cls, .superclass x.cls y.cls, .instanceMethod y, .initialized y.cls] : List Cond) ++ ws, w.before args s = true := fun w h => ht w (hT w h).1
  have hG : GoodIn Ts ws := fun w h => hT w (List.mem_append_right _ h)
  have hcw : Cond.code y bytes maxL ret ∈ ws := by rw [hw]; exact List.mem_cons_self
  have hini : (Cond.initialized y.cls).before args s = true := ok _ (by simp)
  have hcode : (Cond.code y bytes maxL ret).before args s = true := ht _ (hG _ hcw).1
  have hK : Back l R p e below s args y 3 8 (PreOf R mc ms Pc) (PostOf Qc mc ms free) := back_of (bytes := bytes) (maxL := maxL) (ret := ret) hM hp.1 hrc hrs hR.1 hR.2 (pay_in ht hG) hcw (fun a' U hW => word_at hW (Or.inl (by first | rfl | simp [Cond.onTables, Cond.keeps, Cond.steady])) hini)
  obtain ⟨hx, hb, hml, ho, -⟩ := S
  obtain ⟨-, ⟨cellB, hcB, hoB, hclB⟩, hPc⟩ := hp
  obtain ⟨hfc, kB, hkB, -⟩ := hat
  cases hfc.symm.trans hclB
  intro T hT X
  obtain ⟨v, vm1, ⟨U', l2, c2, s2⟩, hW1, X', ⟨g', mk, t, L, e1, e2, hq, h1, hL, h2, h3⟩, st⟩ := xi_callP X hx (index := index) (bytes := bytes) (maxL := maxL) (ret := ret) hyx ho (ok _ (by simp)) (ok _ (by simp)) (ok _ (by simp)) (ok _ (by simp)) (ok _ (by simp)) hcode hno hK (by rw [hT]; exact hcB) hoB hkB hg (hsize.trans hml.symm) (As := As) (rest := rest) hlen hstack hW (by rw [hb]; exact hdg)
    (fun vm1 hW1 => ⟨hf.1, hf.2, hPc (T.setVm vm1) hT hW1⟩)
  dsimp only [Pt.U, Pt.locs, Pt.cells, Pt.slots] at X' e1 e2 h1 h2 h3 st
  subst h1; subst h2; subst h3
  exact ⟨v, (T.setVm vm1).calling g' mk (Value.ref b :: As).toArray, t, U', L, hT, X', hL, e1, e2, hq, st⟩
end XI
section XV
variable {G : xg_T} {K : xk_T} {cc : ByteArray} {own : String} {nL : Nat} {Q : State → Prop} {cells slots n : Nat} {tau : Nat → Nat × Nat} {vi vl : Nat → Int → Int} {vr : Nat → Int → Option Nat} {pc pc1 : Nat} {lv : List (Nat × xa_T)} {st : List xa_T}
def xy_SS (own : String) (ix : Nat) (x y : MethodName) (cc1 : ByteArray) (nL1 : Nat) (ret1 : Option FieldType) (np : Nat) : Prop := (∀ w ∈ ([.methodLink own ix x, .sameMethod x.cls y.cls x.name x.desc, .static y, .initialized y.cls] : List Cond), w ∈ xw_tbl) ∧ Cond.code y cc1 nL1 ret1 ∈ xw_tbl ∧ y = ⟨y.cls, x.name, x.desc⟩ ∧ (y.cls ≠ "java/lang/invoke/MethodHandle" ∧ y.cls ≠ "java/lang/invoke/VarHandle") ∧ (parseMethodDescriptor y.desc).map (fun d => d.parameters.length) = some np
theorem vx_callSS (hC : xk_C G K cc own nL) {d d1 mc ms mc1 ms1 nL1 : Nat} {x y : MethodName} {cc1 : ByteArray} {ret1 : Option FieldType} {a : List xa_T} {stk : List xa_T} {post : xm_T} {ix np : Nat} (hM : xm G y cc1 nL1 ret1 d mc ms a n tau vi vl vr post) (hy : xy_SS own ix x y cc1 nL1 ret1 np) (hnp : a.length = np) (hRm : xk_Rm K d1 mc1 ms1) (hcs : d + 1 ≤ d1 ∧ nL1 ≤ 21 ∧ cells + mc ≤ mc1 ∧ slots + ms ≤ ms1) (hw8 : (st.map xa_c).sum ≤ 8) (hstk : stk = a.reverse ++ st) (hd : xd_D cc pc (.invokestatic ix) 3 pc1) (kk : ∀ (r : Option xa_T) (n : Nat) (tau : Nat → Nat × Nat) (vi vl : Nat → Int → Int) (vr : Nat → Int → Option Nat), post r n tau vi vl vr → xv G K nL Q (cells + mc) (slots + ms) n tau vi vl vr pc1 lv (r.toList ++ st)) : xv G K nL Q cells slots n tau vi vl vr pc lv stk := by
  have hC0 := hC
  obtain ⟨hdg, rfl⟩ := hd
  subst hstk
  refine xv_run (A := #[]) hC0 ?_ kk
  obtain ⟨p, l, e, R, s, m, args, below, meth, c⟩ := K
  obtain ⟨hx, hb, hml, hown, hts, hE, hB, hB0⟩ := hC
  obtain ⟨r1, r2, r3, r4⟩ := hRm
  simp only [xk_R] at r1 r2 r3 r4
  intro H locs ls hR hS hl
  have hw9 : ((st.map (xa_tr G)).map fun v => v.category).sum ≤ 8 := by
    rw [List.map_map, show ((fun v : Value => v.category) ∘ xa_tr G) = xa_c from funext fun v => xa_tr_c G v]
    exact hw8
  obtain ⟨y1, y2, y3, y4, y5⟩ := hy
  rw [List.map_append, List.map_reverse]
  exact xi_runS (As := a.map (xa_tr G)) (rest := st.map (xa_tr G)) ⟨hx, hb, hml, hown, hts⟩ (hM l) y3 hts (xm_goods y1 y2) rfl rfl rfl ⟨by show d + 1 ≤ R.frames; omega, by show 8 + (nL1 + 11) + 40 * d ≤ R.locals; omega⟩ y4 (fun sig h => by rw [h] at y5; rw [List.length_map, hnp]; exact (Option.some.inj y5).symm) ⟨xm_blind, fun U hU hW => ⟨rfl, by rw [hU]; exact hR, hE.warm hW⟩⟩ rfl hl.1 rfl (lv_room hw9) hdg ⟨by show cells + mc ≤ R.cells; omega, by show slots + ms ≤ R.slots; omega⟩

theorem vx_callSS_v (hC : xk_C G K cc own nL) {d d1 mc ms mc1 ms1 nL1 : Nat} {x y : MethodName} {cc1 : ByteArray} {ret1 : Option FieldType} {a : List xa_T} {stk : List xa_T} {post : xp_W} {ix np : Nat} (hM : xm G y cc1 nL1 ret1 d mc ms a n tau vi vl vr (xp_v post)) (hy : xy_SS own ix x y cc1 nL1 ret1 np) (hnp : a.length = np) (hRm : xk_Rm K d1 mc1 ms1) (hcs : d + 1 ≤ d1 ∧ nL1 ≤ 21 ∧ cells + mc ≤ mc1 ∧ slots + ms ≤ ms1) (hw8 : (st.map xa_c).sum ≤ 8) (hstk : stk = a.reverse ++ (st)) (hd : xd_D cc pc (.invokestatic ix) 3 pc1) (kk : ∀ (n : Nat) (tau : Nat → Nat × Nat) (vi vl : Nat → Int → Int) (vr : Nat → Int → Option Nat), post n tau vi vl vr → xv G K nL Q (cells + mc) (slots + ms) n tau vi vl vr pc1 lv (st)) : xv G K nL Q cells slots n tau vi vl vr pc lv stk :=
  vx_callSS hC hM hy hnp hRm hcs hw8 hstk hd (fun r n tau vi vl vr hp => by
    obtain ⟨rfl, hp⟩ := hp
    exact kk n tau vi vl vr hp)

def xy_SP (own : String) (ix : Nat) (x y : MethodName) (cc1 : ByteArray) (nL1 : Nat) (ret1 : Option FieldType) (np : Nat) : Prop := (∀ w ∈ ([.methodLink own ix x, .sameMethod x.cls y.cls x.name x.desc, .superclass own x.cls, .superclass x.cls y.cls, .instanceMethod y, .initialized y.cls] : List Cond), w ∈ xw_tbl) ∧ Cond.code y cc1 nL1 ret1 ∈ xw_tbl ∧ y = ⟨y.cls, x.name, x.desc⟩ ∧ x.name ≠ "<init>" ∧ (parseMethodDescriptor y.desc).map (fun d => d.parameters.length) = some np
theorem vx_callSP (hC : xk_C G K cc own nL) {d d1 mc ms mc1 ms1 nL1 : Nat} {x y : MethodName} {cc1 : ByteArray} {ret1 : Option FieldType} {a : List xa_T} {stk : List xa_T} {post : xm_T} {k ci len ix np : Nat} {C : String} {T : u_T} {N : Nat} (hM : xm G y cc1 nL1 ret1 d mc ms (xa_r k :: a) n tau vi vl vr post) (hy : xy_SP own ix x y cc1 nL1 ret1 np) (ht : k < n ∧ tau k = (ci, len)) (hc : vwCl[ci]? = some (C, T, N)) (hnp : a.length = np) (hRm : xk_Rm K d1 mc1 ms1) (hcs : d + 1 ≤ d1 ∧ nL1 ≤ 21 ∧ cells + mc ≤ mc1 ∧ slots + ms ≤ ms1) (hw8 : (st.map xa_c).sum ≤ 8) (hstk : stk = a.reverse ++ xa_r k :: st) (hd : xd_D cc pc (.invokespecial ix) 3 pc1) (kk : ∀ (r : Option xa_T) (n : Nat) (tau : Nat → Nat × Nat) (vi vl : Nat → Int → Int) (vr : Nat → Int → Option Nat), post r n tau vi vl vr → xv G K nL Q (cells + mc) (slots + ms) n tau vi vl vr pc1 lv (r.toList ++ st)) : xv G K nL Q cells slots n tau vi vl vr pc lv stk := by
  have hC0 := hC
  obtain ⟨hdg, rfl⟩ := hd
  subst hstk
  refine xv_run (A := #[]) hC0 ?_ kk
  obtain ⟨p, l, e, R, s, m, args, below, meth, c⟩ := K
  obtain ⟨hx, hb, hml, hown, hts, hE, hB, hB0⟩ := hC
  obtain ⟨r1, r2, r3, r4⟩ := hRm
  simp only [xk_R] at r1 r2 r3 r4
  intro H locs ls hR hS hl
  have hw9 : ((st.map (xa_tr G)).map fun v => v.category).sum ≤ 8 := by
    rw [List.map_map, show ((fun v : Value => v.category) ∘ xa_tr G) = xa_c from funext fun v => xa_tr_c G v]
    exact hw8
  obtain ⟨y1, y2, y3, y4, y5⟩ := hy
  obtain ⟨c1, c2, -⟩ := xc_all hc
  have hrecv : ∃ cell : Cell, H[xg_ad G k]? = some cell ∧ cell.vm.isStatics = false ∧ s.vm.findClass C = some cell.cls := by
    rw [hR.ad ht.1]
    exact va_recv hE.1 hR.2.2.1 hc (q0 := k) (by rw [xe_get ht.1, xe_obj ht.2 c1 c2])
  rw [List.map_append, List.map_reverse]
  exact xi_runP (hE.1.1 ci _ hc).2 (As := a.map (xa_tr G)) (rest := st.map (xa_tr G)) (b := xg_ad G k) ⟨hx, hb, hml, hown, hts⟩ (hM l) y3 hts (xm_goods y1 y2) rfl rfl rfl ⟨by show d + 1 ≤ R.frames; omega, by show 8 + (nL1 + 11) + 40 * d ≤ R.locals; omega⟩ y4 (fun sig h => by rw [h] at y5; rw [List.length_map, hnp]; exact (Option.some.inj y5).symm) ⟨xm_blind, hrecv, fun U hU hW => ⟨rfl, by rw [hU]; exact hR, hE.warm hW⟩⟩ rfl hl.1 rfl (lv_room hw9) hdg ⟨by show cells + mc ≤ R.cells; omega, by show slots + ms ≤ R.slots; omega⟩

theorem vx_callSP_i (hC : xk_C G K cc own nL) {d d1 mc ms mc1 ms1 nL1 : Nat} {x y : MethodName} {cc1 : ByteArray} {ret1 : Option FieldType} {a : List xa_T} {stk : List xa_T} {post : Int → xp_W} {k ci len ix np : Nat} {C : String} {T : u_T} {N : Nat} (hM : xm G y cc1 nL1 ret1 d mc ms (xa_r k :: a) n tau vi vl vr (xp_i post)) (hy : xy_SP own ix x y cc1 nL1 ret1 np) (ht : k < n ∧ tau k = (ci, len)) (hc : vwCl[ci]? = some (C, T, N)) (hnp : a.length = np) (hRm : xk_Rm K d1 mc1 ms1) (hcs : d + 1 ≤ d1 ∧ nL1 ≤ 21 ∧ cells + mc ≤ mc1 ∧ slots + ms ≤ ms1) (hw8 : (st.map xa_c).sum ≤ 8) (hstk : stk = a.reverse ++ (xa_r k :: st)) (hd : xd_D cc pc (.invokespecial ix) 3 pc1) (kk : ∀ (x : Int) (n : Nat) (tau : Nat → Nat × Nat) (vi vl : Nat → Int → Int) (vr : Nat → Int → Option Nat), post x n tau vi vl vr → xv G K nL Q (cells + mc) (slots + ms) n tau vi vl vr pc1 lv (xa_i x :: st)) : xv G K nL Q cells slots n tau vi vl vr pc lv stk :=
  vx_callSP hC hM hy ht hc hnp hRm hcs hw8 hstk hd (fun r n tau vi vl vr hp => by
    obtain ⟨x, rfl, hp⟩ := hp
    exact kk x n tau vi vl vr hp)

end XV
theorem wd_846 : Cond.methodLink RX0 19 (⟨RX0, "began", "(I[I)V"⟩ : MethodName) ∈ xw_tbl := xw_in 846 (by decide +kernel) (by decide +kernel)
theorem wd_847 : Cond.sameMethod RX0 RX4 "began" "(I[I)V" ∈ xw_tbl := xw_in 847 (by decide +kernel) (by decide +kernel)
theorem ls_X0_19 : xy_SS RX0 19 (⟨RX0, "began", "(I[I)V"⟩ : MethodName) yX4_began cX4_began 2 none 2 := ⟨List.forall_mem_cons.mpr ⟨wd_846, List.forall_mem_cons.mpr ⟨wd_847, List.forall_mem_cons.mpr ⟨wd_848, List.forall_mem_cons.mpr ⟨wd_66, fun _ h => absurd h List.not_mem_nil⟩⟩⟩⟩, wd_849, rfl, by decide, by decide +kernel⟩
theorem wd_854 : Cond.methodLink RX1 19 (⟨RX1, "began", "(I[I)V"⟩ : MethodName) ∈ xw_tbl := xw_in 854 (by decide +kernel) (by decide +kernel)
theorem wd_855 : Cond.sameMethod RX1 RX4 "began" "(I[I)V" ∈ xw_tbl := xw_in 855 (by decide +kernel) (by decide +kernel)
theorem ls_X1_19 : xy_SS RX1 19 (⟨RX1, "began", "(I[I)V"⟩ : MethodName) yX4_began cX4_began 2 none 2 := ⟨List.forall_mem_cons.mpr ⟨wd_854, List.forall_mem_cons.mpr ⟨wd_855, List.forall_mem_cons.mpr ⟨wd_848, List.forall_mem_cons.mpr ⟨wd_66, fun _ h => absurd h List.not_mem_nil⟩⟩⟩⟩, wd_849, rfl, by decide, by decide +kernel⟩
theorem wd_856 : Cond.methodLink RX1 25 (⟨RX9, "stakesAct", "(I[I)I"⟩ : MethodName) ∈ xw_tbl := xw_in 856 (by decide +kernel) (by decide +kernel)
theorem wd_857 : Cond.sameMethod RX9 RX4 "stakesAct" "(I[I)I" ∈ xw_tbl := xw_in 857 (by decide +kernel) (by decide +kernel)
theorem ls_X1_25 : xy_SP RX1 25 (⟨RX9, "stakesAct", "(I[I)I"⟩ : MethodName) yX4_stakesAct cX4_stakesAct 3 (some .int) 2 := ⟨List.forall_mem_cons.mpr ⟨wd_856, List.forall_mem_cons.mpr ⟨wd_857, List.forall_mem_cons.mpr ⟨wd_560, List.forall_mem_cons.mpr ⟨wd_527, List.forall_mem_cons.mpr ⟨wd_840, List.forall_mem_cons.mpr ⟨wd_66, fun _ h => absurd h List.not_mem_nil⟩⟩⟩⟩⟩⟩, wd_863, rfl, by decide, by decide +kernel⟩
theorem wd_898 : Cond.methodLink RX3 11 (⟨RX3, "began", "(I[I)V"⟩ : MethodName) ∈ xw_tbl := xw_in 898 (by decide +kernel) (by decide +kernel)
theorem wd_899 : Cond.sameMethod RX3 RX4 "began" "(I[I)V" ∈ xw_tbl := xw_in 899 (by decide +kernel) (by decide +kernel)
theorem ls_X3_11 : xy_SS RX3 11 (⟨RX3, "began", "(I[I)V"⟩ : MethodName) yX4_began cX4_began 2 none 2 := ⟨List.forall_mem_cons.mpr ⟨wd_898, List.forall_mem_cons.mpr ⟨wd_899, List.forall_mem_cons.mpr ⟨wd_848, List.forall_mem_cons.mpr ⟨wd_66, fun _ h => absurd h List.not_mem_nil⟩⟩⟩⟩, wd_849, rfl, by decide, by decide +kernel⟩
theorem wd_900 : Cond.methodLink RX3 17 (⟨RX0, "countsAct", "(I[I)I"⟩ : MethodName) ∈ xw_tbl := xw_in 900 (by decide +kernel) (by decide +kernel)
theorem wd_901 : Cond.sameMethod RX0 RX4 "countsAct" "(I[I)I" ∈ xw_tbl := xw_in 901 (by decide +kernel) (by decide +kernel)
theorem ls_X3_17 : xy_SP RX3 17 (⟨RX0, "countsAct", "(I[I)I"⟩ : MethodName) yX4_countsAct cX4_countsAct 3 (some .int) 2 := ⟨List.forall_mem_cons.mpr ⟨wd_900, List.forall_mem_cons.mpr ⟨wd_901, List.forall_mem_cons.mpr ⟨wd_549, List.forall_mem_cons.mpr ⟨wd_516, List.forall_mem_cons.mpr ⟨wd_890, List.forall_mem_cons.mpr ⟨wd_66, fun _ h => absurd h List.not_mem_nil⟩⟩⟩⟩⟩⟩, wd_915, rfl, by decide, by decide +kernel⟩
theorem wd_903 : Cond.methodLink RX3 21 (⟨RX3, "stakesAct", "(I[I)I"⟩ : MethodName) ∈ xw_tbl := xw_in 903 (by decide +kernel) (by decide +kernel)
theorem wd_904 : Cond.sameMethod RX3 RX0 "stakesAct" "(I[I)I" ∈ xw_tbl := xw_in 904 (by decide +kernel) (by decide +kernel)
theorem wd_906 : Cond.selects RX3 (⟨RX3, "stakesAct", "(I[I)I"⟩ : MethodName) yX0_stakesAct ∈ xw_tbl := xw_in 906 (by decide +kernel) (by decide +kernel)
theorem lu_X3_21_3 : xy_U RX3 21 RX3 RX0 (⟨RX3, "stakesAct", "(I[I)I"⟩ : MethodName) yX0_stakesAct cX0_stakesAct 3 (some .int) 2 := ⟨List.forall_mem_cons.mpr ⟨wd_903, List.forall_mem_cons.mpr ⟨wd_904, List.forall_mem_cons.mpr ⟨wd_844, List.forall_mem_cons.mpr ⟨wd_906, List.forall_mem_cons.mpr ⟨wd_844, List.forall_mem_cons.mpr ⟨wd_67, fun _ h => absurd h List.not_mem_nil⟩⟩⟩⟩⟩⟩, ⟨_, _, _, wd_845⟩, wd_845, by decide, by decide, by decide +kernel⟩
theorem wd_910 : Cond.methodLink RX7 19 (⟨RX7, "began", "(I[I)V"⟩ : MethodName) ∈ xw_tbl := xw_in 910 (by decide +kernel) (by decide +kernel)
theorem wd_911 : Cond.sameMethod RX7 RX4 "began" "(I[I)V" ∈ xw_tbl := xw_in 911 (by decide +kernel) (by decide +kernel)
theorem ls_X7_19 : xy_SS RX7 19 (⟨RX7, "began", "(I[I)V"⟩ : MethodName) yX4_began cX4_began 2 none 2 := ⟨List.forall_mem_cons.mpr ⟨wd_910, List.forall_mem_cons.mpr ⟨wd_911, List.forall_mem_cons.mpr ⟨wd_848, List.forall_mem_cons.mpr ⟨wd_66, fun _ h => absurd h List.not_mem_nil⟩⟩⟩⟩, wd_849, rfl, by decide, by decide +kernel⟩
theorem wd_873 : Cond.methodLink RX9 13 (⟨RX9, "began", "(I[I)V"⟩ : MethodName) ∈ xw_tbl := xw_in 873 (by decide +kernel) (by decide +kernel)
theorem wd_874 : Cond.sameMethod RX9 RX4 "began" "(I[I)V" ∈ xw_tbl := xw_in 874 (by decide +kernel) (by decide +kernel)
theorem ls_X9_13 : xy_SS RX9 13 (⟨RX9, "began", "(I[I)V"⟩ : MethodName) yX4_began cX4_began 2 none 2 := ⟨List.forall_mem_cons.mpr ⟨wd_873, List.forall_mem_cons.mpr ⟨wd_874, List.forall_mem_cons.mpr ⟨wd_848, List.forall_mem_cons.mpr ⟨wd_66, fun _ h => absurd h List.not_mem_nil⟩⟩⟩⟩, wd_849, rfl, by decide, by decide +kernel⟩
theorem wd_882 : Cond.methodLink RX10 11 (⟨RX10, "began", "(I[I)V"⟩ : MethodName) ∈ xw_tbl := xw_in 882 (by decide +kernel) (by decide +kernel)
theorem wd_883 : Cond.sameMethod RX10 RX4 "began" "(I[I)V" ∈ xw_tbl := xw_in 883 (by decide +kernel) (by decide +kernel)
theorem ls_X10_11 : xy_SS RX10 11 (⟨RX10, "began", "(I[I)V"⟩ : MethodName) yX4_began cX4_began 2 none 2 := ⟨List.forall_mem_cons.mpr ⟨wd_882, List.forall_mem_cons.mpr ⟨wd_883, List.forall_mem_cons.mpr ⟨wd_848, List.forall_mem_cons.mpr ⟨wd_66, fun _ h => absurd h List.not_mem_nil⟩⟩⟩⟩, wd_849, rfl, by decide, by decide +kernel⟩
theorem wd_884 : Cond.methodLink RX10 17 (⟨RX7, "throwsAct", "(I[I)I"⟩ : MethodName) ∈ xw_tbl := xw_in 884 (by decide +kernel) (by decide +kernel)
theorem wd_885 : Cond.sameMethod RX7 RX4 "throwsAct" "(I[I)I" ∈ xw_tbl := xw_in 885 (by decide +kernel) (by decide +kernel)
theorem ls_X10_17 : xy_SP RX10 17 (⟨RX7, "throwsAct", "(I[I)I"⟩ : MethodName) yX4_throwsAct cX4_throwsAct 3 (some .int) 2 := ⟨List.forall_mem_cons.mpr ⟨wd_884, List.forall_mem_cons.mpr ⟨wd_885, List.forall_mem_cons.mpr ⟨wd_571, List.forall_mem_cons.mpr ⟨wd_538, List.forall_mem_cons.mpr ⟨wd_866, List.forall_mem_cons.mpr ⟨wd_66, fun _ h => absurd h List.not_mem_nil⟩⟩⟩⟩⟩⟩, wd_887, rfl, by decide, by decide +kernel⟩
