/-! MEMORIES AS MAPS, AND METHODS THAT MAY THROW: my own judgements over the kit's W -/
abbrev mw_W : Type := Nat → Option va_E
def mw_up (w : mw_W) (a : Nat) (x : va_E) : mw_W := fun q => if q = a then some x else w q
theorem mw_up_s (w : mw_W) (a : Nat) (x : va_E) : mw_up w a x a = some x := by simp [mw_up]
theorem mw_up_n (w : mw_W) {a q : Nat} (x : va_E) (h : q ≠ a) : mw_up w a x q = w q := by simp [mw_up, h]
theorem mw_ne {w : mw_W} {a b : Nat} {x y : va_E} (ha : w a = some x) (hb : w b = some y) (h : x ≠ y) : a ≠ b := fun e => h (by subst e; exact Option.some.inj (ha.symm.trans hb))
theorem mw_neC {w : mw_W} {a b ci cj : Nat} {fs gs : List Value} (ha : w a = some (.inr (ci, fs))) (hb : w b = some (.inr (cj, gs))) (h : ci ≠ cj) : a ≠ b :=
  mw_ne ha hb (fun e => h (congrArg Prod.fst (Sum.inr.inj e)))
theorem mw_neA {w : mw_W} {a b : Nat} {o : Nat × List Value} {r : ClassId × vp_A} (ha : w a = some (.inr o)) (hb : w b = some (.inl r)) : a ≠ b :=
  mw_ne ha hb (fun e => by cases e)
theorem mw_neN {w : mw_W} {a b : Nat} {x : va_E} (ha : w a = some x) (hb : w b = none) : a ≠ b := fun e => by subst e; rw [ha] at hb; cases hb
def mw_P (D : va_G) (cl : List vw_C) (w : mw_W) (H : Heap) : Prop := ∀ (a : Nat) (x : va_E), w a = some x → va_at D cl (a, x) H
def mw_A (w : mw_W) (sz : Nat) (q : Nat) : Prop := (∃ x, w q = some x) ∨ sz ≤ q
/-- the walk's own world: the memory w in the heap H; since H0 (memory w0) nothing else has changed -/
def mw_I (D : va_G) (cl : List vw_C) (w0 : mw_W) (H0 : Heap) (w : mw_W) (H : Heap) (locs : List Loc) : Prop :=
  mw_P D cl w H ∧ va_S (mw_A w0 H0.size) H0 H locs ∧ ∀ (q : Nat) (x : va_E), w q = some x → mw_A w0 H0.size q
theorem mw_I.start {D : va_G} {cl : List vw_C} {w : mw_W} {H : Heap} (h : mw_P D cl w H) : mw_I D cl w H w H [] := ⟨h, va_S.rf, fun _ x hx => Or.inl ⟨x, hx⟩⟩
theorem mw_P.one {D : va_G} {cl : List vw_C} {w : mw_W} {H : Heap} (h : mw_P D cl w H) {a : Nat} {x : va_E} (ha : w a = some x) : va_P D cl [(a, x)] H := by
  intro k q hk
  have hz : k < 1 := (List.getElem?_eq_some_iff.mp hk).1
  rw [show k = 0 by omega] at hk
  cases hk
  exact h a x ha
theorem mw_I.set {D : va_G} {cl : List vw_C} {w0 w : mw_W} {H0 H H1 : Heap} {locs : List Loc} (h : mw_I D cl w0 H0 w H locs) {a k : Nat} {x0 x : va_E} (ha : w a = some x0) (hx : va_at D cl (a, x) H1) (z : H1.size = H.size) (oq : ∀ q : Nat, q ≠ a → H1[q]? = H[q]?) : mw_I D cl w0 H0 (mw_up w a x) H1 (locs ++ [⟨a, k⟩]) := by
  obtain ⟨h1, h2, h3⟩ := h
  refine ⟨fun q y hq => ?_, h2.put z oq (h3 a x0 ha), fun q y hq => ?_⟩
  · by_cases e : q = a
    · subst e; rw [mw_up_s] at hq; cases hq; exact hx
    · rw [mw_up_n _ _ e] at hq; exact (h1 q y hq).kept (oq q e)
  · by_cases e : q = a
    · subst e; exact h3 q x0 ha
    · rw [mw_up_n _ _ e] at hq; exact h3 q y hq
theorem mw_I.fresh {D : va_G} {cl : List vw_C} {w0 w : mw_W} {H0 H : Heap} {locs : List Loc} (h : mw_I D cl w0 H0 w H locs) {q : Nat} (hq : H.size ≤ q) : w q = none := by
  cases hw : w q with
  | none => rfl
  | some x =>
    have h1 : q < H.size := (h.1 q x hw).lt
    exact absurd h1 (Nat.not_lt.mpr hq)
theorem mw_I.new {D : va_G} {cl : List vw_C} {w0 w : mw_W} {H0 H H1 : Heap} {locs : List Loc} (h : mw_I D cl w0 H0 w H locs) {x : va_E} (hx : va_at D cl (H.size, x) H1) (z : H1.size = H.size + 1) (oq : ∀ q : Nat, q < H.size → H1[q]? = H[q]?) : mw_I D cl w0 H0 (mw_up w H.size x) H1 locs := by
  obtain ⟨h1, h2, h3⟩ := h
  refine ⟨fun q y hq => ?_, ⟨Nat.le_trans h2.1 (by omega), fun q g1 g2 => (oq q (Nat.lt_of_lt_of_le g1 h2.1)).trans (h2.2.1 q g1 g2), h2.2.2⟩, fun q y hq => ?_⟩
  · by_cases e : q = H.size
    · subst e; rw [mw_up_s] at hq; cases hq; exact hx
    · rw [mw_up_n _ _ e] at hq; exact (h1 q y hq).kept (oq q (h1 q y hq).lt)
  · by_cases e : q = H.size
    · subst e; exact Or.inr h2.1
    · rw [mw_up_n _ _ e] at hq; exact h3 q y hq
/-! ### contracts of methods that may throw -/
def mx_FE (first : State) (t : State) (L : List Loc) (k n : Nat) : Prop := first.WarmedH t.vm ∧ first.sameButNew ({ t with vm := first.vm } : State) L k n
def mx_M (l : Launch) (y : MethodName) (ws : List Cond) (rm : Room) (Pc : Array Value → State → Prop) (Qc : Array Value → State → Outcome → State → Prop) (mc ms : Nat) (free : Addr → Prop) : Prop :=
  MetFree l y (headSpec ws rm) Pc (fun _ _ _ _ _ => True) (fun a st o t => Qc a st o t ∧ ∃ L, mx_FE st t L mc ms ∧ ∀ q ∈ L, free q.base)
def mx_Q (below : List Frame) (Qc : Array Value → State → Outcome → State → Prop) (a : Array Value) (s : State) (mc ms : Nat) (free : Addr → Prop) : State → Prop := fun t =>
  ∃ o, t.status = .running ∧ Ended t below o ∧ Qc a s o t ∧ ∃ L, mx_FE s t L mc ms ∧ ∀ q ∈ L, free q.base
theorem W.mono {p : Program} {l : Launch} {e : Env} {R : Room} {s : State} {m : MethodId} {args : Array Value} {below : List Frame} {meth : Method} {c : Code} {H : Heap} {locs : List Loc} {cells slots : Nat} {Q Q' : State → Prop} {g : JFrame} (h : ∀ t, Q t → Q' t) (k : W p l e R s m args below meth c H locs cells slots Q g) : W p l e R s m args below meth c H locs cells slots Q' g := by
  intro T hT X
  obtain ⟨t, a, b⟩ := k T hT X
  exact ⟨t, a, h t b⟩
theorem mx_of_MQ {below : List Frame} {Qc : Array Value → State → Outcome → State → Prop} {a : Array Value} {s : State} {mc ms : Nat} {free : Addr → Prop} (t : State) (h : MQ below Qc a s mc ms free t) : mx_Q below Qc a s mc ms free t := by
  obtain ⟨o, h1, h2, h3, L, h4, h5⟩ := h
  exact ⟨o, h1, h2, h3, L, ⟨h4.2.1, h4.2.2⟩, h5⟩
theorem mx_ofW {l : Launch} {y : MethodName} {ws ws' : List Cond} {rm : Room} {Pc : Array Value → State → Prop} {Qc : Array Value → State → Outcome → State → Prop} {mc ms : Nat} {free : Addr → Prop} {cc : ByteArray} {maxL : Nat} {ret : Option FieldType}
    (hy : plainName y.cls = true) (hw : ws = Cond.code y cc maxL ret :: ws')
    (body : ∀ p e s m args below meth c s₁, BodyLoose p l y (headSpec ws rm) cc maxL ret e s m args below meth c s₁ → c.maxLocals = maxL → c.exceptionTable.isEmpty = true → Pc args s →
      W p l e (headSpec ws rm).room s m args below meth c s.heap [] 0 0 (mx_Q below Qc args s mc ms free) (entryFrame m args maxL)) : mx_M l y ws rm Pc Qc mc ms free := by
  refine MetFree.of_bodyS (code := cc) (maxLocals := maxL) (ret := ret) hy ?_ ?_
  · intro args s m h hn
    obtain ⟨meth, c, h1, h2, h3, h4, h5, h6, -, -⟩ := Cond.code_spec hn (atoms_spec (ws := ws) h _ (by rw [hw]; exact List.mem_cons_self))
    exact ⟨meth, c, h1, h2, h3, h4, h5, h6⟩
  · intro p e s m args below meth c s₁ B hml hP _
    have hh0 : s₁.heap = s.heap := by rw [B.state]; rfl
    have hce : c.exceptionTable.isEmpty = true := B.noHandlers (atoms_spec (ws := ws) B.pre _ (by rw [hw]; exact List.mem_cons_self))
    obtain ⟨t, a1, o, b1, b2, b3⟩ := body p e s m args below meth c s₁ B hml hce hP s₁ hh0 (Stand.of_body B)
    exact ⟨t, o, a1, b1, b2, ⟨b3.1, b3.2⟩⟩
/-- the same for a method with handlers -/
theorem mx_ofWH {l : Launch} {y : MethodName} {ws ws' : List Cond} {rm : Room} {Pc : Array Value → State → Prop} {Qc : Array Value → State → Outcome → State → Prop} {mc ms : Nat} {free : Addr → Prop} {cc : ByteArray} {maxL : Nat} {ret : Option FieldType} {hs : List (Nat × Nat × Nat × Nat)}
    (hy : plainName y.cls = true) (hw : ws = Cond.codeWith y cc maxL ret hs :: ws')
    (body : ∀ p e s m args below meth c s₁, BodyLoose p l y (headSpec ws rm) cc maxL ret e s m args below meth c s₁ → c.maxLocals = maxL → c.exceptionTable.toList.map (fun h => (h.startPc, h.endPc, h.handlerPc, h.catchType)) = hs → Pc args s →
      W p l e (headSpec ws rm).room s m args below meth c s.heap [] 0 0 (mx_Q below Qc args s mc ms free) (entryFrame m args maxL)) : mx_M l y ws rm Pc Qc mc ms free := by
  refine MetFree.of_bodyS (code := cc) (maxLocals := maxL) (ret := ret) hy ?_ ?_
  · intro args s m h hn
    obtain ⟨m', meth, c, h0, h1, h2, h3, h4, h5, h6, h7, h8⟩ := Cond.codeWith_spec (atoms_spec (ws := ws) h _ (by rw [hw]; exact List.mem_cons_self))
    cases hn.symm.trans h0
    exact ⟨meth, c, h1, h2, h3, h4, h6, h7⟩
  · intro p e s m args below meth c s₁ B hml hP _
    have hh0 : s₁.heap = s.heap := by rw [B.state]; rfl
    have X := Stand.of_body B
    have hce : c.exceptionTable.toList.map (fun h => (h.startPc, h.endPc, h.handlerPc, h.catchType)) = hs := by
      obtain ⟨m', meth', c', h0, h1, h2, h3, h4, h5, h6, h7, h8⟩ := Cond.codeWith_spec (atoms_spec (ws := ws) B.pre _ (by rw [hw]; exact List.mem_cons_self))
      cases B.named.symm.trans h0
      cases B.method.symm.trans h1
      cases X.code.symm.trans h2
      exact h5
    obtain ⟨t, a1, o, b1, b2, b3⟩ := body p e s m args below meth c s₁ B hml hce hP s₁ hh0 X
    exact ⟨t, o, a1, b1, b2, ⟨b3.1, b3.2⟩⟩
/-- an invoking instruction at g comes to the method y with the arguments a; 'rest' stays on the stack -/
def mx_Inv (p : Program) (l : Launch) (e : Env) (R : Room) (s : State) (m : MethodId) (args : Array Value) (below : List Frame) (meth : Method) (c : Code) (H : Heap) (g : JFrame) (y : MethodName) (a : Array Value) (rest : List Value) : Prop :=
  ∀ (T : State) (locs : List Loc) (cells slots : Nat), T.heap = H → Stand p l e R s m args below meth c T locs cells slots → ∃ (vm₁ : Vm) (mk : MethodId), s.WarmedH vm₁ ∧ Stand p l e R s m args below meth c (T.setVm vm₁) locs cells slots ∧ s.methodNamed? y = some mk ∧
    ∀ target, Steps p.tables e below (doInvoke e ((T.setVm vm₁).setTop { g with stack := rest }) [] mk a).1 target → Steps p.tables e below (T.setTop g) target
section MXI
variable {p : Program} {l : Launch} {e : Env} {R : Room} {s : State} {m : MethodId} {args : Array Value} {below : List Frame} {meth : Method} {c : Code} {H : Heap}
theorem mx_invS (hexec : p.tables.exec = Jvm.exec) {own : String} {index : Nat} {y : MethodName} {bytes : ByteArray} {maxL : Nat} {ret : Option FieldType}
    (hown : s.vm.findClass own = some m.cls) (hlink : (Cond.methodLink own index y).before args s = true) (hstat : (Cond.static y).before args s = true) (hinit : (Cond.initialized y.cls).before args s = true)
    (hcode : (Cond.code y bytes maxL ret).before args s = true) (hy : y.cls ≠ "java/lang/invoke/MethodHandle" ∧ y.cls ≠ "java/lang/invoke/VarHandle")
    {g : JFrame} (hg : g.method = m) {argsL rest : List Value} (hlen : (parseMethodDescriptor y.desc).map (fun d => d.parameters.length) = some argsL.length)
    (hstack : g.stack = argsL.reverse ++ rest) (hdg : decode c.code g.pc = .ok (.invokestatic index, 3)) : mx_Inv p l e R s m args below meth c H g y argsL.toArray rest := by
  intro T locs cells slots hT X
  obtain ⟨mk, hnamed⟩ := Cond.code_named hcode
  obtain ⟨methM, cM, hmethM, -, -, -, -, -, -, hsigM⟩ := Cond.code_spec hnamed hcode
  have hstatic : methM.isStatic = true := Cond.static_spec hnamed hmethM hstat
  obtain ⟨kP, hkP, -⟩ := className_of_methodNamed hnamed
  have hinitP : kP.init = .initialized := Cond.initialized_spec (findClass_of_methodNamed hnamed) hkP hinit
  have hl : argsL.length = methM.sig.parameters.length := by rw [hsigM] at hlen; exact (Option.some.inj hlen).symm
  obtain ⟨vm₁, X₁, hstep₁⟩ := X.invokestatic hexec hown hlink hnamed hmethM hstatic hkP hinitP hy (g := g) hg (argsL := argsL) (rest := rest) hl hstack hdg
  exact ⟨vm₁, mk, X₁.warmed, X₁, hnamed, fun target h => hstep₁ _ fun acts => by rw [doInvoke_state]; exact h⟩
theorem mx_invSH (hexec : p.tables.exec = Jvm.exec) {own : String} {index : Nat} {y : MethodName} {bytes : ByteArray} {maxL : Nat} {ret : Option FieldType} {hs : List (Nat × Nat × Nat × Nat)}
    (hown : s.vm.findClass own = some m.cls) (hlink : (Cond.methodLink own index y).before args s = true) (hstat : (Cond.static y).before args s = true) (hinit : (Cond.initialized y.cls).before args s = true)
    (hcode : (Cond.codeWith y bytes maxL ret hs).before args s = true) (hy : y.cls ≠ "java/lang/invoke/MethodHandle" ∧ y.cls ≠ "java/lang/invoke/VarHandle")
    {g : JFrame} (hg : g.method = m) {argsL rest : List Value} (hlen : (parseMethodDescriptor y.desc).map (fun d => d.parameters.length) = some argsL.length)
    (hstack : g.stack = argsL.reverse ++ rest) (hdg : decode c.code g.pc = .ok (.invokestatic index, 3)) : mx_Inv p l e R s m args below meth c H g y argsL.toArray rest := by
  intro T locs cells slots hT X
  obtain ⟨mk, methM, cM, hnamed, hmethM, -, -, -, -, -, -, hsigM⟩ := Cond.codeWith_spec hcode
  have hstatic : methM.isStatic = true := Cond.static_spec hnamed hmethM hstat
  obtain ⟨kP, hkP, -⟩ := className_of_methodNamed hnamed
  have hinitP : kP.init = .initialized := Cond.initialized_spec (findClass_of_methodNamed hnamed) hkP hinit
  have hl : argsL.length = methM.sig.parameters.length := by rw [hsigM] at hlen; exact (Option.some.inj hlen).symm
  obtain ⟨vm₁, X₁, hstep₁⟩ := X.invokestatic hexec hown hlink hnamed hmethM hstatic hkP hinitP hy (g := g) hg (argsL := argsL) (rest := rest) hl hstack hdg
  exact ⟨vm₁, mk, X₁.warmed, X₁, hnamed, fun target h => hstep₁ _ fun acts => by rw [doInvoke_state]; exact h⟩
theorem mx_invSN (hexec : p.tables.exec = Jvm.exec) {own host : String} {index : Nat} {y : MethodName} {bytes : ByteArray} {maxL : Nat} {ret : Option FieldType}
    (hown : s.vm.findClass own = some m.cls) (hlink : (Cond.methodLinkNest own index y host).before args s = true) (hstat : (Cond.static y).before args s = true) (hinit : (Cond.initialized y.cls).before args s = true)
    (hcode : (Cond.code y bytes maxL ret).before args s = true) (hy : y.cls ≠ "java/lang/invoke/MethodHandle" ∧ y.cls ≠ "java/lang/invoke/VarHandle")
    {g : JFrame} (hg : g.method = m) {argsL rest : List Value} (hlen : (parseMethodDescriptor y.desc).map (fun d => d.parameters.length) = some argsL.length)
    (hstack : g.stack = argsL.reverse ++ rest) (hdg : decode c.code g.pc = .ok (.invokestatic index, 3)) : mx_Inv p l e R s m args below meth c H g y argsL.toArray rest := by
  intro T locs cells slots hT X
  obtain ⟨mk, hnamed⟩ := Cond.code_named hcode
  obtain ⟨methM, cM, hmethM, -, -, -, -, -, -, hsigM⟩ := Cond.code_spec hnamed hcode
  have hstatic : methM.isStatic = true := Cond.static_spec hnamed hmethM hstat
  obtain ⟨kP, hkP, -⟩ := className_of_methodNamed hnamed
  have hinitP : kP.init = .initialized := Cond.initialized_spec (findClass_of_methodNamed hnamed) hkP hinit
  have hl : argsL.length = methM.sig.parameters.length := by rw [hsigM] at hlen; exact (Option.some.inj hlen).symm
  obtain ⟨vm₁, X₁, hstep₁⟩ := X.invokestaticNest hexec hown hlink hnamed hmethM hstatic hkP hinitP hy (g := g) hg (argsL := argsL) (rest := rest) hl hstack hdg
  exact ⟨vm₁, mk, X₁.warmed, X₁, hnamed, fun target h => hstep₁ _ fun acts => by rw [doInvoke_state]; exact h⟩
theorem mx_invV (hexec : p.tables.exec = Jvm.exec) {own C : String} {index : Nat} {y : MethodName} {bytes : ByteArray} {maxL : Nat} {ret : Option FieldType}
    (hown : s.vm.findClass own = some m.cls) (hlink : (Cond.methodLink own index y).before args s = true) (hinst : (Cond.instanceMethod y).before args s = true) (hsel : (Cond.selects C y y).before args s = true)
    (hcode : (Cond.code y bytes maxL ret).before args s = true) (hy : y.cls ≠ "java/lang/invoke/MethodHandle" ∧ y.cls ≠ "java/lang/invoke/VarHandle")
    {b : Addr} (hb : ∃ cellB : Cell, H[b]? = some cellB ∧ cellB.vm.isStatics = false ∧ s.vm.findClass C = some cellB.cls)
    {g : JFrame} (hg : g.method = m) {argsL rest : List Value} (hlen : (parseMethodDescriptor y.desc).map (fun d => d.parameters.length) = some argsL.length)
    (hstack : g.stack = argsL.reverse ++ .ref b :: rest) (hdg : decode c.code g.pc = .ok (.invokevirtual index, 3)) : mx_Inv p l e R s m args below meth c H g y (Value.ref b :: argsL).toArray rest := by
  intro T locs cells slots hT X
  obtain ⟨cellB, hcell, hobj, hcls⟩ := hb
  rw [← hT] at hcell
  obtain ⟨mk, methM, hnamed, hmethM, hstM, habM⟩ := Cond.instanceMethod_spec hinst
  obtain ⟨methM', cM, hmethM', -, -, -, -, -, -, hsigM⟩ := Cond.code_spec hnamed hcode
  cases hmethM.symm.trans hmethM'
  obtain ⟨c2, r2, m2, q1, q2, q3, q4, kP, hkP, hkPi⟩ := Cond.selects_spec hsel
  cases hcls.symm.trans q1
  cases (State.methodFound?_of_named hnamed hy).symm.trans q2
  cases hnamed.symm.trans q3
  have hselP : selectMethod e.platform s.vm cellB.cls mk = .method mk := by rw [Launch.admits_selectMethod X.admits]; exact q4
  have hl : argsL.length = methM.sig.parameters.length := by rw [hsigM] at hlen; exact (Option.some.inj hlen).symm
  obtain ⟨vm₁, X₁, hstep₁⟩ := X.invokevirtual hexec hown hlink hnamed hmethM hstM hkP hkPi hy (a := b) (cell := cellB) hcell
    (fun z h => by rw [h] at hobj; cases hobj) hselP hmethM habM hkP hkPi (g := g) hg (argsL := argsL) (rest := rest) hl hstack hdg
  exact ⟨vm₁, mk, X₁.warmed, X₁, hnamed, fun target h => hstep₁ _ fun acts => by rw [doInvoke_state]; exact h⟩
theorem mx_invVN (hexec : p.tables.exec = Jvm.exec) {own C host : String} {index : Nat} {y : MethodName} {bytes : ByteArray} {maxL : Nat} {ret : Option FieldType}
    (hown : s.vm.findClass own = some m.cls) (hlink : (Cond.methodLinkNest own index y host).before args s = true) (hinst : (Cond.instanceMethod y).before args s = true) (hsel : (Cond.selects C y y).before args s = true)
    (hcode : (Cond.code y bytes maxL ret).before args s = true) (hy : y.cls ≠ "java/lang/invoke/MethodHandle" ∧ y.cls ≠ "java/lang/invoke/VarHandle")
    {b : Addr} (hb : ∃ cellB : Cell, H[b]? = some cellB ∧ cellB.vm.isStatics = false ∧ s.vm.findClass C = some cellB.cls)
    {g : JFrame} (hg : g.method = m) {argsL rest : List Value} (hlen : (parseMethodDescriptor y.desc).map (fun d => d.parameters.length) = some argsL.length)
    (hstack : g.stack = argsL.reverse ++ .ref b :: rest) (hdg : decode c.code g.pc = .ok (.invokevirtual index, 3)) : mx_Inv p l e R s m args below meth c H g y (Value.ref b :: argsL).toArray rest := by
  intro T locs cells slots hT X
  obtain ⟨cellB, hcell, hobj, hcls⟩ := hb
  rw [← hT] at hcell
  obtain ⟨mk, methM, hnamed, hmethM, hstM, habM⟩ := Cond.instanceMethod_spec hinst
  obtain ⟨methM', cM, hmethM', -, -, -, -, -, -, hsigM⟩ := Cond.code_spec hnamed hcode
  cases hmethM.symm.trans hmethM'
  obtain ⟨c2, r2, m2, q1, q2, q3, q4, kP, hkP, hkPi⟩ := Cond.selects_spec hsel
  cases hcls.symm.trans q1
  cases (State.methodFound?_of_named hnamed hy).symm.trans q2
  cases hnamed.symm.trans q3
  have hselP : selectMethod e.platform s.vm cellB.cls mk = .method mk := by rw [Launch.admits_selectMethod X.admits]; exact q4
  have hl : argsL.length = methM.sig.parameters.length := by rw [hsigM] at hlen; exact (Option.some.inj hlen).symm
  obtain ⟨vm₁, X₁, hstep₁⟩ := X.invokevirtualNest hexec hown hlink hnamed hmethM hstM hkP hkPi hy (a := b) (cell := cellB) hcell
    (fun z h => by rw [h] at hobj; cases hobj) hselP hmethM habM hkP hkPi (g := g) hg (argsL := argsL) (rest := rest) hl hstack hdg
  exact ⟨vm₁, mk, X₁.warmed, X₁, hnamed, fun target h => hstep₁ _ fun acts => by rw [doInvoke_state]; exact h⟩
/-- inherited, overriding or abstract: the reference names x, found in 'owner'; the receiver's class C selects y -/
theorem mx_invU (hexec : p.tables.exec = Jvm.exec) {own C owner : String} {index : Nat} {x y : MethodName}
    (hown : s.vm.findClass own = some m.cls) (hlink : (Cond.methodLink own index x).before args s = true) (hsame : (Cond.sameMethod x.cls owner x.name x.desc).before args s = true)
    (hd0 : va_Decl s ⟨owner, x.name, x.desc⟩) (howner : owner ≠ "java/lang/invoke/MethodHandle" ∧ owner ≠ "java/lang/invoke/VarHandle")
    (hsel : (Cond.selects C x y).before args s = true) (hinst : (Cond.instanceMethod y).before args s = true)
    {b : Addr} (hb : ∃ cellB : Cell, H[b]? = some cellB ∧ cellB.vm.isStatics = false ∧ s.vm.findClass C = some cellB.cls)
    {g : JFrame} (hg : g.method = m) {argsL rest : List Value} (hlen : (parseMethodDescriptor x.desc).map (fun d => d.parameters.length) = some argsL.length)
    (hstack : g.stack = argsL.reverse ++ .ref b :: rest) (hdg : decode c.code g.pc = .ok (.invokevirtual index, 3)) : mx_Inv p l e R s m args below meth c H g y (Value.ref b :: argsL).toArray rest := by
  intro T locs cells slots hT X
  obtain ⟨cellB, hcell, hobj, hcls⟩ := hb
  rw [← hT] at hcell
  obtain ⟨r0, r, hn, hrm, hstR, hsigR⟩ := hd0
  obtain ⟨cn, ck, r1, hcn, hck, hni, hf, hn1⟩ := Cond.sameMethod_found hsame
  cases hn.symm.trans hn1
  obtain ⟨mk, methM, hnamed, hmethM, -, habM⟩ := Cond.instanceMethod_spec hinst
  obtain ⟨c2, r2, m2, q1, q2, q3, q4, kP, hkP, hkPi⟩ := Cond.selects_spec hsel
  cases hcls.symm.trans q1
  cases hf.symm.trans q2
  cases hnamed.symm.trans q3
  have hselP : selectMethod e.platform s.vm cellB.cls r0 = .method mk := by rw [Launch.admits_selectMethod X.admits]; exact q4
  have hl : argsL.length = r.sig.parameters.length := by rw [hsigR] at hlen; exact (Option.some.inj hlen).symm
  obtain ⟨vm₁, X₁, hstep₁⟩ := X.invokevirtualUp hexec hown hlink hsame howner hn hrm hstR (a := b) (cell := cellB) hcell
    (fun z h => by rw [h] at hobj; cases hobj) hselP hmethM habM hkP hkPi (g := g) hg (argsL := argsL) (rest := rest) hl hstack hdg
  exact ⟨vm₁, mk, X₁.warmed, X₁, hnamed, fun target h => hstep₁ _ fun acts => by rw [doInvoke_state]; exact h⟩
theorem mx_invI (hexec : p.tables.exec = Jvm.exec) {own : String} {index : Nat} {y : MethodName} {bytes : ByteArray} {maxL : Nat}
    (hown : s.vm.findClass own = some m.cls) (hy1 : y.name = "<init>") (hlink : (Cond.methodLink own index y).before args s = true) (hinst : (Cond.instanceMethod y).before args s = true)
    (hcode : (Cond.code y bytes maxL none).before args s = true) (hy : y.cls ≠ "java/lang/invoke/MethodHandle" ∧ y.cls ≠ "java/lang/invoke/VarHandle")
    {g : JFrame} (hg : g.method = m) {a : Addr} {argsL rest : List Value} (hlen : (parseMethodDescriptor y.desc).map (fun d => d.parameters.length) = some argsL.length)
    (hstack : g.stack = argsL.reverse ++ .ref a :: rest) (hdg : decode c.code g.pc = .ok (.invokespecial index, 3)) : mx_Inv p l e R s m args below meth c H g y (Value.ref a :: argsL).toArray rest := by
  intro T locs cells slots hT X
  subst hg
  have hpl : e.platform.magicAccessors = ({} : Platform).magicAccessors := by rw [X.admits.platform]
  obtain ⟨mk, methM, cM, kP, vm₁, hnamed, hmethM, hcodeM, -, hlocalsM, -, hkP, -, hW₁, hstep₁⟩ := Steps.initColdArgs (e := e) X.here hexec X.warmed hpl hown hy1 hy hlink hinst hcode (f := g) rfl (fun sig h => by rw [h] at hlen; exact (Option.some.inj hlen).symm) hstack hdg
  exact ⟨vm₁, mk, hW₁, X.noted hW₁, hnamed, fun target h => hstep₁ _ fun acts => by rw [doInvoke_state]; exact h⟩
theorem mx_invIN (hexec : p.tables.exec = Jvm.exec) {own host : String} {index : Nat} {y : MethodName} {bytes : ByteArray} {maxL : Nat}
    (hown : s.vm.findClass own = some m.cls) (hy1 : y.name = "<init>") (hlink : (Cond.methodLinkNest own index y host).before args s = true) (hinst : (Cond.instanceMethod y).before args s = true)
    (hcode : (Cond.code y bytes maxL none).before args s = true) (hy : y.cls ≠ "java/lang/invoke/MethodHandle" ∧ y.cls ≠ "java/lang/invoke/VarHandle")
    {g : JFrame} (hg : g.method = m) {a : Addr} {argsL rest : List Value} (hlen : (parseMethodDescriptor y.desc).map (fun d => d.parameters.length) = some argsL.length)
    (hstack : g.stack = argsL.reverse ++ .ref a :: rest) (hdg : decode c.code g.pc = .ok (.invokespecial index, 3)) : mx_Inv p l e R s m args below meth c H g y (Value.ref a :: argsL).toArray rest := by
  intro T locs cells slots hT X
  subst hg
  have hpl : e.platform.magicAccessors = ({} : Platform).magicAccessors := by rw [X.admits.platform]
  obtain ⟨mk, methM, cM, kP, vm₁, hnamed, hmethM, hcodeM, -, hlocalsM, -, hkP, -, hW₁, hstep₁⟩ := Steps.initColdArgsNest (e := e) X.here hexec X.warmed hpl hown hy1 hy hlink hinst hcode (f := g) rfl (fun sig h => by rw [h] at hlen; exact (Option.some.inj hlen).symm) hstack hdg
  exact ⟨vm₁, mk, hW₁, X.noted hW₁, hnamed, fun target h => hstep₁ _ fun acts => by rw [doInvoke_state]; exact h⟩
end MXI
/-- the callee's code stands among its words, with so many variables -/
def mx_Cd (y : MethodName) (maxL : Nat) (ws : List Cond) : Prop := (∃ (b : ByteArray) (r : Option FieldType), Cond.code y b maxL r ∈ ws) ∨ ∃ (b : ByteArray) (r : Option FieldType) (h : List (Nat × Nat × Nat × Nat)), Cond.codeWith y b maxL r h ∈ ws
/-- the machine, throwing x over the frame g, comes to a state with Q -/
def WT (p : Program) (l : Launch) (e : Env) (R : Room) (s : State) (m : MethodId) (args : Array Value) (below : List Frame) (meth : Method) (c : Code) (H : Heap) (locs : List Loc) (cells slots : Nat) (Q : State → Prop) (g : JFrame) (x : Addr) : Prop :=
  ∀ T : State, T.heap = H → Stand p l e R s m args below meth c T locs cells slots → ∃ t, Steps p.tables e below ((T.setTop g).pushFrame (.throwing x)) t ∧ Q t
section MXC
variable {p : Program} {l : Launch} {e : Env} {R : Room} {s : State} {m : MethodId} {args : Array Value} {below : List Frame} {meth : Method} {c : Code} {H : Heap} {locs : List Loc} {cells slots : Nat} {Q : State → Prop}
theorem mx_heap_top (T : State) (g : JFrame) : (T.setTop g).heap = T.heap := by simp [State.setTop, State.modifyTopJava]
theorem mx_vm_top (T : State) (g : JFrame) : (T.setTop g).vm = T.vm := by simp [State.setTop, State.modifyTopJava]
theorem mx_heap_thr (T : State) (g : JFrame) (x : Addr) : ((T.setTop g).pushFrame (.throwing x)).heap = T.heap := by simp [State.pushFrame, State.setFrames, State.setTop, State.modifyTopJava]
theorem mx_vm_thr (T : State) (g : JFrame) (x : Addr) : ((T.setTop g).pushFrame (.throwing x)).vm = T.vm := by simp [State.pushFrame, State.setFrames, State.setTop, State.modifyTopJava]
/-- a call comes back, or throws -/
theorem mx_back {y : MethodName} {ws : List Cond} {rm : Room} {Pc : Array Value → State → Prop} {Qc : Array Value → State → Outcome → State → Prop} {mc ms : Nat} {free : Addr → Prop} (hM : mx_M l y ws rm Pc Qc mc ms free)
    {g : JFrame} {a : Array Value} {rest : List Value} (hI : mx_Inv p l e R s m args below meth c H g y a rest) (hg : g.method = m) (hsize : g.locals.size = c.maxLocals) {ig : Instr} {len : Nat} (hdg : decode c.code g.pc = .ok (ig, len))
    (hrc : rm.cells = mc) (hrs : rm.slots = ms) (hR : rm.frames + 1 ≤ R.frames) {maxL : Nat} (hlo : 2 * g.monitorRoom + (rest.map fun v => v.category).sum + (maxL + 11) + rm.locals ≤ R.locals) (hcd : mx_Cd y maxL ws)
    (hws : ∀ w ∈ ws, ∀ (a' : Array Value) (U : State), s.WarmedH U.vm → w.before a' U = true) (hini : ∀ (a' : Array Value) (U : State), s.WarmedH U.vm → (Cond.initialized y.cls).before a' U = true)
    (hf : cells + mc ≤ R.cells ∧ slots + ms ≤ R.slots) (hP : ∀ (U : State) (g : JFrame) (mk : MethodId), U.heap = H → s.WarmedH U.vm → Pc a (U.calling g mk a))
    (T : State) (hT : T.heap = H) (X : Stand p l e R s m args below meth c T locs cells slots) :
    ∃ (o : Outcome) (st t T' : State) (L : List Loc), st.heap = H ∧ s.vm.Alike st.vm ∧ Stand p l e R s m args below meth c T' (locs ++ L) (cells + mc) (slots + ms) ∧ (∀ q ∈ L, free q.base) ∧ T'.heap = t.heap ∧ T'.vm = t.vm ∧ Qc a st o t ∧
      ((∃ v, o = .returned v ∧ Goes p e below T g T' { g with pc := g.pc + len, stack := v.toList ++ rest }) ∨ (∃ x, o = .threw x ∧ ∀ target, Steps p.tables e below ((T'.setTop { g with stack := rest }).pushFrame (.throwing x)) target → Steps p.tables e below (T.setTop g) target)) := by
  obtain ⟨vm₁, mk, hW₁, X₁, hn, hgo⟩ := hI T locs cells slots hT X
  have hn₁ : (T.setVm vm₁).methodNamed? y = some mk := X₁.named hn
  have hW₁' : s.WarmedH (T.setVm vm₁).vm := hW₁
  obtain ⟨methY, cY, hmY, hcY, hlY⟩ : ∃ methY cY, (T.setVm vm₁).vm.method? mk = some methY ∧ methY.code = some cY ∧ cY.maxLocals = maxL := by
    rcases hcd with ⟨b, r, hc⟩ | ⟨b, r, h, hc⟩
    · obtain ⟨methY, cY, hmY, hcY, -, hlY, -, -, -, -⟩ := Cond.code_spec hn₁ (hws _ hc a _ hW₁')
      exact ⟨methY, cY, hmY, hcY, hlY⟩
    · obtain ⟨mY', methY, cY, hnY', hmY, hcY, -, hlY, -, -, -, -⟩ := Cond.codeWith_spec (hws _ hc a _ hW₁')
      cases hn₁.symm.trans hnY'
      exact ⟨methY, cY, hmY, hcY, hlY⟩
  obtain ⟨kY, hkY, -⟩ := className_of_methodNamed hn₁
  have hinitY : kY.init = .initialized := Cond.initialized_spec (findClass_of_methodNamed hn₁) hkY (hini a _ hW₁')
  have h : At (T.setVm vm₁) ({ g with stack := rest } : JFrame).method c below := by show At _ g.method _ _; rw [hg]; exact X₁.here
  have happ : (headSpec ws rm).appliesLoose y e.platform ((T.setVm vm₁).calling { g with stack := rest } mk a) = true :=
    Spec.appliesLoose_calling (g := { g with stack := rest }) h hdg hn₁ hkY hinitY
      (X₁.room_calling (g := { g with stack := rest }) (R' := rm) hsize hmY hcY hR (by rw [hlY]; exact hlo) (by rw [hrc]; exact hf.1) (by rw [hrs]; exact hf.2)) (atoms_intro fun w hw => hws w hw _ _ hW₁')
  obtain ⟨mid, hmid⟩ := h.above
  have hfr : ((T.setVm vm₁).setTop { g with stack := rest }).frames = (.java { g with stack := rest } :: mid) ++ below := by rw [State.frames_setTop' _ h.top, hmid]; rfl
  obtain ⟨o, t, hsteps, -, hend, hq, L, hfe, hL⟩ := Steps.callFree hM p X₁.admits X₁.cas X₁.clock (acts := []) hfr happ (hP _ _ mk hT hW₁') trivial
  rw [State.frames_setTop' _ h.top, X₁.tail] at hend
  refine ⟨o, (T.setVm vm₁).calling { g with stack := rest } mk a, t, ?_⟩
  cases o with
  | returned v =>
    obtain ⟨T', X', -, -, ht⟩ := X₁.outOf (g := { g with stack := rest }) hg hdg hend hfe.1 hfe.2
    refine ⟨T', L, hT, hW₁.alike, X', hL, by rw [ht, mx_heap_top], by rw [ht, mx_vm_top], hq, Or.inl ⟨v, rfl, fun target hr => hgo target (hsteps.trans ?_)⟩⟩
    rw [ht]
    exact hr
  | threw x =>
    obtain ⟨T', X', -, -, ht⟩ := X₁.outOfThrown (g := { g with stack := rest }) hg hend hfe.1 hfe.2
    refine ⟨T', L, hT, hW₁.alike, X', hL, by rw [ht, mx_heap_thr], by rw [ht, mx_vm_thr], hq, Or.inr ⟨x, rfl, fun target hr => hgo target (hsteps.trans ?_)⟩⟩
    rw [ht]
    exact hr
/-- nothing catches it here -/
theorem mx_out {Qc : Array Value → State → Outcome → State → Prop} {free : Addr → Prop} {x : Addr} (hce : c.exceptionTable.isEmpty = true) (hlocks : meth.locks = false) (hq : ∀ t : State, t.heap = H → s.WarmedH t.vm → Qc args s (.threw x) t) (hf : ∀ q ∈ locs, free q.base)
    {g : JFrame} (hg : g.method = m) (hlocked : g.locked = none) (hentered : g.entered = []) : WT p l e R s m args below meth c H locs cells slots (mx_Q below Qc args s cells slots free) g x := by
  intro T hT X
  have hnil : c.exceptionTable.toList = [] := by simpa using hce
  obtain ⟨st, hrun, hended, hW, hsame⟩ := X.leaveThrown x (g := g) hg hlocked hentered (fun y hy => by rw [hnil] at hy; cases hy) hlocks
  exact ⟨_, st, .threw x, hrun, hended, hq _ hT hW, locs, ⟨hW, hsame⟩, hf⟩
end MXC
/-! ### rows over a memory -/
/-- the tables' rows of the classes: their fields' words, types, names apart -/
def mw_Tb (Ts : List Cond) (cl : List vw_C) (ty : Nat → Nat → FieldType) : Prop := ∀ (ci : Nat) (r : vw_C), cl[ci]? = some r → (∀ x ∈ u_ws r.1 r.2.1 r.2.2, x ∈ Ts) ∧ (∀ k, k < r.2.2 → parseFieldDescriptor (r.2.1 k).2.2.1 = some (ty ci k)) ∧ ∀ a, a < r.2.2 → ∀ b, b < r.2.2 → a ≠ b → (r.2.1 a).2.1 ≠ (r.2.1 b).2.1
def mw_K (p : Program) (s : State) (m : MethodId) (args : Array Value) (c : Code) (cc : ByteArray) (nL : Nat) (own : String) (D : va_G) (cl : List vw_C) (tys : List (ClassId × FieldType)) (Ts : List Cond) (ty : Nat → Nat → FieldType) : Prop :=
  p.tables.exec = Jvm.exec ∧ c.code = cc ∧ c.maxLocals = nL ∧ s.vm.findClass own = some m.cls ∧ (∀ x ∈ Ts, x.before args s = true) ∧ va_K D cl tys s ∧ mw_Tb Ts cl ty
/-- the pool's entry idx of 'own' is the field k of the class ci -/
def mw_Fl (Ts : List Cond) (cl : List vw_C) (own : String) (idx ci k : Nat) : Prop := ∃ (r : vw_C) (ref : String), cl[ci]? = some r ∧ k < r.2.2 ∧ Cond.fieldLink own idx ref (r.2.1 k).2.1 (r.2.1 k).2.2.1 ∈ Ts ∧ (ref = (r.2.1 k).1 ∨ Cond.sameField ref (r.2.1 k).1 (r.2.1 k).2.1 (r.2.1 k).2.2.1 ∈ Ts)
def mw_Fp (Ts : List Cond) (cl : List vw_C) (own : String) (idx ci k : Nat) : Prop := ∃ (r : vw_C) (ref : String), cl[ci]? = some r ∧ k < r.2.2 ∧ Cond.fieldLink own idx ref (r.2.1 k).2.1 (r.2.1 k).2.2.1 ∈ Ts ∧ (ref = (r.2.1 k).1 ∨ Cond.sameField ref (r.2.1 k).1 (r.2.1 k).2.1 (r.2.1 k).2.2.1 ∈ Ts) ∧ ((r.2.1 k).2.2.2 = false ∨ ((r.2.1 k).2.2.2 = true ∧ (r.2.1 k).1 = own))
section MWR
variable {p : Program} {l : Launch} {e : Env} {R : Room} {s : State} {m : MethodId} {args : Array Value} {below : List Frame} {meth : Method} {c : Code} {H : Heap} {locs : List Loc} {cells slots : Nat} {Q : State → Prop}
variable {cc : ByteArray} {nL pc : Nat} {ls : Array Slot} {rest : List Value} {own : String} {D : va_G} {cl : List vw_C} {tys : List (ClassId × FieldType)} {Ts : List Cond} {ty : Nat → Nat → FieldType} {w0 w : mw_W} {H0 : Heap} {a idx ci k : Nat}
theorem mw_get (K : mw_K p s m args c cc nL own D cl tys Ts ty) (hI : mw_I D cl w0 H0 w H locs) (hF : mw_Fl Ts cl own idx ci k) {fs : List Value} {v : Value} (ha : w a = some (.inr (ci, fs))) (hv : fs[k]? = some v) (hdg : decode cc pc = .ok (.getfield idx, 3))
    (kk : W p l e R s m args below meth c H locs cells slots Q (F0 m (pc + 3) ls (v :: rest))) : W p l e R s m args below meth c H locs cells slots Q (F0 m pc ls (.ref a :: rest)) := by
  obtain ⟨hx, hb, -, hown, hts, hK, hTb⟩ := K
  obtain ⟨⟨C, T, N⟩, ref, hc, hk, hl, hs⟩ := hF
  exact va_get hx hb hts (hTb ci _ hc).1 hown hK (hI.1.one ha) 0 rfl hc k hk (hts _ hl) (fun x hx => by
    rcases hs with e | e
    · rw [e]; exact hx
    · exact u_same (hts _ e) x hx) hv hdg kk
theorem mw_put (K : mw_K p s m args c cc nL own D cl tys Ts ty) (hI : mw_I D cl w0 H0 w H locs) (hF : mw_Fp Ts cl own idx ci k) (hin2 : ((∃ r, cl[ci]? = some r ∧ (r.2.1 k).2.2.2 = false) ∨ meth.name = "<init>")) {fs : List Value} {v : Value} (ha : w a = some (.inr (ci, fs))) (hn : narrow (ty ci k) v = v) (hfit : fits (ty ci k) v = true) (hl : k < fs.length) (hdg : decode cc pc = .ok (.putfield idx, 3))
    (kk : ∀ (H1 : Heap) (locs1 : List Loc), mw_I D cl w0 H0 (mw_up w a (.inr (ci, fs.set k v))) H1 locs1 → W p l e R s m args below meth c H1 locs1 cells slots Q (F0 m (pc + 3) ls rest)) : W p l e R s m args below meth c H locs cells slots Q (F0 m pc ls (v :: .ref a :: rest)) := by
  obtain ⟨hx, hb, -, hown, hts, hK, hTb⟩ := K
  obtain ⟨⟨C, T, N⟩, ref, hc, hk, hlk, hs, hff⟩ := hF
  obtain ⟨hin, hty, hnm⟩ := hTb ci _ hc
  have hsame : ∀ x, s.fieldFound? (T k).1 (T k).2.1 (T k).2.2.1 = some x → s.fieldFound? ref (T k).2.1 (T k).2.2.1 = some x := fun x hx => by
    rcases hs with e | e
    · rw [e]; exact hx
    · exact u_same (hts _ e) x hx
  have hap := va_apart (own := own) hts hin (ty ci) hty hnm hK hc
  obtain ⟨r, h1, cell, q1, q2, q3, q4⟩ := hI.1 a _ ha
  have hr : r = (C, T, N) := Option.some.inj (h1.symm.trans hc)
  subst hr
  obtain ⟨hS, hfc, kC, hkC, hkind⟩ := hK.1 ci _ hc
  obtain ⟨cf, kf, fi, f, hi, hsl⟩ := hS k hk
  have hlay := hts _ (hin _ (u_in_lay hk))
  unfold u_lay at hlay
  have hst := (u_facts hfc hkC (u_lays hts hin hk) hi).1
  have fin : ∀ (H' : Heap), H'[a]? = some (cell.setSlot (D.2 ci k) v) → H'.size = H.size → (∀ q, q ≠ a → H'[q]? = H[q]?) → W p l e R s m args below meth c H' (locs ++ [⟨a, D.2 ci k⟩]) cells slots Q (F0 m (pc + 3) ls rest) := fun H' e1 e2 e3 =>
    kk H' _ (hI.set ha ⟨_, hc, t_OB.to (V := updV (vp_V fs) k v) ⟨_, e1, q2, q3, t_set q4 hap hk v⟩ (fun j _ => vp_updV_set hl v j)⟩ e2 e3)
  by_cases hf : (T k).2.2.2 = true
  · have hin3 : meth.name = "<init>" := by
      rcases hin2 with ⟨r, hr, hr2⟩ | h
      · cases hc.symm.trans hr
        rw [hf] at hr2; cases hr2
      · exact h
    have hdecl : (T k).1 = own := by
      rcases hff with h | h
      · exact absurd (h.symm.trans hf) (by decide)
      · exact h.2
    rw [if_pos hf] at hlay
    have hcf : m.cls = cf := by
      obtain ⟨_, _, c', _, _, _, -, -, hf', -, -, -, hown2, -⟩ := Cond.laysFinal_spec hlay
      have e1 : c' = cf := by have := hi.symm.trans hf'; simp at this; exact this.1.symm
      rw [hdecl] at hown2
      rw [← e1]; exact Option.some.inj (hown.symm.trans hown2)
    have h6 := u_fits hfc hkC hkind (Or.inr hlay) hi (hty k hk) hn hfit
    refine W.putFinK hx hb hown (hts _ hlk) (hsame _ hi) hst hcf hin3 (by rw [q2]; exact h6) q1 q3 (by rw [hsl]; exact k2_hasslot (q4 k hk)) rfl rfl hdg fun H' e1 e2 e3 => ?_
    rw [hsl] at e1 ⊢
    exact fin H' e1 e2 e3
  · rw [if_neg hf] at hlay
    have h6 := u_store hfc hkC hkind hlay hi (hty k hk) hn hfit
    refine W.putK hx hb (f := f) ⟨hown, hts _ hlk, ⟨_, _, _, hsame _ hi⟩, hst⟩ (by rw [q2]; exact h6) q1 q3 (by rw [hsl]; exact k2_hasslot (q4 k hk)) rfl rfl hdg fun H' e1 e2 e3 => ?_
    rw [hsl] at e1 ⊢
    exact fin H' e1 e2 e3
theorem mw_new (K : mw_K p s m args c cc nL own D cl tys Ts ty) (hI : mw_I D cl w0 H0 w H locs) {C : String} {T : u_T} {N : Nat} (hc : cl[ci]? = some (C, T, N)) (hcl : Cond.classLink own idx C ∈ Ts) (hinst : Cond.instantiable C N ∈ Ts) (hini : Cond.initialized C ∈ Ts)
    {fs : List Value} (hfs : ∀ j, j < N → defaultValue (ty ci j) = vp_V fs j) (hcells : cells + 1 ≤ R.cells) (hslots : slots + N ≤ R.slots) (hdg : decode cc pc = .ok (.new idx, 3))
    (kk : ∀ (q : Nat) (H1 : Heap), w q = none → mw_I D cl w0 H0 (mw_up w q (.inr (ci, fs))) H1 locs → W p l e R s m args below meth c H1 locs (cells + 1) (slots + N) Q (F0 m (pc + 3) ls (.ref q :: rest))) : W p l e R s m args below meth c H locs cells slots Q (F0 m pc ls rest) := by
  obtain ⟨hx, hb, -, hown, hts, hK, hTb⟩ := K
  obtain ⟨hin, hty, -⟩ := hTb ci _ hc
  have hKn := hK.1 ci _ hc
  refine W.newcK hx hb hown (hts _ hcl) (hts _ hinst) (hts _ hini) rfl hdg hcells hslots hKn.2.1 rfl fun H1 kC hkC e1 z1 o1 => ?_
  exact kk H.size H1 (hI.fresh (Nat.le_refl _)) (hI.new ⟨_, hc, (u_born (ty ci) hts hin hKn hkC e1 hty).to hfs⟩ z1 o1)
theorem mw_alen (K : mw_K p s m args c cc nL own D cl tys Ts ty) (hI : mw_I D cl w0 H0 w H locs) (t0 : Nat) {cA : ClassId} {x : vp_A} {t : FieldType} (ha : w a = some (.inl (cA, x))) (ht : tys[t0]? = some (cA, t)) (hdg : decode cc pc = .ok (.arraylength, 1))
    (kk : W p l e R s m args below meth c H locs cells slots Q (F0 m (pc + 1) ls (.int (nI x.1) :: rest))) : W p l e R s m args below meth c H locs cells slots Q (F0 m pc ls (.ref a :: rest)) := by
  obtain ⟨hx, hb, -, hown, hts, hK, hTb⟩ := K
  exact va_alen hx hb hK (hI.1.one ha) 0 t0 rfl ht rfl hdg kk
theorem mw_lald (K : mw_K p s m args c cc nL own D cl tys Ts ty) (hI : mw_I D cl w0 H0 w H locs) (t0 : Nat) {cA : ClassId} {n : Nat} {f : Nat → Int64} (ha : w a = some (.inl (cA, n, .inr (.inl f)))) (ht : tys[t0]? = some (cA, .long)) {i : Int32} (j : Nat) (hi : i = nI j) (hj : j < n) (hn : n < 2 ^ 31) (hdg : decode cc pc = .ok (.laload, 1))
    (kk : W p l e R s m args below meth c H locs cells slots Q (F0 m (pc + 1) ls (.long (f j) :: rest))) : W p l e R s m args below meth c H locs cells slots Q (F0 m pc ls (.int i :: .ref a :: rest)) := by
  obtain ⟨hx, hb, -, hown, hts, hK, hTb⟩ := K
  subst hi
  exact va_lald hx hb hK (hI.1.one ha) 0 t0 rfl ht (vp_in_nI hj hn) hdg (by rw [nI_clamp (by omega)]; exact kk)
theorem mw_iald (K : mw_K p s m args c cc nL own D cl tys Ts ty) (hI : mw_I D cl w0 H0 w H locs) (t0 : Nat) {cA : ClassId} {n : Nat} {f : Nat → Int32} (ha : w a = some (.inl (cA, n, .inl f))) (ht : tys[t0]? = some (cA, .int)) {i : Int32} (j : Nat) (hi : i = nI j) (hj : j < n) (hn : n < 2 ^ 31) (hdg : decode cc pc = .ok (.iaload, 1))
    (kk : W p l e R s m args below meth c H locs cells slots Q (F0 m (pc + 1) ls (.int (f j) :: rest))) : W p l e R s m args below meth c H locs cells slots Q (F0 m pc ls (.int i :: .ref a :: rest)) := by
  obtain ⟨hx, hb, -, hown, hts, hK, hTb⟩ := K
  subst hi
  exact va_iald hx hb hK (hI.1.one ha) 0 t0 rfl ht (vp_in_nI hj hn) hdg (by rw [nI_clamp (by omega)]; exact kk)
theorem mw_bald (K : mw_K p s m args c cc nL own D cl tys Ts ty) (hI : mw_I D cl w0 H0 w H locs) (t0 : Nat) {cA : ClassId} {n : Nat} {f : Nat → Int32} (ha : w a = some (.inl (cA, n, .inl f))) (ht : tys[t0]? = some (cA, .byte)) {i : Int32} (j : Nat) (hi : i = nI j) (hj : j < n) (hn : n < 2 ^ 31) (hdg : decode cc pc = .ok (.baload, 1))
    (kk : W p l e R s m args below meth c H locs cells slots Q (F0 m (pc + 1) ls (.int (f j) :: rest))) : W p l e R s m args below meth c H locs cells slots Q (F0 m pc ls (.int i :: .ref a :: rest)) := by
  obtain ⟨hx, hb, -, hown, hts, hK, hTb⟩ := K
  subst hi
  exact va_bald hx hb hK (hI.1.one ha) 0 t0 rfl ht (vp_in_nI hj hn) hdg (by rw [nI_clamp (by omega)]; exact kk)
theorem mw_zald (K : mw_K p s m args c cc nL own D cl tys Ts ty) (hI : mw_I D cl w0 H0 w H locs) (t0 : Nat) {cA : ClassId} {n : Nat} {f : Nat → Int32} (ha : w a = some (.inl (cA, n, .inl f))) (ht : tys[t0]? = some (cA, .boolean)) {i : Int32} (j : Nat) (hi : i = nI j) (hj : j < n) (hn : n < 2 ^ 31) (hdg : decode cc pc = .ok (.baload, 1))
    (kk : W p l e R s m args below meth c H locs cells slots Q (F0 m (pc + 1) ls (.int (f j) :: rest))) : W p l e R s m args below meth c H locs cells slots Q (F0 m pc ls (.int i :: .ref a :: rest)) := by
  obtain ⟨hx, hb, -, hown, hts, hK, hTb⟩ := K
  subst hi
  exact va_zald hx hb hK (hI.1.one ha) 0 t0 rfl ht (vp_in_nI hj hn) hdg (by rw [nI_clamp (by omega)]; exact kk)
theorem mw_aald (K : mw_K p s m args c cc nL own D cl tys Ts ty) (hI : mw_I D cl w0 H0 w H locs) (t0 : Nat) {cA : ClassId} {C : String} {n : Nat} {f : Nat → Option Nat} (ha : w a = some (.inl (cA, n, .inr (.inr (.inr (.inr f)))))) (ht : tys[t0]? = some (cA, .object C)) {i : Int32} (j : Nat) (hi : i = nI j) (hj : j < n) (hn : n < 2 ^ 31) (hdg : decode cc pc = .ok (.aaload, 1))
    (kk : W p l e R s m args below meth c H locs cells slots Q (F0 m (pc + 1) ls (va_rf (f j) :: rest))) : W p l e R s m args below meth c H locs cells slots Q (F0 m pc ls (.int i :: .ref a :: rest)) := by
  obtain ⟨hx, hb, -, hown, hts, hK, hTb⟩ := K
  subst hi
  exact va_aldq hx hb hK (hI.1.one ha) 0 t0 rfl ht (vp_in_nI hj hn) hdg (by rw [nI_clamp (by omega)]; exact kk)
theorem mw_last (K : mw_K p s m args c cc nL own D cl tys Ts ty) (hI : mw_I D cl w0 H0 w H locs) (t0 : Nat) {cA : ClassId} {n : Nat} {f : Nat → Int64} (ha : w a = some (.inl (cA, n, .inr (.inl f)))) (ht : tys[t0]? = some (cA, .long)) {i : Int32} (j : Nat) {x : Int64} (hi : i = nI j) (hj : j < n) (hn : n < 2 ^ 31) (hdg : decode cc pc = .ok (.lastore, 1))
    (kk : ∀ (H1 : Heap) (locs1 : List Loc), mw_I D cl w0 H0 (mw_up w a (.inl (cA, n, .inr (.inl (vp_updL f j x))))) H1 locs1 → W p l e R s m args below meth c H1 locs1 cells slots Q (F0 m (pc + 1) ls rest)) : W p l e R s m args below meth c H locs cells slots Q (F0 m pc ls (.long x :: .int i :: .ref a :: rest)) := by
  obtain ⟨hx, hb, -, hown, hts, hK, hTb⟩ := K
  subst hi
  have hin := vp_in_nI hj hn
  refine W.last hx hb (hI.1 a _ ha) ((hK.2 t0 _ ht).1 n (fun j => .long (f j))) (fun q => by cases q) (by show ¬ (nI j < 0 ∨ (arrV _ _ _).slots.size ≤ _); rw [arrV_size]; exact hin) rfl rfl hdg fun H1 e z oq => ?_
  refine kk H1 _ (hI.set ha ?_ z oq)
  show H1[a]? = some (vp_cell _ _)
  rw [e]
  rw [vp_cell_l, vp_cell_l, arrV_store, nI_clamp (by omega)]
  congr 2
  funext q
  by_cases hq : q = j
  · subst hq
    simp [updV, vp_updL]
  · simp [updV, vp_updL, hq]
theorem mw_iast (K : mw_K p s m args c cc nL own D cl tys Ts ty) (hI : mw_I D cl w0 H0 w H locs) (t0 : Nat) {cA : ClassId} {n : Nat} {f : Nat → Int32} (ha : w a = some (.inl (cA, n, .inl f))) (ht : tys[t0]? = some (cA, .int)) {i : Int32} (j : Nat) {x : Int32} (hi : i = nI j) (hj : j < n) (hn : n < 2 ^ 31) (hdg : decode cc pc = .ok (.iastore, 1))
    (kk : ∀ (H1 : Heap) (locs1 : List Loc), mw_I D cl w0 H0 (mw_up w a (.inl (cA, n, .inl (upd f j x)))) H1 locs1 → W p l e R s m args below meth c H1 locs1 cells slots Q (F0 m (pc + 1) ls rest)) : W p l e R s m args below meth c H locs cells slots Q (F0 m pc ls (.int x :: .int i :: .ref a :: rest)) := by
  obtain ⟨hx, hb, -, hown, hts, hK, hTb⟩ := K
  subst hi
  have hin := vp_in_nI hj hn
  refine W.iast hx hb (hI.1 a _ ha) ((hK.2 t0 _ ht).1 n (fun j => .int (f j))) (fun q => by cases q) (by show ¬ (nI j < 0 ∨ (arrV _ _ _).slots.size ≤ _); rw [arrV_size]; exact hin) rfl rfl hdg fun H1 e z oq => ?_
  refine kk H1 _ (hI.set ha ?_ z oq)
  show H1[a]? = some (vp_cell _ _)
  rw [e]
  rw [vp_cell_i, vp_cell_i, arrV_store, nI_clamp (by omega)]
  congr 2
  funext q
  by_cases hq : q = j
  · subst hq
    simp [updV, upd]
  · simp [updV, upd, hq]
theorem mw_bast (K : mw_K p s m args c cc nL own D cl tys Ts ty) (hI : mw_I D cl w0 H0 w H locs) (t0 : Nat) {cA : ClassId} {n : Nat} {f : Nat → Int32} (ha : w a = some (.inl (cA, n, .inl f))) (ht : tys[t0]? = some (cA, .byte)) {i : Int32} (j : Nat) {x : Int32} (hi : i = nI j) (hj : j < n) (hn : n < 2 ^ 31) (hdg : decode cc pc = .ok (.bastore, 1))
    (kk : ∀ (H1 : Heap) (locs1 : List Loc), mw_I D cl w0 H0 (mw_up w a (.inl (cA, n, .inl (upd f j (vp_nar .byte x))))) H1 locs1 → W p l e R s m args below meth c H1 locs1 cells slots Q (F0 m (pc + 1) ls rest)) : W p l e R s m args below meth c H locs cells slots Q (F0 m pc ls (.int x :: .int i :: .ref a :: rest)) := by
  obtain ⟨hx, hb, -, hown, hts, hK, hTb⟩ := K
  subst hi
  have hin := vp_in_nI hj hn
  refine W.bast hx hb (hI.1 a _ ha) ((hK.2 t0 _ ht).1 n (fun j => .int (f j))) (fun q => by cases q) (by show ¬ (nI j < 0 ∨ (arrV _ _ _).slots.size ≤ _); rw [arrV_size]; exact hin) rfl rfl hdg fun H1 e z oq => ?_
  refine kk H1 _ (hI.set ha ?_ z oq)
  show H1[a]? = some (vp_cell _ _)
  rw [e]
  rw [vp_cell_i, vp_cell_i, arrV_store, nI_clamp (by omega)]
  congr 2
  funext q
  by_cases hq : q = j
  · subst hq
    simp [updV, upd, vp_nar]
    try rfl
  · simp [updV, upd, hq]
theorem mw_zast (K : mw_K p s m args c cc nL own D cl tys Ts ty) (hI : mw_I D cl w0 H0 w H locs) (t0 : Nat) {cA : ClassId} {n : Nat} {f : Nat → Int32} (ha : w a = some (.inl (cA, n, .inl f))) (ht : tys[t0]? = some (cA, .boolean)) {i : Int32} (j : Nat) {x : Int32} (hi : i = nI j) (hj : j < n) (hn : n < 2 ^ 31) (hdg : decode cc pc = .ok (.bastore, 1))
    (kk : ∀ (H1 : Heap) (locs1 : List Loc), mw_I D cl w0 H0 (mw_up w a (.inl (cA, n, .inl (upd f j (vp_nar .boolean x))))) H1 locs1 → W p l e R s m args below meth c H1 locs1 cells slots Q (F0 m (pc + 1) ls rest)) : W p l e R s m args below meth c H locs cells slots Q (F0 m pc ls (.int x :: .int i :: .ref a :: rest)) := by
  obtain ⟨hx, hb, -, hown, hts, hK, hTb⟩ := K
  subst hi
  have hin := vp_in_nI hj hn
  refine W.zast hx hb (hI.1 a _ ha) ((hK.2 t0 _ ht).1 n (fun j => .int (f j))) (fun q => by cases q) (by show ¬ (nI j < 0 ∨ (arrV _ _ _).slots.size ≤ _); rw [arrV_size]; exact hin) rfl rfl hdg fun H1 e z oq => ?_
  refine kk H1 _ (hI.set ha ?_ z oq)
  show H1[a]? = some (vp_cell _ _)
  rw [e]
  rw [vp_cell_i, vp_cell_i, arrV_store, nI_clamp (by omega)]
  congr 2
  funext q
  by_cases hq : q = j
  · subst hq
    simp [updV, upd, vp_nar]
    try rfl
  · simp [updV, upd, hq]
/-- a reference into an array of references: E is the array's component, C the stored object's class -/
theorem mw_aast (K : mw_K p s m args c cc nL own D cl tys Ts ty) (hI : mw_I D cl w0 H0 w H locs) (t0 : Nat) {cA : ClassId} {E : String} {n v : Nat} {vs : List Value} {f : Nat → Option Nat} (ha : w a = some (.inl (cA, n, .inr (.inr (.inr (.inr f)))))) (ht : tys[t0]? = some (cA, .object E)) {r : vw_C} (hv : w v = some (.inr (ci, vs))) (hc : cl[ci]? = some r) (hasg : ∀ comp : ClassId, s.vm.findClass E = some comp → s.vm.assignable (D.1 ci) comp = true)
    {i : Int32} (j : Nat) (hi : i = nI j) (hj : j < n) (hn : n < 2 ^ 31) (hdg : decode cc pc = .ok (.aastore, 1))
    (kk : ∀ (H1 : Heap) (locs1 : List Loc), mw_I D cl w0 H0 (mw_up w a (.inl (cA, n, .inr (.inr (.inr (.inr (va_up f j (some v)))))))) H1 locs1 → W p l e R s m args below meth c H1 locs1 cells slots Q (F0 m (pc + 1) ls rest)) : W p l e R s m args below meth c H locs cells slots Q (F0 m pc ls (.ref v :: .int i :: .ref a :: rest)) := by
  obtain ⟨hx, hb, -, hown, hts, hK, hTb⟩ := K
  subst hi
  obtain ⟨r', hr', cellV, g1, g2, g3, -⟩ := hI.1 v _ hv
  have hcls := (hK.1 ci r hc).2
  obtain ⟨kA, comp, k1, k2, k3, -⟩ := (hK.2 t0 _ ht).2
  obtain ⟨kC, hkC, -⟩ := hcls.2
  obtain ⟨kE, hkE, -⟩ := Vm.findClass_spec k3
  have h0 : ¬ nI j < 0 := nI_pos (by omega)
  refine W.aast hx hb (hI.1 a _ ha) (fun q h => by cases h) (fun h => by cases h) k1 k2 rfl hkE ⟨h0, by show _ < (arrV _ _ _).slots.size; rw [arrV_size, nI_clamp (by omega)]; exact hj⟩ g1 (fun q h => by rw [g3] at h; cases h) (by rw [g2]; exact hkC) (by rw [g2]; exact hasg comp k3) rfl rfl hdg fun H1 e z oq => ?_
  refine kk H1 _ (hI.set ha ?_ z oq)
  show H1[a]? = some (vp_cell _ _)
  rw [e]
  rw [vp_cell_q, vp_cell_q, arrV_store, nI_clamp (by omega)]
  congr 2
  funext q
  by_cases hq : q = j
  · subst hq
    simp [updV, va_up, va_rf]
  · simp [updV, va_up, hq]
theorem mw_aastN (K : mw_K p s m args c cc nL own D cl tys Ts ty) (hI : mw_I D cl w0 H0 w H locs) (t0 : Nat) {cA : ClassId} {E : String} {n : Nat} {f : Nat → Option Nat} (ha : w a = some (.inl (cA, n, .inr (.inr (.inr (.inr f)))))) (ht : tys[t0]? = some (cA, .object E))
    {i : Int32} (j : Nat) (hi : i = nI j) (hj : j < n) (hn : n < 2 ^ 31) (hdg : decode cc pc = .ok (.aastore, 1))
    (kk : ∀ (H1 : Heap) (locs1 : List Loc), mw_I D cl w0 H0 (mw_up w a (.inl (cA, n, .inr (.inr (.inr (.inr (va_up f j none))))))) H1 locs1 → W p l e R s m args below meth c H1 locs1 cells slots Q (F0 m (pc + 1) ls rest)) : W p l e R s m args below meth c H locs cells slots Q (F0 m pc ls (.null :: .int i :: .ref a :: rest)) := by
  obtain ⟨hx, hb, -, hown, hts, hK, hTb⟩ := K
  subst hi
  have hin := vp_in_nI hj hn
  refine va_WaastN hx hb (hI.1 a _ ha) ((hK.2 t0 _ ht).1 n (fun j => va_rf (f j))) (fun q => by cases q) (by show ¬ (nI j < 0 ∨ (arrV _ _ _).slots.size ≤ _); rw [arrV_size]; exact hin) rfl rfl hdg fun H1 e z oq => ?_
  refine kk H1 _ (hI.set ha ?_ z oq)
  show H1[a]? = some (vp_cell _ _)
  rw [e]
  rw [vp_cell_q, vp_cell_q, arrV_store, nI_clamp (by omega)]
  congr 2
  funext q
  by_cases hq : q = j
  · subst hq
    simp [updV, va_up, va_rf]
  · simp [updV, va_up, hq]
/-- a new array of a simple type -/
theorem mw_newa (K : mw_K p s m args c cc nL own D cl tys Ts ty) (hI : mw_I D cl w0 H0 w H locs) (t0 : Nat) {atype : ArrayType} {t : FieldType} (hty : newarray.typeOf atype = t) (harr : Cond.arrayClass t ∈ Ts) {cA : ClassId} (ht : tys[t0]? = some (cA, t)) (hno : ∀ C, t ≠ .object C)
    {n : Int32} {N' : Nat} {a0 : vp_A} (ha : ∀ cA : ClassId, vp_cell cA a0 = arrV cA N' (fun _ => defaultValue t)) (hn : ¬ n < 0) (hN : n.toNatClampNeg = N') (hbytes : N' * componentBytes t ≤ 536870912) (hcells : cells + 1 ≤ R.cells) (hslots : slots + N' ≤ R.slots) (hdg : decode cc pc = .ok (.newarray atype, 2))
    (kk : ∀ (q : Nat) (H1 : Heap), w q = none → mw_I D cl w0 H0 (mw_up w q (.inl (cA, a0))) H1 locs → W p l e R s m args below meth c H1 locs (cells + 1) (slots + N') Q (F0 m (pc + 2) ls (.ref q :: rest))) : W p l e R s m args below meth c H locs cells slots Q (F0 m pc ls (.int n :: rest)) := by
  obtain ⟨hx, hb, -, hown, hts, hK, hTb⟩ := K
  subst hty
  refine va_newaK hx hb (hts _ harr) rfl hdg rfl hn hN hbytes hcells hslots rfl fun H1 cA' e1 z1 o1 hAr hNm => ?_
  have hcA : cA' = cA := by
    have h2 := (hK.2 t0 _ ht).2
    have h3 : s.vm.findClass ("[" ++ (newarray.typeOf atype).toString) = some cA := by cases atype <;> exact h2
    exact Option.some.inj (hNm.symm.trans h3)
  subst hcA
  refine kk H.size H1 (hI.fresh (Nat.le_refl _)) (hI.new ?_ z1 o1)
  show H1[H.size]? = some (vp_cell _ _)
  rw [ha]
  exact e1
/-- a new array of references to objects of C -/
theorem mw_newq (K : mw_K p s m args c cc nL own D cl tys Ts ty) (hI : mw_I D cl w0 H0 w H locs) (t0 : Nat) {C : String} (hclink : Cond.classLink own idx C ∈ Ts) (hover : Cond.arrayOver (.object C) ∈ Ts) {cA : ClassId} (ht : tys[t0]? = some (cA, .object C))
    {n : Int32} {N' : Nat} (hn : ¬ n < 0) (hN : n.toNatClampNeg = N') (hbytes : N' * 4 ≤ 536870912) (hcells : cells + 1 ≤ R.cells) (hslots : slots + N' ≤ R.slots) (hdg : decode cc pc = .ok (.anewarray idx, 3))
    (kk : ∀ (q : Nat) (H1 : Heap), w q = none → mw_I D cl w0 H0 (mw_up w q (.inl (cA, N', .inr (.inr (.inr (.inr (fun _ => none))))))) H1 locs → W p l e R s m args below meth c H1 locs (cells + 1) (slots + N') Q (F0 m (pc + 3) ls (.ref q :: rest))) : W p l e R s m args below meth c H locs cells slots Q (F0 m pc ls (.int n :: rest)) := by
  obtain ⟨hx, hb, -, hown, hts, hK, hTb⟩ := K
  subst hN
  refine W.anew hx hb hown (hts _ hclink) (hts _ hover) rfl hdg rfl hn hbytes hcells hslots fun cA' kA comp f1 f2 f3 f4 => ?_
  have hcA : cA' = cA := by
    obtain ⟨kA', comp', g1, g2, g3, g4⟩ := (hK.2 t0 _ ht).2
    exact Option.some.inj (f1.symm.trans g4)
  subst hcA
  generalize hH1 : H.push ({ cls := cA', slots := Array.replicate n.toNatClampNeg .null, vm := .none } : Cell) = H1
  have z1 : H1.size = H.size + 1 := by rw [← hH1, Array.size_push]
  have e1 : H1[H.size]? = some (arrV cA' n.toNatClampNeg (fun _ => .null)) := by rw [← hH1, Array.getElem?_push_size, ← arrV_new]
  have o1 : ∀ q : Nat, q < H.size → H1[q]? = H[q]? := fun q hq => by rw [← hH1, Array.getElem?_push, if_neg (Nat.ne_of_lt hq)]
  refine kk H.size H1 (hI.fresh (Nat.le_refl _)) (hI.new ?_ z1 o1)
  show H1[H.size]? = some (vp_cell _ _)
  rw [vp_cell_q]
  exact e1
/-- the top gets another name -/
theorem mw_ti {x y : Int32} (h : x = y) (kk : W p l e R s m args below meth c H locs cells slots Q (F0 m pc ls (.int y :: rest))) : W p l e R s m args below meth c H locs cells slots Q (F0 m pc ls (.int x :: rest)) := by subst h; exact kk
theorem mw_tl {x y : Int64} (h : x = y) (kk : W p l e R s m args below meth c H locs cells slots Q (F0 m pc ls (.long y :: rest))) : W p l e R s m args below meth c H locs cells slots Q (F0 m pc ls (.long x :: rest)) := by subst h; exact kk
theorem mw_tv {x y : Value} (h : x = y) (kk : W p l e R s m args below meth c H locs cells slots Q (F0 m pc ls (y :: rest))) : W p l e R s m args below meth c H locs cells slots Q (F0 m pc ls (x :: rest)) := by subst h; exact kk
end MWR
/-! ### what of the start's statics and strings stays, whatever the classes do -/
def mw_Z (C n d : String) (U : State) (H : Heap) : Prop := ∃ (v : Value) (c : ClassId) (k : Class) (i : Nat) (f : Field) (a : Nat) (cell : Cell), v.isRef = true ∧ U.vm.findClass C = some c ∧ U.fieldFound? C n d = some (c, k, i, f) ∧ f.isStatic = true ∧ k.statics = some a ∧ H[a]? = some cell ∧ cell.vm.isStatics = true ∧ cell.cls = c ∧ f.slot < cell.slots.size ∧ k.staticTypes[f.slot]? = some f.type ∧ cell.slots[f.slot]? = some v
theorem mw_P.noStat {D : va_G} {cl : List vw_C} {w : mw_W} {H : Heap} (h : mw_P D cl w H) {a : Nat} {cell : Cell} (hc : H[a]? = some cell) (hs : cell.vm.isStatics = true) : w a = none := by
  cases hw : w a with
  | none => rfl
  | some x =>
    exfalso
    have h1 := h a x hw
    cases x with
    | inl r =>
      have h2 : H[a]? = some (vp_cell r.1 r.2) := h1
      have h3 : cell = vp_cell r.1 r.2 := Option.some.inj (hc.symm.trans h2)
      have h4 : (vp_cell r.1 r.2).vm.isStatics = true := by rw [← h3]; exact hs
      obtain ⟨cA, n, f | f | f | f | f⟩ := r <;> cases h4
    | inr o =>
      obtain ⟨r, -, cell', q1, -, q3, -⟩ := h1
      cases hc.symm.trans q1
      rw [q3] at hs
      cases hs
theorem mw_Z.kept {C n d : String} {U U1 : State} {H0 H : Heap} {D : va_G} {cl : List vw_C} {w0 : mw_W} {locs : List Loc} (h : mw_Z C n d U H0) (hvm : U.vm.Alike U1.vm) (hP : mw_P D cl w0 H0) (hS : va_S (mw_A w0 H0.size) H0 H locs) : mw_Z C n d U1 H := by
  obtain ⟨v, c, k, i, f, a, cell, hv, h0, h1, h2, h4, h5, h6, h7, h8, h9, h10⟩ := h
  have hlt := (Array.getElem?_eq_some_iff.mp h5).1
  have hn : ¬ mw_A w0 H0.size a := by
    rintro (⟨x, hx⟩ | hx)
    · rw [hP.noStat h5 h6] at hx; cases hx
    · omega
  obtain ⟨k', hi', he⟩ := State.fieldFound?_setVm hvm h1
  exact ⟨v, c, k', i, f, a, cell, hv, by rw [hvm.findClass]; exact h0, hi', h2, by rw [he]; exact h4, by rw [hS.2.1 a hlt hn]; exact h5, h6, h7, h8, by rw [he]; exact h9, h10⟩
def mw_No (U : State) : Prop := va_Nc "java/lang/IllegalStateException" "java/lang/IllegalArgumentException" U ∧ va_Nc "java/lang/IllegalArgumentException" "java/lang/IndexOutOfBoundsException" U
def mw_Sy (strs : List (String × Nat × String)) (U : State) (H : Heap) : Prop := mw_Z Bundle.tN "UNASSIGNED_STACK" Bundle.steD U H ∧ mw_Z Bundle.tN "SUPPRESSED_SENTINEL" Bundle.listD U H ∧ (∀ q ∈ strs, ∃ a, vk_R q.1 q.2.1 q.2.2 a U) ∧ mw_No U
theorem mw_Sy.kept {strs : List (String × Nat × String)} {U U1 : State} {H0 H : Heap} {D : va_G} {cl : List vw_C} {w0 : mw_W} {locs : List Loc} (h : mw_Sy strs U H0) (hvm : U.WarmedH U1.vm) (hP : mw_P D cl w0 H0) (hS : va_S (mw_A w0 H0.size) H0 H locs) : mw_Sy strs U1 H :=
  ⟨h.1.kept hvm.alike hP hS, h.2.1.kept hvm.alike hP hS, fun q hq => by
    obtain ⟨a, ha⟩ := h.2.2.1 q hq
    exact ⟨a, ha.warm hvm⟩, h.2.2.2.1.moved hvm.alike, h.2.2.2.2.moved hvm.alike⟩
theorem mw_cov {a b pc : Nat} (h : a ≤ pc ∧ pc < b) : (decide (a ≤ pc) && decide (pc < b)) = true := by simp [h.1, h.2]
/-! ### contracts over a memory -/
abbrev mw_R : Type := Option Value ⊕ Nat
def mw_En : Nat → String
  | 0 => "java/lang/IllegalArgumentException"
  | 1 => "java/lang/IllegalStateException"
  | _ => "java/lang/IndexOutOfBoundsException"
def mw_X (k : Nat) (x : Addr) (U : State) (H : Heap) : Prop := ∃ cell : Cell, H[x]? = some cell ∧ cell.vm.isStatics = false ∧ U.vm.findClass (mw_En k) = some cell.cls
def mw_O (o : Outcome) (r : mw_R) (t : State) : Prop := match r with
  | .inl v => o = .returned v
  | .inr k => ∃ x, o = .threw x ∧ mw_X k x t t.heap
def mw_Qc (D : va_G) (cl : List vw_C) (w : mw_W) (sz : Nat) (post : mw_R → mw_W → Prop) : Array Value → State → Outcome → State → Prop := fun _ st o t => ∃ (r : mw_R) (w' : mw_W), mw_O o r t ∧ post r w' ∧ mw_P D cl w' t.heap ∧ (∀ (q : Nat) (x : va_E), w' q = some x → mw_A w sz q) ∧ va_F (mw_A w sz) st t
def mw_Pc (D : va_G) (cl : List vw_C) (tys : List (ClassId × FieldType)) (strs : List (String × Nat × String)) (w : mw_W) (sz : Nat) (as : List Value) : Array Value → State → Prop := fun a U => a = as.toArray ∧ U.heap.size = sz ∧ mw_P D cl w U.heap ∧ va_K D cl tys U ∧ mw_Sy strs U U.heap
def mw_Ct (l : Launch) (D : va_G) (cl : List vw_C) (tys : List (ClassId × FieldType)) (strs : List (String × Nat × String)) (y : MethodName) (ws : List Cond) (fr lo mc ms : Nat) (as : List Value) (w : mw_W) (post : mw_R → mw_W → Prop) : Prop :=
  ∀ sz : Nat, mx_M l y ws { frames := fr, cells := mc, slots := ms, locals := lo } (mw_Pc D cl tys strs w sz as) (mw_Qc D cl w sz post) mc ms (mw_A w sz)
theorem mw_Ct.mono {l : Launch} {D : va_G} {cl : List vw_C} {tys : List (ClassId × FieldType)} {strs : List (String × Nat × String)} {y : MethodName} {ws : List Cond} {fr lo mc ms : Nat} {as : List Value} {w : mw_W} {post post' : mw_R → mw_W → Prop} (h : mw_Ct l D cl tys strs y ws fr lo mc ms as w post) (hp : ∀ r w', post r w' → post' r w') : mw_Ct l D cl tys strs y ws fr lo mc ms as w post' := by
  intro sz p e ha hc hk s m args below hf happ hP hK
  obtain ⟨n, o, h1, h2, h3, ⟨r, w', g1, g2, g3⟩, g4⟩ := h sz p e ha hc hk s m args below hf happ hP hK
  exact ⟨n, o, h1, h2, h3, ⟨r, w', g1, hp r w' g2, g3⟩, g4⟩
section MWC
variable {p : Program} {l : Launch} {e : Env} {R : Room} {s : State} {m : MethodId} {args : Array Value} {below : List Frame} {meth : Method} {c : Code} {H : Heap} {locs : List Loc} {cells slots : Nat} {Q : State → Prop}
variable {cc : ByteArray} {nL pc : Nat} {ls : Array Slot} {rest st0 : List Value} {own : String} {D : va_G} {cl : List vw_C} {tys : List (ClassId × FieldType)} {Ts : List Cond} {ty : Nat → Nat → FieldType} {w0 w : mw_W} {strs : List (String × Nat × String)}
/-- a method's body, from its entry -/
theorem mw_meth {y : MethodName} {ret : Option FieldType} {fr lo mc ms : Nat} {as : List Value} {post : mw_R → mw_W → Prop} (hy : plainName y.cls = true) (hTb : mw_Tb Ts cl ty) (has : (lg_sl as).length ≤ nL)
    (body : ∀ (p : Program) (e : Env) (s : State) (m : MethodId) (below : List Frame) (meth : Method) (c : Code), mw_K p s m as.toArray c cc nL y.cls D cl tys Ts ty → meth.sig.returnType = ret → meth.locks = false → c.exceptionTable.isEmpty = true → meth.name = y.name → mw_P D cl w s.heap → mw_Sy strs s s.heap → ∀ ls : Array Slot, lv_has ls nL (lv_args 0 as) →
      W p l e { frames := fr, cells := mc, slots := ms, locals := lo } s m as.toArray below meth c s.heap [] 0 0 (mx_Q below (mw_Qc D cl w s.heap.size post) as.toArray s mc ms (mw_A w s.heap.size)) (F0 m 0 ls [])) :
    mw_Ct l D cl tys strs y (Cond.code y cc nL ret :: Ts) fr lo mc ms as w post := by
  intro sz
  refine mx_ofW (cc := cc) (maxL := nL) (ret := ret) hy rfl ?_
  intro p e s m args below meth c s₁ B hml hce hv
  obtain ⟨rfl, hsz, hP, hK, hSy⟩ := hv
  have hts := atoms_spec (ws := Cond.code y cc nL ret :: Ts) B.pre
  have hown : s.vm.findClass y.cls = some m.cls := findClass_of_methodNamed B.named
  subst hsz
  have hl := lv_entry as (n := nL) has
  rw [lg_entry_eq]
  generalize (lg_sl as ++ List.replicate (nL - (lg_sl as).length) Slot.unset).toArray = ls at hl ⊢
  exact body p e s m below meth c ⟨B.exec, B.bytes, hml, hown, fun x hx => hts x (List.mem_cons_of_mem _ hx), hK, hTb⟩ B.returns B.notSynchronized hce (name_of_methodNamed B.named B.method).1 hP hSy ls hl
theorem mw_methH {y : MethodName} {ret : Option FieldType} {hs : List (Nat × Nat × Nat × Nat)} {fr lo mc ms : Nat} {as : List Value} {post : mw_R → mw_W → Prop} (hy : plainName y.cls = true) (hTb : mw_Tb Ts cl ty) (has : (lg_sl as).length ≤ nL)
    (body : ∀ (p : Program) (e : Env) (s : State) (m : MethodId) (below : List Frame) (meth : Method) (c : Code), mw_K p s m as.toArray c cc nL y.cls D cl tys Ts ty → meth.sig.returnType = ret → meth.locks = false → c.exceptionTable.toList.map (fun h => (h.startPc, h.endPc, h.handlerPc, h.catchType)) = hs → mw_P D cl w s.heap → mw_Sy strs s s.heap → ∀ ls : Array Slot, lv_has ls nL (lv_args 0 as) →
      W p l e { frames := fr, cells := mc, slots := ms, locals := lo } s m as.toArray below meth c s.heap [] 0 0 (mx_Q below (mw_Qc D cl w s.heap.size post) as.toArray s mc ms (mw_A w s.heap.size)) (F0 m 0 ls [])) :
    mw_Ct l D cl tys strs y (Cond.codeWith y cc nL ret hs :: Ts) fr lo mc ms as w post := by
  intro sz
  refine mx_ofWH (cc := cc) (maxL := nL) (ret := ret) hy rfl ?_
  intro p e s m args below meth c s₁ B hml hce hv
  obtain ⟨rfl, hsz, hP, hK, hSy⟩ := hv
  have hts := atoms_spec (ws := Cond.codeWith y cc nL ret hs :: Ts) B.pre
  have hown : s.vm.findClass y.cls = some m.cls := findClass_of_methodNamed B.named
  subst hsz
  have hl := lv_entry as (n := nL) has
  rw [lg_entry_eq]
  generalize (lg_sl as ++ List.replicate (nL - (lg_sl as).length) Slot.unset).toArray = ls at hl ⊢
  exact body p e s m below meth c ⟨B.exec, B.bytes, hml, hown, fun x hx => hts x (List.mem_cons_of_mem _ hx), hK, hTb⟩ B.returns B.notSynchronized hce hP hSy ls hl
/-- a call that comes back, or throws -/
theorem mw_call (K : mw_K p s m args c cc nL own D cl tys Ts ty) (hSy : mw_Sy strs s s.heap) (hP0 : mw_P D cl w0 s.heap) (hI : mw_I D cl w0 s.heap w H locs) {y : MethodName} {ws : List Cond} {fr lo mc ms : Nat} {as : List Value} {post : mw_R → mw_W → Prop} (hC : mw_Ct l D cl tys strs y ws fr lo mc ms as w post)
    (hV : mx_Inv p l e R s m args below meth c H (F0 m pc ls st0) y as.toArray rest) (hls : ls.size = nL) {ig : Instr} (hdg : decode cc pc = .ok (ig, 3)) {maxL : Nat} (hR : fr + 1 ≤ R.frames ∧ (rest.map fun v => v.category).sum + (maxL + 11) + lo ≤ R.locals) (hcd : mx_Cd y maxL ws)
    (hws : ∀ x ∈ ws, ∀ (a' : Array Value) (U : State), s.WarmedH U.vm → x.before a' U = true) (hini : ∀ (a' : Array Value) (U : State), s.WarmedH U.vm → (Cond.initialized y.cls).before a' U = true) (hf : cells + mc ≤ R.cells ∧ slots + ms ≤ R.slots)
    (kR : ∀ (v : Option Value) (w' : mw_W) (H1 : Heap) (locs1 : List Loc), post (.inl v) w' → mw_I D cl w0 s.heap w' H1 locs1 → W p l e R s m args below meth c H1 locs1 (cells + mc) (slots + ms) Q (F0 m (pc + 3) ls (v.toList ++ rest)))
    (kX : ∀ (k : Nat) (x : Addr) (w' : mw_W) (H1 : Heap) (locs1 : List Loc), post (.inr k) w' → mw_I D cl w0 s.heap w' H1 locs1 → mw_X k x s H1 → WT p l e R s m args below meth c H1 locs1 (cells + mc) (slots + ms) Q (F0 m pc ls rest) x) :
    W p l e R s m args below meth c H locs cells slots Q (F0 m pc ls st0) := by
  intro T hT X
  obtain ⟨hx, hb, hml, hown, hts, hK, hTb⟩ := K
  have hmon : (F0 m pc ls st0).monitorRoom = 0 := rfl
  obtain ⟨o, st, t, T', L, h0, hal, X', hL, e1, e2, ⟨r, w', hO, hpo, hP', hdom, hF⟩, hgo⟩ := mx_back (hC H.size) hV rfl (by show ls.size = _; rw [hls, hml]) (by rw [hb]; exact hdg) rfl rfl hR.1 (by rw [hmon]; have := hR.2; dsimp only; omega) hcd hws hini hf
    (fun U g mk hU hW => ⟨rfl, by show U.heap.size = _; rw [hU], by show mw_P D cl w U.heap; rw [hU]; exact hI.1, va_K.moved hW.alike hK, by show mw_Sy strs (U.calling g mk _) U.heap; rw [hU]; exact mw_Sy.kept (U1 := U.calling g mk as.toArray) hSy hW hP0 hI.2.1⟩) T hT X
  have hA0 : ∀ q, mw_A w H.size q → mw_A w0 s.heap.size q := fun q hq => by
    rcases hq with ⟨x, hx⟩ | hq
    · exact hI.2.2 q x hx
    · exact Or.inr (Nat.le_trans hI.2.1.1 hq)
  have hI' : mw_I D cl w0 s.heap w' T'.heap (locs ++ L) := by
    refine ⟨by rw [e1]; exact hP', ⟨?_, fun q h1 h2 => ?_, fun q hq => ?_⟩, fun q x hx => hA0 q (hdom q x hx)⟩
    · rw [e1]; have := hF.1; rw [h0] at this; exact Nat.le_trans hI.2.1.1 this
    · have h3 := hF.2 q (by rw [h0]; exact Nat.lt_of_lt_of_le h1 hI.2.1.1) (fun z => h2 (hA0 q z))
      rw [e1, h3, h0]
      exact hI.2.1.2.1 q h1 h2
    · rcases List.mem_append.mp hq with h | h
      · exact hI.2.1.2.2 q h
      · exact hA0 _ (hL q h)
  cases r with
  | inl v =>
    have hO' : o = .returned v := hO
    subst hO'
    rcases hgo with ⟨v', hv', hgo⟩ | ⟨x, hv', -⟩
    · cases hv'
      obtain ⟨t2, a1, b1⟩ := kR v w' T'.heap (locs ++ L) hpo hI' T' rfl X'
      exact ⟨t2, hgo t2 a1, b1⟩
    · cases hv'
  | inr k =>
    obtain ⟨x, hO', cell, hX1, hX2, hX3⟩ := hO
    subst hO'
    rcases hgo with ⟨v', hv', -⟩ | ⟨x', hv', hgo⟩
    · cases hv'
    · cases hv'
      have hal2 : s.vm.Alike t.vm := by rw [← e2]; exact X'.warmed.alike
      obtain ⟨t2, a1, b1⟩ := kX k x w' T'.heap (locs ++ L) hpo hI' ⟨cell, by rw [e1]; exact hX1, hX2, by rw [← hal2.findClass]; exact hX3⟩ T' rfl X'
      exact ⟨t2, hgo t2 a1, b1⟩
/-- nothing here catches it: the method throws it on -/
theorem mw_on {post : mw_R → mw_W → Prop} {k : Nat} {x : Addr} (hI : mw_I D cl w0 s.heap w H locs) (hce : c.exceptionTable.isEmpty = true) (hlocks : meth.locks = false) (hX : mw_X k x s H) (hp : post (.inr k) w) : WT p l e R s m args below meth c H locs cells slots (mx_Q below (mw_Qc D cl w0 s.heap.size post) args s cells slots (mw_A w0 s.heap.size)) (F0 m pc ls rest) x := by
  refine mx_out hce hlocks (fun t ht hW => ?_) hI.2.1.2.2 rfl rfl rfl
  obtain ⟨cell, h1, h2, h3⟩ := hX
  exact ⟨.inr k, w, ⟨x, rfl, cell, by rw [ht]; exact h1, h2, by rw [hW.alike.findClass]; exact h3⟩, hp, by rw [ht]; exact hI.1, hI.2.2, hI.2.1.F ht⟩
/-- the script, which lies outside the memory -/
theorem mw_sld (K : mw_K p s m args c cc nL own D cl tys Ts ty) (hI : mw_I D cl w0 s.heap w H locs) {b L : Nat} {xs : Nat → Int32} (hX : va_X b L xs s s.heap) (hbl : b < s.heap.size) (hbA : ¬ mw_A w0 s.heap.size b) (j : Nat) (hj : j < L) (hL : L < 2 ^ 31) (hdg : decode cc pc = .ok (.iaload, 1))
    (kk : W p l e R s m args below meth c H locs cells slots Q (F0 m (pc + 1) ls (.int (xs j) :: rest))) : W p l e R s m args below meth c H locs cells slots Q (F0 m pc ls (.int (nI j) :: .ref b :: rest)) :=
  va_sld K.1 K.2.1 hX hbl hbA hI.2.1 (vp_in_nI hj hL) hdg (by rw [nI_clamp (by omega)]; exact kk)
theorem mw_slen (K : mw_K p s m args c cc nL own D cl tys Ts ty) (hI : mw_I D cl w0 s.heap w H locs) {b L : Nat} {xs : Nat → Int32} (hX : va_X b L xs s s.heap) (hbl : b < s.heap.size) (hbA : ¬ mw_A w0 s.heap.size b) (hdg : decode cc pc = .ok (.arraylength, 1))
    (kk : W p l e R s m args below meth c H locs cells slots Q (F0 m (pc + 1) ls (.int (nI L) :: rest))) : W p l e R s m args below meth c H locs cells slots Q (F0 m pc ls (.ref b :: rest)) :=
  va_slen K.1 K.2.1 hX hbl hbA hI.2.1 hdg kk
/-- the row x of this method's table takes it; the rows ahead don't -/
theorem mw_catch (K : mw_K p s m args c cc nL own D cl tys Ts ty) {hs : List (Nat × Nat × Nat × Nat)} (hce : c.exceptionTable.toList.map (fun h => (h.startPc, h.endPc, h.handlerPc, h.catchType)) = hs) {k : Nat} {x : Addr} (hX : mw_X k x s H) (pre : List (Nat × Nat × Nat × Nat)) (r : Nat × Nat × Nat × Nat) (suf : List (Nat × Nat × Nat × Nat)) (hsp : hs = pre ++ r :: suf)
    (hpass : ∀ z ∈ pre, z.2.2.2 ≠ 0 ∧ ∃ nm : String, Cond.classLink own z.2.2.2 nm ∈ Ts ∧ va_Nc (mw_En k) nm s) (hcov : r.1 ≤ pc ∧ pc < r.2.1) (h0 : r.2.2.2 ≠ 0) {name : String} (hlink : Cond.classLink own r.2.2.2 name ∈ Ts) (hcast : (Cond.castable (mw_En k) name).before args s = true)
    (kk : W p l e R s m args below meth c H locs cells slots Q (F0 m r.2.2.1 ls [.ref x])) : WT p l e R s m args below meth c H locs cells slots Q (F0 m pc ls rest) x := by
  intro T hT X
  obtain ⟨hx, hb, hml, hown, hts, hK, hTb⟩ := K
  obtain ⟨ce, hcell, hv, hcl⟩ := hX
  have hpl : e.platform.magicAccessors = ({} : Platform).magicAccessors := by rw [X.admits.platform]
  obtain ⟨c3, c4, hc3, hc4, hasg⟩ := Cond.castable_spec hcast
  cases Option.some.inj (hc3.symm.trans hcl)
  obtain ⟨c5, hc5, hcl5⟩ := Cond.classLink_spec hown (hts _ hlink) e.platform hpl
  cases Option.some.inj (hc4.symm.trans hc5)
  rw [hsp, List.map_eq_append_iff] at hce
  obtain ⟨t1, t2, e1, e2, e3⟩ := hce
  rw [List.map_eq_cons_iff] at e3
  obtain ⟨y, t3, e4, e5, e6⟩ := e3
  subst e4
  subst e5
  obtain ⟨vm', X', st⟩ := X.thenCaughtThrough x (g := F0 m pc ls rest) rfl (Steps.refl _) (by rw [hT]; exact hcell) hv (by obtain ⟨k9, h9, -⟩ := Vm.findClass_spec hcl; exact ⟨k9, h9⟩) t1 y t3 e1
    (fun z hz => by
      obtain ⟨hz0, nm, hl1, a8, b8, h1, h2, h3⟩ := hpass (z.startPc, z.endPc, z.handlerPc, z.catchType) (by rw [← e2]; exact List.mem_map_of_mem hz)
      obtain ⟨c6, hc6, hcl6⟩ := Cond.classLink_spec hown (hts _ hl1) e.platform hpl
      cases Option.some.inj (h1.symm.trans hcl)
      cases Option.some.inj (h2.symm.trans hc6)
      exact Or.inr ⟨hz0, _, hcl6, h3⟩) (mw_cov hcov) (Or.inr ⟨h0, c4, hcl5, hasg⟩)
  obtain ⟨t, a1, b1⟩ := kk (T.setVm vm') hT X'
  exact ⟨t, st.trans a1, b1⟩
theorem mw_iret {post : mw_R → mw_W → Prop} (K : mw_K p s m args c cc nL own D cl tys Ts ty) (hI : mw_I D cl w0 s.heap w H locs) (hr : meth.sig.returnType = some .int) (hlocks : meth.locks = false) {v : Int32} (hp : post (.inl (some (.int v))) w) (hdg : decode cc pc = .ok (.ireturn, 1)) : W p l e R s m args below meth c H locs cells slots (mx_Q below (mw_Qc D cl w0 s.heap.size post) args s cells slots (mw_A w0 s.heap.size)) (F0 m pc ls [.int v]) :=
  W.mono mx_of_MQ (W.iret K.1 K.2.1 hr (fun t ht hW => ⟨.inl _, w, rfl, hp, by rw [ht]; exact hI.1, hI.2.2, hI.2.1.F ht⟩) hI.2.1.2.2 hdg hlocks)
theorem mw_zret {post : mw_R → mw_W → Prop} (K : mw_K p s m args c cc nL own D cl tys Ts ty) (hI : mw_I D cl w0 s.heap w H locs) (hr : meth.sig.returnType = some .boolean) (hlocks : meth.locks = false) {v : Int32} (hv : v = 0 ∨ v = 1) (hp : post (.inl (some (.int v))) w) (hdg : decode cc pc = .ok (.ireturn, 1)) : W p l e R s m args below meth c H locs cells slots (mx_Q below (mw_Qc D cl w0 s.heap.size post) args s cells slots (mw_A w0 s.heap.size)) (F0 m pc ls [.int v]) :=
  W.mono mx_of_MQ (W.zret K.1 K.2.1 hr (by rcases hv with rfl | rfl; exact narrow_b0; exact narrow_b1) (fun t ht hW => ⟨.inl _, w, rfl, hp, by rw [ht]; exact hI.1, hI.2.2, hI.2.1.F ht⟩) hI.2.1.2.2 hdg hlocks)
theorem mw_lret {post : mw_R → mw_W → Prop} (K : mw_K p s m args c cc nL own D cl tys Ts ty) (hI : mw_I D cl w0 s.heap w H locs) (hr : meth.sig.returnType = some .long) (hlocks : meth.locks = false) {v : Int64} (hp : post (.inl (some (.long v))) w) (hdg : decode cc pc = .ok (.lreturn, 1)) : W p l e R s m args below meth c H locs cells slots (mx_Q below (mw_Qc D cl w0 s.heap.size post) args s cells slots (mw_A w0 s.heap.size)) (F0 m pc ls [.long v]) :=
  W.mono mx_of_MQ (W.lret K.1 K.2.1 hr (fun t ht hW => ⟨.inl _, w, rfl, hp, by rw [ht]; exact hI.1, hI.2.2, hI.2.1.F ht⟩) hI.2.1.2.2 hdg hlocks)
theorem mw_vret {post : mw_R → mw_W → Prop} (K : mw_K p s m args c cc nL own D cl tys Ts ty) (hI : mw_I D cl w0 s.heap w H locs) (hr : meth.sig.returnType = none) (hlocks : meth.locks = false) (hp : post (.inl none) w) (hdg : decode cc pc = .ok (.return_, 1)) : W p l e R s m args below meth c H locs cells slots (mx_Q below (mw_Qc D cl w0 s.heap.size post) args s cells slots (mw_A w0 s.heap.size)) (F0 m pc ls []) :=
  W.mono mx_of_MQ (W.vret K.1 K.2.1 hr (fun t ht hW => ⟨.inl _, w, rfl, hp, by rw [ht]; exact hI.1, hI.2.2, hI.2.1.F ht⟩) hI.2.1.2.2 hdg hlocks)
theorem mw_aret {post : mw_R → mw_W → Prop} (K : mw_K p s m args c cc nL own D cl tys Ts ty) (hI : mw_I D cl w0 s.heap w H locs) {rt : FieldType} (hr : meth.sig.returnType = some rt) (hrt : (∃ n, rt = .object n) ∨ ∃ t, rt = .array t) (hlocks : meth.locks = false) {v : Value} (hv : v = .null ∨ ∃ a, v = .ref a) (hp : post (.inl (some v)) w) (hdg : decode cc pc = .ok (.areturn, 1)) : W p l e R s m args below meth c H locs cells slots (mx_Q below (mw_Qc D cl w0 s.heap.size post) args s cells slots (mw_A w0 s.heap.size)) (F0 m pc ls [v]) :=
  W.mono mx_of_MQ (W.aret K.1 K.2.1 hr hrt hv (fun t ht hW => ⟨.inl _, w, rfl, hp, by rw [ht]; exact hI.1, hI.2.2, hI.2.1.F ht⟩) hI.2.1.2.2 hdg hlocks)
end MWC
theorem mw_Z.cond {C n d : String} {s : State} (h : mw_Z C n d s s.heap) (args : Array Value) : (Cond.isRef (.static C n d)).before args s = true := by
  obtain ⟨v, c, k, i, f, a, cell, hv, h0, h1, h2, h4, h5, h6, h7, h8, h9, h10⟩ := h
  have he : (Term.static C n d).eval args s none [] s = some v := by simp [Term.eval, State.fieldNamed?, h1, h2, h4, h5, h6, h10]
  simp only [Cond.before, Cond.holds, Cond.value, he]
  cases v <;> simp_all [Value.isRef]
theorem mw_Z.lays {C n d : String} {s : State} (h : mw_Z C n d s s.heap) (args : Array Value) : (Cond.laysStatic C n d).before args s = true := by
  obtain ⟨v, c, k, i, f, a, cell, hv, h0, h1, h2, h4, h5, h6, h7, h8, h9, h10⟩ := h
  show (Cond.laysStatic C n d).holds args s none s [] = true
  exact Cond.laysStatic_of h0 h1 h2 h4 h5 h6 h7 h8 h9
theorem mw_Z.of {C n d : String} {s : State} {args : Array Value} (hl : (Cond.laysStatic C n d).before args s = true) (h : (Cond.isRef (.static C n d)).before args s = true) : mw_Z C n d s s.heap := by
  obtain ⟨c, k, i, f, a, cell, h1, h2, h3, h4, h5, h6, h7, h8, h9⟩ := Cond.laysStatic_spec hl
  have hv : ∃ v, cell.slots[f.slot]? = some v := ⟨_, Array.getElem?_eq_getElem h8⟩
  obtain ⟨v, hv⟩ := hv
  have he : (Term.static C n d).eval args s none [] s = some v := by simp [Term.eval, State.fieldNamed?, h2, h3, h4, h5, h6, hv]
  have hr : v.isRef = true := by
    simp only [Cond.before, Cond.holds, Cond.value, he] at h
    cases v <;> simp_all [Value.isRef]
  exact ⟨v, c, k, i, f, a, cell, hr, h1, h2, h3, h4, h5, h6, h7, h8, h9, hv⟩
def mw_L (l : Launch) : Prop := ∀ e, l.admits e → e.platform.stackTraces = false
section MWT
variable {p : Program} {l : Launch} {e : Env} {R : Room} {s : State} {m : MethodId} {args : Array Value} {below : List Frame} {meth : Method} {c : Code} {cells slots : Nat}
variable {cc : ByteArray} {nL pc : Nat} {ls : Array Slot} {rest : List Value} {own : String} {D : va_G} {cl : List vw_C} {tys : List (ClassId × FieldType)} {Ts : List Cond} {ty : Nat → Nat → FieldType} {w0 : mw_W} {strs : List (String × Nat × String)}
/-- 'throw new X("..")', where nothing has been written yet -/
theorem mw_throw {post : mw_R → mw_W → Prop} (K : mw_K p s m args c cc nL own D cl tys Ts ty) (htr : mw_L l) (hSy : mw_Sy strs s s.heap) (hP0 : mw_P D cl w0 s.heap) (hce : c.exceptionTable.isEmpty = true) (hlocks : meth.locks = false) (k : Nat) {X : String} (hk : mw_En k = X) {names : List String} {inew istr ic : Nat} {tx : String}
    (hcls : Bundle.fit X = true) (hnames : ∀ n ∈ names, Bundle.fit n = true) (hTs : ∀ a ∈ Bundle.ownAtoms own ic X names, a ∈ Ts ∨ a = .isRef (.static Bundle.tN "UNASSIGNED_STACK" Bundle.steD) ∨ a = .isRef (.static Bundle.tN "SUPPRESSED_SENTINEL" Bundle.listD) ∨ a = .laysStatic Bundle.tN "UNASSIGNED_STACK" Bundle.steD ∨ a = .laysStatic Bundle.tN "SUPPRESSED_SENTINEL" Bundle.listD)
    (hstr : (own, istr, tx) ∈ strs) (hcl : Cond.classLink own inew X ∈ Ts) (hini : Cond.initialized X ∈ Ts) (hinst : Cond.instantiable X 6 ∈ Ts) (hls : ls.size = nL)
    (d0 : decode cc pc = .ok (.new inew, 3)) (d3 : decode cc (pc + 3) = .ok (.dup, 1)) (d4 : decode cc (pc + 4) = .ok (.ldc istr, 2)) (d6 : decode cc (pc + 6) = .ok (.invokespecial ic, 3)) (d9 : decode cc (pc + 9) = .ok (.athrow, 1))
    (hcells : cells + 1 ≤ R.cells) (hslots : slots + 6 ≤ R.slots) (hRf : names.length + 3 < R.frames) (hRl : (rest.map fun v => v.category).sum + 1 + (13 * (names.length + 1) + 42) ≤ R.locals) (hp : post (.inr k) w0) :
    W p l e R s m args below meth c s.heap [] cells slots (mx_Q below (mw_Qc D cl w0 s.heap.size post) args s (cells + 1) (slots + 6) (mw_A w0 s.heap.size)) (F0 m pc ls rest) := by
  obtain ⟨hx, hb, hml, hown, hts, hK, hTb⟩ := K
  obtain ⟨cX, kX0, hfX, hkX0, -⟩ := Cond.instantiable_spec (hts _ hinst)
  refine W.newcK hx hb hown (hts _ hcl) (hts _ hinst) (hts _ hini) rfl d0 hcells hslots hfX rfl fun H1 kC hkC e1 z1 o1 => ?_
  show W p l e R s m args below meth c H1 [] (cells + 1) (slots + 6) _ (F0 m (pc + 3) ls (.ref s.heap.size :: rest))
  refine lv_dup hx hb d3 rfl ?_
  obtain ⟨q, hq⟩ := hSy.2.2.1 (own, istr, tx) hstr
  refine va_ldcS hx hb hown hq d4 ?_
  intro T hT X
  have hnil : c.exceptionTable.toList = [] := by simpa using hce
  obtain ⟨U, st, hrun, hended, hW, hsame, ce, hce1, hOwn⟩ := X.ctorThrowS hx (htr e X.admits) hown hcls hnames (fun a ha => by
      rcases hTs a ha with h | h | h | h | h
      · exact hts a h
      · rw [h]; exact hSy.1.cond args
      · rw [h]; exact hSy.2.1.cond args
      · rw [h]; exact hSy.1.lays args
      · rw [h]; exact hSy.2.1.lays args) (fun y hy => by cases hy) (a := s.heap.size) (cX := cX) (kX := kC) hfX hkC (by rw [hT]; exact e1) (Nat.le_refl _) (msg := .ref q) rfl
    (g := F0 m (pc + 4 + 2) ls (.ref q :: .ref s.heap.size :: .ref s.heap.size :: rest)) rfl (by show ls.size = _; rw [hls, hml]) rfl rfl (rest := rest) rfl (by rw [hb]; exact d6) (by rw [hb]; exact d9) (fun y hy => by rw [hnil] at hy; cases hy)
    hRf (by
      have hmon : (F0 m (pc + 4 + 2) ls (.ref q :: .ref s.heap.size :: .ref s.heap.size :: rest)).monitorRoom = 0 := rfl
      have hcat : (Value.ref s.heap.size).category = 1 := rfl
      rw [hmon, List.map_cons, List.sum_cons, hcat]; omega) hlocks
  have hkeep : ∀ y : Nat, y < s.heap.size → U.heap[y]? = s.heap[y]? := fun y hy => by
    obtain ⟨cy, hcy⟩ : ∃ cy, s.heap[y]? = some cy := ⟨s.heap[y], Array.getElem?_eq_getElem hy⟩
    have := State.sameButNew.old_cell hsame hcy
    rw [hcy]; exact this
  refine ⟨U, st, .threw s.heap.size, hrun, hended, ⟨.inr k, w0, ⟨s.heap.size, rfl, ce, hce1, by rw [hOwn.vm]; rfl, by rw [hk, hW.alike.findClass]; exact hOwn.cls⟩, hp, fun y x hy => (hP0 y x hy).kept (hkeep y (hP0 y x hy).lt), fun y x hy => Or.inl ⟨x, hy⟩, hsame.2.1, fun y hy _ => hkeep y hy⟩, [], ⟨hW, hsame⟩, fun y hy => by cases hy⟩
end MWT
/-! ### methods that touch no memory -/
def mp_Ct (l : Launch) (y : MethodName) (ws : List Cond) (fr lo : Nat) (as : List Value) (post : Option Value → Prop) : Prop :=
  mx_M l y ws { frames := fr, cells := 0, slots := 0, locals := lo } (fun a _ => a = as.toArray) (fun _ st o t => ∃ v, o = .returned v ∧ post v ∧ t.heap = st.heap) 0 0 (fun _ => False)
section MPC
variable {p : Program} {l : Launch} {e : Env} {R : Room} {s : State} {m : MethodId} {args : Array Value} {below : List Frame} {meth : Method} {c : Code} {H : Heap} {locs : List Loc} {cells slots : Nat} {Q : State → Prop}
variable {cc : ByteArray} {nL pc : Nat} {ls : Array Slot} {rest st0 : List Value} {Ts : List Cond}
theorem mp_meth {y : MethodName} {ret : Option FieldType} {fr lo : Nat} {as : List Value} {post : Option Value → Prop} (hy : plainName y.cls = true) (has : (lg_sl as).length ≤ nL)
    (body : ∀ (p : Program) (e : Env) (s : State) (m : MethodId) (below : List Frame) (meth : Method) (c : Code), p.tables.exec = Jvm.exec → c.code = cc → c.maxLocals = nL → s.vm.findClass y.cls = some m.cls → (∀ x ∈ Ts, x.before as.toArray s = true) → meth.sig.returnType = ret → meth.locks = false → ∀ ls : Array Slot, lv_has ls nL (lv_args 0 as) →
      W p l e { frames := fr, cells := 0, slots := 0, locals := lo } s m as.toArray below meth c s.heap [] 0 0 (mx_Q below (fun _ st o t => ∃ v, o = .returned v ∧ post v ∧ t.heap = st.heap) as.toArray s 0 0 (fun _ => False)) (F0 m 0 ls [])) :
    mp_Ct l y (Cond.code y cc nL ret :: Ts) fr lo as post := by
  refine mx_ofW (cc := cc) (maxL := nL) (ret := ret) hy rfl ?_
  intro p e s m args below meth c s₁ B hml hce hv
  subst hv
  have hts := atoms_spec (ws := Cond.code y cc nL ret :: Ts) B.pre
  have hown : s.vm.findClass y.cls = some m.cls := findClass_of_methodNamed B.named
  have hl := lv_entry as (n := nL) has
  rw [lg_entry_eq]
  generalize (lg_sl as ++ List.replicate (nL - (lg_sl as).length) Slot.unset).toArray = ls at hl ⊢
  exact body p e s m below meth c B.exec B.bytes hml hown (fun x hx => hts x (List.mem_cons_of_mem _ hx)) B.returns B.notSynchronized ls hl
theorem mp_call {y : MethodName} {ws : List Cond} {fr lo : Nat} {as : List Value} {post : Option Value → Prop} (hb : c.code = cc) (hml : c.maxLocals = nL) (hC : mp_Ct l y ws fr lo as post)
    (hV : mx_Inv p l e R s m args below meth c H (F0 m pc ls st0) y as.toArray rest) (hls : ls.size = nL) {ig : Instr} (hdg : decode cc pc = .ok (ig, 3)) {maxL : Nat} (hR : fr + 1 ≤ R.frames ∧ (rest.map fun v => v.category).sum + (maxL + 11) + lo ≤ R.locals) (hcd : mx_Cd y maxL ws)
    (hws : ∀ x ∈ ws, ∀ (a' : Array Value) (U : State), s.WarmedH U.vm → x.before a' U = true) (hini : ∀ (a' : Array Value) (U : State), s.WarmedH U.vm → (Cond.initialized y.cls).before a' U = true) (hf : cells ≤ R.cells ∧ slots ≤ R.slots)
    (kR : ∀ (v : Option Value), post v → W p l e R s m args below meth c H locs cells slots Q (F0 m (pc + 3) ls (v.toList ++ rest))) :
    W p l e R s m args below meth c H locs cells slots Q (F0 m pc ls st0) := by
  intro T hT X
  have hmon : (F0 m pc ls st0).monitorRoom = 0 := rfl
  obtain ⟨o, st, t, T', L, h0, hal, X', hL, e1, e2, ⟨v, hO, hpo, hh⟩, hgo⟩ := mx_back hC hV rfl (by show ls.size = _; rw [hls, hml]) (by rw [hb]; exact hdg) rfl rfl hR.1 (by rw [hmon]; have := hR.2; dsimp only; omega) hcd hws hini hf (fun U g mk hU hW => rfl) T hT X
  subst hO
  rcases hgo with ⟨v', hv', hgo⟩ | ⟨x, hv', -⟩
  · cases hv'
    obtain ⟨t2, a1, b1⟩ := kR v hpo T' (by rw [e1, hh, h0]) (Stand.forget X' (fun q h => (hL q h).elim))
    exact ⟨t2, hgo t2 a1, b1⟩
  · cases hv'
theorem mp_iret {post : Option Value → Prop} (hx : p.tables.exec = Jvm.exec) (hb : c.code = cc) (hr : meth.sig.returnType = some .int) (hlocks : meth.locks = false) {v : Int32} (hp : post (some (.int v))) (hdg : decode cc pc = .ok (.ireturn, 1)) : W p l e R s m args below meth c s.heap [] 0 0 (mx_Q below (fun _ st o t => ∃ v, o = .returned v ∧ post v ∧ t.heap = st.heap) args s 0 0 (fun _ => False)) (F0 m pc ls [.int v]) :=
  W.mono mx_of_MQ (W.iret hx hb hr (fun t ht hW => ⟨_, rfl, hp, ht⟩) (fun q hq => by cases hq) hdg hlocks)
theorem mp_zret {post : Option Value → Prop} (hx : p.tables.exec = Jvm.exec) (hb : c.code = cc) (hr : meth.sig.returnType = some .boolean) (hlocks : meth.locks = false) {v : Int32} (hv : v = 0 ∨ v = 1) (hp : post (some (.int v))) (hdg : decode cc pc = .ok (.ireturn, 1)) : W p l e R s m args below meth c s.heap [] 0 0 (mx_Q below (fun _ st o t => ∃ v, o = .returned v ∧ post v ∧ t.heap = st.heap) args s 0 0 (fun _ => False)) (F0 m pc ls [.int v]) :=
  W.mono mx_of_MQ (W.zret hx hb hr (by rcases hv with rfl | rfl; exact narrow_b0; exact narrow_b1) (fun t ht hW => ⟨_, rfl, hp, ht⟩) (fun q hq => by cases hq) hdg hlocks)
end MPC
