section
-- ===== PART A: goes FIRST, ahead of the names: the tables' words, and 'selects' of the private methods out of them =====
/-- a private method of a class that the tables say can be made, by its rows of tables_1 -/
def lw_okq (q : MethodName × Nat) : Prop := (q.1.cls ≠ "java/lang/invoke/MethodHandle" ∧ q.1.cls ≠ "java/lang/invoke/VarHandle") ∧ Cond.instantiable q.1.cls q.2 ∈ tables_1 ∧ Cond.privateMethod q.1 ∈ tables_1 ∧ Cond.instanceMethod q.1 ∈ tables_1
theorem lw_p0 : lw_okq (⟨"MapStore", "mapOf", "(I)LMapStore$AnyMap;"⟩, 5) := ⟨⟨by decide +kernel, by decide +kernel⟩, List.mem_of_getElem? (i := 18) (by decide +kernel), List.mem_of_getElem? (i := 70) (by decide +kernel), List.mem_of_getElem? (i := 71) (by decide +kernel)⟩
theorem lw_p1 : lw_okq (⟨"java/lang/Throwable", "fillInStackTrace", "(I)Ljava/lang/Throwable;"⟩, 6) := ⟨⟨by decide +kernel, by decide +kernel⟩, List.mem_of_getElem? (i := 112) (by decide +kernel), List.mem_of_getElem? (i := 110) (by decide +kernel), List.mem_of_getElem? (i := 111) (by decide +kernel)⟩
theorem lw_p2 : lw_okq (⟨"MapStore", "newMap", "(IIII)LMapStore$AnyMap;"⟩, 5) := ⟨⟨by decide +kernel, by decide +kernel⟩, List.mem_of_getElem? (i := 18) (by decide +kernel), List.mem_of_getElem? (i := 205) (by decide +kernel), List.mem_of_getElem? (i := 206) (by decide +kernel)⟩
theorem lw_p3 : lw_okq (⟨"MapStore$TableMap", "entryWithAsked", "(I)I"⟩, 11) := ⟨⟨by decide +kernel, by decide +kernel⟩, List.mem_of_getElem? (i := 263) (by decide +kernel), List.mem_of_getElem? (i := 434) (by decide +kernel), List.mem_of_getElem? (i := 435) (by decide +kernel)⟩
theorem lw_p4 : lw_okq (⟨"MapStore$TableMap", "leastFree", "()I"⟩, 11) := ⟨⟨by decide +kernel, by decide +kernel⟩, List.mem_of_getElem? (i := 263) (by decide +kernel), List.mem_of_getElem? (i := 473) (by decide +kernel), List.mem_of_getElem? (i := 474) (by decide +kernel)⟩
theorem lw_p5 : lw_okq (⟨"MapStore$TableMap", "giveAsked", "(I)V"⟩, 11) := ⟨⟨by decide +kernel, by decide +kernel⟩, List.mem_of_getElem? (i := 263) (by decide +kernel), List.mem_of_getElem? (i := 477) (by decide +kernel), List.mem_of_getElem? (i := 478) (by decide +kernel)⟩
theorem lw_p6 : lw_okq (⟨"MapStore$RingMap", "writeRecord", "(III)V"⟩, 8) := ⟨⟨by decide +kernel, by decide +kernel⟩, List.mem_of_getElem? (i := 294) (by decide +kernel), List.mem_of_getElem? (i := 526) (by decide +kernel), List.mem_of_getElem? (i := 527) (by decide +kernel)⟩
theorem lw_p7 : lw_okq (⟨"MapStore$RingMap", "placeOfCount", "(J)I"⟩, 8) := ⟨⟨by decide +kernel, by decide +kernel⟩, List.mem_of_getElem? (i := 294) (by decide +kernel), List.mem_of_getElem? (i := 530) (by decide +kernel), List.mem_of_getElem? (i := 531) (by decide +kernel)⟩
theorem lw_p8 : lw_okq (⟨"MapStoreModel", "noMap", "(I)Z"⟩, 21) := ⟨⟨by decide +kernel, by decide +kernel⟩, List.mem_of_getElem? (i := 573) (by decide +kernel), List.mem_of_getElem? (i := 675) (by decide +kernel), List.mem_of_getElem? (i := 676) (by decide +kernel)⟩
theorem lw_p9 : lw_okq (⟨"MapStoreModel", "noArea", "(II)Z"⟩, 21) := ⟨⟨by decide +kernel, by decide +kernel⟩, List.mem_of_getElem? (i := 573) (by decide +kernel), List.mem_of_getElem? (i := 705) (by decide +kernel), List.mem_of_getElem? (i := 706) (by decide +kernel)⟩
theorem lw_p10 : lw_okq (⟨"MapStoreModel", "entryOfArray", "(II)I"⟩, 21) := ⟨⟨by decide +kernel, by decide +kernel⟩, List.mem_of_getElem? (i := 573) (by decide +kernel), List.mem_of_getElem? (i := 717) (by decide +kernel), List.mem_of_getElem? (i := 718) (by decide +kernel)⟩
theorem lw_p11 : lw_okq (⟨"MapStoreModel", "entryOf", "(II)I"⟩, 21) := ⟨⟨by decide +kernel, by decide +kernel⟩, List.mem_of_getElem? (i := 573) (by decide +kernel), List.mem_of_getElem? (i := 721) (by decide +kernel), List.mem_of_getElem? (i := 722) (by decide +kernel)⟩
theorem lw_p12 : lw_okq (⟨"MapStoreModel", "isKey", "(III)Z"⟩, 21) := ⟨⟨by decide +kernel, by decide +kernel⟩, List.mem_of_getElem? (i := 573) (by decide +kernel), List.mem_of_getElem? (i := 725) (by decide +kernel), List.mem_of_getElem? (i := 726) (by decide +kernel)⟩
theorem lw_p13 : lw_okq (⟨"MapStoreModel", "placeOf", "(II)I"⟩, 21) := ⟨⟨by decide +kernel, by decide +kernel⟩, List.mem_of_getElem? (i := 573) (by decide +kernel), List.mem_of_getElem? (i := 729) (by decide +kernel), List.mem_of_getElem? (i := 730) (by decide +kernel)⟩
theorem lw_p14 : lw_okq (⟨"MapStoreModel", "updateArray", "(IIII)I"⟩, 21) := ⟨⟨by decide +kernel, by decide +kernel⟩, List.mem_of_getElem? (i := 573) (by decide +kernel), List.mem_of_getElem? (i := 737) (by decide +kernel), List.mem_of_getElem? (i := 738) (by decide +kernel)⟩
theorem lw_p15 : lw_okq (⟨"MapStoreModel", "write", "(III)I"⟩, 21) := ⟨⟨by decide +kernel, by decide +kernel⟩, List.mem_of_getElem? (i := 573) (by decide +kernel), List.mem_of_getElem? (i := 741) (by decide +kernel), List.mem_of_getElem? (i := 742) (by decide +kernel)⟩
def lw_privs_1 : List (MethodName × Nat) := [(⟨"MapStore", "mapOf", "(I)LMapStore$AnyMap;"⟩, 5), (⟨"java/lang/Throwable", "fillInStackTrace", "(I)Ljava/lang/Throwable;"⟩, 6), (⟨"MapStore", "newMap", "(IIII)LMapStore$AnyMap;"⟩, 5), (⟨"MapStore$TableMap", "entryWithAsked", "(I)I"⟩, 11), (⟨"MapStore$TableMap", "leastFree", "()I"⟩, 11), (⟨"MapStore$TableMap", "giveAsked", "(I)V"⟩, 11), (⟨"MapStore$RingMap", "writeRecord", "(III)V"⟩, 8), (⟨"MapStore$RingMap", "placeOfCount", "(J)I"⟩, 8), (⟨"MapStoreModel", "noMap", "(I)Z"⟩, 21), (⟨"MapStoreModel", "noArea", "(II)Z"⟩, 21), (⟨"MapStoreModel", "entryOfArray", "(II)I"⟩, 21), (⟨"MapStoreModel", "entryOf", "(II)I"⟩, 21), (⟨"MapStoreModel", "isKey", "(III)Z"⟩, 21), (⟨"MapStoreModel", "placeOf", "(II)I"⟩, 21), (⟨"MapStoreModel", "updateArray", "(IIII)I"⟩, 21), (⟨"MapStoreModel", "write", "(III)I"⟩, 21)]
theorem lw_r1 : ∀ q ∈ lw_privs_1, lw_okq q := List.forall_mem_cons.mpr ⟨lw_p0, List.forall_mem_cons.mpr ⟨lw_p1, List.forall_mem_cons.mpr ⟨lw_p2, List.forall_mem_cons.mpr ⟨lw_p3, List.forall_mem_cons.mpr ⟨lw_p4, List.forall_mem_cons.mpr ⟨lw_p5, List.forall_mem_cons.mpr ⟨lw_p6, List.forall_mem_cons.mpr ⟨lw_p7, List.forall_mem_cons.mpr ⟨lw_p8, List.forall_mem_cons.mpr ⟨lw_p9, List.forall_mem_cons.mpr ⟨lw_p10, List.forall_mem_cons.mpr ⟨lw_p11, List.forall_mem_cons.mpr ⟨lw_p12, List.forall_mem_cons.mpr ⟨lw_p13, List.forall_mem_cons.mpr ⟨lw_p14, List.forall_mem_cons.mpr ⟨lw_p15, fun _ h => absurd h List.not_mem_nil⟩⟩⟩⟩⟩⟩⟩⟩⟩⟩⟩⟩⟩⟩⟩⟩
theorem lw_p16 : lw_okq (⟨"MapStoreModel", "updateTable", "(IIII)I"⟩, 21) := ⟨⟨by decide +kernel, by decide +kernel⟩, List.mem_of_getElem? (i := 573) (by decide +kernel), List.mem_of_getElem? (i := 745) (by decide +kernel), List.mem_of_getElem? (i := 746) (by decide +kernel)⟩
theorem lw_p17 : lw_okq (⟨"MapStoreModel", "putRing", "(IJI)V"⟩, 21) := ⟨⟨by decide +kernel, by decide +kernel⟩, List.mem_of_getElem? (i := 573) (by decide +kernel), List.mem_of_getElem? (i := 757) (by decide +kernel), List.mem_of_getElem? (i := 758) (by decide +kernel)⟩
theorem lw_p18 : lw_okq (⟨"MapStoreModel", "ringPlace", "(IJ)I"⟩, 21) := ⟨⟨by decide +kernel, by decide +kernel⟩, List.mem_of_getElem? (i := 573) (by decide +kernel), List.mem_of_getElem? (i := 761) (by decide +kernel), List.mem_of_getElem? (i := 762) (by decide +kernel)⟩
theorem lw_p19 : lw_okq (⟨"MapStoreModel", "numberInRing", "(IJ)J"⟩, 21) := ⟨⟨by decide +kernel, by decide +kernel⟩, List.mem_of_getElem? (i := 573) (by decide +kernel), List.mem_of_getElem? (i := 769) (by decide +kernel), List.mem_of_getElem? (i := 770) (by decide +kernel)⟩
def lw_privs_2 : List (MethodName × Nat) := [(⟨"MapStoreModel", "updateTable", "(IIII)I"⟩, 21), (⟨"MapStoreModel", "putRing", "(IJI)V"⟩, 21), (⟨"MapStoreModel", "ringPlace", "(IJ)I"⟩, 21), (⟨"MapStoreModel", "numberInRing", "(IJ)J"⟩, 21)]
theorem lw_r2 : ∀ q ∈ lw_privs_2, lw_okq q := List.forall_mem_cons.mpr ⟨lw_p16, List.forall_mem_cons.mpr ⟨lw_p17, List.forall_mem_cons.mpr ⟨lw_p18, List.forall_mem_cons.mpr ⟨lw_p19, fun _ h => absurd h List.not_mem_nil⟩⟩⟩⟩
def lw_privs : List (MethodName × Nat) := lw_privs_1 ++ (lw_privs_2)
def lw_tbl : List Cond := k2_sels lw_privs ++ tables_1
theorem lw_privs_ok : ∀ q ∈ lw_privs, lw_okq q := by
  show ∀ q ∈ lw_privs_1 ++ (lw_privs_2), lw_okq q
  exact List.forall_mem_append.mpr ⟨lw_r1, lw_r2⟩
-- ===== end of PART A; then your names; then what follows =====
end
section
/-! MEMORIES AS MAPS, AND METHODS THAT MAY THROW: my own judgements over the kit's W -/
abbrev mw_W : Type := Nat → Option va_E
def mw_up (w : mw_W) (a : Nat) (x : va_E) : mw_W := fun q => if q = a then some x else w q
theorem mw_up_s (w : mw_W) (a : Nat) (x : va_E) : mw_up w a x a = some x := by simp [mw_up]
theorem mw_up_n (w : mw_W) {a q : Nat} (x : va_E) (h : q ≠ a) : mw_up w a x q = w q := by simp [mw_up, h]
theorem mw_ne {w : mw_W} {a b : Nat} {x y : va_E} (ha : w a = some x) (hb : w b = some y) (h : x ≠ y) : a ≠ b := fun e => h (by subst e; exact Option.some.inj (ha.symm.trans hb))
theorem mw_neC {w : mw_W} {a b ci cj : Nat} {fs gs : List Value} (ha : w a = some (.inr (ci, fs))) (hb : w b = some (.inr (cj, gs))) (h : ci ≠ cj) : a ≠ b :=
  mw_ne ha hb (fun e => h (congrArg Prod.fst (Sum.inr.inj e)))
theorem mw_neA {w : mw_W} {a b : Nat} {o : Nat × List Value} {r : ClassId × vp_A} (ha : w a = some (.inr o)) (hb : w b = some (.inl r)) : a ≠ b :=
  mw_ne ha hb (fun e => by cases e)
theorem mw_neN {w : mw_W} {a b : Nat} {x : va_E} (ha : w a = some x) (hb : w b = none) : a ≠ b := fun e => by subst e; rw [ha] at hb; cases hb
def mw_P (D : va_G) (cl : List vw_C) (w : mw_W) (H : Heap) : Prop := ∀ (a : Nat) (x : va_E), w a = some x → va_at D cl (a, x) H
def mw_A (w : mw_W) (sz : Nat) (q : Nat) : Prop := (∃ x, w q = some x) ∨ sz ≤ q
/-- the walk's own world: the memory w in the heap H; since H0 (memory w0) nothing else has changed -/
def mw_I (D : va_G) (cl : List vw_C) (w0 : mw_W) (H0 : Heap) (w : mw_W) (H : Heap) (locs : List Loc) : Prop :=
  mw_P D cl w H ∧ va_S (mw_A w0 H0.size) H0 H locs ∧ ∀ (q : Nat) (x : va_E), w q = some x → mw_A w0 H0.size q
theorem mw_I.start {D : va_G} {cl : List vw_C} {w : mw_W} {H : Heap} (h : mw_P D cl w H) : mw_I D cl w H w H [] := ⟨h, va_S.rf, fun _ x hx => Or.inl ⟨x, hx⟩⟩
theorem mw_P.one {D : va_G} {cl : List vw_C} {w : mw_W} {H : Heap} (h : mw_P D cl w H) {a : Nat} {x : va_E} (ha : w a = some x) : va_P D cl [(a, x)] H := by
  intro k q hk
  have hz : k < 1 := (List.getElem?_eq_some_iff.mp hk).1
  rw [show k = 0 by omega] at hk
  cases hk
  exact h a x ha
theorem mw_I.set {D : va_G} {cl : List vw_C} {w0 w : mw_W} {H0 H H1 : Heap} {locs : List Loc} (h : mw_I D cl w0 H0 w H locs) {a k : Nat} {x0 x : va_E} (ha : w a = some x0) (hx : va_at D cl (a, x) H1) (z : H1.size = H.size) (oq : ∀ q : Nat, q ≠ a → H1[q]? = H[q]?) : mw_I D cl w0 H0 (mw_up w a x) H1 (locs ++ [⟨a, k⟩]) := by
  obtain ⟨h1, h2, h3⟩ := h
  refine ⟨fun q y hq => ?_, h2.put z oq (h3 a x0 ha), fun q y hq => ?_⟩
  · by_cases e : q = a
    · subst e; rw [mw_up_s] at hq; cases hq; exact hx
    · rw [mw_up_n _ _ e] at hq; exact (h1 q y hq).kept (oq q e)
  · by_cases e : q = a
    · subst e; exact h3 q x0 ha
    · rw [mw_up_n _ _ e] at hq; exact h3 q y hq
theorem mw_I.fresh {D : va_G} {cl : List vw_C} {w0 w : mw_W} {H0 H : Heap} {locs : List Loc} (h : mw_I D cl w0 H0 w H locs) {q : Nat} (hq : H.size ≤ q) : w q = none := by
  cases hw : w q with
  | none => rfl
  | some x =>
    have h1 : q < H.size := (h.1 q x hw).lt
    exact absurd h1 (Nat.not_lt.mpr hq)
theorem mw_I.new {D : va_G} {cl : List vw_C} {w0 w : mw_W} {H0 H H1 : Heap} {locs : List Loc} (h : mw_I D cl w0 H0 w H locs) {x : va_E} (hx : va_at D cl (H.size, x) H1) (z : H1.size = H.size + 1) (oq : ∀ q : Nat, q < H.size → H1[q]? = H[q]?) : mw_I D cl w0 H0 (mw_up w H.size x) H1 locs := by
  obtain ⟨h1, h2, h3⟩ := h
  refine ⟨fun q y hq => ?_, ⟨Nat.le_trans h2.1 (by omega), fun q g1 g2 => (oq q (Nat.lt_of_lt_of_le g1 h2.1)).trans (h2.2.1 q g1 g2), h2.2.2⟩, fun q y hq => ?_⟩
  · by_cases e : q = H.size
    · subst e; rw [mw_up_s] at hq; cases hq; exact hx
    · rw [mw_up_n _ _ e] at hq; exact (h1 q y hq).kept (oq q (h1 q y hq).lt)
  · by_cases e : q = H.size
    · subst e; exact Or.inr h2.1
    · rw [mw_up_n _ _ e] at hq; exact h3 q y hq
/-! ### contracts of methods that may throw -/
def mx_FE (first : State) (t : State) (L : List Loc) (k n : Nat) : Prop := first.WarmedH t.vm ∧ first.sameButNew ({ t with vm := first.vm } : State) L k n
def mx_M (l : Launch) (y : MethodName) (ws : List Cond) (rm : Room) (Pc : Array Value → State → Prop) (Qc : Array Value → State → Outcome → State → Prop) (mc ms : Nat) (free : Addr → Prop) : Prop :=
  MetFree l y (headSpec ws rm) Pc (fun _ _ _ _ _ => True) (fun a st o t => Qc a st o t ∧ ∃ L, mx_FE st t L mc ms ∧ ∀ q ∈ L, free q.base)
def mx_Q (below : List Frame) (Qc : Array Value → State → Outcome → State → Prop) (a : Array Value) (s : State) (mc ms : Nat) (free : Addr → Prop) : State → Prop := fun t =>
  ∃ o, t.status = .running ∧ Ended t below o ∧ Qc a s o t ∧ ∃ L, mx_FE s t L mc ms ∧ ∀ q ∈ L, free q.base
theorem W.mono {p : Program} {l : Launch} {e : Env} {R : Room} {s : State} {m : MethodId} {args : Array Value} {below : List Frame} {meth : Method} {c : Code} {H : Heap} {locs : List Loc} {cells slots : Nat} {Q Q' : State → Prop} {g : JFrame} (h : ∀ t, Q t → Q' t) (k : W p l e R s m args below meth c H locs cells slots Q g) : W p l e R s m args below meth c H locs cells slots Q' g := by
  intro T hT X
  obtain ⟨t, a, b⟩ := k T hT X
  exact ⟨t, a, h t b⟩
theorem mx_of_MQ {below : List Frame} {Qc : Array Value → State → Outcome → State → Prop} {a : Array Value} {s : State} {mc ms : Nat} {free : Addr → Prop} (t : State) (h : MQ below Qc a s mc ms free t) : mx_Q below Qc a s mc ms free t := by
  obtain ⟨o, h1, h2, h3, L, h4, h5⟩ := h
  exact ⟨o, h1, h2, h3, L, ⟨h4.2.1, h4.2.2⟩, h5⟩
theorem mx_ofW {l : Launch} {y : MethodName} {ws ws' : List Cond} {rm : Room} {Pc : Array Value → State → Prop} {Qc : Array Value → State → Outcome → State → Prop} {mc ms : Nat} {free : Addr → Prop} {cc : ByteArray} {maxL : Nat} {ret : Option FieldType}
    (hy : plainName y.cls = true) (hw : ws = Cond.code y cc maxL ret :: ws')
    (body : ∀ p e s m args below meth c s₁, BodyLoose p l y (headSpec ws rm) cc maxL ret e s m args below meth c s₁ → c.maxLocals = maxL → c.exceptionTable.isEmpty = true → Pc args s →
      W p l e (headSpec ws rm).room s m args below meth c s.heap [] 0 0 (mx_Q below Qc args s mc ms free) (entryFrame m args maxL)) : mx_M l y ws rm Pc Qc mc ms free := by
  refine MetFree.of_bodyS (code := cc) (maxLocals := maxL) (ret := ret) hy ?_ ?_
  · intro args s m h hn
    obtain ⟨meth, c, h1, h2, h3, h4, h5, h6, -, -⟩ := Cond.code_spec hn (atoms_spec (ws := ws) h _ (by rw [hw]; exact List.mem_cons_self))
    exact ⟨meth, c, h1, h2, h3, h4, h5, h6⟩
  · intro p e s m args below meth c s₁ B hml hP _
    have hh0 : s₁.heap = s.heap := by rw [B.state]; rfl
    have hce : c.exceptionTable.isEmpty = true := B.noHandlers (atoms_spec (ws := ws) B.pre _ (by rw [hw]; exact List.mem_cons_self))
    obtain ⟨t, a1, o, b1, b2, b3⟩ := body p e s m args below meth c s₁ B hml hce hP s₁ hh0 (Stand.of_body B)
    exact ⟨t, o, a1, b1, b2, ⟨b3.1, b3.2⟩⟩
/-- the same for a method with handlers -/
theorem mx_ofWH {l : Launch} {y : MethodName} {ws ws' : List Cond} {rm : Room} {Pc : Array Value → State → Prop} {Qc : Array Value → State → Outcome → State → Prop} {mc ms : Nat} {free : Addr → Prop} {cc : ByteArray} {maxL : Nat} {ret : Option FieldType} {hs : List (Nat × Nat × Nat × Nat)}
    (hy : plainName y.cls = true) (hw : ws = Cond.codeWith y cc maxL ret hs :: ws')
    (body : ∀ p e s m args below meth c s₁, BodyLoose p l y (headSpec ws rm) cc maxL ret e s m args below meth c s₁ → c.maxLocals = maxL → c.exceptionTable.toList.map (fun h => (h.startPc, h.endPc, h.handlerPc, h.catchType)) = hs → Pc args s →
      W p l e (headSpec ws rm).room s m args below meth c s.heap [] 0 0 (mx_Q below Qc args s mc ms free) (entryFrame m args maxL)) : mx_M l y ws rm Pc Qc mc ms free := by
  refine MetFree.of_bodyS (code := cc) (maxLocals := maxL) (ret := ret) hy ?_ ?_
  · intro args s m h hn
    obtain ⟨m', meth, c, h0, h1, h2, h3, h4, h5, h6, h7, h8⟩ := Cond.codeWith_spec (atoms_spec (ws := ws) h _ (by rw [hw]; exact List.mem_cons_self))
    cases hn.symm.trans h0
    exact ⟨meth, c, h1, h2, h3, h4, h6, h7⟩
  · intro p e s m args below meth c s₁ B hml hP _
    have hh0 : s₁.heap = s.heap := by rw [B.state]; rfl
    have X := Stand.of_body B
    have hce : c.exceptionTable.toList.map (fun h => (h.startPc, h.endPc, h.handlerPc, h.catchType)) = hs := by
      obtain ⟨m', meth', c', h0, h1, h2, h3, h4, h5, h6, h7, h8⟩ := Cond.codeWith_spec (atoms_spec (ws := ws) B.pre _ (by rw [hw]; exact List.mem_cons_self))
      cases B.named.symm.trans h0
      cases B.method.symm.trans h1
      cases X.code.symm.trans h2
      exact h5
    obtain ⟨t, a1, o, b1, b2, b3⟩ := body p e s m args below meth c s₁ B hml hce hP s₁ hh0 X
    exact ⟨t, o, a1, b1, b2, ⟨b3.1, b3.2⟩⟩
/-- an invoking instruction at g comes to the method y with the arguments a; 'rest' stays on the stack -/
def mx_Inv (p : Program) (l : Launch) (e : Env) (R : Room) (s : State) (m : MethodId) (args : Array Value) (below : List Frame) (meth : Method) (c : Code) (H : Heap) (g : JFrame) (y : MethodName) (a : Array Value) (rest : List Value) : Prop :=
  ∀ (T : State) (locs : List Loc) (cells slots : Nat), T.heap = H → Stand p l e R s m args below meth c T locs cells slots → ∃ (vm₁ : Vm) (mk : MethodId), s.WarmedH vm₁ ∧ Stand p l e R s m args below meth c (T.setVm vm₁) locs cells slots ∧ s.methodNamed? y = some mk ∧
    ∀ target, Steps p.tables e below (doInvoke e ((T.setVm vm₁).setTop { g with stack := rest }) [] mk a).1 target → Steps p.tables e below (T.setTop g) target
section MXI
variable {p : Program} {l : Launch} {e : Env} {R : Room} {s : State} {m : MethodId} {args : Array Value} {below : List Frame} {meth : Method} {c : Code} {H : Heap}
theorem mx_invS (hexec : p.tables.exec = Jvm.exec) {own : String} {index : Nat} {y : MethodName} {bytes : ByteArray} {maxL : Nat} {ret : Option FieldType}
    (hown : s.vm.findClass own = some m.cls) (hlink : (Cond.methodLink own index y).before args s = true) (hstat : (Cond.static y).before args s = true) (hinit : (Cond.initialized y.cls).before args s = true)
    (hcode : (Cond.code y bytes maxL ret).before args s = true) (hy : y.cls ≠ "java/lang/invoke/MethodHandle" ∧ y.cls ≠ "java/lang/invoke/VarHandle")
    {g : JFrame} (hg : g.method = m) {argsL rest : List Value} (hlen : (parseMethodDescriptor y.desc).map (fun d => d.parameters.length) = some argsL.length)
    (hstack : g.stack = argsL.reverse ++ rest) (hdg : decode c.code g.pc = .ok (.invokestatic index, 3)) : mx_Inv p l e R s m args below meth c H g y argsL.toArray rest := by
  intro T locs cells slots hT X
  obtain ⟨mk, hnamed⟩ := Cond.code_named hcode
  obtain ⟨methM, cM, hmethM, -, -, -, -, -, -, hsigM⟩ := Cond.code_spec hnamed hcode
  have hstatic : methM.isStatic = true := Cond.static_spec hnamed hmethM hstat
  obtain ⟨kP, hkP, -⟩ := className_of_methodNamed hnamed
  have hinitP : kP.init = .initialized := Cond.initialized_spec (findClass_of_methodNamed hnamed) hkP hinit
  have hl : argsL.length = methM.sig.parameters.length := by rw [hsigM] at hlen; exact (Option.some.inj hlen).symm
  obtain ⟨vm₁, X₁, hstep₁⟩ := X.invokestatic hexec hown hlink hnamed hmethM hstatic hkP hinitP hy (g := g) hg (argsL := argsL) (rest := rest) hl hstack hdg
  exact ⟨vm₁, mk, X₁.warmed, X₁, hnamed, fun target h => hstep₁ _ fun acts => by rw [doInvoke_state]; exact h⟩
theorem mx_invSN (hexec : p.tables.exec = Jvm.exec) {own host : String} {index : Nat} {y : MethodName} {bytes : ByteArray} {maxL : Nat} {ret : Option FieldType}
    (hown : s.vm.findClass own = some m.cls) (hlink : (Cond.methodLinkNest own index y host).before args s = true) (hstat : (Cond.static y).before args s = true) (hinit : (Cond.initialized y.cls).before args s = true)
    (hcode : (Cond.code y bytes maxL ret).before args s = true) (hy : y.cls ≠ "java/lang/invoke/MethodHandle" ∧ y.cls ≠ "java/lang/invoke/VarHandle")
    {g : JFrame} (hg : g.method = m) {argsL rest : List Value} (hlen : (parseMethodDescriptor y.desc).map (fun d => d.parameters.length) = some argsL.length)
    (hstack : g.stack = argsL.reverse ++ rest) (hdg : decode c.code g.pc = .ok (.invokestatic index, 3)) : mx_Inv p l e R s m args below meth c H g y argsL.toArray rest := by
  intro T locs cells slots hT X
  obtain ⟨mk, hnamed⟩ := Cond.code_named hcode
  obtain ⟨methM, cM, hmethM, -, -, -, -, -, -, hsigM⟩ := Cond.code_spec hnamed hcode
  have hstatic : methM.isStatic = true := Cond.static_spec hnamed hmethM hstat
  obtain ⟨kP, hkP, -⟩ := className_of_methodNamed hnamed
  have hinitP : kP.init = .initialized := Cond.initialized_spec (findClass_of_methodNamed hnamed) hkP hinit
  have hl : argsL.length = methM.sig.parameters.length := by rw [hsigM] at hlen; exact (Option.some.inj hlen).symm
  obtain ⟨vm₁, X₁, hstep₁⟩ := X.invokestaticNest hexec hown hlink hnamed hmethM hstatic hkP hinitP hy (g := g) hg (argsL := argsL) (rest := rest) hl hstack hdg
  exact ⟨vm₁, mk, X₁.warmed, X₁, hnamed, fun target h => hstep₁ _ fun acts => by rw [doInvoke_state]; exact h⟩
theorem mx_invV (hexec : p.tables.exec = Jvm.exec) {own C : String} {index : Nat} {y : MethodName} {bytes : ByteArray} {maxL : Nat} {ret : Option FieldType}
    (hown : s.vm.findClass own = some m.cls) (hlink : (Cond.methodLink own index y).before args s = true) (hinst : (Cond.instanceMethod y).before args s = true) (hsel : (Cond.selects C y y).before args s = true)
    (hcode : (Cond.code y bytes maxL ret).before args s = true) (hy : y.cls ≠ "java/lang/invoke/MethodHandle" ∧ y.cls ≠ "java/lang/invoke/VarHandle")
    {b : Addr} (hb : ∃ cellB : Cell, H[b]? = some cellB ∧ cellB.vm.isStatics = false ∧ s.vm.findClass C = some cellB.cls)
    {g : JFrame} (hg : g.method = m) {argsL rest : List Value} (hlen : (parseMethodDescriptor y.desc).map (fun d => d.parameters.length) = some argsL.length)
    (hstack : g.stack = argsL.reverse ++ .ref b :: rest) (hdg : decode c.code g.pc = .ok (.invokevirtual index, 3)) : mx_Inv p l e R s m args below meth c H g y (Value.ref b :: argsL).toArray rest := by
  intro T locs cells slots hT X
  obtain ⟨cellB, hcell, hobj, hcls⟩ := hb
  rw [← hT] at hcell
  obtain ⟨mk, methM, hnamed, hmethM, hstM, habM⟩ := Cond.instanceMethod_spec hinst
  obtain ⟨methM', cM, hmethM', -, -, -, -, -, -, hsigM⟩ := Cond.code_spec hnamed hcode
  cases hmethM.symm.trans hmethM'
  obtain ⟨c2, r2, m2, q1, q2, q3, q4, kP, hkP, hkPi⟩ := Cond.selects_spec hsel
  cases hcls.symm.trans q1
  cases (State.methodFound?_of_named hnamed hy).symm.trans q2
  cases hnamed.symm.trans q3
  have hselP : selectMethod e.platform s.vm cellB.cls mk = .method mk := by rw [Launch.admits_selectMethod X.admits]; exact q4
  have hl : argsL.length = methM.sig.parameters.length := by rw [hsigM] at hlen; exact (Option.some.inj hlen).symm
  obtain ⟨vm₁, X₁, hstep₁⟩ := X.invokevirtual hexec hown hlink hnamed hmethM hstM hkP hkPi hy (a := b) (cell := cellB) hcell
    (fun z h => by rw [h] at hobj; cases hobj) hselP hmethM habM hkP hkPi (g := g) hg (argsL := argsL) (rest := rest) hl hstack hdg
  exact ⟨vm₁, mk, X₁.warmed, X₁, hnamed, fun target h => hstep₁ _ fun acts => by rw [doInvoke_state]; exact h⟩
theorem mx_invVN (hexec : p.tables.exec = Jvm.exec) {own C host : String} {index : Nat} {y : MethodName} {bytes : ByteArray} {maxL : Nat} {ret : Option FieldType}
    (hown : s.vm.findClass own = some m.cls) (hlink : (Cond.methodLinkNest own index y host).before args s = true) (hinst : (Cond.instanceMethod y).before args s = true) (hsel : (Cond.selects C y y).before args s = true)
    (hcode : (Cond.code y bytes maxL ret).before args s = true) (hy : y.cls ≠ "java/lang/invoke/MethodHandle" ∧ y.cls ≠ "java/lang/invoke/VarHandle")
    {b : Addr} (hb : ∃ cellB : Cell, H[b]? = some cellB ∧ cellB.vm.isStatics = false ∧ s.vm.findClass C = some cellB.cls)
    {g : JFrame} (hg : g.method = m) {argsL rest : List Value} (hlen : (parseMethodDescriptor y.desc).map (fun d => d.parameters.length) = some argsL.length)
    (hstack : g.stack = argsL.reverse ++ .ref b :: rest) (hdg : decode c.code g.pc = .ok (.invokevirtual index, 3)) : mx_Inv p l e R s m args below meth c H g y (Value.ref b :: argsL).toArray rest := by
  intro T locs cells slots hT X
  obtain ⟨cellB, hcell, hobj, hcls⟩ := hb
  rw [← hT] at hcell
  obtain ⟨mk, methM, hnamed, hmethM, hstM, habM⟩ := Cond.instanceMethod_spec hinst
  obtain ⟨methM', cM, hmethM', -, -, -, -, -, -, hsigM⟩ := Cond.code_spec hnamed hcode
  cases hmethM.symm.trans hmethM'
  obtain ⟨c2, r2, m2, q1, q2, q3, q4, kP, hkP, hkPi⟩ := Cond.selects_spec hsel
  cases hcls.symm.trans q1
  cases (State.methodFound?_of_named hnamed hy).symm.trans q2
  cases hnamed.symm.trans q3
  have hselP : selectMethod e.platform s.vm cellB.cls mk = .method mk := by rw [Launch.admits_selectMethod X.admits]; exact q4
  have hl : argsL.length = methM.sig.parameters.length := by rw [hsigM] at hlen; exact (Option.some.inj hlen).symm
  obtain ⟨vm₁, X₁, hstep₁⟩ := X.invokevirtualNest hexec hown hlink hnamed hmethM hstM hkP hkPi hy (a := b) (cell := cellB) hcell
    (fun z h => by rw [h] at hobj; cases hobj) hselP hmethM habM hkP hkPi (g := g) hg (argsL := argsL) (rest := rest) hl hstack hdg
  exact ⟨vm₁, mk, X₁.warmed, X₁, hnamed, fun target h => hstep₁ _ fun acts => by rw [doInvoke_state]; exact h⟩
/-- inherited, overriding or abstract: the reference names x, found in 'owner'; the receiver's class C selects y -/
theorem mx_invU (hexec : p.tables.exec = Jvm.exec) {own C owner : String} {index : Nat} {x y : MethodName}
    (hown : s.vm.findClass own = some m.cls) (hlink : (Cond.methodLink own index x).before args s = true) (hsame : (Cond.sameMethod x.cls owner x.name x.desc).before args s = true)
    (hd0 : va_Decl s ⟨owner, x.name, x.desc⟩) (howner : owner ≠ "java/lang/invoke/MethodHandle" ∧ owner ≠ "java/lang/invoke/VarHandle")
    (hsel : (Cond.selects C x y).before args s = true) (hinst : (Cond.instanceMethod y).before args s = true)
    {b : Addr} (hb : ∃ cellB : Cell, H[b]? = some cellB ∧ cellB.vm.isStatics = false ∧ s.vm.findClass C = some cellB.cls)
    {g : JFrame} (hg : g.method = m) {argsL rest : List Value} (hlen : (parseMethodDescriptor x.desc).map (fun d => d.parameters.length) = some argsL.length)
    (hstack : g.stack = argsL.reverse ++ .ref b :: rest) (hdg : decode c.code g.pc = .ok (.invokevirtual index, 3)) : mx_Inv p l e R s m args below meth c H g y (Value.ref b :: argsL).toArray rest := by
  intro T locs cells slots hT X
  obtain ⟨cellB, hcell, hobj, hcls⟩ := hb
  rw [← hT] at hcell
  obtain ⟨r0, r, hn, hrm, hstR, hsigR⟩ := hd0
  obtain ⟨cn, ck, r1, hcn, hck, hni, hf, hn1⟩ := Cond.sameMethod_found hsame
  cases hn.symm.trans hn1
  obtain ⟨mk, methM, hnamed, hmethM, -, habM⟩ := Cond.instanceMethod_spec hinst
  obtain ⟨c2, r2, m2, q1, q2, q3, q4, kP, hkP, hkPi⟩ := Cond.selects_spec hsel
  cases hcls.symm.trans q1
  cases hf.symm.trans q2
  cases hnamed.symm.trans q3
  have hselP : selectMethod e.platform s.vm cellB.cls r0 = .method mk := by rw [Launch.admits_selectMethod X.admits]; exact q4
  have hl : argsL.length = r.sig.parameters.length := by rw [hsigR] at hlen; exact (Option.some.inj hlen).symm
  obtain ⟨vm₁, X₁, hstep₁⟩ := X.invokevirtualUp hexec hown hlink hsame howner hn hrm hstR (a := b) (cell := cellB) hcell
    (fun z h => by rw [h] at hobj; cases hobj) hselP hmethM habM hkP hkPi (g := g) hg (argsL := argsL) (rest := rest) hl hstack hdg
  exact ⟨vm₁, mk, X₁.warmed, X₁, hnamed, fun target h => hstep₁ _ fun acts => by rw [doInvoke_state]; exact h⟩
theorem mx_invI (hexec : p.tables.exec = Jvm.exec) {own : String} {index : Nat} {y : MethodName} {bytes : ByteArray} {maxL : Nat}
    (hown : s.vm.findClass own = some m.cls) (hy1 : y.name = "<init>") (hlink : (Cond.methodLink own index y).before args s = true) (hinst : (Cond.instanceMethod y).before args s = true)
    (hcode : (Cond.code y bytes maxL none).before args s = true) (hy : y.cls ≠ "java/lang/invoke/MethodHandle" ∧ y.cls ≠ "java/lang/invoke/VarHandle")
    {g : JFrame} (hg : g.method = m) {a : Addr} {argsL rest : List Value} (hlen : (parseMethodDescriptor y.desc).map (fun d => d.parameters.length) = some argsL.length)
    (hstack : g.stack = argsL.reverse ++ .ref a :: rest) (hdg : decode c.code g.pc = .ok (.invokespecial index, 3)) : mx_Inv p l e R s m args below meth c H g y (Value.ref a :: argsL).toArray rest := by
  intro T locs cells slots hT X
  subst hg
  have hpl : e.platform.magicAccessors = ({} : Platform).magicAccessors := by rw [X.admits.platform]
  obtain ⟨mk, methM, cM, kP, vm₁, hnamed, hmethM, hcodeM, -, hlocalsM, -, hkP, -, hW₁, hstep₁⟩ := Steps.initColdArgs (e := e) X.here hexec X.warmed hpl hown hy1 hy hlink hinst hcode (f := g) rfl (fun sig h => by rw [h] at hlen; exact (Option.some.inj hlen).symm) hstack hdg
  exact ⟨vm₁, mk, hW₁, X.noted hW₁, hnamed, fun target h => hstep₁ _ fun acts => by rw [doInvoke_state]; exact h⟩
theorem mx_invIN (hexec : p.tables.exec = Jvm.exec) {own host : String} {index : Nat} {y : MethodName} {bytes : ByteArray} {maxL : Nat}
    (hown : s.vm.findClass own = some m.cls) (hy1 : y.name = "<init>") (hlink : (Cond.methodLinkNest own index y host).before args s = true) (hinst : (Cond.instanceMethod y).before args s = true)
    (hcode : (Cond.code y bytes maxL none).before args s = true) (hy : y.cls ≠ "java/lang/invoke/MethodHandle" ∧ y.cls ≠ "java/lang/invoke/VarHandle")
    {g : JFrame} (hg : g.method = m) {a : Addr} {argsL rest : List Value} (hlen : (parseMethodDescriptor y.desc).map (fun d => d.parameters.length) = some argsL.length)
    (hstack : g.stack = argsL.reverse ++ .ref a :: rest) (hdg : decode c.code g.pc = .ok (.invokespecial index, 3)) : mx_Inv p l e R s m args below meth c H g y (Value.ref a :: argsL).toArray rest := by
  intro T locs cells slots hT X
  subst hg
  have hpl : e.platform.magicAccessors = ({} : Platform).magicAccessors := by rw [X.admits.platform]
  obtain ⟨mk, methM, cM, kP, vm₁, hnamed, hmethM, hcodeM, -, hlocalsM, -, hkP, -, hW₁, hstep₁⟩ := Steps.initColdArgsNest (e := e) X.here hexec X.warmed hpl hown hy1 hy hlink hinst hcode (f := g) rfl (fun sig h => by rw [h] at hlen; exact (Option.some.inj hlen).symm) hstack hdg
  exact ⟨vm₁, mk, hW₁, X.noted hW₁, hnamed, fun target h => hstep₁ _ fun acts => by rw [doInvoke_state]; exact h⟩
end MXI
/-- the callee's code stands among its words, with so many variables -/
def mx_Cd (y : MethodName) (maxL : Nat) (ws : List Cond) : Prop := (∃ (b : ByteArray) (r : Option FieldType), Cond.code y b maxL r ∈ ws) ∨ ∃ (b : ByteArray) (r : Option FieldType) (h : List (Nat × Nat × Nat × Nat)), Cond.codeWith y b maxL r h ∈ ws
/-- the machine, throwing x over the frame g, comes to a state with Q -/
def WT (p : Program) (l : Launch) (e : Env) (R : Room) (s : State) (m : MethodId) (args : Array Value) (below : List Frame) (meth : Method) (c : Code) (H : Heap) (locs : List Loc) (cells slots : Nat) (Q : State → Prop) (g : JFrame) (x : Addr) : Prop :=
  ∀ T : State, T.heap = H → Stand p l e R s m args below meth c T locs cells slots → ∃ t, Steps p.tables e below ((T.setTop g).pushFrame (.throwing x)) t ∧ Q t
section MXC
variable {p : Program} {l : Launch} {e : Env} {R : Room} {s : State} {m : MethodId} {args : Array Value} {below : List Frame} {meth : Method} {c : Code} {H : Heap} {locs : List Loc} {cells slots : Nat} {Q : State → Prop}
theorem mx_heap_top (T : State) (g : JFrame) : (T.setTop g).heap = T.heap := by simp [State.setTop, State.modifyTopJava]
theorem mx_vm_top (T : State) (g : JFrame) : (T.setTop g).vm = T.vm := by simp [State.setTop, State.modifyTopJava]
theorem mx_heap_thr (T : State) (g : JFrame) (x : Addr) : ((T.setTop g).pushFrame (.throwing x)).heap = T.heap := by simp [State.pushFrame, State.setFrames, State.setTop, State.modifyTopJava]
theorem mx_vm_thr (T : State) (g : JFrame) (x : Addr) : ((T.setTop g).pushFrame (.throwing x)).vm = T.vm := by simp [State.pushFrame, State.setFrames, State.setTop, State.modifyTopJava]
/-- a call comes back, or throws -/
theorem mx_back {y : MethodName} {ws : List Cond} {rm : Room} {Pc : Array Value → State → Prop} {Qc : Array Value → State → Outcome → State → Prop} {mc ms : Nat} {free : Addr → Prop} (hM : mx_M l y ws rm Pc Qc mc ms free)
    {g : JFrame} {a : Array Value} {rest : List Value} (hI : mx_Inv p l e R s m args below meth c H g y a rest) (hg : g.method = m) (hsize : g.locals.size = c.maxLocals) {ig : Instr} {len : Nat} (hdg : decode c.code g.pc = .ok (ig, len))
    (hrc : rm.cells = mc) (hrs : rm.slots = ms) (hR : rm.frames + 1 ≤ R.frames) {maxL : Nat} (hlo : 2 * g.monitorRoom + (rest.map fun v => v.category).sum + (maxL + 11) + rm.locals ≤ R.locals) (hcd : mx_Cd y maxL ws)
    (hws : ∀ w ∈ ws, ∀ (a' : Array Value) (U : State), s.WarmedH U.vm → w.before a' U = true) (hini : ∀ (a' : Array Value) (U : State), s.WarmedH U.vm → (Cond.initialized y.cls).before a' U = true)
    (hf : cells + mc ≤ R.cells ∧ slots + ms ≤ R.slots) (hP : ∀ (U : State) (g : JFrame) (mk : MethodId), U.heap = H → s.WarmedH U.vm → Pc a (U.calling g mk a))
    (T : State) (hT : T.heap = H) (X : Stand p l e R s m args below meth c T locs cells slots) :
    ∃ (o : Outcome) (st t T' : State) (L : List Loc), st.heap = H ∧ s.vm.Alike st.vm ∧ Stand p l e R s m args below meth c T' (locs ++ L) (cells + mc) (slots + ms) ∧ (∀ q ∈ L, free q.base) ∧ T'.heap = t.heap ∧ T'.vm = t.vm ∧ Qc a st o t ∧
      ((∃ v, o = .returned v ∧ Goes p e below T g T' { g with pc := g.pc + len, stack := v.toList ++ rest }) ∨ (∃ x, o = .threw x ∧ ∀ target, Steps p.tables e below ((T'.setTop { g with stack := rest }).pushFrame (.throwing x)) target → Steps p.tables e below (T.setTop g) target)) := by
  obtain ⟨vm₁, mk, hW₁, X₁, hn, hgo⟩ := hI T locs cells slots hT X
  have hn₁ : (T.setVm vm₁).methodNamed? y = some mk := X₁.named hn
  have hW₁' : s.WarmedH (T.setVm vm₁).vm := hW₁
  obtain ⟨methY, cY, hmY, hcY, hlY⟩ : ∃ methY cY, (T.setVm vm₁).vm.method? mk = some methY ∧ methY.code = some cY ∧ cY.maxLocals = maxL := by
    rcases hcd with ⟨b, r, hc⟩ | ⟨b, r, h, hc⟩
    · obtain ⟨methY, cY, hmY, hcY, -, hlY, -, -, -, -⟩ := Cond.code_spec hn₁ (hws _ hc a _ hW₁')
      exact ⟨methY, cY, hmY, hcY, hlY⟩
    · obtain ⟨mY', methY, cY, hnY', hmY, hcY, -, hlY, -, -, -, -⟩ := Cond.codeWith_spec (hws _ hc a _ hW₁')
      cases hn₁.symm.trans hnY'
      exact ⟨methY, cY, hmY, hcY, hlY⟩
  obtain ⟨kY, hkY, -⟩ := className_of_methodNamed hn₁
  have hinitY : kY.init = .initialized := Cond.initialized_spec (findClass_of_methodNamed hn₁) hkY (hini a _ hW₁')
  have h : At (T.setVm vm₁) ({ g with stack := rest } : JFrame).method c below := by show At _ g.method _ _; rw [hg]; exact X₁.here
  have happ : (headSpec ws rm).appliesLoose y e.platform ((T.setVm vm₁).calling { g with stack := rest } mk a) = true :=
    Spec.appliesLoose_calling (g := { g with stack := rest }) h hdg hn₁ hkY hinitY
      (X₁.room_calling (g := { g with stack := rest }) (R' := rm) hsize hmY hcY hR (by rw [hlY]; exact hlo) (by rw [hrc]; exact hf.1) (by rw [hrs]; exact hf.2)) (atoms_intro fun w hw => hws w hw _ _ hW₁')
  obtain ⟨mid, hmid⟩ := h.above
  have hfr : ((T.setVm vm₁).setTop { g with stack := rest }).frames = (.java { g with stack := rest } :: mid) ++ below := by rw [State.frames_setTop' _ h.top, hmid]; rfl
  obtain ⟨o, t, hsteps, -, hend, hq, L, hfe, hL⟩ := Steps.callFree hM p X₁.admits X₁.cas X₁.clock (acts := []) hfr happ (hP _ _ mk hT hW₁') trivial
  rw [State.frames_setTop' _ h.top, X₁.tail] at hend
  refine ⟨o, (T.setVm vm₁).calling { g with stack := rest } mk a, t, ?_⟩
  cases o with
  | returned v =>
    obtain ⟨T', X', -, -, ht⟩ := X₁.outOf (g := { g with stack := rest }) hg hdg hend hfe.1 hfe.2
    refine ⟨T', L, hT, hW₁.alike, X', hL, by rw [ht, mx_heap_top], by rw [ht, mx_vm_top], hq, Or.inl ⟨v, rfl, fun target hr => hgo target (hsteps.trans ?_)⟩⟩
    rw [ht]
    exact hr
  | threw x =>
    obtain ⟨T', X', -, -, ht⟩ := X₁.outOfThrown (g := { g with stack := rest }) hg hend hfe.1 hfe.2
    refine ⟨T', L, hT, hW₁.alike, X', hL, by rw [ht, mx_heap_thr], by rw [ht, mx_vm_thr], hq, Or.inr ⟨x, rfl, fun target hr => hgo target (hsteps.trans ?_)⟩⟩
    rw [ht]
    exact hr
/-- nothing catches it here -/
theorem mx_out {Qc : Array Value → State → Outcome → State → Prop} {free : Addr → Prop} {x : Addr} (hce : c.exceptionTable.isEmpty = true) (hlocks : meth.locks = false) (hq : ∀ t : State, t.heap = H → s.WarmedH t.vm → Qc args s (.threw x) t) (hf : ∀ q ∈ locs, free q.base)
    {g : JFrame} (hg : g.method = m) (hlocked : g.locked = none) (hentered : g.entered = []) : WT p l e R s m args below meth c H locs cells slots (mx_Q below Qc args s cells slots free) g x := by
  intro T hT X
  have hnil : c.exceptionTable.toList = [] := by simpa using hce
  obtain ⟨st, hrun, hended, hW, hsame⟩ := X.leaveThrown x (g := g) hg hlocked hentered (fun y hy => by rw [hnil] at hy; cases hy) hlocks
  exact ⟨_, st, .threw x, hrun, hended, hq _ hT hW, locs, ⟨hW, hsame⟩, hf⟩
end MXC
/-! ### rows over a memory -/
/-- the tables' rows of the classes: their fields' words, types, names apart -/
def mw_Tb (Ts : List Cond) (cl : List vw_C) (ty : Nat → Nat → FieldType) : Prop := ∀ (ci : Nat) (r : vw_C), cl[ci]? = some r → (∀ x ∈ u_ws r.1 r.2.1 r.2.2, x ∈ Ts) ∧ (∀ k, k < r.2.2 → parseFieldDescriptor (r.2.1 k).2.2.1 = some (ty ci k)) ∧ ∀ a, a < r.2.2 → ∀ b, b < r.2.2 → a ≠ b → (r.2.1 a).2.1 ≠ (r.2.1 b).2.1
def mw_K (p : Program) (s : State) (m : MethodId) (args : Array Value) (c : Code) (cc : ByteArray) (nL : Nat) (own : String) (D : va_G) (cl : List vw_C) (tys : List (ClassId × FieldType)) (Ts : List Cond) (ty : Nat → Nat → FieldType) : Prop :=
  p.tables.exec = Jvm.exec ∧ c.code = cc ∧ c.maxLocals = nL ∧ s.vm.findClass own = some m.cls ∧ (∀ x ∈ Ts, x.before args s = true) ∧ va_K D cl tys s ∧ mw_Tb Ts cl ty
/-- the pool's entry idx of 'own' is the field k of the class ci -/
def mw_Fl (Ts : List Cond) (cl : List vw_C) (own : String) (idx ci k : Nat) : Prop := ∃ (r : vw_C) (ref : String), cl[ci]? = some r ∧ k < r.2.2 ∧ Cond.fieldLink own idx ref (r.2.1 k).2.1 (r.2.1 k).2.2.1 ∈ Ts ∧ (ref = (r.2.1 k).1 ∨ Cond.sameField ref (r.2.1 k).1 (r.2.1 k).2.1 (r.2.1 k).2.2.1 ∈ Ts)
def mw_Fp (Ts : List Cond) (cl : List vw_C) (own : String) (idx ci k : Nat) : Prop := ∃ (r : vw_C) (ref : String), cl[ci]? = some r ∧ k < r.2.2 ∧ Cond.fieldLink own idx ref (r.2.1 k).2.1 (r.2.1 k).2.2.1 ∈ Ts ∧ (ref = (r.2.1 k).1 ∨ Cond.sameField ref (r.2.1 k).1 (r.2.1 k).2.1 (r.2.1 k).2.2.1 ∈ Ts) ∧ ((r.2.1 k).2.2.2 = false ∨ ((r.2.1 k).2.2.2 = true ∧ (r.2.1 k).1 = own))
section MWR
variable {p : Program} {l : Launch} {e : Env} {R : Room} {s : State} {m : MethodId} {args : Array Value} {below : List Frame} {meth : Method} {c : Code} {H : Heap} {locs : List Loc} {cells slots : Nat} {Q : State → Prop}
variable {cc : ByteArray} {nL pc : Nat} {ls : Array Slot} {rest : List Value} {own : String} {D : va_G} {cl : List vw_C} {tys : List (ClassId × FieldType)} {Ts : List Cond} {ty : Nat → Nat → FieldType} {w0 w : mw_W} {H0 : Heap} {a idx ci k : Nat}
theorem mw_get (K : mw_K p s m args c cc nL own D cl tys Ts ty) (hI : mw_I D cl w0 H0 w H locs) (hF : mw_Fl Ts cl own idx ci k) {fs : List Value} {v : Value} (ha : w a = some (.inr (ci, fs))) (hv : fs[k]? = some v) (hdg : decode cc pc = .ok (.getfield idx, 3))
    (kk : W p l e R s m args below meth c H locs cells slots Q (F0 m (pc + 3) ls (v :: rest))) : W p l e R s m args below meth c H locs cells slots Q (F0 m pc ls (.ref a :: rest)) := by
  obtain ⟨hx, hb, -, hown, hts, hK, hTb⟩ := K
  obtain ⟨⟨C, T, N⟩, ref, hc, hk, hl, hs⟩ := hF
  exact va_get hx hb hts (hTb ci _ hc).1 hown hK (hI.1.one ha) 0 rfl hc k hk (hts _ hl) (fun x hx => by
    rcases hs with e | e
    · rw [e]; exact hx
    · exact u_same (hts _ e) x hx) hv hdg kk
theorem mw_put (K : mw_K p s m args c cc nL own D cl tys Ts ty) (hI : mw_I D cl w0 H0 w H locs) (hF : mw_Fp Ts cl own idx ci k) (hin2 : ((∃ r, cl[ci]? = some r ∧ (r.2.1 k).2.2.2 = false) ∨ meth.name = "<init>")) {fs : List Value} {v : Value} (ha : w a = some (.inr (ci, fs))) (hn : narrow (ty ci k) v = v) (hfit : fits (ty ci k) v = true) (hl : k < fs.length) (hdg : decode cc pc = .ok (.putfield idx, 3))
    (kk : ∀ (H1 : Heap) (locs1 : List Loc), mw_I D cl w0 H0 (mw_up w a (.inr (ci, fs.set k v))) H1 locs1 → W p l e R s m args below meth c H1 locs1 cells slots Q (F0 m (pc + 3) ls rest)) : W p l e R s m args below meth c H locs cells slots Q (F0 m pc ls (v :: .ref a :: rest)) := by
  obtain ⟨hx, hb, -, hown, hts, hK, hTb⟩ := K
  obtain ⟨⟨C, T, N⟩, ref, hc, hk, hlk, hs, hff⟩ := hF
  obtain ⟨hin, hty, hnm⟩ := hTb ci _ hc
  have hsame : ∀ x, s.fieldFound? (T k).1 (T k).2.1 (T k).2.2.1 = some x → s.fieldFound? ref (T k).2.1 (T k).2.2.1 = some x := fun x hx => by
    rcases hs with e | e
    · rw [e]; exact hx
    · exact u_same (hts _ e) x hx
  have hap := va_apart (own := own) hts hin (ty ci) hty hnm hK hc
  obtain ⟨r, h1, cell, q1, q2, q3, q4⟩ := hI.1 a _ ha
  have hr : r = (C, T, N) := Option.some.inj (h1.symm.trans hc)
  subst hr
  obtain ⟨hS, hfc, kC, hkC, hkind⟩ := hK.1 ci _ hc
  obtain ⟨cf, kf, fi, f, hi, hsl⟩ := hS k hk
  have hlay := hts _ (hin _ (u_in_lay hk))
  unfold u_lay at hlay
  have hst := (u_facts hfc hkC (u_lays hts hin hk) hi).1
  have fin : ∀ (H' : Heap), H'[a]? = some (cell.setSlot (D.2 ci k) v) → H'.size = H.size → (∀ q, q ≠ a → H'[q]? = H[q]?) → W p l e R s m args below meth c H' (locs ++ [⟨a, D.2 ci k⟩]) cells slots Q (F0 m (pc + 3) ls rest) := fun H' e1 e2 e3 =>
    kk H' _ (hI.set ha ⟨_, hc, t_OB.to (V := updV (vp_V fs) k v) ⟨_, e1, q2, q3, t_set q4 hap hk v⟩ (fun j _ => vp_updV_set hl v j)⟩ e2 e3)
  by_cases hf : (T k).2.2.2 = true
  · have hin3 : meth.name = "<init>" := by
      rcases hin2 with ⟨r, hr, hr2⟩ | h
      · cases hc.symm.trans hr
        rw [hf] at hr2; cases hr2
      · exact h
    have hdecl : (T k).1 = own := by
      rcases hff with h | h
      · exact absurd (h.symm.trans hf) (by decide)
      · exact h.2
    rw [if_pos hf] at hlay
    have hcf : m.cls = cf := by
      obtain ⟨_, _, c', _, _, _, -, -, hf', -, -, -, hown2, -⟩ := Cond.laysFinal_spec hlay
      have e1 : c' = cf := by have := hi.symm.trans hf'; simp at this; exact this.1.symm
      rw [hdecl] at hown2
      rw [← e1]; exact Option.some.inj (hown.symm.trans hown2)
    have h6 := u_fits hfc hkC hkind (Or.inr hlay) hi (hty k hk) hn hfit
    refine W.putFinK hx hb hown (hts _ hlk) (hsame _ hi) hst hcf hin3 (by rw [q2]; exact h6) q1 q3 (by rw [hsl]; exact k2_hasslot (q4 k hk)) rfl rfl hdg fun H' e1 e2 e3 => ?_
    rw [hsl] at e1 ⊢
    exact fin H' e1 e2 e3
  · rw [if_neg hf] at hlay
    have h6 := u_store hfc hkC hkind hlay hi (hty k hk) hn hfit
    refine W.putK hx hb (f := f) ⟨hown, hts _ hlk, ⟨_, _, _, hsame _ hi⟩, hst⟩ (by rw [q2]; exact h6) q1 q3 (by rw [hsl]; exact k2_hasslot (q4 k hk)) rfl rfl hdg fun H' e1 e2 e3 => ?_
    rw [hsl] at e1 ⊢
    exact fin H' e1 e2 e3
theorem mw_new (K : mw_K p s m args c cc nL own D cl tys Ts ty) (hI : mw_I D cl w0 H0 w H locs) {C : String} {T : u_T} {N : Nat} (hc : cl[ci]? = some (C, T, N)) (hcl : Cond.classLink own idx C ∈ Ts) (hinst : Cond.instantiable C N ∈ Ts) (hini : Cond.initialized C ∈ Ts)
    {fs : List Value} (hfs : ∀ j, j < N → defaultValue (ty ci j) = vp_V fs j) (hcells : cells + 1 ≤ R.cells) (hslots : slots + N ≤ R.slots) (hdg : decode cc pc = .ok (.new idx, 3))
    (kk : ∀ (q : Nat) (H1 : Heap), w q = none → mw_I D cl w0 H0 (mw_up w q (.inr (ci, fs))) H1 locs → W p l e R s m args below meth c H1 locs (cells + 1) (slots + N) Q (F0 m (pc + 3) ls (.ref q :: rest))) : W p l e R s m args below meth c H locs cells slots Q (F0 m pc ls rest) := by
  obtain ⟨hx, hb, -, hown, hts, hK, hTb⟩ := K
  obtain ⟨hin, hty, -⟩ := hTb ci _ hc
  have hKn := hK.1 ci _ hc
  refine W.newcK hx hb hown (hts _ hcl) (hts _ hinst) (hts _ hini) rfl hdg hcells hslots hKn.2.1 rfl fun H1 kC hkC e1 z1 o1 => ?_
  exact kk H.size H1 (hI.fresh (Nat.le_refl _)) (hI.new ⟨_, hc, (u_born (ty ci) hts hin hKn hkC e1 hty).to hfs⟩ z1 o1)
theorem mw_alen (K : mw_K p s m args c cc nL own D cl tys Ts ty) (hI : mw_I D cl w0 H0 w H locs) (t0 : Nat) {cA : ClassId} {x : vp_A} {t : FieldType} (ha : w a = some (.inl (cA, x))) (ht : tys[t0]? = some (cA, t)) (hdg : decode cc pc = .ok (.arraylength, 1))
    (kk : W p l e R s m args below meth c H locs cells slots Q (F0 m (pc + 1) ls (.int (nI x.1) :: rest))) : W p l e R s m args below meth c H locs cells slots Q (F0 m pc ls (.ref a :: rest)) := by
  obtain ⟨hx, hb, -, hown, hts, hK, hTb⟩ := K
  exact va_alen hx hb hK (hI.1.one ha) 0 t0 rfl ht rfl hdg kk
theorem mw_lald (K : mw_K p s m args c cc nL own D cl tys Ts ty) (hI : mw_I D cl w0 H0 w H locs) (t0 : Nat) {cA : ClassId} {n : Nat} {f : Nat → Int64} (ha : w a = some (.inl (cA, n, .inr (.inl f)))) (ht : tys[t0]? = some (cA, .long)) {i : Int32} (j : Nat) (hi : i = nI j) (hj : j < n) (hn : n < 2 ^ 31) (hdg : decode cc pc = .ok (.laload, 1))
    (kk : W p l e R s m args below meth c H locs cells slots Q (F0 m (pc + 1) ls (.long (f j) :: rest))) : W p l e R s m args below meth c H locs cells slots Q (F0 m pc ls (.int i :: .ref a :: rest)) := by
  obtain ⟨hx, hb, -, hown, hts, hK, hTb⟩ := K
  subst hi
  exact va_lald hx hb hK (hI.1.one ha) 0 t0 rfl ht (vp_in_nI hj hn) hdg (by rw [nI_clamp (by omega)]; exact kk)
theorem mw_iald (K : mw_K p s m args c cc nL own D cl tys Ts ty) (hI : mw_I D cl w0 H0 w H locs) (t0 : Nat) {cA : ClassId} {n : Nat} {f : Nat → Int32} (ha : w a = some (.inl (cA, n, .inl f))) (ht : tys[t0]? = some (cA, .int)) {i : Int32} (j : Nat) (hi : i = nI j) (hj : j < n) (hn : n < 2 ^ 31) (hdg : decode cc pc = .ok (.iaload, 1))
    (kk : W p l e R s m args below meth c H locs cells slots Q (F0 m (pc + 1) ls (.int (f j) :: rest))) : W p l e R s m args below meth c H locs cells slots Q (F0 m pc ls (.int i :: .ref a :: rest)) := by
  obtain ⟨hx, hb, -, hown, hts, hK, hTb⟩ := K
  subst hi
  exact va_iald hx hb hK (hI.1.one ha) 0 t0 rfl ht (vp_in_nI hj hn) hdg (by rw [nI_clamp (by omega)]; exact kk)
theorem mw_bald (K : mw_K p s m args c cc nL own D cl tys Ts ty) (hI : mw_I D cl w0 H0 w H locs) (t0 : Nat) {cA : ClassId} {n : Nat} {f : Nat → Int32} (ha : w a = some (.inl (cA, n, .inl f))) (ht : tys[t0]? = some (cA, .byte)) {i : Int32} (j : Nat) (hi : i = nI j) (hj : j < n) (hn : n < 2 ^ 31) (hdg : decode cc pc = .ok (.baload, 1))
    (kk : W p l e R s m args below meth c H locs cells slots Q (F0 m (pc + 1) ls (.int (f j) :: rest))) : W p l e R s m args below meth c H locs cells slots Q (F0 m pc ls (.int i :: .ref a :: rest)) := by
  obtain ⟨hx, hb, -, hown, hts, hK, hTb⟩ := K
  subst hi
  exact va_bald hx hb hK (hI.1.one ha) 0 t0 rfl ht (vp_in_nI hj hn) hdg (by rw [nI_clamp (by omega)]; exact kk)
theorem mw_zald (K : mw_K p s m args c cc nL own D cl tys Ts ty) (hI : mw_I D cl w0 H0 w H locs) (t0 : Nat) {cA : ClassId} {n : Nat} {f : Nat → Int32} (ha : w a = some (.inl (cA, n, .inl f))) (ht : tys[t0]? = some (cA, .boolean)) {i : Int32} (j : Nat) (hi : i = nI j) (hj : j < n) (hn : n < 2 ^ 31) (hdg : decode cc pc = .ok (.baload, 1))
    (kk : W p l e R s m args below meth c H locs cells slots Q (F0 m (pc + 1) ls (.int (f j) :: rest))) : W p l e R s m args below meth c H locs cells slots Q (F0 m pc ls (.int i :: .ref a :: rest)) := by
  obtain ⟨hx, hb, -, hown, hts, hK, hTb⟩ := K
  subst hi
  exact va_zald hx hb hK (hI.1.one ha) 0 t0 rfl ht (vp_in_nI hj hn) hdg (by rw [nI_clamp (by omega)]; exact kk)
theorem mw_aald (K : mw_K p s m args c cc nL own D cl tys Ts ty) (hI : mw_I D cl w0 H0 w H locs) (t0 : Nat) {cA : ClassId} {C : String} {n : Nat} {f : Nat → Option Nat} (ha : w a = some (.inl (cA, n, .inr (.inr (.inr (.inr f)))))) (ht : tys[t0]? = some (cA, .object C)) {i : Int32} (j : Nat) (hi : i = nI j) (hj : j < n) (hn : n < 2 ^ 31) (hdg : decode cc pc = .ok (.aaload, 1))
    (kk : W p l e R s m args below meth c H locs cells slots Q (F0 m (pc + 1) ls (va_rf (f j) :: rest))) : W p l e R s m args below meth c H locs cells slots Q (F0 m pc ls (.int i :: .ref a :: rest)) := by
  obtain ⟨hx, hb, -, hown, hts, hK, hTb⟩ := K
  subst hi
  exact va_aldq hx hb hK (hI.1.one ha) 0 t0 rfl ht (vp_in_nI hj hn) hdg (by rw [nI_clamp (by omega)]; exact kk)
theorem mw_last (K : mw_K p s m args c cc nL own D cl tys Ts ty) (hI : mw_I D cl w0 H0 w H locs) (t0 : Nat) {cA : ClassId} {n : Nat} {f : Nat → Int64} (ha : w a = some (.inl (cA, n, .inr (.inl f)))) (ht : tys[t0]? = some (cA, .long)) {i : Int32} (j : Nat) {x : Int64} (hi : i = nI j) (hj : j < n) (hn : n < 2 ^ 31) (hdg : decode cc pc = .ok (.lastore, 1))
    (kk : ∀ (H1 : Heap) (locs1 : List Loc), mw_I D cl w0 H0 (mw_up w a (.inl (cA, n, .inr (.inl (vp_updL f j x))))) H1 locs1 → W p l e R s m args below meth c H1 locs1 cells slots Q (F0 m (pc + 1) ls rest)) : W p l e R s m args below meth c H locs cells slots Q (F0 m pc ls (.long x :: .int i :: .ref a :: rest)) := by
  obtain ⟨hx, hb, -, hown, hts, hK, hTb⟩ := K
  subst hi
  have hin := vp_in_nI hj hn
  refine W.last hx hb (hI.1 a _ ha) ((hK.2 t0 _ ht).1 n (fun j => .long (f j))) (fun q => by cases q) (by show ¬ (nI j < 0 ∨ (arrV _ _ _).slots.size ≤ _); rw [arrV_size]; exact hin) rfl rfl hdg fun H1 e z oq => ?_
  refine kk H1 _ (hI.set ha ?_ z oq)
  show H1[a]? = some (vp_cell _ _)
  rw [e]
  rw [vp_cell_l, vp_cell_l, arrV_store, nI_clamp (by omega)]
  congr 2
  funext q
  by_cases hq : q = j
  · subst hq
    simp [updV, vp_updL]
  · simp [updV, vp_updL, hq]
theorem mw_iast (K : mw_K p s m args c cc nL own D cl tys Ts ty) (hI : mw_I D cl w0 H0 w H locs) (t0 : Nat) {cA : ClassId} {n : Nat} {f : Nat → Int32} (ha : w a = some (.inl (cA, n, .inl f))) (ht : tys[t0]? = some (cA, .int)) {i : Int32} (j : Nat) {x : Int32} (hi : i = nI j) (hj : j < n) (hn : n < 2 ^ 31) (hdg : decode cc pc = .ok (.iastore, 1))
    (kk : ∀ (H1 : Heap) (locs1 : List Loc), mw_I D cl w0 H0 (mw_up w a (.inl (cA, n, .inl (upd f j x)))) H1 locs1 → W p l e R s m args below meth c H1 locs1 cells slots Q (F0 m (pc + 1) ls rest)) : W p l e R s m args below meth c H locs cells slots Q (F0 m pc ls (.int x :: .int i :: .ref a :: rest)) := by
  obtain ⟨hx, hb, -, hown, hts, hK, hTb⟩ := K
  subst hi
  have hin := vp_in_nI hj hn
  refine W.iast hx hb (hI.1 a _ ha) ((hK.2 t0 _ ht).1 n (fun j => .int (f j))) (fun q => by cases q) (by show ¬ (nI j < 0 ∨ (arrV _ _ _).slots.size ≤ _); rw [arrV_size]; exact hin) rfl rfl hdg fun H1 e z oq => ?_
  refine kk H1 _ (hI.set ha ?_ z oq)
  show H1[a]? = some (vp_cell _ _)
  rw [e]
  rw [vp_cell_i, vp_cell_i, arrV_store, nI_clamp (by omega)]
  congr 2
  funext q
  by_cases hq : q = j
  · subst hq
    simp [updV, upd]
  · simp [updV, upd, hq]
theorem mw_bast (K : mw_K p s m args c cc nL own D cl tys Ts ty) (hI : mw_I D cl w0 H0 w H locs) (t0 : Nat) {cA : ClassId} {n : Nat} {f : Nat → Int32} (ha : w a = some (.inl (cA, n, .inl f))) (ht : tys[t0]? = some (cA, .byte)) {i : Int32} (j : Nat) {x : Int32} (hi : i = nI j) (hj : j < n) (hn : n < 2 ^ 31) (hdg : decode cc pc = .ok (.bastore, 1))
    (kk : ∀ (H1 : Heap) (locs1 : List Loc), mw_I D cl w0 H0 (mw_up w a (.inl (cA, n, .inl (upd f j (vp_nar .byte x))))) H1 locs1 → W p l e R s m args below meth c H1 locs1 cells slots Q (F0 m (pc + 1) ls rest)) : W p l e R s m args below meth c H locs cells slots Q (F0 m pc ls (.int x :: .int i :: .ref a :: rest)) := by
  obtain ⟨hx, hb, -, hown, hts, hK, hTb⟩ := K
  subst hi
  have hin := vp_in_nI hj hn
  refine W.bast hx hb (hI.1 a _ ha) ((hK.2 t0 _ ht).1 n (fun j => .int (f j))) (fun q => by cases q) (by show ¬ (nI j < 0 ∨ (arrV _ _ _).slots.size ≤ _); rw [arrV_size]; exact hin) rfl rfl hdg fun H1 e z oq => ?_
  refine kk H1 _ (hI.set ha ?_ z oq)
  show H1[a]? = some (vp_cell _ _)
  rw [e]
  rw [vp_cell_i, vp_cell_i, arrV_store, nI_clamp (by omega)]
  congr 2
  funext q
  by_cases hq : q = j
  · subst hq
    simp [updV, upd, vp_nar]
    try rfl
  · simp [updV, upd, hq]
theorem mw_zast (K : mw_K p s m args c cc nL own D cl tys Ts ty) (hI : mw_I D cl w0 H0 w H locs) (t0 : Nat) {cA : ClassId} {n : Nat} {f : Nat → Int32} (ha : w a = some (.inl (cA, n, .inl f))) (ht : tys[t0]? = some (cA, .boolean)) {i : Int32} (j : Nat) {x : Int32} (hi : i = nI j) (hj : j < n) (hn : n < 2 ^ 31) (hdg : decode cc pc = .ok (.bastore, 1))
    (kk : ∀ (H1 : Heap) (locs1 : List Loc), mw_I D cl w0 H0 (mw_up w a (.inl (cA, n, .inl (upd f j (vp_nar .boolean x))))) H1 locs1 → W p l e R s m args below meth c H1 locs1 cells slots Q (F0 m (pc + 1) ls rest)) : W p l e R s m args below meth c H locs cells slots Q (F0 m pc ls (.int x :: .int i :: .ref a :: rest)) := by
  obtain ⟨hx, hb, -, hown, hts, hK, hTb⟩ := K
  subst hi
  have hin := vp_in_nI hj hn
  refine W.zast hx hb (hI.1 a _ ha) ((hK.2 t0 _ ht).1 n (fun j => .int (f j))) (fun q => by cases q) (by show ¬ (nI j < 0 ∨ (arrV _ _ _).slots.size ≤ _); rw [arrV_size]; exact hin) rfl rfl hdg fun H1 e z oq => ?_
  refine kk H1 _ (hI.set ha ?_ z oq)
  show H1[a]? = some (vp_cell _ _)
  rw [e]
  rw [vp_cell_i, vp_cell_i, arrV_store, nI_clamp (by omega)]
  congr 2
  funext q
  by_cases hq : q = j
  · subst hq
    simp [updV, upd, vp_nar]
    try rfl
  · simp [updV, upd, hq]
/-- a reference into an array of references: E is the array's component, C the stored object's class -/
theorem mw_aast (K : mw_K p s m args c cc nL own D cl tys Ts ty) (hI : mw_I D cl w0 H0 w H locs) (t0 : Nat) {cA : ClassId} {E : String} {n v : Nat} {vs : List Value} {f : Nat → Option Nat} (ha : w a = some (.inl (cA, n, .inr (.inr (.inr (.inr f)))))) (ht : tys[t0]? = some (cA, .object E)) {r : vw_C} (hv : w v = some (.inr (ci, vs))) (hc : cl[ci]? = some r) (hasg : ∀ comp : ClassId, s.vm.findClass E = some comp → s.vm.assignable (D.1 ci) comp = true)
    {i : Int32} (j : Nat) (hi : i = nI j) (hj : j < n) (hn : n < 2 ^ 31) (hdg : decode cc pc = .ok (.aastore, 1))
    (kk : ∀ (H1 : Heap) (locs1 : List Loc), mw_I D cl w0 H0 (mw_up w a (.inl (cA, n, .inr (.inr (.inr (.inr (va_up f j (some v)))))))) H1 locs1 → W p l e R s m args below meth c H1 locs1 cells slots Q (F0 m (pc + 1) ls rest)) : W p l e R s m args below meth c H locs cells slots Q (F0 m pc ls (.ref v :: .int i :: .ref a :: rest)) := by
  obtain ⟨hx, hb, -, hown, hts, hK, hTb⟩ := K
  subst hi
  obtain ⟨r', hr', cellV, g1, g2, g3, -⟩ := hI.1 v _ hv
  have hcls := (hK.1 ci r hc).2
  obtain ⟨kA, comp, k1, k2, k3, -⟩ := (hK.2 t0 _ ht).2
  obtain ⟨kC, hkC, -⟩ := hcls.2
  obtain ⟨kE, hkE, -⟩ := Vm.findClass_spec k3
  have h0 : ¬ nI j < 0 := nI_pos (by omega)
  refine W.aast hx hb (hI.1 a _ ha) (fun q h => by cases h) (fun h => by cases h) k1 k2 rfl hkE ⟨h0, by show _ < (arrV _ _ _).slots.size; rw [arrV_size, nI_clamp (by omega)]; exact hj⟩ g1 (fun q h => by rw [g3] at h; cases h) (by rw [g2]; exact hkC) (by rw [g2]; exact hasg comp k3) rfl rfl hdg fun H1 e z oq => ?_
  refine kk H1 _ (hI.set ha ?_ z oq)
  show H1[a]? = some (vp_cell _ _)
  rw [e]
  rw [vp_cell_q, vp_cell_q, arrV_store, nI_clamp (by omega)]
  congr 2
  funext q
  by_cases hq : q = j
  · subst hq
    simp [updV, va_up, va_rf]
  · simp [updV, va_up, hq]
theorem mw_aastN (K : mw_K p s m args c cc nL own D cl tys Ts ty) (hI : mw_I D cl w0 H0 w H locs) (t0 : Nat) {cA : ClassId} {E : String} {n : Nat} {f : Nat → Option Nat} (ha : w a = some (.inl (cA, n, .inr (.inr (.inr (.inr f)))))) (ht : tys[t0]? = some (cA, .object E))
    {i : Int32} (j : Nat) (hi : i = nI j) (hj : j < n) (hn : n < 2 ^ 31) (hdg : decode cc pc = .ok (.aastore, 1))
    (kk : ∀ (H1 : Heap) (locs1 : List Loc), mw_I D cl w0 H0 (mw_up w a (.inl (cA, n, .inr (.inr (.inr (.inr (va_up f j none))))))) H1 locs1 → W p l e R s m args below meth c H1 locs1 cells slots Q (F0 m (pc + 1) ls rest)) : W p l e R s m args below meth c H locs cells slots Q (F0 m pc ls (.null :: .int i :: .ref a :: rest)) := by
  obtain ⟨hx, hb, -, hown, hts, hK, hTb⟩ := K
  subst hi
  have hin := vp_in_nI hj hn
  refine va_WaastN hx hb (hI.1 a _ ha) ((hK.2 t0 _ ht).1 n (fun j => va_rf (f j))) (fun q => by cases q) (by show ¬ (nI j < 0 ∨ (arrV _ _ _).slots.size ≤ _); rw [arrV_size]; exact hin) rfl rfl hdg fun H1 e z oq => ?_
  refine kk H1 _ (hI.set ha ?_ z oq)
  show H1[a]? = some (vp_cell _ _)
  rw [e]
  rw [vp_cell_q, vp_cell_q, arrV_store, nI_clamp (by omega)]
  congr 2
  funext q
  by_cases hq : q = j
  · subst hq
    simp [updV, va_up, va_rf]
  · simp [updV, va_up, hq]
/-- a new array of a simple type -/
theorem mw_newa (K : mw_K p s m args c cc nL own D cl tys Ts ty) (hI : mw_I D cl w0 H0 w H locs) (t0 : Nat) {atype : ArrayType} {t : FieldType} (hty : newarray.typeOf atype = t) (harr : Cond.arrayClass t ∈ Ts) {cA : ClassId} (ht : tys[t0]? = some (cA, t)) (hno : ∀ C, t ≠ .object C)
    {n : Int32} {N' : Nat} {a0 : vp_A} (ha : ∀ cA : ClassId, vp_cell cA a0 = arrV cA N' (fun _ => defaultValue t)) (hn : ¬ n < 0) (hN : n.toNatClampNeg = N') (hbytes : N' * componentBytes t ≤ 536870912) (hcells : cells + 1 ≤ R.cells) (hslots : slots + N' ≤ R.slots) (hdg : decode cc pc = .ok (.newarray atype, 2))
    (kk : ∀ (q : Nat) (H1 : Heap), w q = none → mw_I D cl w0 H0 (mw_up w q (.inl (cA, a0))) H1 locs → W p l e R s m args below meth c H1 locs (cells + 1) (slots + N') Q (F0 m (pc + 2) ls (.ref q :: rest))) : W p l e R s m args below meth c H locs cells slots Q (F0 m pc ls (.int n :: rest)) := by
  obtain ⟨hx, hb, -, hown, hts, hK, hTb⟩ := K
  subst hty
  refine va_newaK hx hb (hts _ harr) rfl hdg rfl hn hN hbytes hcells hslots rfl fun H1 cA' e1 z1 o1 hAr hNm => ?_
  have hcA : cA' = cA := by
    have h2 := (hK.2 t0 _ ht).2
    have h3 : s.vm.findClass ("[" ++ (newarray.typeOf atype).toString) = some cA := by cases atype <;> exact h2
    exact Option.some.inj (hNm.symm.trans h3)
  subst hcA
  refine kk H.size H1 (hI.fresh (Nat.le_refl _)) (hI.new ?_ z1 o1)
  show H1[H.size]? = some (vp_cell _ _)
  rw [ha]
  exact e1
/-- a new array of references to objects of C -/
theorem mw_newq (K : mw_K p s m args c cc nL own D cl tys Ts ty) (hI : mw_I D cl w0 H0 w H locs) (t0 : Nat) {C : String} (hclink : Cond.classLink own idx C ∈ Ts) (hover : Cond.arrayOver (.object C) ∈ Ts) {cA : ClassId} (ht : tys[t0]? = some (cA, .object C))
    {n : Int32} {N' : Nat} (hn : ¬ n < 0) (hN : n.toNatClampNeg = N') (hbytes : N' * 4 ≤ 536870912) (hcells : cells + 1 ≤ R.cells) (hslots : slots + N' ≤ R.slots) (hdg : decode cc pc = .ok (.anewarray idx, 3))
    (kk : ∀ (q : Nat) (H1 : Heap), w q = none → mw_I D cl w0 H0 (mw_up w q (.inl (cA, N', .inr (.inr (.inr (.inr (fun _ => none))))))) H1 locs → W p l e R s m args below meth c H1 locs (cells + 1) (slots + N') Q (F0 m (pc + 3) ls (.ref q :: rest))) : W p l e R s m args below meth c H locs cells slots Q (F0 m pc ls (.int n :: rest)) := by
  obtain ⟨hx, hb, -, hown, hts, hK, hTb⟩ := K
  subst hN
  refine W.anew hx hb hown (hts _ hclink) (hts _ hover) rfl hdg rfl hn hbytes hcells hslots fun cA' kA comp f1 f2 f3 f4 => ?_
  have hcA : cA' = cA := by
    obtain ⟨kA', comp', g1, g2, g3, g4⟩ := (hK.2 t0 _ ht).2
    exact Option.some.inj (f1.symm.trans g4)
  subst hcA
  generalize hH1 : H.push ({ cls := cA', slots := Array.replicate n.toNatClampNeg .null, vm := .none } : Cell) = H1
  have z1 : H1.size = H.size + 1 := by rw [← hH1, Array.size_push]
  have e1 : H1[H.size]? = some (arrV cA' n.toNatClampNeg (fun _ => .null)) := by rw [← hH1, Array.getElem?_push_size, ← arrV_new]
  have o1 : ∀ q : Nat, q < H.size → H1[q]? = H[q]? := fun q hq => by rw [← hH1, Array.getElem?_push, if_neg (Nat.ne_of_lt hq)]
  refine kk H.size H1 (hI.fresh (Nat.le_refl _)) (hI.new ?_ z1 o1)
  show H1[H.size]? = some (vp_cell _ _)
  rw [vp_cell_q]
  exact e1
/-- the top gets another name -/
theorem mw_ti {x y : Int32} (h : x = y) (kk : W p l e R s m args below meth c H locs cells slots Q (F0 m pc ls (.int y :: rest))) : W p l e R s m args below meth c H locs cells slots Q (F0 m pc ls (.int x :: rest)) := by subst h; exact kk
theorem mw_tl {x y : Int64} (h : x = y) (kk : W p l e R s m args below meth c H locs cells slots Q (F0 m pc ls (.long y :: rest))) : W p l e R s m args below meth c H locs cells slots Q (F0 m pc ls (.long x :: rest)) := by subst h; exact kk
theorem mw_tv {x y : Value} (h : x = y) (kk : W p l e R s m args below meth c H locs cells slots Q (F0 m pc ls (y :: rest))) : W p l e R s m args below meth c H locs cells slots Q (F0 m pc ls (x :: rest)) := by subst h; exact kk
end MWR
/-! ### what of the start's statics and strings stays, whatever the classes do -/
def mw_Z (C n d : String) (U : State) (H : Heap) : Prop := ∃ (v : Value) (c : ClassId) (k : Class) (i : Nat) (f : Field) (a : Nat) (cell : Cell), v.isRef = true ∧ U.vm.findClass C = some c ∧ U.fieldFound? C n d = some (c, k, i, f) ∧ f.isStatic = true ∧ k.statics = some a ∧ H[a]? = some cell ∧ cell.vm.isStatics = true ∧ cell.cls = c ∧ f.slot < cell.slots.size ∧ k.staticTypes[f.slot]? = some f.type ∧ cell.slots[f.slot]? = some v
theorem mw_P.noStat {D : va_G} {cl : List vw_C} {w : mw_W} {H : Heap} (h : mw_P D cl w H) {a : Nat} {cell : Cell} (hc : H[a]? = some cell) (hs : cell.vm.isStatics = true) : w a = none := by
  cases hw : w a with
  | none => rfl
  | some x =>
    exfalso
    have h1 := h a x hw
    cases x with
    | inl r =>
      have h2 : H[a]? = some (vp_cell r.1 r.2) := h1
      have h3 : cell = vp_cell r.1 r.2 := Option.some.inj (hc.symm.trans h2)
      have h4 : (vp_cell r.1 r.2).vm.isStatics = true := by rw [← h3]; exact hs
      obtain ⟨cA, n, f | f | f | f | f⟩ := r <;> cases h4
    | inr o =>
      obtain ⟨r, -, cell', q1, -, q3, -⟩ := h1
      cases hc.symm.trans q1
      rw [q3] at hs
      cases hs
theorem mw_Z.kept {C n d : String} {U U1 : State} {H0 H : Heap} {D : va_G} {cl : List vw_C} {w0 : mw_W} {locs : List Loc} (h : mw_Z C n d U H0) (hvm : U.vm.Alike U1.vm) (hP : mw_P D cl w0 H0) (hS : va_S (mw_A w0 H0.size) H0 H locs) : mw_Z C n d U1 H := by
  obtain ⟨v, c, k, i, f, a, cell, hv, h0, h1, h2, h4, h5, h6, h7, h8, h9, h10⟩ := h
  have hlt := (Array.getElem?_eq_some_iff.mp h5).1
  have hn : ¬ mw_A w0 H0.size a := by
    rintro (⟨x, hx⟩ | hx)
    · rw [hP.noStat h5 h6] at hx; cases hx
    · omega
  obtain ⟨k', hi', he⟩ := State.fieldFound?_setVm hvm h1
  exact ⟨v, c, k', i, f, a, cell, hv, by rw [hvm.findClass]; exact h0, hi', h2, by rw [he]; exact h4, by rw [hS.2.1 a hlt hn]; exact h5, h6, h7, h8, by rw [he]; exact h9, h10⟩
def mw_Sy (strs : List (String × Nat × String)) (U : State) (H : Heap) : Prop := mw_Z Bundle.tN "UNASSIGNED_STACK" Bundle.steD U H ∧ mw_Z Bundle.tN "SUPPRESSED_SENTINEL" Bundle.listD U H ∧ ∀ q ∈ strs, ∃ a, vk_R q.1 q.2.1 q.2.2 a U
theorem mw_Sy.kept {strs : List (String × Nat × String)} {U U1 : State} {H0 H : Heap} {D : va_G} {cl : List vw_C} {w0 : mw_W} {locs : List Loc} (h : mw_Sy strs U H0) (hvm : U.WarmedH U1.vm) (hP : mw_P D cl w0 H0) (hS : va_S (mw_A w0 H0.size) H0 H locs) : mw_Sy strs U1 H :=
  ⟨h.1.kept hvm.alike hP hS, h.2.1.kept hvm.alike hP hS, fun q hq => by
    obtain ⟨a, ha⟩ := h.2.2 q hq
    exact ⟨a, ha.warm hvm⟩⟩
/-! ### contracts over a memory -/
abbrev mw_R : Type := Option Value ⊕ Nat
def mw_En : Nat → String
  | 0 => "java/lang/IllegalArgumentException"
  | 1 => "java/lang/IllegalStateException"
  | _ => "java/lang/IndexOutOfBoundsException"
def mw_X (k : Nat) (x : Addr) (U : State) (H : Heap) : Prop := ∃ cell : Cell, H[x]? = some cell ∧ cell.vm.isStatics = false ∧ U.vm.findClass (mw_En k) = some cell.cls
def mw_O (o : Outcome) (r : mw_R) (t : State) : Prop := match r with
  | .inl v => o = .returned v
  | .inr k => ∃ x, o = .threw x ∧ mw_X k x t t.heap
def mw_Qc (D : va_G) (cl : List vw_C) (w : mw_W) (sz : Nat) (post : mw_R → mw_W → Prop) : Array Value → State → Outcome → State → Prop := fun _ st o t => ∃ (r : mw_R) (w' : mw_W), mw_O o r t ∧ post r w' ∧ mw_P D cl w' t.heap ∧ (∀ (q : Nat) (x : va_E), w' q = some x → mw_A w sz q) ∧ va_F (mw_A w sz) st t
def mw_Pc (D : va_G) (cl : List vw_C) (tys : List (ClassId × FieldType)) (strs : List (String × Nat × String)) (w : mw_W) (sz : Nat) (as : List Value) : Array Value → State → Prop := fun a U => a = as.toArray ∧ U.heap.size = sz ∧ mw_P D cl w U.heap ∧ va_K D cl tys U ∧ mw_Sy strs U U.heap
def mw_Ct (l : Launch) (D : va_G) (cl : List vw_C) (tys : List (ClassId × FieldType)) (strs : List (String × Nat × String)) (y : MethodName) (ws : List Cond) (fr lo mc ms : Nat) (as : List Value) (w : mw_W) (post : mw_R → mw_W → Prop) : Prop :=
  ∀ sz : Nat, mx_M l y ws { frames := fr, cells := mc, slots := ms, locals := lo } (mw_Pc D cl tys strs w sz as) (mw_Qc D cl w sz post) mc ms (mw_A w sz)
theorem mw_Ct.mono {l : Launch} {D : va_G} {cl : List vw_C} {tys : List (ClassId × FieldType)} {strs : List (String × Nat × String)} {y : MethodName} {ws : List Cond} {fr lo mc ms : Nat} {as : List Value} {w : mw_W} {post post' : mw_R → mw_W → Prop} (h : mw_Ct l D cl tys strs y ws fr lo mc ms as w post) (hp : ∀ r w', post r w' → post' r w') : mw_Ct l D cl tys strs y ws fr lo mc ms as w post' := by
  intro sz p e ha hc hk s m args below hf happ hP hK
  obtain ⟨n, o, h1, h2, h3, ⟨r, w', g1, g2, g3⟩, g4⟩ := h sz p e ha hc hk s m args below hf happ hP hK
  exact ⟨n, o, h1, h2, h3, ⟨r, w', g1, hp r w' g2, g3⟩, g4⟩
section MWC
variable {p : Program} {l : Launch} {e : Env} {R : Room} {s : State} {m : MethodId} {args : Array Value} {below : List Frame} {meth : Method} {c : Code} {H : Heap} {locs : List Loc} {cells slots : Nat} {Q : State → Prop}
variable {cc : ByteArray} {nL pc : Nat} {ls : Array Slot} {rest st0 : List Value} {own : String} {D : va_G} {cl : List vw_C} {tys : List (ClassId × FieldType)} {Ts : List Cond} {ty : Nat → Nat → FieldType} {w0 w : mw_W} {strs : List (String × Nat × String)}
/-- a method's body, from its entry -/
theorem mw_meth {y : MethodName} {ret : Option FieldType} {fr lo mc ms : Nat} {as : List Value} {post : mw_R → mw_W → Prop} (hy : plainName y.cls = true) (hTb : mw_Tb Ts cl ty) (has : (lg_sl as).length ≤ nL)
    (body : ∀ (p : Program) (e : Env) (s : State) (m : MethodId) (below : List Frame) (meth : Method) (c : Code), mw_K p s m as.toArray c cc nL y.cls D cl tys Ts ty → meth.sig.returnType = ret → meth.locks = false → c.exceptionTable.isEmpty = true → meth.name = y.name → mw_P D cl w s.heap → mw_Sy strs s s.heap → ∀ ls : Array Slot, lv_has ls nL (lv_args 0 as) →
      W p l e { frames := fr, cells := mc, slots := ms, locals := lo } s m as.toArray below meth c s.heap [] 0 0 (mx_Q below (mw_Qc D cl w s.heap.size post) as.toArray s mc ms (mw_A w s.heap.size)) (F0 m 0 ls [])) :
    mw_Ct l D cl tys strs y (Cond.code y cc nL ret :: Ts) fr lo mc ms as w post := by
  intro sz
  refine mx_ofW (cc := cc) (maxL := nL) (ret := ret) hy rfl ?_
  intro p e s m args below meth c s₁ B hml hce hv
  obtain ⟨rfl, hsz, hP, hK, hSy⟩ := hv
  have hts := atoms_spec (ws := Cond.code y cc nL ret :: Ts) B.pre
  have hown : s.vm.findClass y.cls = some m.cls := findClass_of_methodNamed B.named
  subst hsz
  have hl := lv_entry as (n := nL) has
  rw [lg_entry_eq]
  generalize (lg_sl as ++ List.replicate (nL - (lg_sl as).length) Slot.unset).toArray = ls at hl ⊢
  exact body p e s m below meth c ⟨B.exec, B.bytes, hml, hown, fun x hx => hts x (List.mem_cons_of_mem _ hx), hK, hTb⟩ B.returns B.notSynchronized hce (name_of_methodNamed B.named B.method).1 hP hSy ls hl
theorem mw_methH {y : MethodName} {ret : Option FieldType} {hs : List (Nat × Nat × Nat × Nat)} {fr lo mc ms : Nat} {as : List Value} {post : mw_R → mw_W → Prop} (hy : plainName y.cls = true) (hTb : mw_Tb Ts cl ty) (has : (lg_sl as).length ≤ nL)
    (body : ∀ (p : Program) (e : Env) (s : State) (m : MethodId) (below : List Frame) (meth : Method) (c : Code), mw_K p s m as.toArray c cc nL y.cls D cl tys Ts ty → meth.sig.returnType = ret → meth.locks = false → c.exceptionTable.toList.map (fun h => (h.startPc, h.endPc, h.handlerPc, h.catchType)) = hs → mw_P D cl w s.heap → mw_Sy strs s s.heap → ∀ ls : Array Slot, lv_has ls nL (lv_args 0 as) →
      W p l e { frames := fr, cells := mc, slots := ms, locals := lo } s m as.toArray below meth c s.heap [] 0 0 (mx_Q below (mw_Qc D cl w s.heap.size post) as.toArray s mc ms (mw_A w s.heap.size)) (F0 m 0 ls [])) :
    mw_Ct l D cl tys strs y (Cond.codeWith y cc nL ret hs :: Ts) fr lo mc ms as w post := by
  intro sz
  refine mx_ofWH (cc := cc) (maxL := nL) (ret := ret) hy rfl ?_
  intro p e s m args below meth c s₁ B hml hce hv
  obtain ⟨rfl, hsz, hP, hK, hSy⟩ := hv
  have hts := atoms_spec (ws := Cond.codeWith y cc nL ret hs :: Ts) B.pre
  have hown : s.vm.findClass y.cls = some m.cls := findClass_of_methodNamed B.named
  subst hsz
  have hl := lv_entry as (n := nL) has
  rw [lg_entry_eq]
  generalize (lg_sl as ++ List.replicate (nL - (lg_sl as).length) Slot.unset).toArray = ls at hl ⊢
  exact body p e s m below meth c ⟨B.exec, B.bytes, hml, hown, fun x hx => hts x (List.mem_cons_of_mem _ hx), hK, hTb⟩ B.returns B.notSynchronized hce hP hSy ls hl
/-- a call that comes back, or throws -/
theorem mw_call (K : mw_K p s m args c cc nL own D cl tys Ts ty) (hSy : mw_Sy strs s s.heap) (hP0 : mw_P D cl w0 s.heap) (hI : mw_I D cl w0 s.heap w H locs) {y : MethodName} {ws : List Cond} {fr lo mc ms : Nat} {as : List Value} {post : mw_R → mw_W → Prop} (hC : mw_Ct l D cl tys strs y ws fr lo mc ms as w post)
    (hV : mx_Inv p l e R s m args below meth c H (F0 m pc ls st0) y as.toArray rest) (hls : ls.size = nL) {ig : Instr} (hdg : decode cc pc = .ok (ig, 3)) {maxL : Nat} (hR : fr + 1 ≤ R.frames ∧ (rest.map fun v => v.category).sum + (maxL + 11) + lo ≤ R.locals) (hcd : mx_Cd y maxL ws)
    (hws : ∀ x ∈ ws, ∀ (a' : Array Value) (U : State), s.WarmedH U.vm → x.before a' U = true) (hini : ∀ (a' : Array Value) (U : State), s.WarmedH U.vm → (Cond.initialized y.cls).before a' U = true) (hf : cells + mc ≤ R.cells ∧ slots + ms ≤ R.slots)
    (kR : ∀ (v : Option Value) (w' : mw_W) (H1 : Heap) (locs1 : List Loc), post (.inl v) w' → mw_I D cl w0 s.heap w' H1 locs1 → W p l e R s m args below meth c H1 locs1 (cells + mc) (slots + ms) Q (F0 m (pc + 3) ls (v.toList ++ rest)))
    (kX : ∀ (k : Nat) (x : Addr) (w' : mw_W) (H1 : Heap) (locs1 : List Loc), post (.inr k) w' → mw_I D cl w0 s.heap w' H1 locs1 → mw_X k x s H1 → WT p l e R s m args below meth c H1 locs1 (cells + mc) (slots + ms) Q (F0 m pc ls rest) x) :
    W p l e R s m args below meth c H locs cells slots Q (F0 m pc ls st0) := by
  intro T hT X
  obtain ⟨hx, hb, hml, hown, hts, hK, hTb⟩ := K
  have hmon : (F0 m pc ls st0).monitorRoom = 0 := rfl
  obtain ⟨o, st, t, T', L, h0, hal, X', hL, e1, e2, ⟨r, w', hO, hpo, hP', hdom, hF⟩, hgo⟩ := mx_back (hC H.size) hV rfl (by show ls.size = _; rw [hls, hml]) (by rw [hb]; exact hdg) rfl rfl hR.1 (by rw [hmon]; have := hR.2; dsimp only; omega) hcd hws hini hf
    (fun U g mk hU hW => ⟨rfl, by show U.heap.size = _; rw [hU], by show mw_P D cl w U.heap; rw [hU]; exact hI.1, va_K.moved hW.alike hK, by show mw_Sy strs (U.calling g mk _) U.heap; rw [hU]; exact mw_Sy.kept (U1 := U.calling g mk as.toArray) hSy hW hP0 hI.2.1⟩) T hT X
  have hA0 : ∀ q, mw_A w H.size q → mw_A w0 s.heap.size q := fun q hq => by
    rcases hq with ⟨x, hx⟩ | hq
    · exact hI.2.2 q x hx
    · exact Or.inr (Nat.le_trans hI.2.1.1 hq)
  have hI' : mw_I D cl w0 s.heap w' T'.heap (locs ++ L) := by
    refine ⟨by rw [e1]; exact hP', ⟨?_, fun q h1 h2 => ?_, fun q hq => ?_⟩, fun q x hx => hA0 q (hdom q x hx)⟩
    · rw [e1]; have := hF.1; rw [h0] at this; exact Nat.le_trans hI.2.1.1 this
    · have h3 := hF.2 q (by rw [h0]; exact Nat.lt_of_lt_of_le h1 hI.2.1.1) (fun z => h2 (hA0 q z))
      rw [e1, h3, h0]
      exact hI.2.1.2.1 q h1 h2
    · rcases List.mem_append.mp hq with h | h
      · exact hI.2.1.2.2 q h
      · exact hA0 _ (hL q h)
  cases r with
  | inl v =>
    have hO' : o = .returned v := hO
    subst hO'
    rcases hgo with ⟨v', hv', hgo⟩ | ⟨x, hv', -⟩
    · cases hv'
      obtain ⟨t2, a1, b1⟩ := kR v w' T'.heap (locs ++ L) hpo hI' T' rfl X'
      exact ⟨t2, hgo t2 a1, b1⟩
    · cases hv'
  | inr k =>
    obtain ⟨x, hO', cell, hX1, hX2, hX3⟩ := hO
    subst hO'
    rcases hgo with ⟨v', hv', -⟩ | ⟨x', hv', hgo⟩
    · cases hv'
    · cases hv'
      have hal2 : s.vm.Alike t.vm := by rw [← e2]; exact X'.warmed.alike
      obtain ⟨t2, a1, b1⟩ := kX k x w' T'.heap (locs ++ L) hpo hI' ⟨cell, by rw [e1]; exact hX1, hX2, by rw [← hal2.findClass]; exact hX3⟩ T' rfl X'
      exact ⟨t2, hgo t2 a1, b1⟩
/-- nothing here catches it: the method throws it on -/
theorem mw_on {post : mw_R → mw_W → Prop} {k : Nat} {x : Addr} (hI : mw_I D cl w0 s.heap w H locs) (hce : c.exceptionTable.isEmpty = true) (hlocks : meth.locks = false) (hX : mw_X k x s H) (hp : post (.inr k) w) : WT p l e R s m args below meth c H locs cells slots (mx_Q below (mw_Qc D cl w0 s.heap.size post) args s cells slots (mw_A w0 s.heap.size)) (F0 m pc ls rest) x := by
  refine mx_out hce hlocks (fun t ht hW => ?_) hI.2.1.2.2 rfl rfl rfl
  obtain ⟨cell, h1, h2, h3⟩ := hX
  exact ⟨.inr k, w, ⟨x, rfl, cell, by rw [ht]; exact h1, h2, by rw [hW.alike.findClass]; exact h3⟩, hp, by rw [ht]; exact hI.1, hI.2.2, hI.2.1.F ht⟩
theorem mw_iret {post : mw_R → mw_W → Prop} (K : mw_K p s m args c cc nL own D cl tys Ts ty) (hI : mw_I D cl w0 s.heap w H locs) (hr : meth.sig.returnType = some .int) (hlocks : meth.locks = false) {v : Int32} (hp : post (.inl (some (.int v))) w) (hdg : decode cc pc = .ok (.ireturn, 1)) : W p l e R s m args below meth c H locs cells slots (mx_Q below (mw_Qc D cl w0 s.heap.size post) args s cells slots (mw_A w0 s.heap.size)) (F0 m pc ls [.int v]) :=
  W.mono mx_of_MQ (W.iret K.1 K.2.1 hr (fun t ht hW => ⟨.inl _, w, rfl, hp, by rw [ht]; exact hI.1, hI.2.2, hI.2.1.F ht⟩) hI.2.1.2.2 hdg hlocks)
theorem mw_zret {post : mw_R → mw_W → Prop} (K : mw_K p s m args c cc nL own D cl tys Ts ty) (hI : mw_I D cl w0 s.heap w H locs) (hr : meth.sig.returnType = some .boolean) (hlocks : meth.locks = false) {v : Int32} (hv : v = 0 ∨ v = 1) (hp : post (.inl (some (.int v))) w) (hdg : decode cc pc = .ok (.ireturn, 1)) : W p l e R s m args below meth c H locs cells slots (mx_Q below (mw_Qc D cl w0 s.heap.size post) args s cells slots (mw_A w0 s.heap.size)) (F0 m pc ls [.int v]) :=
  W.mono mx_of_MQ (W.zret K.1 K.2.1 hr (by rcases hv with rfl | rfl; exact narrow_b0; exact narrow_b1) (fun t ht hW => ⟨.inl _, w, rfl, hp, by rw [ht]; exact hI.1, hI.2.2, hI.2.1.F ht⟩) hI.2.1.2.2 hdg hlocks)
theorem mw_lret {post : mw_R → mw_W → Prop} (K : mw_K p s m args c cc nL own D cl tys Ts ty) (hI : mw_I D cl w0 s.heap w H locs) (hr : meth.sig.returnType = some .long) (hlocks : meth.locks = false) {v : Int64} (hp : post (.inl (some (.long v))) w) (hdg : decode cc pc = .ok (.lreturn, 1)) : W p l e R s m args below meth c H locs cells slots (mx_Q below (mw_Qc D cl w0 s.heap.size post) args s cells slots (mw_A w0 s.heap.size)) (F0 m pc ls [.long v]) :=
  W.mono mx_of_MQ (W.lret K.1 K.2.1 hr (fun t ht hW => ⟨.inl _, w, rfl, hp, by rw [ht]; exact hI.1, hI.2.2, hI.2.1.F ht⟩) hI.2.1.2.2 hdg hlocks)
theorem mw_vret {post : mw_R → mw_W → Prop} (K : mw_K p s m args c cc nL own D cl tys Ts ty) (hI : mw_I D cl w0 s.heap w H locs) (hr : meth.sig.returnType = none) (hlocks : meth.locks = false) (hp : post (.inl none) w) (hdg : decode cc pc = .ok (.return_, 1)) : W p l e R s m args below meth c H locs cells slots (mx_Q below (mw_Qc D cl w0 s.heap.size post) args s cells slots (mw_A w0 s.heap.size)) (F0 m pc ls []) :=
  W.mono mx_of_MQ (W.vret K.1 K.2.1 hr (fun t ht hW => ⟨.inl _, w, rfl, hp, by rw [ht]; exact hI.1, hI.2.2, hI.2.1.F ht⟩) hI.2.1.2.2 hdg hlocks)
theorem mw_aret {post : mw_R → mw_W → Prop} (K : mw_K p s m args c cc nL own D cl tys Ts ty) (hI : mw_I D cl w0 s.heap w H locs) {rt : FieldType} (hr : meth.sig.returnType = some rt) (hrt : (∃ n, rt = .object n) ∨ ∃ t, rt = .array t) (hlocks : meth.locks = false) {v : Value} (hv : v = .null ∨ ∃ a, v = .ref a) (hp : post (.inl (some v)) w) (hdg : decode cc pc = .ok (.areturn, 1)) : W p l e R s m args below meth c H locs cells slots (mx_Q below (mw_Qc D cl w0 s.heap.size post) args s cells slots (mw_A w0 s.heap.size)) (F0 m pc ls [v]) :=
  W.mono mx_of_MQ (W.aret K.1 K.2.1 hr hrt hv (fun t ht hW => ⟨.inl _, w, rfl, hp, by rw [ht]; exact hI.1, hI.2.2, hI.2.1.F ht⟩) hI.2.1.2.2 hdg hlocks)
end MWC
theorem mw_Z.cond {C n d : String} {s : State} (h : mw_Z C n d s s.heap) (args : Array Value) : (Cond.isRef (.static C n d)).before args s = true := by
  obtain ⟨v, c, k, i, f, a, cell, hv, h0, h1, h2, h4, h5, h6, h7, h8, h9, h10⟩ := h
  have he : (Term.static C n d).eval args s none [] s = some v := by simp [Term.eval, State.fieldNamed?, h1, h2, h4, h5, h6, h10]
  simp only [Cond.before, Cond.holds, Cond.value, he]
  cases v <;> simp_all [Value.isRef]
theorem mw_Z.lays {C n d : String} {s : State} (h : mw_Z C n d s s.heap) (args : Array Value) : (Cond.laysStatic C n d).before args s = true := by
  obtain ⟨v, c, k, i, f, a, cell, hv, h0, h1, h2, h4, h5, h6, h7, h8, h9, h10⟩ := h
  show (Cond.laysStatic C n d).holds args s none s [] = true
  exact Cond.laysStatic_of h0 h1 h2 h4 h5 h6 h7 h8 h9
theorem mw_Z.of {C n d : String} {s : State} {args : Array Value} (hl : (Cond.laysStatic C n d).before args s = true) (h : (Cond.isRef (.static C n d)).before args s = true) : mw_Z C n d s s.heap := by
  obtain ⟨c, k, i, f, a, cell, h1, h2, h3, h4, h5, h6, h7, h8, h9⟩ := Cond.laysStatic_spec hl
  have hv : ∃ v, cell.slots[f.slot]? = some v := ⟨_, Array.getElem?_eq_getElem h8⟩
  obtain ⟨v, hv⟩ := hv
  have he : (Term.static C n d).eval args s none [] s = some v := by simp [Term.eval, State.fieldNamed?, h2, h3, h4, h5, h6, hv]
  have hr : v.isRef = true := by
    simp only [Cond.before, Cond.holds, Cond.value, he] at h
    cases v <;> simp_all [Value.isRef]
  exact ⟨v, c, k, i, f, a, cell, hr, h1, h2, h3, h4, h5, h6, h7, h8, h9, hv⟩
def mw_L (l : Launch) : Prop := ∀ e, l.admits e → e.platform.stackTraces = false
section MWT
variable {p : Program} {l : Launch} {e : Env} {R : Room} {s : State} {m : MethodId} {args : Array Value} {below : List Frame} {meth : Method} {c : Code} {cells slots : Nat}
variable {cc : ByteArray} {nL pc : Nat} {ls : Array Slot} {rest : List Value} {own : String} {D : va_G} {cl : List vw_C} {tys : List (ClassId × FieldType)} {Ts : List Cond} {ty : Nat → Nat → FieldType} {w0 : mw_W} {strs : List (String × Nat × String)}
/-- 'throw new X("..")', where nothing has been written yet -/
theorem mw_throw {post : mw_R → mw_W → Prop} (K : mw_K p s m args c cc nL own D cl tys Ts ty) (htr : mw_L l) (hSy : mw_Sy strs s s.heap) (hP0 : mw_P D cl w0 s.heap) (hce : c.exceptionTable.isEmpty = true) (hlocks : meth.locks = false) (k : Nat) {X : String} (hk : mw_En k = X) {names : List String} {inew istr ic : Nat} {tx : String}
    (hcls : Bundle.fit X = true) (hnames : ∀ n ∈ names, Bundle.fit n = true) (hTs : ∀ a ∈ Bundle.ownAtoms own ic X names, a ∈ Ts ∨ a = .isRef (.static Bundle.tN "UNASSIGNED_STACK" Bundle.steD) ∨ a = .isRef (.static Bundle.tN "SUPPRESSED_SENTINEL" Bundle.listD) ∨ a = .laysStatic Bundle.tN "UNASSIGNED_STACK" Bundle.steD ∨ a = .laysStatic Bundle.tN "SUPPRESSED_SENTINEL" Bundle.listD)
    (hstr : (own, istr, tx) ∈ strs) (hcl : Cond.classLink own inew X ∈ Ts) (hini : Cond.initialized X ∈ Ts) (hinst : Cond.instantiable X 6 ∈ Ts) (hls : ls.size = nL)
    (d0 : decode cc pc = .ok (.new inew, 3)) (d3 : decode cc (pc + 3) = .ok (.dup, 1)) (d4 : decode cc (pc + 4) = .ok (.ldc istr, 2)) (d6 : decode cc (pc + 6) = .ok (.invokespecial ic, 3)) (d9 : decode cc (pc + 9) = .ok (.athrow, 1))
    (hcells : cells + 1 ≤ R.cells) (hslots : slots + 6 ≤ R.slots) (hRf : names.length + 3 < R.frames) (hRl : (rest.map fun v => v.category).sum + 1 + (13 * (names.length + 1) + 42) ≤ R.locals) (hp : post (.inr k) w0) :
    W p l e R s m args below meth c s.heap [] cells slots (mx_Q below (mw_Qc D cl w0 s.heap.size post) args s (cells + 1) (slots + 6) (mw_A w0 s.heap.size)) (F0 m pc ls rest) := by
  obtain ⟨hx, hb, hml, hown, hts, hK, hTb⟩ := K
  obtain ⟨cX, kX0, hfX, hkX0, -⟩ := Cond.instantiable_spec (hts _ hinst)
  refine W.newcK hx hb hown (hts _ hcl) (hts _ hinst) (hts _ hini) rfl d0 hcells hslots hfX rfl fun H1 kC hkC e1 z1 o1 => ?_
  show W p l e R s m args below meth c H1 [] (cells + 1) (slots + 6) _ (F0 m (pc + 3) ls (.ref s.heap.size :: rest))
  refine lv_dup hx hb d3 rfl ?_
  obtain ⟨q, hq⟩ := hSy.2.2 (own, istr, tx) hstr
  refine va_ldcS hx hb hown hq d4 ?_
  intro T hT X
  have hnil : c.exceptionTable.toList = [] := by simpa using hce
  obtain ⟨U, st, hrun, hended, hW, hsame, ce, hce1, hOwn⟩ := X.ctorThrowS hx (htr e X.admits) hown hcls hnames (fun a ha => by
      rcases hTs a ha with h | h | h | h | h
      · exact hts a h
      · rw [h]; exact hSy.1.cond args
      · rw [h]; exact hSy.2.1.cond args
      · rw [h]; exact hSy.1.lays args
      · rw [h]; exact hSy.2.1.lays args) (fun y hy => by cases hy) (a := s.heap.size) (cX := cX) (kX := kC) hfX hkC (by rw [hT]; exact e1) (Nat.le_refl _) (msg := .ref q) rfl
    (g := F0 m (pc + 4 + 2) ls (.ref q :: .ref s.heap.size :: .ref s.heap.size :: rest)) rfl (by show ls.size = _; rw [hls, hml]) rfl rfl (rest := rest) rfl (by rw [hb]; exact d6) (by rw [hb]; exact d9) (fun y hy => by rw [hnil] at hy; cases hy)
    hRf (by
      have hmon : (F0 m (pc + 4 + 2) ls (.ref q :: .ref s.heap.size :: .ref s.heap.size :: rest)).monitorRoom = 0 := rfl
      have hcat : (Value.ref s.heap.size).category = 1 := rfl
      rw [hmon, List.map_cons, List.sum_cons, hcat]; omega) hlocks
  have hkeep : ∀ y : Nat, y < s.heap.size → U.heap[y]? = s.heap[y]? := fun y hy => by
    obtain ⟨cy, hcy⟩ : ∃ cy, s.heap[y]? = some cy := ⟨s.heap[y], Array.getElem?_eq_getElem hy⟩
    have := State.sameButNew.old_cell hsame hcy
    rw [hcy]; exact this
  refine ⟨U, st, .threw s.heap.size, hrun, hended, ⟨.inr k, w0, ⟨s.heap.size, rfl, ce, hce1, by rw [hOwn.vm]; rfl, by rw [hk, hW.alike.findClass]; exact hOwn.cls⟩, hp, fun y x hy => (hP0 y x hy).kept (hkeep y (hP0 y x hy).lt), fun y x hy => Or.inl ⟨x, hy⟩, hsame.2.1, fun y hy _ => hkeep y hy⟩, [], ⟨hW, hsame⟩, fun y hy => by cases hy⟩
end MWT
/-! ### methods that touch no memory -/
def mp_Ct (l : Launch) (y : MethodName) (ws : List Cond) (fr lo : Nat) (as : List Value) (post : Option Value → Prop) : Prop :=
  mx_M l y ws { frames := fr, cells := 0, slots := 0, locals := lo } (fun a _ => a = as.toArray) (fun _ st o t => ∃ v, o = .returned v ∧ post v ∧ t.heap = st.heap) 0 0 (fun _ => False)
section MPC
variable {p : Program} {l : Launch} {e : Env} {R : Room} {s : State} {m : MethodId} {args : Array Value} {below : List Frame} {meth : Method} {c : Code} {H : Heap} {locs : List Loc} {cells slots : Nat} {Q : State → Prop}
variable {cc : ByteArray} {nL pc : Nat} {ls : Array Slot} {rest st0 : List Value} {Ts : List Cond}
theorem mp_meth {y : MethodName} {ret : Option FieldType} {fr lo : Nat} {as : List Value} {post : Option Value → Prop} (hy : plainName y.cls = true) (has : (lg_sl as).length ≤ nL)
    (body : ∀ (p : Program) (e : Env) (s : State) (m : MethodId) (below : List Frame) (meth : Method) (c : Code), p.tables.exec = Jvm.exec → c.code = cc → c.maxLocals = nL → s.vm.findClass y.cls = some m.cls → (∀ x ∈ Ts, x.before as.toArray s = true) → meth.sig.returnType = ret → meth.locks = false → ∀ ls : Array Slot, lv_has ls nL (lv_args 0 as) →
      W p l e { frames := fr, cells := 0, slots := 0, locals := lo } s m as.toArray below meth c s.heap [] 0 0 (mx_Q below (fun _ st o t => ∃ v, o = .returned v ∧ post v ∧ t.heap = st.heap) as.toArray s 0 0 (fun _ => False)) (F0 m 0 ls [])) :
    mp_Ct l y (Cond.code y cc nL ret :: Ts) fr lo as post := by
  refine mx_ofW (cc := cc) (maxL := nL) (ret := ret) hy rfl ?_
  intro p e s m args below meth c s₁ B hml hce hv
  subst hv
  have hts := atoms_spec (ws := Cond.code y cc nL ret :: Ts) B.pre
  have hown : s.vm.findClass y.cls = some m.cls := findClass_of_methodNamed B.named
  have hl := lv_entry as (n := nL) has
  rw [lg_entry_eq]
  generalize (lg_sl as ++ List.replicate (nL - (lg_sl as).length) Slot.unset).toArray = ls at hl ⊢
  exact body p e s m below meth c B.exec B.bytes hml hown (fun x hx => hts x (List.mem_cons_of_mem _ hx)) B.returns B.notSynchronized ls hl
theorem mp_call {y : MethodName} {ws : List Cond} {fr lo : Nat} {as : List Value} {post : Option Value → Prop} (hb : c.code = cc) (hml : c.maxLocals = nL) (hC : mp_Ct l y ws fr lo as post)
    (hV : mx_Inv p l e R s m args below meth c H (F0 m pc ls st0) y as.toArray rest) (hls : ls.size = nL) {ig : Instr} (hdg : decode cc pc = .ok (ig, 3)) {maxL : Nat} (hR : fr + 1 ≤ R.frames ∧ (rest.map fun v => v.category).sum + (maxL + 11) + lo ≤ R.locals) (hcd : mx_Cd y maxL ws)
    (hws : ∀ x ∈ ws, ∀ (a' : Array Value) (U : State), s.WarmedH U.vm → x.before a' U = true) (hini : ∀ (a' : Array Value) (U : State), s.WarmedH U.vm → (Cond.initialized y.cls).before a' U = true) (hf : cells ≤ R.cells ∧ slots ≤ R.slots)
    (kR : ∀ (v : Option Value), post v → W p l e R s m args below meth c H locs cells slots Q (F0 m (pc + 3) ls (v.toList ++ rest))) :
    W p l e R s m args below meth c H locs cells slots Q (F0 m pc ls st0) := by
  intro T hT X
  have hmon : (F0 m pc ls st0).monitorRoom = 0 := rfl
  obtain ⟨o, st, t, T', L, h0, hal, X', hL, e1, e2, ⟨v, hO, hpo, hh⟩, hgo⟩ := mx_back hC hV rfl (by show ls.size = _; rw [hls, hml]) (by rw [hb]; exact hdg) rfl rfl hR.1 (by rw [hmon]; have := hR.2; dsimp only; omega) hcd hws hini hf (fun U g mk hU hW => rfl) T hT X
  subst hO
  rcases hgo with ⟨v', hv', hgo⟩ | ⟨x, hv', -⟩
  · cases hv'
    obtain ⟨t2, a1, b1⟩ := kR v hpo T' (by rw [e1, hh, h0]) (Stand.forget X' (fun q h => (hL q h).elim))
    exact ⟨t2, hgo t2 a1, b1⟩
  · cases hv'
theorem mp_iret {post : Option Value → Prop} (hx : p.tables.exec = Jvm.exec) (hb : c.code = cc) (hr : meth.sig.returnType = some .int) (hlocks : meth.locks = false) {v : Int32} (hp : post (some (.int v))) (hdg : decode cc pc = .ok (.ireturn, 1)) : W p l e R s m args below meth c s.heap [] 0 0 (mx_Q below (fun _ st o t => ∃ v, o = .returned v ∧ post v ∧ t.heap = st.heap) args s 0 0 (fun _ => False)) (F0 m pc ls [.int v]) :=
  W.mono mx_of_MQ (W.iret hx hb hr (fun t ht hW => ⟨_, rfl, hp, ht⟩) (fun q hq => by cases hq) hdg hlocks)
theorem mp_zret {post : Option Value → Prop} (hx : p.tables.exec = Jvm.exec) (hb : c.code = cc) (hr : meth.sig.returnType = some .boolean) (hlocks : meth.locks = false) {v : Int32} (hv : v = 0 ∨ v = 1) (hp : post (some (.int v))) (hdg : decode cc pc = .ok (.ireturn, 1)) : W p l e R s m args below meth c s.heap [] 0 0 (mx_Q below (fun _ st o t => ∃ v, o = .returned v ∧ post v ∧ t.heap = st.heap) args s 0 0 (fun _ => False)) (F0 m pc ls [.int v]) :=
  W.mono mx_of_MQ (W.zret hx hb hr (by rcases hv with rfl | rfl; exact narrow_b0; exact narrow_b1) (fun t ht hW => ⟨_, rfl, hp, ht⟩) (fun q hq => by cases hq) hdg hlocks)
end MPC
end
section
/-! names: methods, classes, arrays (printed by wip/whole/gen/mknames.py) -/
def y_AM_entryForMissing : MethodName := ⟨"MapStore$ArrayMap", "entryForMissing", "(I)I"⟩
def y_AM_entryOf : MethodName := ⟨"MapStore$ArrayMap", "entryOf", "(I)I"⟩
def y_AM_inUse : MethodName := ⟨"MapStore$ArrayMap", "inUse", "()I"⟩
def y_AM_init : MethodName := ⟨"MapStore$ArrayMap", "<init>", "(LMapStore$Bytes;LMapStore$Bytes;III)V"⟩
def y_AN_clashes : MethodName := ⟨"MapStore$AnyMap", "clashes", "()I"⟩
def y_AN_free : MethodName := ⟨"MapStore$AnyMap", "free", "(I)I"⟩
def y_AN_inUse : MethodName := ⟨"MapStore$AnyMap", "inUse", "()I"⟩
def y_AN_init : MethodName := ⟨"MapStore$AnyMap", "<init>", "(LMapStore$Bytes;LMapStore$Bytes;I)V"⟩
def y_AN_keyAfter : MethodName := ⟨"MapStore$AnyMap", "keyAfter", "(II)I"⟩
def y_AN_placeOf : MethodName := ⟨"MapStore$AnyMap", "placeOf", "(I)I"⟩
def y_AN_putRecord : MethodName := ⟨"MapStore$AnyMap", "putRecord", "(II)I"⟩
def y_AN_takeRecord : MethodName := ⟨"MapStore$AnyMap", "takeRecord", "(I)I"⟩
def y_AN_write : MethodName := ⟨"MapStore$AnyMap", "write", "(III)I"⟩
def y_BY_byteAt : MethodName := ⟨"MapStore$Bytes", "byteAt", "(I)I"⟩
def y_BY_copy : MethodName := ⟨"MapStore$Bytes", "copy", "(ILMapStore$Bytes;II)V"⟩
def y_BY_demand : MethodName := ⟨"MapStore$Bytes", "demand", "(II)V"⟩
def y_BY_init : MethodName := ⟨"MapStore$Bytes", "<init>", "(I)V"⟩
def y_BY_number : MethodName := ⟨"MapStore$Bytes", "number", "(II)J"⟩
def y_BY_same : MethodName := ⟨"MapStore$Bytes", "same", "(LMapStore$Bytes;)Z"⟩
def y_BY_setByte : MethodName := ⟨"MapStore$Bytes", "setByte", "(IJ)V"⟩
def y_BY_setNumber : MethodName := ⟨"MapStore$Bytes", "setNumber", "(IIJ)V"⟩
def y_BY_shiftOf : MethodName := ⟨"MapStore$Bytes", "shiftOf", "(I)I"⟩
def y_EM_entryForMissing : MethodName := ⟨"MapStore$EntryMap", "entryForMissing", "(I)I"⟩
def y_EM_entryOf : MethodName := ⟨"MapStore$EntryMap", "entryOf", "(I)I"⟩
def y_EM_init : MethodName := ⟨"MapStore$EntryMap", "<init>", "(LMapStore$Bytes;LMapStore$Bytes;IIII)V"⟩
def y_EM_placeOf : MethodName := ⟨"MapStore$EntryMap", "placeOf", "(I)I"⟩
def y_EM_placeOfEntry : MethodName := ⟨"MapStore$EntryMap", "placeOfEntry", "(I)I"⟩
def y_EM_write : MethodName := ⟨"MapStore$EntryMap", "write", "(III)I"⟩
def y_EX_init : MethodName := ⟨"java/lang/Exception", "<init>", "()V"⟩
def y_EX_initS : MethodName := ⟨"java/lang/Exception", "<init>", "(Ljava/lang/String;)V"⟩
def y_IA_initS : MethodName := ⟨"java/lang/IllegalArgumentException", "<init>", "(Ljava/lang/String;)V"⟩
def y_IN_bitCount : MethodName := ⟨"java/lang/Integer", "bitCount", "(I)I"⟩
def y_IS_initS : MethodName := ⟨"java/lang/IllegalStateException", "<init>", "(Ljava/lang/String;)V"⟩
def y_IX_initS : MethodName := ⟨"java/lang/IndexOutOfBoundsException", "<init>", "(Ljava/lang/String;)V"⟩
def y_LW_begins : MethodName := ⟨"MapStoreLaw", "begins", "(LMapStore;I[J)I"⟩
def y_LW_desk : MethodName := ⟨"MapStoreLaw", "desk", "(LMapStore;I[J)I"⟩
def y_LW_find : MethodName := ⟨"MapStoreLaw", "find", "(LMapStore;II[J)I"⟩
def y_LW_lay : MethodName := ⟨"MapStoreLaw", "lay", "(LMapStore;IJ)I"⟩
def y_LW_load : MethodName := ⟨"MapStoreLaw", "load", "(LMapStore;II[J)I"⟩
def y_LW_make : MethodName := ⟨"MapStoreLaw", "make", "(LMapStore;IIII[J)I"⟩
def y_LW_next : MethodName := ⟨"MapStoreLaw", "next", "(LMapStore;III[J)I"⟩
def y_LW_put : MethodName := ⟨"MapStoreLaw", "put", "(LMapStore;III[J)I"⟩
def y_LW_remove : MethodName := ⟨"MapStoreLaw", "remove", "(LMapStore;II[J)I"⟩
def y_LW_store : MethodName := ⟨"MapStoreLaw", "store", "(LMapStore;IIJ)I"⟩
def y_LW_take : MethodName := ⟨"MapStoreLaw", "take", "(LMapStore;II[J)I"⟩
def y_LW_update : MethodName := ⟨"MapStoreLaw", "update", "(LMapStore;IIII[J)I"⟩
def y_LW_used : MethodName := ⟨"MapStoreLaw", "used", "(LMapStore;I[J)I"⟩
def y_MA_max : MethodName := ⟨"java/lang/Math", "max", "(II)I"⟩
def y_MO_begins : MethodName := ⟨"MapStoreModel", "begins", "(I)I"⟩
def y_MO_breaches : MethodName := ⟨"MapStoreModel", "breaches", "()I"⟩
def y_MO_desk : MethodName := ⟨"MapStoreModel", "desk", "(I)J"⟩
def y_MO_entryOf : MethodName := ⟨"MapStoreModel", "entryOf", "(II)I"⟩
def y_MO_entryOfArray : MethodName := ⟨"MapStoreModel", "entryOfArray", "(II)I"⟩
def y_MO_filled : MethodName := ⟨"MapStoreModel", "filled", "(I)I"⟩
def y_MO_find : MethodName := ⟨"MapStoreModel", "find", "(II)I"⟩
def y_MO_init : MethodName := ⟨"MapStoreModel", "<init>", "()V"⟩
def y_MO_isDesk : MethodName := ⟨"MapStoreModel", "isDesk", "(II)Z"⟩
def y_MO_isIn : MethodName := ⟨"MapStoreModel", "isIn", "(III)Z"⟩
def y_MO_isKey : MethodName := ⟨"MapStoreModel", "isKey", "(III)Z"⟩
def y_MO_isPower : MethodName := ⟨"MapStoreModel", "isPower", "(I)Z"⟩
def y_MO_isProper : MethodName := ⟨"MapStoreModel", "isProper", "(IIII)Z"⟩
def y_MO_lay : MethodName := ⟨"MapStoreModel", "lay", "(IJ)V"⟩
def y_MO_load : MethodName := ⟨"MapStoreModel", "load", "(II)J"⟩
def y_MO_make : MethodName := ⟨"MapStoreModel", "make", "(IIII)I"⟩
def y_MO_maps : MethodName := ⟨"MapStoreModel", "maps", "()I"⟩
def y_MO_next : MethodName := ⟨"MapStoreModel", "next", "(III)I"⟩
def y_MO_noArea : MethodName := ⟨"MapStoreModel", "noArea", "(II)Z"⟩
def y_MO_noMap : MethodName := ⟨"MapStoreModel", "noMap", "(I)Z"⟩
def y_MO_number : MethodName := ⟨"MapStoreModel", "number", "([BII)J"⟩
def y_MO_numberInRing : MethodName := ⟨"MapStoreModel", "numberInRing", "(IJ)J"⟩
def y_MO_placeOf : MethodName := ⟨"MapStoreModel", "placeOf", "(II)I"⟩
def y_MO_put : MethodName := ⟨"MapStoreModel", "put", "(III)I"⟩
def y_MO_putB : MethodName := ⟨"MapStoreModel", "put", "([BIIJ)V"⟩
def y_MO_putRing : MethodName := ⟨"MapStoreModel", "putRing", "(IJI)V"⟩
def y_MO_remove : MethodName := ⟨"MapStoreModel", "remove", "(II)I"⟩
def y_MO_ringPlace : MethodName := ⟨"MapStoreModel", "ringPlace", "(IJ)I"⟩
def y_MO_store : MethodName := ⟨"MapStoreModel", "store", "(IIJ)V"⟩
def y_MO_take : MethodName := ⟨"MapStoreModel", "take", "(II)I"⟩
def y_MO_thrown : MethodName := ⟨"MapStoreModel", "thrown", "()I"⟩
def y_MO_update : MethodName := ⟨"MapStoreModel", "update", "(IIII)I"⟩
def y_MO_updateArray : MethodName := ⟨"MapStoreModel", "updateArray", "(IIII)I"⟩
def y_MO_updateTable : MethodName := ⟨"MapStoreModel", "updateTable", "(IIII)I"⟩
def y_MO_used : MethodName := ⟨"MapStoreModel", "used", "(I)I"⟩
def y_MO_write : MethodName := ⟨"MapStoreModel", "write", "(III)I"⟩
def y_MS_begins : MethodName := ⟨"MapStore", "begins", "(I)I"⟩
def y_MS_breaches : MethodName := ⟨"MapStore", "breaches", "()I"⟩
def y_MS_demandNumberSize : MethodName := ⟨"MapStore", "demandNumberSize", "(I)V"⟩
def y_MS_desk : MethodName := ⟨"MapStore", "desk", "(I)J"⟩
def y_MS_filledUp : MethodName := ⟨"MapStore", "filledUp", "(I)I"⟩
def y_MS_find : MethodName := ⟨"MapStore", "find", "(II)I"⟩
def y_MS_init : MethodName := ⟨"MapStore", "<init>", "()V"⟩
def y_MS_lay : MethodName := ⟨"MapStore", "lay", "(IJ)V"⟩
def y_MS_load : MethodName := ⟨"MapStore", "load", "(II)J"⟩
def y_MS_make : MethodName := ⟨"MapStore", "make", "(IIII)I"⟩
def y_MS_mapOf : MethodName := ⟨"MapStore", "mapOf", "(I)LMapStore$AnyMap;"⟩
def y_MS_maps : MethodName := ⟨"MapStore", "maps", "()I"⟩
def y_MS_newMap : MethodName := ⟨"MapStore", "newMap", "(IIII)LMapStore$AnyMap;"⟩
def y_MS_next : MethodName := ⟨"MapStore", "next", "(III)I"⟩
def y_MS_put : MethodName := ⟨"MapStore", "put", "(III)I"⟩
def y_MS_remove : MethodName := ⟨"MapStore", "remove", "(II)I"⟩
def y_MS_sizesFit : MethodName := ⟨"MapStore", "sizesFit", "(IIII)Z"⟩
def y_MS_store : MethodName := ⟨"MapStore", "store", "(IIJ)V"⟩
def y_MS_take : MethodName := ⟨"MapStore", "take", "(II)I"⟩
def y_MS_update : MethodName := ⟨"MapStore", "update", "(IIII)I"⟩
def y_MS_used : MethodName := ⟨"MapStore", "used", "(I)I"⟩
def y_MS_within : MethodName := ⟨"MapStore", "within", "(JII)Z"⟩
def y_OB_init : MethodName := ⟨"java/lang/Object", "<init>", "()V"⟩
def y_RE_init : MethodName := ⟨"java/lang/RuntimeException", "<init>", "()V"⟩
def y_RE_initS : MethodName := ⟨"java/lang/RuntimeException", "<init>", "(Ljava/lang/String;)V"⟩
def y_RM_bytesOfRecord : MethodName := ⟨"MapStore$RingMap", "bytesOfRecord", "(I)I"⟩
def y_RM_inUse : MethodName := ⟨"MapStore$RingMap", "inUse", "()I"⟩
def y_RM_init : MethodName := ⟨"MapStore$RingMap", "<init>", "(LMapStore$Bytes;LMapStore$Bytes;II)V"⟩
def y_RM_placeOfCount : MethodName := ⟨"MapStore$RingMap", "placeOfCount", "(J)I"⟩
def y_RM_putRecord : MethodName := ⟨"MapStore$RingMap", "putRecord", "(II)I"⟩
def y_RM_takeRecord : MethodName := ⟨"MapStore$RingMap", "takeRecord", "(I)I"⟩
def y_RM_writeRecord : MethodName := ⟨"MapStore$RingMap", "writeRecord", "(III)V"⟩
def y_TH_fillInStackTrace : MethodName := ⟨"java/lang/Throwable", "fillInStackTrace", "()Ljava/lang/Throwable;"⟩
def y_TH_fillInStackTraceI : MethodName := ⟨"java/lang/Throwable", "fillInStackTrace", "(I)Ljava/lang/Throwable;"⟩
def y_TH_init : MethodName := ⟨"java/lang/Throwable", "<init>", "()V"⟩
def y_TH_initS : MethodName := ⟨"java/lang/Throwable", "<init>", "(Ljava/lang/String;)V"⟩
def y_TM_clashes : MethodName := ⟨"MapStore$TableMap", "clashes", "()I"⟩
def y_TM_entryForMissing : MethodName := ⟨"MapStore$TableMap", "entryForMissing", "(I)I"⟩
def y_TM_entryOf : MethodName := ⟨"MapStore$TableMap", "entryOf", "(I)I"⟩
def y_TM_entryWithAsked : MethodName := ⟨"MapStore$TableMap", "entryWithAsked", "(I)I"⟩
def y_TM_free : MethodName := ⟨"MapStore$TableMap", "free", "(I)I"⟩
def y_TM_giveAsked : MethodName := ⟨"MapStore$TableMap", "giveAsked", "(I)V"⟩
def y_TM_inUse : MethodName := ⟨"MapStore$TableMap", "inUse", "()I"⟩
def y_TM_init : MethodName := ⟨"MapStore$TableMap", "<init>", "(LMapStore$Bytes;LMapStore$Bytes;IIII)V"⟩
def y_TM_keyAfter : MethodName := ⟨"MapStore$TableMap", "keyAfter", "(II)I"⟩
def y_TM_leastFree : MethodName := ⟨"MapStore$TableMap", "leastFree", "()I"⟩
abbrev b_AM_entryForMissing : ByteArray := prog_3_method_4_code
abbrev b_AM_entryOf : ByteArray := prog_3_method_3_code
abbrev b_AM_inUse : ByteArray := prog_3_method_2_code
abbrev b_AM_init : ByteArray := prog_3_method_1_code
abbrev b_AN_clashes : ByteArray := prog_2_method_9_code
abbrev b_AN_free : ByteArray := prog_2_method_5_code
abbrev b_AN_init : ByteArray := prog_2_method_1_code
abbrev b_AN_keyAfter : ByteArray := prog_2_method_8_code
abbrev b_AN_placeOf : ByteArray := prog_2_method_3_code
abbrev b_AN_putRecord : ByteArray := prog_2_method_6_code
abbrev b_AN_takeRecord : ByteArray := prog_2_method_7_code
abbrev b_AN_write : ByteArray := prog_2_method_4_code
abbrev b_BY_byteAt : ByteArray := prog_4_method_3_code
abbrev b_BY_copy : ByteArray := prog_4_method_7_code
abbrev b_BY_demand : ByteArray := prog_4_method_2_code
abbrev b_BY_init : ByteArray := prog_4_method_1_code
abbrev b_BY_number : ByteArray := prog_4_method_5_code
abbrev b_BY_same : ByteArray := prog_4_method_8_code
abbrev b_BY_setByte : ByteArray := prog_4_method_4_code
abbrev b_BY_setNumber : ByteArray := prog_4_method_6_code
abbrev b_BY_shiftOf : ByteArray := prog_4_method_9_code
abbrev b_EM_init : ByteArray := prog_5_method_1_code
abbrev b_EM_placeOf : ByteArray := prog_5_method_4_code
abbrev b_EM_placeOfEntry : ByteArray := prog_5_method_6_code
abbrev b_EM_write : ByteArray := prog_5_method_5_code
abbrev b_IN_bitCount : ByteArray := prog_14_method_49_code
abbrev b_LW_begins : ByteArray := method_4_code
abbrev b_LW_desk : ByteArray := method_6_code
abbrev b_LW_find : ByteArray := method_10_code
abbrev b_LW_lay : ByteArray := method_7_code
abbrev b_LW_load : ByteArray := method_8_code
abbrev b_LW_make : ByteArray := method_3_code
abbrev b_LW_next : ByteArray := method_15_code
abbrev b_LW_put : ByteArray := method_13_code
abbrev b_LW_remove : ByteArray := method_12_code
abbrev b_LW_store : ByteArray := method_9_code
abbrev b_LW_take : ByteArray := method_14_code
abbrev b_LW_update : ByteArray := method_11_code
abbrev b_LW_used : ByteArray := method_5_code
abbrev b_MA_max : ByteArray := prog_15_method_65_code
abbrev b_MO_begins : ByteArray := prog_9_method_10_code
abbrev b_MO_breaches : ByteArray := prog_9_method_36_code
abbrev b_MO_desk : ByteArray := prog_9_method_15_code
abbrev b_MO_entryOf : ByteArray := prog_9_method_21_code
abbrev b_MO_entryOfArray : ByteArray := prog_9_method_23_code
abbrev b_MO_filled : ByteArray := prog_9_method_3_code
abbrev b_MO_find : ByteArray := prog_9_method_24_code
abbrev b_MO_init : ByteArray := prog_9_method_1_code
abbrev b_MO_isDesk : ByteArray := prog_9_method_12_code
abbrev b_MO_isIn : ByteArray := prog_9_method_4_code
abbrev b_MO_isKey : ByteArray := prog_9_method_20_code
abbrev b_MO_isPower : ByteArray := prog_9_method_5_code
abbrev b_MO_isProper : ByteArray := prog_9_method_6_code
abbrev b_MO_lay : ByteArray := prog_9_method_16_code
abbrev b_MO_load : ByteArray := prog_9_method_18_code
abbrev b_MO_make : ByteArray := prog_9_method_7_code
abbrev b_MO_maps : ByteArray := prog_9_method_8_code
abbrev b_MO_next : ByteArray := prog_9_method_35_code
abbrev b_MO_noArea : ByteArray := prog_9_method_17_code
abbrev b_MO_noMap : ByteArray := prog_9_method_9_code
abbrev b_MO_number : ByteArray := prog_9_method_13_code
abbrev b_MO_numberInRing : ByteArray := prog_9_method_32_code
abbrev b_MO_placeOf : ByteArray := prog_9_method_22_code
abbrev b_MO_put : ByteArray := prog_9_method_33_code
abbrev b_MO_putB : ByteArray := prog_9_method_14_code
abbrev b_MO_putRing : ByteArray := prog_9_method_31_code
abbrev b_MO_remove : ByteArray := prog_9_method_29_code
abbrev b_MO_ringPlace : ByteArray := prog_9_method_30_code
abbrev b_MO_store : ByteArray := prog_9_method_19_code
abbrev b_MO_take : ByteArray := prog_9_method_34_code
abbrev b_MO_thrown : ByteArray := prog_9_method_2_code
abbrev b_MO_update : ByteArray := prog_9_method_28_code
abbrev b_MO_updateArray : ByteArray := prog_9_method_26_code
abbrev b_MO_updateTable : ByteArray := prog_9_method_27_code
abbrev b_MO_used : ByteArray := prog_9_method_11_code
abbrev b_MO_write : ByteArray := prog_9_method_25_code
abbrev b_MS_begins : ByteArray := prog_1_method_4_code
abbrev b_MS_breaches : ByteArray := prog_1_method_16_code
abbrev b_MS_demandNumberSize : ByteArray := prog_1_method_20_code
abbrev b_MS_desk : ByteArray := prog_1_method_6_code
abbrev b_MS_filledUp : ByteArray := prog_1_method_22_code
abbrev b_MS_find : ByteArray := prog_1_method_10_code
abbrev b_MS_init : ByteArray := prog_1_method_1_code
abbrev b_MS_lay : ByteArray := prog_1_method_7_code
abbrev b_MS_load : ByteArray := prog_1_method_8_code
abbrev b_MS_make : ByteArray := prog_1_method_2_code
abbrev b_MS_mapOf : ByteArray := prog_1_method_17_code
abbrev b_MS_maps : ByteArray := prog_1_method_3_code
abbrev b_MS_newMap : ByteArray := prog_1_method_18_code
abbrev b_MS_next : ByteArray := prog_1_method_15_code
abbrev b_MS_put : ByteArray := prog_1_method_13_code
abbrev b_MS_remove : ByteArray := prog_1_method_12_code
abbrev b_MS_sizesFit : ByteArray := prog_1_method_19_code
abbrev b_MS_store : ByteArray := prog_1_method_9_code
abbrev b_MS_take : ByteArray := prog_1_method_14_code
abbrev b_MS_update : ByteArray := prog_1_method_11_code
abbrev b_MS_used : ByteArray := prog_1_method_5_code
abbrev b_MS_within : ByteArray := prog_1_method_21_code
abbrev b_RM_bytesOfRecord : ByteArray := prog_6_method_7_code
abbrev b_RM_inUse : ByteArray := prog_6_method_2_code
abbrev b_RM_init : ByteArray := prog_6_method_1_code
abbrev b_RM_placeOfCount : ByteArray := prog_6_method_6_code
abbrev b_RM_putRecord : ByteArray := prog_6_method_3_code
abbrev b_RM_takeRecord : ByteArray := prog_6_method_4_code
abbrev b_RM_writeRecord : ByteArray := prog_6_method_5_code
abbrev b_TM_clashes : ByteArray := prog_7_method_3_code
abbrev b_TM_entryForMissing : ByteArray := prog_7_method_5_code
abbrev b_TM_entryOf : ByteArray := prog_7_method_4_code
abbrev b_TM_entryWithAsked : ByteArray := prog_7_method_8_code
abbrev b_TM_free : ByteArray := prog_7_method_6_code
abbrev b_TM_giveAsked : ByteArray := prog_7_method_10_code
abbrev b_TM_inUse : ByteArray := prog_7_method_2_code
abbrev b_TM_init : ByteArray := prog_7_method_1_code
abbrev b_TM_keyAfter : ByteArray := prog_7_method_7_code
abbrev b_TM_leastFree : ByteArray := prog_7_method_9_code
abbrev cBY : Nat := 0
def T_cBY : u_T := fun k => match k with
  | 0 => ("MapStore$Bytes", "length", "I", true)
  | _ => ("MapStore$Bytes", "words", "[J", true)
abbrev cMS : Nat := 1
def T_cMS : u_T := fun k => match k with
  | 0 => ("MapStore", "deskBytes", "LMapStore$Bytes;", true)
  | 1 => ("MapStore", "areaBytes", "LMapStore$Bytes;", true)
  | 2 => ("MapStore", "rows", "[LMapStore$AnyMap;", true)
  | 3 => ("MapStore", "made", "I", false)
  | _ => ("MapStore", "areaGiven", "I", false)
abbrev cAM : Nat := 2
def T_cAM : u_T := fun k => match k with
  | 0 => ("MapStore$AnyMap", "desk", "LMapStore$Bytes;", true)
  | 1 => ("MapStore$AnyMap", "area", "LMapStore$Bytes;", true)
  | 2 => ("MapStore$AnyMap", "begin", "I", true)
  | 3 => ("MapStore$EntryMap", "keySize", "I", true)
  | 4 => ("MapStore$EntryMap", "valueSize", "I", true)
  | _ => ("MapStore$EntryMap", "entries", "I", true)
abbrev cTM : Nat := 3
def T_cTM : u_T := fun k => match k with
  | 0 => ("MapStore$AnyMap", "desk", "LMapStore$Bytes;", true)
  | 1 => ("MapStore$AnyMap", "area", "LMapStore$Bytes;", true)
  | 2 => ("MapStore$AnyMap", "begin", "I", true)
  | 3 => ("MapStore$EntryMap", "keySize", "I", true)
  | 4 => ("MapStore$EntryMap", "valueSize", "I", true)
  | 5 => ("MapStore$EntryMap", "entries", "I", true)
  | 6 => ("MapStore$TableMap", "keys", "[LMapStore$Bytes;", true)
  | 7 => ("MapStore$TableMap", "asked", "LMapStore$Bytes;", true)
  | 8 => ("MapStore$TableMap", "reach", "I", false)
  | 9 => ("MapStore$TableMap", "withKey", "I", false)
  | _ => ("MapStore$TableMap", "clashesSeen", "I", false)
abbrev cRM : Nat := 4
def T_cRM : u_T := fun k => match k with
  | 0 => ("MapStore$AnyMap", "desk", "LMapStore$Bytes;", true)
  | 1 => ("MapStore$AnyMap", "area", "LMapStore$Bytes;", true)
  | 2 => ("MapStore$AnyMap", "begin", "I", true)
  | 3 => ("MapStore$RingMap", "length", "I", true)
  | 4 => ("MapStore$RingMap", "head", "J", false)
  | 5 => ("MapStore$RingMap", "tail", "J", false)
  | 6 => ("MapStore$RingMap", "records", "I", false)
  | _ => ("MapStore$RingMap", "broken", "Z", false)
abbrev cMO : Nat := 5
def T_cMO : u_T := fun k => match k with
  | 0 => ("MapStoreModel", "code", "I", false)
  | 1 => ("MapStoreModel", "desk", "[B", true)
  | 2 => ("MapStoreModel", "area", "[B", true)
  | 3 => ("MapStoreModel", "areaUsed", "I", false)
  | 4 => ("MapStoreModel", "maps", "I", false)
  | 5 => ("MapStoreModel", "kinds", "[I", true)
  | 6 => ("MapStoreModel", "keySizes", "[I", true)
  | 7 => ("MapStoreModel", "valueSizes", "[I", true)
  | 8 => ("MapStoreModel", "entries", "[I", true)
  | 9 => ("MapStoreModel", "begins", "[I", true)
  | 10 => ("MapStoreModel", "firstEntry", "[I", true)
  | 11 => ("MapStoreModel", "firstKey", "[I", true)
  | 12 => ("MapStoreModel", "entryCount", "I", false)
  | 13 => ("MapStoreModel", "keyCount", "I", false)
  | 14 => ("MapStoreModel", "taken", "[Z", true)
  | 15 => ("MapStoreModel", "keys", "[B", true)
  | 16 => ("MapStoreModel", "heads", "[J", true)
  | 17 => ("MapStoreModel", "tails", "[J", true)
  | 18 => ("MapStoreModel", "records", "[I", true)
  | 19 => ("MapStoreModel", "broken", "[Z", true)
  | _ => ("MapStoreModel", "breaches", "I", false)
abbrev mk_cl : List vw_C := [("MapStore$Bytes", T_cBY, 2), ("MapStore", T_cMS, 5), ("MapStore$ArrayMap", T_cAM, 6), ("MapStore$TableMap", T_cTM, 11), ("MapStore$RingMap", T_cRM, 8), ("MapStoreModel", T_cMO, 21)]
def mk_ty : Nat → Nat → FieldType := fun ci k => match ci with
  | 0 => (match k with | 0 => .int | _ => .array .long)
  | 1 => (match k with | 0 => .object "MapStore$Bytes" | 1 => .object "MapStore$Bytes" | 2 => .array (.object "MapStore$AnyMap") | 3 => .int | _ => .int)
  | 2 => (match k with | 0 => .object "MapStore$Bytes" | 1 => .object "MapStore$Bytes" | 2 => .int | 3 => .int | 4 => .int | _ => .int)
  | 3 => (match k with | 0 => .object "MapStore$Bytes" | 1 => .object "MapStore$Bytes" | 2 => .int | 3 => .int | 4 => .int | 5 => .int | 6 => .array (.object "MapStore$Bytes") | 7 => .object "MapStore$Bytes" | 8 => .int | 9 => .int | _ => .int)
  | 4 => (match k with | 0 => .object "MapStore$Bytes" | 1 => .object "MapStore$Bytes" | 2 => .int | 3 => .int | 4 => .long | 5 => .long | 6 => .int | _ => .boolean)
  | _ => (match k with | 0 => .int | 1 => .array .byte | 2 => .array .byte | 3 => .int | 4 => .int | 5 => .array .int | 6 => .array .int | 7 => .array .int | 8 => .array .int | 9 => .array .int | 10 => .array .int | 11 => .array .int | 12 => .int | 13 => .int | 14 => .array .boolean | 15 => .array .byte | 16 => .array .long | 17 => .array .long | 18 => .array .int | 19 => .array .boolean | _ => .int)
abbrev tJ : Nat := 0
abbrev tI : Nat := 1
abbrev tB : Nat := 2
abbrev tZ : Nat := 3
abbrev tAN : Nat := 4
abbrev tBY : Nat := 5
abbrev mk_tys (dA : Nat → ClassId) : List (ClassId × FieldType) := [(dA 0, .long), (dA 1, .int), (dA 2, .byte), (dA 3, .boolean), (dA 4, .object "MapStore$AnyMap"), (dA 5, .object "MapStore$Bytes")]
abbrev mk_strs : List (String × Nat × String) := [("MapStore", 110, "no such map"), ("MapStore", 41, "no map has this kind with these sizes"), ("MapStore", 52, "too many maps, or too little area"), ("MapStore$Bytes", 25, "a byte goes beyond the desk or the area"), ("MapStore", 137, "a number has 1, 2, 4 or 8 bytes")]
/-! the words that every method gets -/
def mw_ok : Cond → Bool
  | .methodLinkNest _ _ _ _ => true
  | .castable _ _ => true
  | .arrayOver (.object _) => true
  | .declares _ => true
  | .privateMethod _ => true
  | w => goodWord w
theorem mw_warm {x : Cond} (hx : mw_ok x = true) {args a' : Array Value} {s U : State} (hW : s.WarmedH U.vm) (h : x.before args s = true) : x.before a' U = true := by
  unfold mw_ok at hx
  split at hx
  · exact va_Nw.use rfl (va_Nw.warmM hW (va_Nw.of rfl h))
  · exact va_Nw.use rfl (va_Nw.warmC hW (va_Nw.of rfl h))
  · exact va_AO.use (va_AO.moved hW.alike (va_AO.of h))
  · exact va_Nw.use rfl (va_Nw.warmD hW (va_Nw.of rfl h))
  · exact va_Nw.use rfl (va_tabs rfl (rfl : (s.setVm U.vm).vm = U.vm) (by rw [Cond.privateMethod_setVm hW.alike]; exact va_Nw.of rfl h))
  · exact word_at hW (good_of_word hx) h
def Ts : List Cond := lw_tbl.filter mw_ok
theorem mw_in {x : Cond} {i : Nat} (h : lw_tbl[i]? = some x) (hk : mw_ok x = true) : x ∈ Ts := List.mem_filter.mpr ⟨List.mem_of_getElem? h, hk⟩
theorem Ts_warm {args : Array Value} {s : State} (h : ∀ x ∈ Ts, x.before args s = true) : ∀ x ∈ Ts, ∀ (a' : Array Value) (U : State), s.WarmedH U.vm → x.before a' U = true := fun x hx a' U hW => mw_warm (List.mem_filter.mp hx).2 hW (h x hx)
theorem mk_ws {y : MethodName} {b : ByteArray} {n : Nat} {r : Option FieldType} (hc : Cond.code y b n r ∈ Ts) {args : Array Value} {s : State} (h : ∀ x ∈ Ts, x.before args s = true) : ∀ x ∈ Cond.code y b n r :: Ts, ∀ (a' : Array Value) (U : State), s.WarmedH U.vm → x.before a' U = true := fun x hx => by
  rcases List.mem_cons.mp hx with rfl | hx
  · exact Ts_warm h _ hc
  · exact Ts_warm h x hx
theorem mk_lays0 : ∀ x ∈ u_ws "MapStore$Bytes" T_cBY 2, x ∈ lw_tbl ∧ mw_ok x = true := by decide +kernel
theorem mk_lays1 : ∀ x ∈ u_ws "MapStore" T_cMS 5, x ∈ lw_tbl ∧ mw_ok x = true := by decide +kernel
theorem mk_lays2 : ∀ x ∈ u_ws "MapStore$ArrayMap" T_cAM 6, x ∈ lw_tbl ∧ mw_ok x = true := by decide +kernel
theorem mk_lays3 : ∀ x ∈ u_ws "MapStore$TableMap" T_cTM 11, x ∈ lw_tbl ∧ mw_ok x = true := by decide +kernel
theorem mk_lays4 : ∀ x ∈ u_ws "MapStore$RingMap" T_cRM 8, x ∈ lw_tbl ∧ mw_ok x = true := by decide +kernel
theorem mk_lays5 : ∀ x ∈ u_ws "MapStoreModel" T_cMO 21, x ∈ lw_tbl ∧ mw_ok x = true := by decide +kernel
theorem mk_nam {N : Nat} {T : u_T} (h : ∀ a, a < N → ∀ b, b < N → a ≠ b → (T a).2.1 ≠ (T b).2.1) : ∀ a, a < N → ∀ b, b < N → a ≠ b → (T a).2.1 ≠ (T b).2.1 := h
theorem mk_tb : mw_Tb Ts mk_cl mk_ty := by
  intro ci r hr
  match ci, hr with
  | 0, hr => cases hr; exact ⟨fun x hx => List.mem_filter.mpr (mk_lays0 x hx), by decide +kernel, by decide +kernel⟩
  | 1, hr => cases hr; exact ⟨fun x hx => List.mem_filter.mpr (mk_lays1 x hx), by decide +kernel, by decide +kernel⟩
  | 2, hr => cases hr; exact ⟨fun x hx => List.mem_filter.mpr (mk_lays2 x hx), by decide +kernel, by decide +kernel⟩
  | 3, hr => cases hr; exact ⟨fun x hx => List.mem_filter.mpr (mk_lays3 x hx), by decide +kernel, by decide +kernel⟩
  | 4, hr => cases hr; exact ⟨fun x hx => List.mem_filter.mpr (mk_lays4 x hx), by decide +kernel, by decide +kernel⟩
  | 5, hr => cases hr; exact ⟨fun x hx => List.mem_filter.mpr (mk_lays5 x hx), by decide +kernel, by decide +kernel⟩
  | k + 6, hr => simp [mk_cl] at hr
end
section
/-! words of the tables, by their places (printed) -/
theorem tw_0 : Cond.selects "MapStore" y_MS_mapOf y_MS_mapOf ∈ Ts := mw_in (i := 0) (by decide +kernel) (by decide +kernel)
theorem tw_1 : Cond.selects "java/lang/Throwable" y_TH_fillInStackTraceI y_TH_fillInStackTraceI ∈ Ts := mw_in (i := 1) (by decide +kernel) (by decide +kernel)
theorem tw_2 : Cond.selects "MapStore" y_MS_newMap y_MS_newMap ∈ Ts := mw_in (i := 2) (by decide +kernel) (by decide +kernel)
theorem tw_3 : Cond.selects "MapStore$TableMap" y_TM_entryWithAsked y_TM_entryWithAsked ∈ Ts := mw_in (i := 3) (by decide +kernel) (by decide +kernel)
theorem tw_4 : Cond.selects "MapStore$TableMap" y_TM_leastFree y_TM_leastFree ∈ Ts := mw_in (i := 4) (by decide +kernel) (by decide +kernel)
theorem tw_5 : Cond.selects "MapStore$TableMap" y_TM_giveAsked y_TM_giveAsked ∈ Ts := mw_in (i := 5) (by decide +kernel) (by decide +kernel)
theorem tw_6 : Cond.selects "MapStore$RingMap" y_RM_writeRecord y_RM_writeRecord ∈ Ts := mw_in (i := 6) (by decide +kernel) (by decide +kernel)
theorem tw_7 : Cond.selects "MapStore$RingMap" y_RM_placeOfCount y_RM_placeOfCount ∈ Ts := mw_in (i := 7) (by decide +kernel) (by decide +kernel)
theorem tw_8 : Cond.selects "MapStoreModel" y_MO_noMap y_MO_noMap ∈ Ts := mw_in (i := 8) (by decide +kernel) (by decide +kernel)
theorem tw_9 : Cond.selects "MapStoreModel" y_MO_noArea y_MO_noArea ∈ Ts := mw_in (i := 9) (by decide +kernel) (by decide +kernel)
theorem tw_10 : Cond.selects "MapStoreModel" y_MO_entryOfArray y_MO_entryOfArray ∈ Ts := mw_in (i := 10) (by decide +kernel) (by decide +kernel)
theorem tw_11 : Cond.selects "MapStoreModel" y_MO_entryOf y_MO_entryOf ∈ Ts := mw_in (i := 11) (by decide +kernel) (by decide +kernel)
theorem tw_12 : Cond.selects "MapStoreModel" y_MO_isKey y_MO_isKey ∈ Ts := mw_in (i := 12) (by decide +kernel) (by decide +kernel)
theorem tw_13 : Cond.selects "MapStoreModel" y_MO_placeOf y_MO_placeOf ∈ Ts := mw_in (i := 13) (by decide +kernel) (by decide +kernel)
theorem tw_14 : Cond.selects "MapStoreModel" y_MO_updateArray y_MO_updateArray ∈ Ts := mw_in (i := 14) (by decide +kernel) (by decide +kernel)
theorem tw_15 : Cond.selects "MapStoreModel" y_MO_write y_MO_write ∈ Ts := mw_in (i := 15) (by decide +kernel) (by decide +kernel)
theorem tw_16 : Cond.selects "MapStoreModel" y_MO_updateTable y_MO_updateTable ∈ Ts := mw_in (i := 16) (by decide +kernel) (by decide +kernel)
theorem tw_17 : Cond.selects "MapStoreModel" y_MO_putRing y_MO_putRing ∈ Ts := mw_in (i := 17) (by decide +kernel) (by decide +kernel)
theorem tw_18 : Cond.selects "MapStoreModel" y_MO_ringPlace y_MO_ringPlace ∈ Ts := mw_in (i := 18) (by decide +kernel) (by decide +kernel)
theorem tw_19 : Cond.selects "MapStoreModel" y_MO_numberInRing y_MO_numberInRing ∈ Ts := mw_in (i := 19) (by decide +kernel) (by decide +kernel)
theorem tw_20 : Cond.initialized "MapStoreLaw" ∈ Ts := mw_in (i := 20) (by decide +kernel) (by decide +kernel)
theorem tw_21 : Cond.initialized "MapStore" ∈ Ts := mw_in (i := 21) (by decide +kernel) (by decide +kernel)
theorem tw_22 : Cond.initialized "MapStore$Bytes" ∈ Ts := mw_in (i := 22) (by decide +kernel) (by decide +kernel)
theorem tw_23 : Cond.initialized "MapStoreModel" ∈ Ts := mw_in (i := 23) (by decide +kernel) (by decide +kernel)
theorem tw_24 : Cond.initialized "java/lang/Integer" ∈ Ts := mw_in (i := 24) (by decide +kernel) (by decide +kernel)
theorem tw_25 : Cond.initialized "java/lang/Throwable" ∈ Ts := mw_in (i := 25) (by decide +kernel) (by decide +kernel)
theorem tw_26 : Cond.initialized "java/lang/Exception" ∈ Ts := mw_in (i := 26) (by decide +kernel) (by decide +kernel)
theorem tw_27 : Cond.initialized "java/lang/RuntimeException" ∈ Ts := mw_in (i := 27) (by decide +kernel) (by decide +kernel)
theorem tw_28 : Cond.initialized "java/lang/IllegalArgumentException" ∈ Ts := mw_in (i := 28) (by decide +kernel) (by decide +kernel)
theorem tw_29 : Cond.initialized "java/lang/IllegalStateException" ∈ Ts := mw_in (i := 29) (by decide +kernel) (by decide +kernel)
theorem tw_30 : Cond.initialized "MapStore$AnyMap" ∈ Ts := mw_in (i := 30) (by decide +kernel) (by decide +kernel)
theorem tw_31 : Cond.initialized "MapStore$EntryMap" ∈ Ts := mw_in (i := 31) (by decide +kernel) (by decide +kernel)
theorem tw_32 : Cond.initialized "MapStore$ArrayMap" ∈ Ts := mw_in (i := 32) (by decide +kernel) (by decide +kernel)
theorem tw_33 : Cond.initialized "MapStore$TableMap" ∈ Ts := mw_in (i := 33) (by decide +kernel) (by decide +kernel)
theorem tw_34 : Cond.initialized "MapStore$RingMap" ∈ Ts := mw_in (i := 34) (by decide +kernel) (by decide +kernel)
theorem tw_35 : Cond.initialized "java/lang/IndexOutOfBoundsException" ∈ Ts := mw_in (i := 35) (by decide +kernel) (by decide +kernel)
theorem tw_36 : Cond.initialized "java/lang/Math" ∈ Ts := mw_in (i := 36) (by decide +kernel) (by decide +kernel)
theorem tw_37 : Cond.classLink "MapStoreLaw" 8 "MapStore" ∈ Ts := mw_in (i := 37) (by decide +kernel) (by decide +kernel)
theorem tw_38 : Cond.instantiable "MapStore" 5 ∈ Ts := mw_in (i := 38) (by decide +kernel) (by decide +kernel)
theorem tw_39 : Cond.methodLink "MapStoreLaw" 62 y_MS_init ∈ Ts := mw_in (i := 39) (by decide +kernel) (by decide +kernel)
theorem tw_40 : Cond.instanceMethod y_MS_init ∈ Ts := mw_in (i := 40) (by decide +kernel) (by decide +kernel)
theorem tw_41 : Cond.code y_MS_init prog_1_method_1_code 1 none ∈ Ts := mw_in (i := 41) (by decide +kernel) (by decide +kernel)
theorem tw_42 : Cond.methodLink "MapStore" 3 y_OB_init ∈ Ts := mw_in (i := 42) (by decide +kernel) (by decide +kernel)
theorem tw_43 : Cond.instanceMethod y_OB_init ∈ Ts := mw_in (i := 43) (by decide +kernel) (by decide +kernel)
theorem tw_44 : Cond.code y_OB_init object_method_1_code 1 none ∈ Ts := mw_in (i := 44) (by decide +kernel) (by decide +kernel)
theorem tw_45 : Cond.classLink "MapStore" 9 "MapStore$Bytes" ∈ Ts := mw_in (i := 45) (by decide +kernel) (by decide +kernel)
theorem tw_46 : Cond.instantiable "MapStore$Bytes" 2 ∈ Ts := mw_in (i := 46) (by decide +kernel) (by decide +kernel)
theorem tw_47 : Cond.methodLink "MapStore" 11 y_BY_init ∈ Ts := mw_in (i := 47) (by decide +kernel) (by decide +kernel)
theorem tw_48 : Cond.instanceMethod y_BY_init ∈ Ts := mw_in (i := 48) (by decide +kernel) (by decide +kernel)
theorem tw_49 : Cond.code y_BY_init prog_4_method_1_code 2 none ∈ Ts := mw_in (i := 49) (by decide +kernel) (by decide +kernel)
theorem tw_50 : Cond.methodLink "MapStore$Bytes" 3 y_OB_init ∈ Ts := mw_in (i := 50) (by decide +kernel) (by decide +kernel)
theorem tw_51 : Cond.methodLinkNest "MapStore$Bytes" 15 y_MS_filledUp "MapStore" ∈ Ts := mw_in (i := 51) (by decide +kernel) (by decide +kernel)
theorem tw_52 : Cond.static y_MS_filledUp ∈ Ts := mw_in (i := 52) (by decide +kernel) (by decide +kernel)
theorem tw_53 : Cond.code y_MS_filledUp prog_1_method_22_code 1 (some .int) ∈ Ts := mw_in (i := 53) (by decide +kernel) (by decide +kernel)
theorem tw_54 : Cond.fieldLink "MapStore$Bytes" 9 "MapStore$Bytes" "length" "I" ∈ Ts := mw_in (i := 54) (by decide +kernel) (by decide +kernel)
theorem tw_55 : Cond.fieldLink "MapStore$Bytes" 19 "MapStore$Bytes" "words" "[J" ∈ Ts := mw_in (i := 55) (by decide +kernel) (by decide +kernel)
theorem tw_61 : Cond.arrayClass FieldType.long ∈ Ts := mw_in (i := 61) (by decide +kernel) (by decide +kernel)
theorem tw_62 : Cond.constant "MapStore" 18 65536 ∈ Ts := mw_in (i := 62) (by decide +kernel) (by decide +kernel)
theorem tw_63 : Cond.classLink "MapStore" 22 "MapStore$AnyMap" ∈ Ts := mw_in (i := 63) (by decide +kernel) (by decide +kernel)
theorem tw_64 : Cond.arrayOver (FieldType.object "MapStore$AnyMap") ∈ Ts := mw_in (i := 64) (by decide +kernel) (by decide +kernel)
theorem tw_65 : Cond.fieldLink "MapStore" 14 "MapStore" "deskBytes" "LMapStore$Bytes;" ∈ Ts := mw_in (i := 65) (by decide +kernel) (by decide +kernel)
theorem tw_66 : Cond.fieldLink "MapStore" 19 "MapStore" "areaBytes" "LMapStore$Bytes;" ∈ Ts := mw_in (i := 66) (by decide +kernel) (by decide +kernel)
theorem tw_67 : Cond.fieldLink "MapStore" 24 "MapStore" "rows" "[LMapStore$AnyMap;" ∈ Ts := mw_in (i := 67) (by decide +kernel) (by decide +kernel)
theorem tw_68 : Cond.fieldLink "MapStore" 28 "MapStore" "made" "I" ∈ Ts := mw_in (i := 68) (by decide +kernel) (by decide +kernel)
theorem tw_69 : Cond.fieldLink "MapStore" 32 "MapStore" "areaGiven" "I" ∈ Ts := mw_in (i := 69) (by decide +kernel) (by decide +kernel)
theorem tw_81 : Cond.methodLink "MapStoreLaw" 76 y_MS_maps ∈ Ts := mw_in (i := 81) (by decide +kernel) (by decide +kernel)
theorem tw_82 : Cond.instanceMethod y_MS_maps ∈ Ts := mw_in (i := 82) (by decide +kernel) (by decide +kernel)
theorem tw_83 : Cond.selects "MapStore" y_MS_maps y_MS_maps ∈ Ts := mw_in (i := 83) (by decide +kernel) (by decide +kernel)
theorem tw_84 : Cond.code y_MS_maps prog_1_method_3_code 1 (some .int) ∈ Ts := mw_in (i := 84) (by decide +kernel) (by decide +kernel)
theorem tw_85 : Cond.methodLink "MapStoreLaw" 123 y_MS_breaches ∈ Ts := mw_in (i := 85) (by decide +kernel) (by decide +kernel)
theorem tw_86 : Cond.instanceMethod y_MS_breaches ∈ Ts := mw_in (i := 86) (by decide +kernel) (by decide +kernel)
theorem tw_87 : Cond.selects "MapStore" y_MS_breaches y_MS_breaches ∈ Ts := mw_in (i := 87) (by decide +kernel) (by decide +kernel)
theorem tw_88 : Cond.code y_MS_breaches prog_1_method_16_code 3 (some .int) ∈ Ts := mw_in (i := 88) (by decide +kernel) (by decide +kernel)
theorem tw_89 : Cond.methodLink "MapStore" 59 y_MS_mapOf ∈ Ts := mw_in (i := 89) (by decide +kernel) (by decide +kernel)
theorem tw_91 : Cond.instanceMethod y_MS_mapOf ∈ Ts := mw_in (i := 91) (by decide +kernel) (by decide +kernel)
theorem tw_92 : Cond.code y_MS_mapOf prog_1_method_17_code 3 (some (.object "MapStore$AnyMap")) ∈ Ts := mw_in (i := 92) (by decide +kernel) (by decide +kernel)
theorem tw_93 : Cond.classLink "MapStore" 108 "java/lang/IndexOutOfBoundsException" ∈ Ts := mw_in (i := 93) (by decide +kernel) (by decide +kernel)
theorem tw_94 : Cond.instantiable "java/lang/IndexOutOfBoundsException" 6 ∈ Ts := mw_in (i := 94) (by decide +kernel) (by decide +kernel)
theorem tw_95 : Cond.castable "java/lang/IndexOutOfBoundsException" "java/lang/IndexOutOfBoundsException" ∈ Ts := mw_in (i := 95) (by decide +kernel) (by decide +kernel)
theorem tw_96 : Cond.declares y_RE_init ∈ Ts := mw_in (i := 96) (by decide +kernel) (by decide +kernel)
theorem tw_97 : Cond.declares y_RE_initS ∈ Ts := mw_in (i := 97) (by decide +kernel) (by decide +kernel)
theorem tw_98 : Cond.declares y_EX_init ∈ Ts := mw_in (i := 98) (by decide +kernel) (by decide +kernel)
theorem tw_99 : Cond.declares y_EX_initS ∈ Ts := mw_in (i := 99) (by decide +kernel) (by decide +kernel)
theorem tw_100 : Cond.declares y_TH_init ∈ Ts := mw_in (i := 100) (by decide +kernel) (by decide +kernel)
theorem tw_101 : Cond.declares y_TH_initS ∈ Ts := mw_in (i := 101) (by decide +kernel) (by decide +kernel)
theorem tw_102 : Cond.selects "java/lang/IndexOutOfBoundsException" y_TH_fillInStackTraceI y_TH_fillInStackTraceI ∈ Ts := mw_in (i := 102) (by decide +kernel) (by decide +kernel)
theorem tw_103 : Cond.selects "java/lang/IndexOutOfBoundsException" y_TH_fillInStackTrace y_TH_fillInStackTrace ∈ Ts := mw_in (i := 103) (by decide +kernel) (by decide +kernel)
theorem tw_114 : Cond.fieldLink "java/lang/Throwable" 198 "java/lang/Throwable" "backtrace" "Ljava/lang/Object;" ∈ Ts := mw_in (i := 114) (by decide +kernel) (by decide +kernel)
theorem tw_116 : Cond.instanceMethod y_TH_init ∈ Ts := mw_in (i := 116) (by decide +kernel) (by decide +kernel)
theorem tw_117 : Cond.code y_TH_init prog_18_method_1_code 1 none ∈ Ts := mw_in (i := 117) (by decide +kernel) (by decide +kernel)
theorem tw_118 : Cond.methodLink "java/lang/Throwable" 1 y_OB_init ∈ Ts := mw_in (i := 118) (by decide +kernel) (by decide +kernel)
theorem tw_119 : Cond.fieldLink "java/lang/Throwable" 13 "java/lang/Throwable" "UNASSIGNED_STACK" "[Ljava/lang/StackTraceElement;" ∈ Ts := mw_in (i := 119) (by decide +kernel) (by decide +kernel)
theorem tw_121 : Cond.fieldLink "java/lang/Throwable" 20 "java/lang/Throwable" "SUPPRESSED_SENTINEL" "Ljava/util/List;" ∈ Ts := mw_in (i := 121) (by decide +kernel) (by decide +kernel)
theorem tw_123 : Cond.methodLink "java/lang/Throwable" 27 y_TH_fillInStackTrace ∈ Ts := mw_in (i := 123) (by decide +kernel) (by decide +kernel)
theorem tw_124 : Cond.instanceMethod y_TH_fillInStackTrace ∈ Ts := mw_in (i := 124) (by decide +kernel) (by decide +kernel)
theorem tw_125 : Cond.sameMethod "java/lang/Throwable" "java/lang/Throwable" "fillInStackTrace" "()Ljava/lang/Throwable;" ∈ Ts := mw_in (i := 125) (by decide +kernel) (by decide +kernel)
theorem tw_126 : Cond.selects "java/lang/IllegalArgumentException" y_TH_fillInStackTrace y_TH_fillInStackTrace ∈ Ts := mw_in (i := 126) (by decide +kernel) (by decide +kernel)
theorem tw_127 : Cond.selects "java/lang/IllegalStateException" y_TH_fillInStackTrace y_TH_fillInStackTrace ∈ Ts := mw_in (i := 127) (by decide +kernel) (by decide +kernel)
theorem tw_129 : Cond.methodLink "java/lang/Throwable" 202 y_TH_fillInStackTraceI ∈ Ts := mw_in (i := 129) (by decide +kernel) (by decide +kernel)
theorem tw_131 : Cond.instanceMethod y_TH_fillInStackTraceI ∈ Ts := mw_in (i := 131) (by decide +kernel) (by decide +kernel)
theorem tw_132 : Cond.instantiable "java/lang/Throwable" 6 ∈ Ts := mw_in (i := 132) (by decide +kernel) (by decide +kernel)
theorem tw_135 : Cond.methodLink "MapStore" 112 y_IX_initS ∈ Ts := mw_in (i := 135) (by decide +kernel) (by decide +kernel)
theorem tw_136 : Cond.instanceMethod y_IX_initS ∈ Ts := mw_in (i := 136) (by decide +kernel) (by decide +kernel)
theorem tw_137 : Cond.code y_IX_initS prog_13_method_2_code 2 none ∈ Ts := mw_in (i := 137) (by decide +kernel) (by decide +kernel)
theorem tw_138 : Cond.methodLink "java/lang/IndexOutOfBoundsException" 7 y_RE_initS ∈ Ts := mw_in (i := 138) (by decide +kernel) (by decide +kernel)
theorem tw_139 : Cond.instanceMethod y_RE_initS ∈ Ts := mw_in (i := 139) (by decide +kernel) (by decide +kernel)
theorem tw_140 : Cond.code y_RE_initS prog_16_method_2_code 2 none ∈ Ts := mw_in (i := 140) (by decide +kernel) (by decide +kernel)
theorem tw_141 : Cond.methodLink "java/lang/RuntimeException" 7 y_EX_initS ∈ Ts := mw_in (i := 141) (by decide +kernel) (by decide +kernel)
theorem tw_142 : Cond.instanceMethod y_EX_initS ∈ Ts := mw_in (i := 142) (by decide +kernel) (by decide +kernel)
theorem tw_143 : Cond.code y_EX_initS prog_10_method_2_code 2 none ∈ Ts := mw_in (i := 143) (by decide +kernel) (by decide +kernel)
theorem tw_144 : Cond.methodLink "java/lang/Exception" 7 y_TH_initS ∈ Ts := mw_in (i := 144) (by decide +kernel) (by decide +kernel)
theorem tw_145 : Cond.instanceMethod y_TH_initS ∈ Ts := mw_in (i := 145) (by decide +kernel) (by decide +kernel)
theorem tw_146 : Cond.code y_TH_initS prog_18_method_2_code 2 none ∈ Ts := mw_in (i := 146) (by decide +kernel) (by decide +kernel)
theorem tw_147 : Cond.fieldLink "java/lang/Throwable" 198 "java/lang/Throwable" "backtrace" "Ljava/lang/Object;" ∈ Ts := mw_in (i := 147) (by decide +kernel) (by decide +kernel)
theorem tw_148 : Cond.fieldLink "java/lang/Throwable" 31 "java/lang/Throwable" "detailMessage" "Ljava/lang/String;" ∈ Ts := mw_in (i := 148) (by decide +kernel) (by decide +kernel)
theorem tw_149 : Cond.fieldLink "java/lang/Throwable" 7 "java/lang/Throwable" "cause" "Ljava/lang/Throwable;" ∈ Ts := mw_in (i := 149) (by decide +kernel) (by decide +kernel)
theorem tw_150 : Cond.fieldLink "java/lang/Throwable" 17 "java/lang/Throwable" "stackTrace" "[Ljava/lang/StackTraceElement;" ∈ Ts := mw_in (i := 150) (by decide +kernel) (by decide +kernel)
theorem tw_151 : Cond.fieldLink "java/lang/Throwable" 24 "java/lang/Throwable" "suppressedExceptions" "Ljava/util/List;" ∈ Ts := mw_in (i := 151) (by decide +kernel) (by decide +kernel)
theorem tw_160 : Cond.arrayClass FieldType.byte ∈ Ts := mw_in (i := 160) (by decide +kernel) (by decide +kernel)
theorem tw_161 : Cond.methodLink "MapStore" 105 y_AN_clashes ∈ Ts := mw_in (i := 161) (by decide +kernel) (by decide +kernel)
theorem tw_162 : Cond.instanceMethod y_AN_clashes ∈ Ts := mw_in (i := 162) (by decide +kernel) (by decide +kernel)
theorem tw_163 : Cond.sameMethod "MapStore$AnyMap" "MapStore$AnyMap" "clashes" "()I" ∈ Ts := mw_in (i := 163) (by decide +kernel) (by decide +kernel)
theorem tw_164 : Cond.selects "MapStore$ArrayMap" y_AN_clashes y_AN_clashes ∈ Ts := mw_in (i := 164) (by decide +kernel) (by decide +kernel)
theorem tw_165 : Cond.selects "MapStore$RingMap" y_AN_clashes y_AN_clashes ∈ Ts := mw_in (i := 165) (by decide +kernel) (by decide +kernel)
theorem tw_166 : Cond.selects "MapStore$TableMap" y_AN_clashes y_TM_clashes ∈ Ts := mw_in (i := 166) (by decide +kernel) (by decide +kernel)
theorem tw_167 : Cond.instanceMethod y_TM_clashes ∈ Ts := mw_in (i := 167) (by decide +kernel) (by decide +kernel)
theorem tw_168 : Cond.code y_TM_clashes prog_7_method_3_code 1 (some .int) ∈ Ts := mw_in (i := 168) (by decide +kernel) (by decide +kernel)
theorem tw_169 : Cond.code y_AN_clashes prog_2_method_9_code 1 (some .int) ∈ Ts := mw_in (i := 169) (by decide +kernel) (by decide +kernel)
theorem tw_170 : Cond.methodLink "MapStoreLaw" 66 y_LW_make ∈ Ts := mw_in (i := 170) (by decide +kernel) (by decide +kernel)
theorem tw_171 : Cond.static y_LW_make ∈ Ts := mw_in (i := 171) (by decide +kernel) (by decide +kernel)
theorem tw_172 : Cond.codeWith y_LW_make method_3_code 7 (some .int) [(0, 14, 17, 13), (0, 14, 21, 15)] ∈ Ts := mw_in (i := 172) (by decide +kernel) (by decide +kernel)
theorem tw_173 : Cond.classLink "MapStoreLaw" 13 "java/lang/IllegalArgumentException" ∈ Ts := mw_in (i := 173) (by decide +kernel) (by decide +kernel)
theorem tw_174 : Cond.classLink "MapStoreLaw" 15 "java/lang/IllegalStateException" ∈ Ts := mw_in (i := 174) (by decide +kernel) (by decide +kernel)
theorem tw_175 : Cond.methodLink "MapStoreLaw" 7 y_MS_make ∈ Ts := mw_in (i := 175) (by decide +kernel) (by decide +kernel)
theorem tw_176 : Cond.instanceMethod y_MS_make ∈ Ts := mw_in (i := 176) (by decide +kernel) (by decide +kernel)
theorem tw_177 : Cond.selects "MapStore" y_MS_make y_MS_make ∈ Ts := mw_in (i := 177) (by decide +kernel) (by decide +kernel)
theorem tw_178 : Cond.code y_MS_make prog_1_method_2_code 6 (some .int) ∈ Ts := mw_in (i := 178) (by decide +kernel) (by decide +kernel)
theorem tw_179 : Cond.methodLink "MapStore" 35 y_MS_sizesFit ∈ Ts := mw_in (i := 179) (by decide +kernel) (by decide +kernel)
theorem tw_180 : Cond.static y_MS_sizesFit ∈ Ts := mw_in (i := 180) (by decide +kernel) (by decide +kernel)
theorem tw_181 : Cond.code y_MS_sizesFit prog_1_method_19_code 4 (some .boolean) ∈ Ts := mw_in (i := 181) (by decide +kernel) (by decide +kernel)
theorem tw_182 : Cond.methodLink "MapStore" 128 y_MS_within ∈ Ts := mw_in (i := 182) (by decide +kernel) (by decide +kernel)
theorem tw_183 : Cond.static y_MS_within ∈ Ts := mw_in (i := 183) (by decide +kernel) (by decide +kernel)
theorem tw_184 : Cond.code y_MS_within prog_1_method_21_code 4 (some .boolean) ∈ Ts := mw_in (i := 184) (by decide +kernel) (by decide +kernel)
theorem tw_185 : Cond.methodLink "MapStore" 132 y_IN_bitCount ∈ Ts := mw_in (i := 185) (by decide +kernel) (by decide +kernel)
theorem tw_186 : Cond.static y_IN_bitCount ∈ Ts := mw_in (i := 186) (by decide +kernel) (by decide +kernel)
theorem tw_187 : Cond.code y_IN_bitCount prog_14_method_49_code 1 (some .int) ∈ Ts := mw_in (i := 187) (by decide +kernel) (by decide +kernel)
theorem tw_188 : Cond.constant "java/lang/Integer" 265 1431655765 ∈ Ts := mw_in (i := 188) (by decide +kernel) (by decide +kernel)
theorem tw_189 : Cond.constant "java/lang/Integer" 266 858993459 ∈ Ts := mw_in (i := 189) (by decide +kernel) (by decide +kernel)
theorem tw_190 : Cond.constant "java/lang/Integer" 267 252645135 ∈ Ts := mw_in (i := 190) (by decide +kernel) (by decide +kernel)
theorem tw_191 : Cond.classLink "MapStore" 39 "java/lang/IllegalArgumentException" ∈ Ts := mw_in (i := 191) (by decide +kernel) (by decide +kernel)
theorem tw_192 : Cond.instantiable "java/lang/IllegalArgumentException" 6 ∈ Ts := mw_in (i := 192) (by decide +kernel) (by decide +kernel)
theorem tw_193 : Cond.castable "java/lang/IllegalArgumentException" "java/lang/IllegalArgumentException" ∈ Ts := mw_in (i := 193) (by decide +kernel) (by decide +kernel)
theorem tw_194 : Cond.selects "java/lang/IllegalArgumentException" y_TH_fillInStackTraceI y_TH_fillInStackTraceI ∈ Ts := mw_in (i := 194) (by decide +kernel) (by decide +kernel)
theorem tw_201 : Cond.methodLink "MapStore" 43 y_IA_initS ∈ Ts := mw_in (i := 201) (by decide +kernel) (by decide +kernel)
theorem tw_202 : Cond.instanceMethod y_IA_initS ∈ Ts := mw_in (i := 202) (by decide +kernel) (by decide +kernel)
theorem tw_203 : Cond.code y_IA_initS prog_11_method_2_code 2 none ∈ Ts := mw_in (i := 203) (by decide +kernel) (by decide +kernel)
theorem tw_204 : Cond.methodLink "java/lang/IllegalArgumentException" 7 y_RE_initS ∈ Ts := mw_in (i := 204) (by decide +kernel) (by decide +kernel)
theorem tw_207 : Cond.methodLink "MapStore" 46 y_MS_filledUp ∈ Ts := mw_in (i := 207) (by decide +kernel) (by decide +kernel)
theorem tw_208 : Cond.classLink "MapStore" 50 "java/lang/IllegalStateException" ∈ Ts := mw_in (i := 208) (by decide +kernel) (by decide +kernel)
theorem tw_209 : Cond.instantiable "java/lang/IllegalStateException" 6 ∈ Ts := mw_in (i := 209) (by decide +kernel) (by decide +kernel)
theorem tw_210 : Cond.castable "java/lang/IllegalStateException" "java/lang/IllegalStateException" ∈ Ts := mw_in (i := 210) (by decide +kernel) (by decide +kernel)
theorem tw_211 : Cond.selects "java/lang/IllegalStateException" y_TH_fillInStackTraceI y_TH_fillInStackTraceI ∈ Ts := mw_in (i := 211) (by decide +kernel) (by decide +kernel)
theorem tw_218 : Cond.methodLink "MapStore" 54 y_IS_initS ∈ Ts := mw_in (i := 218) (by decide +kernel) (by decide +kernel)
theorem tw_219 : Cond.instanceMethod y_IS_initS ∈ Ts := mw_in (i := 219) (by decide +kernel) (by decide +kernel)
theorem tw_220 : Cond.code y_IS_initS prog_12_method_2_code 2 none ∈ Ts := mw_in (i := 220) (by decide +kernel) (by decide +kernel)
theorem tw_221 : Cond.methodLink "java/lang/IllegalStateException" 7 y_RE_initS ∈ Ts := mw_in (i := 221) (by decide +kernel) (by decide +kernel)
theorem tw_224 : Cond.methodLink "MapStore" 55 y_MS_newMap ∈ Ts := mw_in (i := 224) (by decide +kernel) (by decide +kernel)
theorem tw_226 : Cond.instanceMethod y_MS_newMap ∈ Ts := mw_in (i := 226) (by decide +kernel) (by decide +kernel)
theorem tw_227 : Cond.code y_MS_newMap prog_1_method_18_code 5 (some (.object "MapStore$AnyMap")) ∈ Ts := mw_in (i := 227) (by decide +kernel) (by decide +kernel)
theorem tw_228 : Cond.classLink "MapStore" 113 "MapStore$ArrayMap" ∈ Ts := mw_in (i := 228) (by decide +kernel) (by decide +kernel)
theorem tw_229 : Cond.instantiable "MapStore$ArrayMap" 6 ∈ Ts := mw_in (i := 229) (by decide +kernel) (by decide +kernel)
theorem tw_230 : Cond.methodLink "MapStore" 115 y_AM_init ∈ Ts := mw_in (i := 230) (by decide +kernel) (by decide +kernel)
theorem tw_231 : Cond.instanceMethod y_AM_init ∈ Ts := mw_in (i := 231) (by decide +kernel) (by decide +kernel)
theorem tw_232 : Cond.code y_AM_init prog_3_method_1_code 6 none ∈ Ts := mw_in (i := 232) (by decide +kernel) (by decide +kernel)
theorem tw_233 : Cond.methodLink "MapStore$ArrayMap" 3 y_EM_init ∈ Ts := mw_in (i := 233) (by decide +kernel) (by decide +kernel)
theorem tw_234 : Cond.instanceMethod y_EM_init ∈ Ts := mw_in (i := 234) (by decide +kernel) (by decide +kernel)
theorem tw_235 : Cond.code y_EM_init prog_5_method_1_code 7 none ∈ Ts := mw_in (i := 235) (by decide +kernel) (by decide +kernel)
theorem tw_236 : Cond.methodLink "MapStore$EntryMap" 3 y_AN_init ∈ Ts := mw_in (i := 236) (by decide +kernel) (by decide +kernel)
theorem tw_237 : Cond.instanceMethod y_AN_init ∈ Ts := mw_in (i := 237) (by decide +kernel) (by decide +kernel)
theorem tw_238 : Cond.code y_AN_init prog_2_method_1_code 4 none ∈ Ts := mw_in (i := 238) (by decide +kernel) (by decide +kernel)
theorem tw_239 : Cond.methodLink "MapStore$AnyMap" 3 y_OB_init ∈ Ts := mw_in (i := 239) (by decide +kernel) (by decide +kernel)
theorem tw_240 : Cond.fieldLink "MapStore$EntryMap" 9 "MapStore$EntryMap" "keySize" "I" ∈ Ts := mw_in (i := 240) (by decide +kernel) (by decide +kernel)
theorem tw_241 : Cond.fieldLink "MapStore$TableMap" 37 "MapStore$TableMap" "keySize" "I" ∈ Ts := mw_in (i := 241) (by decide +kernel) (by decide +kernel)
theorem tw_242 : Cond.sameField "MapStore$TableMap" "MapStore$EntryMap" "keySize" "I" ∈ Ts := mw_in (i := 242) (by decide +kernel) (by decide +kernel)
theorem tw_243 : Cond.fieldLink "MapStore$EntryMap" 15 "MapStore$EntryMap" "valueSize" "I" ∈ Ts := mw_in (i := 243) (by decide +kernel) (by decide +kernel)
theorem tw_244 : Cond.fieldLink "MapStore$EntryMap" 18 "MapStore$EntryMap" "entries" "I" ∈ Ts := mw_in (i := 244) (by decide +kernel) (by decide +kernel)
theorem tw_245 : Cond.fieldLink "MapStore$ArrayMap" 9 "MapStore$ArrayMap" "entries" "I" ∈ Ts := mw_in (i := 245) (by decide +kernel) (by decide +kernel)
theorem tw_246 : Cond.sameField "MapStore$ArrayMap" "MapStore$EntryMap" "entries" "I" ∈ Ts := mw_in (i := 246) (by decide +kernel) (by decide +kernel)
theorem tw_247 : Cond.fieldLink "MapStore$TableMap" 66 "MapStore$TableMap" "entries" "I" ∈ Ts := mw_in (i := 247) (by decide +kernel) (by decide +kernel)
theorem tw_248 : Cond.sameField "MapStore$TableMap" "MapStore$EntryMap" "entries" "I" ∈ Ts := mw_in (i := 248) (by decide +kernel) (by decide +kernel)
theorem tw_249 : Cond.fieldLink "MapStore$AnyMap" 9 "MapStore$AnyMap" "desk" "LMapStore$Bytes;" ∈ Ts := mw_in (i := 249) (by decide +kernel) (by decide +kernel)
theorem tw_250 : Cond.fieldLink "MapStore$ArrayMap" 15 "MapStore$ArrayMap" "desk" "LMapStore$Bytes;" ∈ Ts := mw_in (i := 250) (by decide +kernel) (by decide +kernel)
theorem tw_251 : Cond.sameField "MapStore$ArrayMap" "MapStore$AnyMap" "desk" "LMapStore$Bytes;" ∈ Ts := mw_in (i := 251) (by decide +kernel) (by decide +kernel)
theorem tw_252 : Cond.fieldLink "MapStore$RingMap" 33 "MapStore$RingMap" "desk" "LMapStore$Bytes;" ∈ Ts := mw_in (i := 252) (by decide +kernel) (by decide +kernel)
theorem tw_253 : Cond.sameField "MapStore$RingMap" "MapStore$AnyMap" "desk" "LMapStore$Bytes;" ∈ Ts := mw_in (i := 253) (by decide +kernel) (by decide +kernel)
theorem tw_254 : Cond.fieldLink "MapStore$EntryMap" 21 "MapStore$EntryMap" "desk" "LMapStore$Bytes;" ∈ Ts := mw_in (i := 254) (by decide +kernel) (by decide +kernel)
theorem tw_255 : Cond.sameField "MapStore$EntryMap" "MapStore$AnyMap" "desk" "LMapStore$Bytes;" ∈ Ts := mw_in (i := 255) (by decide +kernel) (by decide +kernel)
theorem tw_256 : Cond.fieldLink "MapStore$TableMap" 34 "MapStore$TableMap" "desk" "LMapStore$Bytes;" ∈ Ts := mw_in (i := 256) (by decide +kernel) (by decide +kernel)
theorem tw_257 : Cond.sameField "MapStore$TableMap" "MapStore$AnyMap" "desk" "LMapStore$Bytes;" ∈ Ts := mw_in (i := 257) (by decide +kernel) (by decide +kernel)
theorem tw_258 : Cond.fieldLink "MapStore$AnyMap" 15 "MapStore$AnyMap" "area" "LMapStore$Bytes;" ∈ Ts := mw_in (i := 258) (by decide +kernel) (by decide +kernel)
theorem tw_259 : Cond.fieldLink "MapStore$RingMap" 51 "MapStore$RingMap" "area" "LMapStore$Bytes;" ∈ Ts := mw_in (i := 259) (by decide +kernel) (by decide +kernel)
theorem tw_260 : Cond.sameField "MapStore$RingMap" "MapStore$AnyMap" "area" "LMapStore$Bytes;" ∈ Ts := mw_in (i := 260) (by decide +kernel) (by decide +kernel)
theorem tw_261 : Cond.fieldLink "MapStore$EntryMap" 45 "MapStore$EntryMap" "area" "LMapStore$Bytes;" ∈ Ts := mw_in (i := 261) (by decide +kernel) (by decide +kernel)
theorem tw_262 : Cond.sameField "MapStore$EntryMap" "MapStore$AnyMap" "area" "LMapStore$Bytes;" ∈ Ts := mw_in (i := 262) (by decide +kernel) (by decide +kernel)
theorem tw_263 : Cond.fieldLink "MapStore$AnyMap" 18 "MapStore$AnyMap" "begin" "I" ∈ Ts := mw_in (i := 263) (by decide +kernel) (by decide +kernel)
theorem tw_264 : Cond.fieldLink "MapStore" 63 "MapStore$AnyMap" "begin" "I" ∈ Ts := mw_in (i := 264) (by decide +kernel) (by decide +kernel)
theorem tw_265 : Cond.fieldLink "MapStore$EntryMap" 52 "MapStore$EntryMap" "begin" "I" ∈ Ts := mw_in (i := 265) (by decide +kernel) (by decide +kernel)
theorem tw_266 : Cond.sameField "MapStore$EntryMap" "MapStore$AnyMap" "begin" "I" ∈ Ts := mw_in (i := 266) (by decide +kernel) (by decide +kernel)
theorem tw_267 : Cond.fieldLink "MapStore$RingMap" 75 "MapStore$RingMap" "begin" "I" ∈ Ts := mw_in (i := 267) (by decide +kernel) (by decide +kernel)
theorem tw_268 : Cond.sameField "MapStore$RingMap" "MapStore$AnyMap" "begin" "I" ∈ Ts := mw_in (i := 268) (by decide +kernel) (by decide +kernel)
theorem tw_282 : Cond.classLink "MapStore" 118 "MapStore$TableMap" ∈ Ts := mw_in (i := 282) (by decide +kernel) (by decide +kernel)
theorem tw_283 : Cond.instantiable "MapStore$TableMap" 11 ∈ Ts := mw_in (i := 283) (by decide +kernel) (by decide +kernel)
theorem tw_284 : Cond.methodLink "MapStore" 120 y_TM_init ∈ Ts := mw_in (i := 284) (by decide +kernel) (by decide +kernel)
theorem tw_285 : Cond.instanceMethod y_TM_init ∈ Ts := mw_in (i := 285) (by decide +kernel) (by decide +kernel)
theorem tw_286 : Cond.code y_TM_init prog_7_method_1_code 7 none ∈ Ts := mw_in (i := 286) (by decide +kernel) (by decide +kernel)
theorem tw_287 : Cond.methodLink "MapStore$TableMap" 3 y_EM_init ∈ Ts := mw_in (i := 287) (by decide +kernel) (by decide +kernel)
theorem tw_288 : Cond.classLink "MapStore$TableMap" 21 "MapStore$Bytes" ∈ Ts := mw_in (i := 288) (by decide +kernel) (by decide +kernel)
theorem tw_289 : Cond.arrayOver (FieldType.object "MapStore$Bytes") ∈ Ts := mw_in (i := 289) (by decide +kernel) (by decide +kernel)
theorem tw_290 : Cond.methodLink "MapStore$TableMap" 27 y_BY_init ∈ Ts := mw_in (i := 290) (by decide +kernel) (by decide +kernel)
theorem tw_291 : Cond.fieldLink "MapStore$TableMap" 23 "MapStore$TableMap" "keys" "[LMapStore$Bytes;" ∈ Ts := mw_in (i := 291) (by decide +kernel) (by decide +kernel)
theorem tw_292 : Cond.fieldLink "MapStore$TableMap" 30 "MapStore$TableMap" "asked" "LMapStore$Bytes;" ∈ Ts := mw_in (i := 292) (by decide +kernel) (by decide +kernel)
theorem tw_293 : Cond.fieldLink "MapStore$TableMap" 9 "MapStore$TableMap" "reach" "I" ∈ Ts := mw_in (i := 293) (by decide +kernel) (by decide +kernel)
theorem tw_294 : Cond.fieldLink "MapStore$TableMap" 15 "MapStore$TableMap" "withKey" "I" ∈ Ts := mw_in (i := 294) (by decide +kernel) (by decide +kernel)
theorem tw_295 : Cond.fieldLink "MapStore$TableMap" 18 "MapStore$TableMap" "clashesSeen" "I" ∈ Ts := mw_in (i := 295) (by decide +kernel) (by decide +kernel)
theorem tw_313 : Cond.classLink "MapStore" 123 "MapStore$RingMap" ∈ Ts := mw_in (i := 313) (by decide +kernel) (by decide +kernel)
theorem tw_314 : Cond.instantiable "MapStore$RingMap" 8 ∈ Ts := mw_in (i := 314) (by decide +kernel) (by decide +kernel)
theorem tw_315 : Cond.methodLink "MapStore" 125 y_RM_init ∈ Ts := mw_in (i := 315) (by decide +kernel) (by decide +kernel)
theorem tw_316 : Cond.instanceMethod y_RM_init ∈ Ts := mw_in (i := 316) (by decide +kernel) (by decide +kernel)
theorem tw_317 : Cond.code y_RM_init prog_6_method_1_code 5 none ∈ Ts := mw_in (i := 317) (by decide +kernel) (by decide +kernel)
theorem tw_318 : Cond.methodLink "MapStore$RingMap" 3 y_AN_init ∈ Ts := mw_in (i := 318) (by decide +kernel) (by decide +kernel)
theorem tw_319 : Cond.fieldLink "MapStore$RingMap" 26 "MapStore$RingMap" "length" "I" ∈ Ts := mw_in (i := 319) (by decide +kernel) (by decide +kernel)
theorem tw_320 : Cond.fieldLink "MapStore$RingMap" 9 "MapStore$RingMap" "head" "J" ∈ Ts := mw_in (i := 320) (by decide +kernel) (by decide +kernel)
theorem tw_321 : Cond.fieldLink "MapStore$RingMap" 15 "MapStore$RingMap" "tail" "J" ∈ Ts := mw_in (i := 321) (by decide +kernel) (by decide +kernel)
theorem tw_322 : Cond.fieldLink "MapStore$RingMap" 18 "MapStore$RingMap" "records" "I" ∈ Ts := mw_in (i := 322) (by decide +kernel) (by decide +kernel)
theorem tw_323 : Cond.fieldLink "MapStore$RingMap" 22 "MapStore$RingMap" "broken" "Z" ∈ Ts := mw_in (i := 323) (by decide +kernel) (by decide +kernel)
theorem tw_338 : Cond.methodLink "MapStoreLaw" 80 y_LW_begins ∈ Ts := mw_in (i := 338) (by decide +kernel) (by decide +kernel)
theorem tw_339 : Cond.static y_LW_begins ∈ Ts := mw_in (i := 339) (by decide +kernel) (by decide +kernel)
theorem tw_340 : Cond.codeWith y_LW_begins method_4_code 4 (some .int) [(0, 9, 12, 21)] ∈ Ts := mw_in (i := 340) (by decide +kernel) (by decide +kernel)
theorem tw_341 : Cond.classLink "MapStoreLaw" 21 "java/lang/IndexOutOfBoundsException" ∈ Ts := mw_in (i := 341) (by decide +kernel) (by decide +kernel)
theorem tw_342 : Cond.methodLink "MapStoreLaw" 17 y_MS_begins ∈ Ts := mw_in (i := 342) (by decide +kernel) (by decide +kernel)
theorem tw_343 : Cond.instanceMethod y_MS_begins ∈ Ts := mw_in (i := 343) (by decide +kernel) (by decide +kernel)
theorem tw_344 : Cond.selects "MapStore" y_MS_begins y_MS_begins ∈ Ts := mw_in (i := 344) (by decide +kernel) (by decide +kernel)
theorem tw_345 : Cond.code y_MS_begins prog_1_method_4_code 2 (some .int) ∈ Ts := mw_in (i := 345) (by decide +kernel) (by decide +kernel)
theorem tw_346 : Cond.methodLink "MapStoreLaw" 84 y_LW_used ∈ Ts := mw_in (i := 346) (by decide +kernel) (by decide +kernel)
theorem tw_347 : Cond.static y_LW_used ∈ Ts := mw_in (i := 347) (by decide +kernel) (by decide +kernel)
theorem tw_348 : Cond.codeWith y_LW_used method_5_code 4 (some .int) [(0, 9, 12, 21)] ∈ Ts := mw_in (i := 348) (by decide +kernel) (by decide +kernel)
theorem tw_349 : Cond.methodLink "MapStoreLaw" 23 y_MS_used ∈ Ts := mw_in (i := 349) (by decide +kernel) (by decide +kernel)
theorem tw_350 : Cond.instanceMethod y_MS_used ∈ Ts := mw_in (i := 350) (by decide +kernel) (by decide +kernel)
theorem tw_351 : Cond.selects "MapStore" y_MS_used y_MS_used ∈ Ts := mw_in (i := 351) (by decide +kernel) (by decide +kernel)
theorem tw_352 : Cond.code y_MS_used prog_1_method_5_code 2 (some .int) ∈ Ts := mw_in (i := 352) (by decide +kernel) (by decide +kernel)
theorem tw_353 : Cond.methodLink "MapStore" 66 y_AN_inUse ∈ Ts := mw_in (i := 353) (by decide +kernel) (by decide +kernel)
theorem tw_354 : Cond.declares y_AN_inUse ∈ Ts := mw_in (i := 354) (by decide +kernel) (by decide +kernel)
theorem tw_355 : Cond.sameMethod "MapStore$AnyMap" "MapStore$AnyMap" "inUse" "()I" ∈ Ts := mw_in (i := 355) (by decide +kernel) (by decide +kernel)
theorem tw_356 : Cond.selects "MapStore$ArrayMap" y_AN_inUse y_AM_inUse ∈ Ts := mw_in (i := 356) (by decide +kernel) (by decide +kernel)
theorem tw_357 : Cond.instanceMethod y_AM_inUse ∈ Ts := mw_in (i := 357) (by decide +kernel) (by decide +kernel)
theorem tw_358 : Cond.code y_AM_inUse prog_3_method_2_code 1 (some .int) ∈ Ts := mw_in (i := 358) (by decide +kernel) (by decide +kernel)
theorem tw_359 : Cond.selects "MapStore$RingMap" y_AN_inUse y_RM_inUse ∈ Ts := mw_in (i := 359) (by decide +kernel) (by decide +kernel)
theorem tw_360 : Cond.instanceMethod y_RM_inUse ∈ Ts := mw_in (i := 360) (by decide +kernel) (by decide +kernel)
theorem tw_361 : Cond.code y_RM_inUse prog_6_method_2_code 1 (some .int) ∈ Ts := mw_in (i := 361) (by decide +kernel) (by decide +kernel)
theorem tw_362 : Cond.selects "MapStore$TableMap" y_AN_inUse y_TM_inUse ∈ Ts := mw_in (i := 362) (by decide +kernel) (by decide +kernel)
theorem tw_363 : Cond.instanceMethod y_TM_inUse ∈ Ts := mw_in (i := 363) (by decide +kernel) (by decide +kernel)
theorem tw_364 : Cond.code y_TM_inUse prog_7_method_2_code 1 (some .int) ∈ Ts := mw_in (i := 364) (by decide +kernel) (by decide +kernel)
theorem tw_365 : Cond.methodLink "MapStoreLaw" 87 y_LW_desk ∈ Ts := mw_in (i := 365) (by decide +kernel) (by decide +kernel)
theorem tw_366 : Cond.static y_LW_desk ∈ Ts := mw_in (i := 366) (by decide +kernel) (by decide +kernel)
theorem tw_367 : Cond.codeWith y_LW_desk method_6_code 4 (some .int) [(0, 8, 11, 21)] ∈ Ts := mw_in (i := 367) (by decide +kernel) (by decide +kernel)
theorem tw_368 : Cond.methodLink "MapStoreLaw" 26 y_MS_desk ∈ Ts := mw_in (i := 368) (by decide +kernel) (by decide +kernel)
theorem tw_369 : Cond.instanceMethod y_MS_desk ∈ Ts := mw_in (i := 369) (by decide +kernel) (by decide +kernel)
theorem tw_370 : Cond.selects "MapStore" y_MS_desk y_MS_desk ∈ Ts := mw_in (i := 370) (by decide +kernel) (by decide +kernel)
theorem tw_371 : Cond.code y_MS_desk prog_1_method_6_code 2 (some .long) ∈ Ts := mw_in (i := 371) (by decide +kernel) (by decide +kernel)
theorem tw_372 : Cond.methodLink "MapStore" 70 y_BY_demand ∈ Ts := mw_in (i := 372) (by decide +kernel) (by decide +kernel)
theorem tw_373 : Cond.instanceMethod y_BY_demand ∈ Ts := mw_in (i := 373) (by decide +kernel) (by decide +kernel)
theorem tw_374 : Cond.selects "MapStore$Bytes" y_BY_demand y_BY_demand ∈ Ts := mw_in (i := 374) (by decide +kernel) (by decide +kernel)
theorem tw_375 : Cond.code y_BY_demand prog_4_method_2_code 3 none ∈ Ts := mw_in (i := 375) (by decide +kernel) (by decide +kernel)
theorem tw_376 : Cond.classLink "MapStore$Bytes" 23 "java/lang/IndexOutOfBoundsException" ∈ Ts := mw_in (i := 376) (by decide +kernel) (by decide +kernel)
theorem tw_378 : Cond.methodLink "MapStore$Bytes" 27 y_IX_initS ∈ Ts := mw_in (i := 378) (by decide +kernel) (by decide +kernel)
theorem tw_379 : Cond.methodLink "MapStore" 74 y_BY_number ∈ Ts := mw_in (i := 379) (by decide +kernel) (by decide +kernel)
theorem tw_380 : Cond.instanceMethod y_BY_number ∈ Ts := mw_in (i := 380) (by decide +kernel) (by decide +kernel)
theorem tw_381 : Cond.selects "MapStore$Bytes" y_BY_number y_BY_number ∈ Ts := mw_in (i := 381) (by decide +kernel) (by decide +kernel)
theorem tw_382 : Cond.code y_BY_number prog_4_method_5_code 6 (some .long) ∈ Ts := mw_in (i := 382) (by decide +kernel) (by decide +kernel)
theorem tw_383 : Cond.methodLink "MapStore$Bytes" 37 y_BY_byteAt ∈ Ts := mw_in (i := 383) (by decide +kernel) (by decide +kernel)
theorem tw_384 : Cond.instanceMethod y_BY_byteAt ∈ Ts := mw_in (i := 384) (by decide +kernel) (by decide +kernel)
theorem tw_385 : Cond.selects "MapStore$Bytes" y_BY_byteAt y_BY_byteAt ∈ Ts := mw_in (i := 385) (by decide +kernel) (by decide +kernel)
theorem tw_386 : Cond.code y_BY_byteAt prog_4_method_3_code 2 (some .int) ∈ Ts := mw_in (i := 386) (by decide +kernel) (by decide +kernel)
theorem tw_387 : Cond.methodLink "MapStore$Bytes" 30 y_BY_shiftOf ∈ Ts := mw_in (i := 387) (by decide +kernel) (by decide +kernel)
theorem tw_388 : Cond.static y_BY_shiftOf ∈ Ts := mw_in (i := 388) (by decide +kernel) (by decide +kernel)
theorem tw_389 : Cond.code y_BY_shiftOf prog_4_method_9_code 1 (some .int) ∈ Ts := mw_in (i := 389) (by decide +kernel) (by decide +kernel)
theorem tw_390 : Cond.methodLink "MapStoreLaw" 92 y_LW_lay ∈ Ts := mw_in (i := 390) (by decide +kernel) (by decide +kernel)
theorem tw_391 : Cond.static y_LW_lay ∈ Ts := mw_in (i := 391) (by decide +kernel) (by decide +kernel)
theorem tw_392 : Cond.codeWith y_LW_lay method_7_code 5 (some .int) [(0, 6, 9, 21)] ∈ Ts := mw_in (i := 392) (by decide +kernel) (by decide +kernel)
theorem tw_393 : Cond.methodLink "MapStoreLaw" 30 y_MS_lay ∈ Ts := mw_in (i := 393) (by decide +kernel) (by decide +kernel)
theorem tw_394 : Cond.instanceMethod y_MS_lay ∈ Ts := mw_in (i := 394) (by decide +kernel) (by decide +kernel)
theorem tw_395 : Cond.selects "MapStore" y_MS_lay y_MS_lay ∈ Ts := mw_in (i := 395) (by decide +kernel) (by decide +kernel)
theorem tw_396 : Cond.code y_MS_lay prog_1_method_7_code 4 none ∈ Ts := mw_in (i := 396) (by decide +kernel) (by decide +kernel)
theorem tw_397 : Cond.methodLink "MapStore" 78 y_BY_setNumber ∈ Ts := mw_in (i := 397) (by decide +kernel) (by decide +kernel)
theorem tw_398 : Cond.instanceMethod y_BY_setNumber ∈ Ts := mw_in (i := 398) (by decide +kernel) (by decide +kernel)
theorem tw_399 : Cond.selects "MapStore$Bytes" y_BY_setNumber y_BY_setNumber ∈ Ts := mw_in (i := 399) (by decide +kernel) (by decide +kernel)
theorem tw_400 : Cond.code y_BY_setNumber prog_4_method_6_code 6 none ∈ Ts := mw_in (i := 400) (by decide +kernel) (by decide +kernel)
theorem tw_401 : Cond.methodLink "MapStore$Bytes" 40 y_BY_setByte ∈ Ts := mw_in (i := 401) (by decide +kernel) (by decide +kernel)
theorem tw_402 : Cond.instanceMethod y_BY_setByte ∈ Ts := mw_in (i := 402) (by decide +kernel) (by decide +kernel)
theorem tw_403 : Cond.selects "MapStore$Bytes" y_BY_setByte y_BY_setByte ∈ Ts := mw_in (i := 403) (by decide +kernel) (by decide +kernel)
theorem tw_404 : Cond.code y_BY_setByte prog_4_method_4_code 6 none ∈ Ts := mw_in (i := 404) (by decide +kernel) (by decide +kernel)
theorem tw_405 : Cond.constantLong "MapStore$Bytes" 33 255 ∈ Ts := mw_in (i := 405) (by decide +kernel) (by decide +kernel)
theorem tw_406 : Cond.constantLong "MapStore$Bytes" 35 (-1) ∈ Ts := mw_in (i := 406) (by decide +kernel) (by decide +kernel)
theorem tw_407 : Cond.methodLink "MapStoreLaw" 96 y_LW_load ∈ Ts := mw_in (i := 407) (by decide +kernel) (by decide +kernel)
theorem tw_408 : Cond.static y_LW_load ∈ Ts := mw_in (i := 408) (by decide +kernel) (by decide +kernel)
theorem tw_409 : Cond.codeWith y_LW_load method_8_code 5 (some .int) [(0, 9, 12, 21), (0, 9, 16, 13)] ∈ Ts := mw_in (i := 409) (by decide +kernel) (by decide +kernel)
end
section
/-! words of the tables, by their places (printed) -/
theorem tw_410 : Cond.methodLink "MapStoreLaw" 34 y_MS_load ∈ Ts := mw_in (i := 410) (by decide +kernel) (by decide +kernel)
theorem tw_411 : Cond.instanceMethod y_MS_load ∈ Ts := mw_in (i := 411) (by decide +kernel) (by decide +kernel)
theorem tw_412 : Cond.selects "MapStore" y_MS_load y_MS_load ∈ Ts := mw_in (i := 412) (by decide +kernel) (by decide +kernel)
theorem tw_413 : Cond.code y_MS_load prog_1_method_8_code 3 (some .long) ∈ Ts := mw_in (i := 413) (by decide +kernel) (by decide +kernel)
theorem tw_414 : Cond.methodLink "MapStore" 82 y_MS_demandNumberSize ∈ Ts := mw_in (i := 414) (by decide +kernel) (by decide +kernel)
theorem tw_415 : Cond.static y_MS_demandNumberSize ∈ Ts := mw_in (i := 415) (by decide +kernel) (by decide +kernel)
theorem tw_416 : Cond.code y_MS_demandNumberSize prog_1_method_20_code 1 none ∈ Ts := mw_in (i := 416) (by decide +kernel) (by decide +kernel)
theorem tw_418 : Cond.methodLink "MapStoreLaw" 100 y_LW_store ∈ Ts := mw_in (i := 418) (by decide +kernel) (by decide +kernel)
theorem tw_419 : Cond.static y_LW_store ∈ Ts := mw_in (i := 419) (by decide +kernel) (by decide +kernel)
theorem tw_420 : Cond.codeWith y_LW_store method_9_code 6 (some .int) [(0, 7, 10, 21), (0, 7, 14, 13)] ∈ Ts := mw_in (i := 420) (by decide +kernel) (by decide +kernel)
theorem tw_421 : Cond.methodLink "MapStoreLaw" 38 y_MS_store ∈ Ts := mw_in (i := 421) (by decide +kernel) (by decide +kernel)
theorem tw_422 : Cond.instanceMethod y_MS_store ∈ Ts := mw_in (i := 422) (by decide +kernel) (by decide +kernel)
theorem tw_423 : Cond.selects "MapStore" y_MS_store y_MS_store ∈ Ts := mw_in (i := 423) (by decide +kernel) (by decide +kernel)
theorem tw_424 : Cond.code y_MS_store prog_1_method_9_code 5 none ∈ Ts := mw_in (i := 424) (by decide +kernel) (by decide +kernel)
theorem tw_425 : Cond.methodLink "MapStoreLaw" 104 y_LW_find ∈ Ts := mw_in (i := 425) (by decide +kernel) (by decide +kernel)
theorem tw_426 : Cond.static y_LW_find ∈ Ts := mw_in (i := 426) (by decide +kernel) (by decide +kernel)
theorem tw_427 : Cond.codeWith y_LW_find method_10_code 5 (some .int) [(0, 10, 13, 21)] ∈ Ts := mw_in (i := 427) (by decide +kernel) (by decide +kernel)
theorem tw_428 : Cond.methodLink "MapStoreLaw" 42 y_MS_find ∈ Ts := mw_in (i := 428) (by decide +kernel) (by decide +kernel)
theorem tw_429 : Cond.instanceMethod y_MS_find ∈ Ts := mw_in (i := 429) (by decide +kernel) (by decide +kernel)
theorem tw_430 : Cond.selects "MapStore" y_MS_find y_MS_find ∈ Ts := mw_in (i := 430) (by decide +kernel) (by decide +kernel)
theorem tw_431 : Cond.code y_MS_find prog_1_method_10_code 3 (some .int) ∈ Ts := mw_in (i := 431) (by decide +kernel) (by decide +kernel)
theorem tw_432 : Cond.methodLink "MapStore" 85 y_AN_placeOf ∈ Ts := mw_in (i := 432) (by decide +kernel) (by decide +kernel)
theorem tw_433 : Cond.instanceMethod y_AN_placeOf ∈ Ts := mw_in (i := 433) (by decide +kernel) (by decide +kernel)
theorem tw_434 : Cond.sameMethod "MapStore$AnyMap" "MapStore$AnyMap" "placeOf" "(I)I" ∈ Ts := mw_in (i := 434) (by decide +kernel) (by decide +kernel)
theorem tw_435 : Cond.selects "MapStore$ArrayMap" y_AN_placeOf y_EM_placeOf ∈ Ts := mw_in (i := 435) (by decide +kernel) (by decide +kernel)
theorem tw_436 : Cond.instanceMethod y_EM_placeOf ∈ Ts := mw_in (i := 436) (by decide +kernel) (by decide +kernel)
theorem tw_437 : Cond.code y_EM_placeOf prog_5_method_4_code 3 (some .int) ∈ Ts := mw_in (i := 437) (by decide +kernel) (by decide +kernel)
theorem tw_438 : Cond.methodLink "MapStore$EntryMap" 25 y_BY_demand ∈ Ts := mw_in (i := 438) (by decide +kernel) (by decide +kernel)
theorem tw_439 : Cond.methodLink "MapStore$EntryMap" 31 y_EM_entryOf ∈ Ts := mw_in (i := 439) (by decide +kernel) (by decide +kernel)
theorem tw_440 : Cond.declares y_EM_entryOf ∈ Ts := mw_in (i := 440) (by decide +kernel) (by decide +kernel)
theorem tw_441 : Cond.sameMethod "MapStore$EntryMap" "MapStore$EntryMap" "entryOf" "(I)I" ∈ Ts := mw_in (i := 441) (by decide +kernel) (by decide +kernel)
theorem tw_442 : Cond.selects "MapStore$ArrayMap" y_EM_entryOf y_AM_entryOf ∈ Ts := mw_in (i := 442) (by decide +kernel) (by decide +kernel)
theorem tw_443 : Cond.instanceMethod y_AM_entryOf ∈ Ts := mw_in (i := 443) (by decide +kernel) (by decide +kernel)
theorem tw_444 : Cond.code y_AM_entryOf prog_3_method_3_code 4 (some .int) ∈ Ts := mw_in (i := 444) (by decide +kernel) (by decide +kernel)
theorem tw_445 : Cond.methodLink "MapStore$ArrayMap" 19 y_BY_number ∈ Ts := mw_in (i := 445) (by decide +kernel) (by decide +kernel)
theorem tw_446 : Cond.selects "MapStore$TableMap" y_EM_entryOf y_TM_entryOf ∈ Ts := mw_in (i := 446) (by decide +kernel) (by decide +kernel)
theorem tw_447 : Cond.instanceMethod y_TM_entryOf ∈ Ts := mw_in (i := 447) (by decide +kernel) (by decide +kernel)
theorem tw_448 : Cond.code y_TM_entryOf prog_7_method_4_code 2 (some .int) ∈ Ts := mw_in (i := 448) (by decide +kernel) (by decide +kernel)
theorem tw_449 : Cond.methodLink "MapStore$TableMap" 40 y_BY_copy ∈ Ts := mw_in (i := 449) (by decide +kernel) (by decide +kernel)
theorem tw_450 : Cond.instanceMethod y_BY_copy ∈ Ts := mw_in (i := 450) (by decide +kernel) (by decide +kernel)
theorem tw_451 : Cond.selects "MapStore$Bytes" y_BY_copy y_BY_copy ∈ Ts := mw_in (i := 451) (by decide +kernel) (by decide +kernel)
theorem tw_452 : Cond.code y_BY_copy prog_4_method_7_code 6 none ∈ Ts := mw_in (i := 452) (by decide +kernel) (by decide +kernel)
theorem tw_453 : Cond.methodLink "MapStore$TableMap" 44 y_TM_entryWithAsked ∈ Ts := mw_in (i := 453) (by decide +kernel) (by decide +kernel)
theorem tw_455 : Cond.instanceMethod y_TM_entryWithAsked ∈ Ts := mw_in (i := 455) (by decide +kernel) (by decide +kernel)
theorem tw_456 : Cond.code y_TM_entryWithAsked prog_7_method_8_code 4 (some .int) ∈ Ts := mw_in (i := 456) (by decide +kernel) (by decide +kernel)
theorem tw_457 : Cond.methodLink "MapStore$TableMap" 62 y_BY_same ∈ Ts := mw_in (i := 457) (by decide +kernel) (by decide +kernel)
theorem tw_458 : Cond.instanceMethod y_BY_same ∈ Ts := mw_in (i := 458) (by decide +kernel) (by decide +kernel)
theorem tw_459 : Cond.selects "MapStore$Bytes" y_BY_same y_BY_same ∈ Ts := mw_in (i := 459) (by decide +kernel) (by decide +kernel)
theorem tw_460 : Cond.code y_BY_same prog_4_method_8_code 3 (some .boolean) ∈ Ts := mw_in (i := 460) (by decide +kernel) (by decide +kernel)
theorem tw_461 : Cond.methodLink "MapStore$EntryMap" 35 y_EM_placeOfEntry ∈ Ts := mw_in (i := 461) (by decide +kernel) (by decide +kernel)
theorem tw_463 : Cond.instanceMethod y_EM_placeOfEntry ∈ Ts := mw_in (i := 463) (by decide +kernel) (by decide +kernel)
theorem tw_464 : Cond.code y_EM_placeOfEntry prog_5_method_6_code 2 (some .int) ∈ Ts := mw_in (i := 464) (by decide +kernel) (by decide +kernel)
theorem tw_465 : Cond.methodLinkNest "MapStore$EntryMap" 55 y_MS_filledUp "MapStore" ∈ Ts := mw_in (i := 465) (by decide +kernel) (by decide +kernel)
theorem tw_466 : Cond.selects "MapStore$RingMap" y_AN_placeOf y_AN_placeOf ∈ Ts := mw_in (i := 466) (by decide +kernel) (by decide +kernel)
theorem tw_467 : Cond.selects "MapStore$TableMap" y_AN_placeOf y_EM_placeOf ∈ Ts := mw_in (i := 467) (by decide +kernel) (by decide +kernel)
theorem tw_468 : Cond.code y_AN_placeOf prog_2_method_3_code 2 (some .int) ∈ Ts := mw_in (i := 468) (by decide +kernel) (by decide +kernel)
theorem tw_469 : Cond.methodLink "MapStoreLaw" 107 y_LW_update ∈ Ts := mw_in (i := 469) (by decide +kernel) (by decide +kernel)
theorem tw_470 : Cond.static y_LW_update ∈ Ts := mw_in (i := 470) (by decide +kernel) (by decide +kernel)
theorem tw_471 : Cond.codeWith y_LW_update method_11_code 7 (some .int) [(0, 14, 17, 21)] ∈ Ts := mw_in (i := 471) (by decide +kernel) (by decide +kernel)
theorem tw_472 : Cond.methodLink "MapStoreLaw" 46 y_MS_update ∈ Ts := mw_in (i := 472) (by decide +kernel) (by decide +kernel)
theorem tw_473 : Cond.instanceMethod y_MS_update ∈ Ts := mw_in (i := 473) (by decide +kernel) (by decide +kernel)
theorem tw_474 : Cond.selects "MapStore" y_MS_update y_MS_update ∈ Ts := mw_in (i := 474) (by decide +kernel) (by decide +kernel)
theorem tw_475 : Cond.code y_MS_update prog_1_method_11_code 5 (some .int) ∈ Ts := mw_in (i := 475) (by decide +kernel) (by decide +kernel)
theorem tw_476 : Cond.methodLink "MapStore" 88 y_AN_write ∈ Ts := mw_in (i := 476) (by decide +kernel) (by decide +kernel)
theorem tw_477 : Cond.instanceMethod y_AN_write ∈ Ts := mw_in (i := 477) (by decide +kernel) (by decide +kernel)
theorem tw_478 : Cond.sameMethod "MapStore$AnyMap" "MapStore$AnyMap" "write" "(III)I" ∈ Ts := mw_in (i := 478) (by decide +kernel) (by decide +kernel)
theorem tw_479 : Cond.selects "MapStore$ArrayMap" y_AN_write y_EM_write ∈ Ts := mw_in (i := 479) (by decide +kernel) (by decide +kernel)
theorem tw_480 : Cond.instanceMethod y_EM_write ∈ Ts := mw_in (i := 480) (by decide +kernel) (by decide +kernel)
theorem tw_481 : Cond.code y_EM_write prog_5_method_5_code 5 (some .int) ∈ Ts := mw_in (i := 481) (by decide +kernel) (by decide +kernel)
theorem tw_482 : Cond.methodLinkNest "MapStore$EntryMap" 38 y_MS_within "MapStore" ∈ Ts := mw_in (i := 482) (by decide +kernel) (by decide +kernel)
theorem tw_483 : Cond.methodLink "MapStore$EntryMap" 42 y_EM_entryForMissing ∈ Ts := mw_in (i := 483) (by decide +kernel) (by decide +kernel)
theorem tw_484 : Cond.declares y_EM_entryForMissing ∈ Ts := mw_in (i := 484) (by decide +kernel) (by decide +kernel)
theorem tw_485 : Cond.sameMethod "MapStore$EntryMap" "MapStore$EntryMap" "entryForMissing" "(I)I" ∈ Ts := mw_in (i := 485) (by decide +kernel) (by decide +kernel)
theorem tw_486 : Cond.selects "MapStore$ArrayMap" y_EM_entryForMissing y_AM_entryForMissing ∈ Ts := mw_in (i := 486) (by decide +kernel) (by decide +kernel)
theorem tw_487 : Cond.instanceMethod y_AM_entryForMissing ∈ Ts := mw_in (i := 487) (by decide +kernel) (by decide +kernel)
theorem tw_488 : Cond.code y_AM_entryForMissing prog_3_method_4_code 2 (some .int) ∈ Ts := mw_in (i := 488) (by decide +kernel) (by decide +kernel)
theorem tw_489 : Cond.selects "MapStore$TableMap" y_EM_entryForMissing y_TM_entryForMissing ∈ Ts := mw_in (i := 489) (by decide +kernel) (by decide +kernel)
theorem tw_490 : Cond.instanceMethod y_TM_entryForMissing ∈ Ts := mw_in (i := 490) (by decide +kernel) (by decide +kernel)
theorem tw_491 : Cond.code y_TM_entryForMissing prog_7_method_5_code 3 (some .int) ∈ Ts := mw_in (i := 491) (by decide +kernel) (by decide +kernel)
theorem tw_492 : Cond.methodLink "MapStore$TableMap" 48 y_TM_leastFree ∈ Ts := mw_in (i := 492) (by decide +kernel) (by decide +kernel)
theorem tw_494 : Cond.instanceMethod y_TM_leastFree ∈ Ts := mw_in (i := 494) (by decide +kernel) (by decide +kernel)
theorem tw_495 : Cond.code y_TM_leastFree prog_7_method_9_code 2 (some .int) ∈ Ts := mw_in (i := 495) (by decide +kernel) (by decide +kernel)
theorem tw_496 : Cond.methodLink "MapStore$TableMap" 52 y_TM_giveAsked ∈ Ts := mw_in (i := 496) (by decide +kernel) (by decide +kernel)
theorem tw_498 : Cond.instanceMethod y_TM_giveAsked ∈ Ts := mw_in (i := 498) (by decide +kernel) (by decide +kernel)
theorem tw_499 : Cond.code y_TM_giveAsked prog_7_method_10_code 3 none ∈ Ts := mw_in (i := 499) (by decide +kernel) (by decide +kernel)
theorem tw_500 : Cond.methodLink "MapStore$TableMap" 69 y_MA_max ∈ Ts := mw_in (i := 500) (by decide +kernel) (by decide +kernel)
theorem tw_501 : Cond.static y_MA_max ∈ Ts := mw_in (i := 501) (by decide +kernel) (by decide +kernel)
theorem tw_502 : Cond.code y_MA_max prog_15_method_65_code 2 (some .int) ∈ Ts := mw_in (i := 502) (by decide +kernel) (by decide +kernel)
theorem tw_503 : Cond.methodLink "MapStore$EntryMap" 48 y_BY_copy ∈ Ts := mw_in (i := 503) (by decide +kernel) (by decide +kernel)
theorem tw_504 : Cond.selects "MapStore$RingMap" y_AN_write y_AN_write ∈ Ts := mw_in (i := 504) (by decide +kernel) (by decide +kernel)
theorem tw_505 : Cond.selects "MapStore$TableMap" y_AN_write y_EM_write ∈ Ts := mw_in (i := 505) (by decide +kernel) (by decide +kernel)
theorem tw_506 : Cond.code y_AN_write prog_2_method_4_code 4 (some .int) ∈ Ts := mw_in (i := 506) (by decide +kernel) (by decide +kernel)
theorem tw_507 : Cond.methodLink "MapStoreLaw" 110 y_LW_remove ∈ Ts := mw_in (i := 507) (by decide +kernel) (by decide +kernel)
theorem tw_508 : Cond.static y_LW_remove ∈ Ts := mw_in (i := 508) (by decide +kernel) (by decide +kernel)
theorem tw_509 : Cond.codeWith y_LW_remove method_12_code 5 (some .int) [(0, 10, 13, 21)] ∈ Ts := mw_in (i := 509) (by decide +kernel) (by decide +kernel)
theorem tw_510 : Cond.methodLink "MapStoreLaw" 49 y_MS_remove ∈ Ts := mw_in (i := 510) (by decide +kernel) (by decide +kernel)
theorem tw_511 : Cond.instanceMethod y_MS_remove ∈ Ts := mw_in (i := 511) (by decide +kernel) (by decide +kernel)
theorem tw_512 : Cond.selects "MapStore" y_MS_remove y_MS_remove ∈ Ts := mw_in (i := 512) (by decide +kernel) (by decide +kernel)
theorem tw_513 : Cond.code y_MS_remove prog_1_method_12_code 3 (some .int) ∈ Ts := mw_in (i := 513) (by decide +kernel) (by decide +kernel)
theorem tw_514 : Cond.methodLink "MapStore" 92 y_AN_free ∈ Ts := mw_in (i := 514) (by decide +kernel) (by decide +kernel)
theorem tw_515 : Cond.instanceMethod y_AN_free ∈ Ts := mw_in (i := 515) (by decide +kernel) (by decide +kernel)
theorem tw_516 : Cond.sameMethod "MapStore$AnyMap" "MapStore$AnyMap" "free" "(I)I" ∈ Ts := mw_in (i := 516) (by decide +kernel) (by decide +kernel)
theorem tw_517 : Cond.selects "MapStore$ArrayMap" y_AN_free y_AN_free ∈ Ts := mw_in (i := 517) (by decide +kernel) (by decide +kernel)
theorem tw_518 : Cond.selects "MapStore$RingMap" y_AN_free y_AN_free ∈ Ts := mw_in (i := 518) (by decide +kernel) (by decide +kernel)
theorem tw_519 : Cond.selects "MapStore$TableMap" y_AN_free y_TM_free ∈ Ts := mw_in (i := 519) (by decide +kernel) (by decide +kernel)
theorem tw_520 : Cond.instanceMethod y_TM_free ∈ Ts := mw_in (i := 520) (by decide +kernel) (by decide +kernel)
theorem tw_521 : Cond.code y_TM_free prog_7_method_6_code 3 (some .int) ∈ Ts := mw_in (i := 521) (by decide +kernel) (by decide +kernel)
theorem tw_522 : Cond.methodLink "MapStore$TableMap" 55 y_BY_demand ∈ Ts := mw_in (i := 522) (by decide +kernel) (by decide +kernel)
theorem tw_523 : Cond.methodLink "MapStore$TableMap" 59 y_TM_entryOf ∈ Ts := mw_in (i := 523) (by decide +kernel) (by decide +kernel)
theorem tw_524 : Cond.code y_AN_free prog_2_method_5_code 2 (some .int) ∈ Ts := mw_in (i := 524) (by decide +kernel) (by decide +kernel)
theorem tw_525 : Cond.methodLink "MapStoreLaw" 113 y_LW_put ∈ Ts := mw_in (i := 525) (by decide +kernel) (by decide +kernel)
theorem tw_526 : Cond.static y_LW_put ∈ Ts := mw_in (i := 526) (by decide +kernel) (by decide +kernel)
theorem tw_527 : Cond.codeWith y_LW_put method_13_code 6 (some .int) [(0, 12, 15, 21)] ∈ Ts := mw_in (i := 527) (by decide +kernel) (by decide +kernel)
theorem tw_528 : Cond.methodLink "MapStoreLaw" 52 y_MS_put ∈ Ts := mw_in (i := 528) (by decide +kernel) (by decide +kernel)
theorem tw_529 : Cond.instanceMethod y_MS_put ∈ Ts := mw_in (i := 529) (by decide +kernel) (by decide +kernel)
theorem tw_530 : Cond.selects "MapStore" y_MS_put y_MS_put ∈ Ts := mw_in (i := 530) (by decide +kernel) (by decide +kernel)
theorem tw_531 : Cond.code y_MS_put prog_1_method_13_code 4 (some .int) ∈ Ts := mw_in (i := 531) (by decide +kernel) (by decide +kernel)
theorem tw_532 : Cond.methodLink "MapStore" 95 y_AN_putRecord ∈ Ts := mw_in (i := 532) (by decide +kernel) (by decide +kernel)
theorem tw_533 : Cond.instanceMethod y_AN_putRecord ∈ Ts := mw_in (i := 533) (by decide +kernel) (by decide +kernel)
theorem tw_534 : Cond.sameMethod "MapStore$AnyMap" "MapStore$AnyMap" "putRecord" "(II)I" ∈ Ts := mw_in (i := 534) (by decide +kernel) (by decide +kernel)
theorem tw_535 : Cond.selects "MapStore$ArrayMap" y_AN_putRecord y_AN_putRecord ∈ Ts := mw_in (i := 535) (by decide +kernel) (by decide +kernel)
theorem tw_536 : Cond.selects "MapStore$RingMap" y_AN_putRecord y_RM_putRecord ∈ Ts := mw_in (i := 536) (by decide +kernel) (by decide +kernel)
theorem tw_537 : Cond.instanceMethod y_RM_putRecord ∈ Ts := mw_in (i := 537) (by decide +kernel) (by decide +kernel)
theorem tw_538 : Cond.code y_RM_putRecord prog_6_method_3_code 4 (some .int) ∈ Ts := mw_in (i := 538) (by decide +kernel) (by decide +kernel)
theorem tw_539 : Cond.methodLinkNest "MapStore$RingMap" 29 y_MS_within "MapStore" ∈ Ts := mw_in (i := 539) (by decide +kernel) (by decide +kernel)
theorem tw_540 : Cond.methodLink "MapStore$RingMap" 37 y_BY_demand ∈ Ts := mw_in (i := 540) (by decide +kernel) (by decide +kernel)
theorem tw_541 : Cond.methodLink "MapStore$RingMap" 43 y_RM_bytesOfRecord ∈ Ts := mw_in (i := 541) (by decide +kernel) (by decide +kernel)
theorem tw_542 : Cond.static y_RM_bytesOfRecord ∈ Ts := mw_in (i := 542) (by decide +kernel) (by decide +kernel)
theorem tw_543 : Cond.code y_RM_bytesOfRecord prog_6_method_7_code 1 (some .int) ∈ Ts := mw_in (i := 543) (by decide +kernel) (by decide +kernel)
theorem tw_544 : Cond.methodLinkNest "MapStore$RingMap" 78 y_MS_filledUp "MapStore" ∈ Ts := mw_in (i := 544) (by decide +kernel) (by decide +kernel)
theorem tw_545 : Cond.methodLink "MapStore$RingMap" 47 y_RM_writeRecord ∈ Ts := mw_in (i := 545) (by decide +kernel) (by decide +kernel)
theorem tw_547 : Cond.instanceMethod y_RM_writeRecord ∈ Ts := mw_in (i := 547) (by decide +kernel) (by decide +kernel)
theorem tw_548 : Cond.code y_RM_writeRecord prog_6_method_5_code 7 none ∈ Ts := mw_in (i := 548) (by decide +kernel) (by decide +kernel)
theorem tw_549 : Cond.methodLink "MapStore$RingMap" 54 y_RM_placeOfCount ∈ Ts := mw_in (i := 549) (by decide +kernel) (by decide +kernel)
theorem tw_551 : Cond.instanceMethod y_RM_placeOfCount ∈ Ts := mw_in (i := 551) (by decide +kernel) (by decide +kernel)
theorem tw_552 : Cond.code y_RM_placeOfCount prog_6_method_6_code 3 (some .int) ∈ Ts := mw_in (i := 552) (by decide +kernel) (by decide +kernel)
theorem tw_553 : Cond.methodLink "MapStore$RingMap" 71 y_BY_setNumber ∈ Ts := mw_in (i := 553) (by decide +kernel) (by decide +kernel)
theorem tw_554 : Cond.methodLink "MapStore$RingMap" 64 y_BY_byteAt ∈ Ts := mw_in (i := 554) (by decide +kernel) (by decide +kernel)
theorem tw_555 : Cond.constantLong "MapStore$RingMap" 62 8 ∈ Ts := mw_in (i := 555) (by decide +kernel) (by decide +kernel)
theorem tw_556 : Cond.methodLink "MapStore$RingMap" 67 y_BY_setByte ∈ Ts := mw_in (i := 556) (by decide +kernel) (by decide +kernel)
theorem tw_557 : Cond.selects "MapStore$TableMap" y_AN_putRecord y_AN_putRecord ∈ Ts := mw_in (i := 557) (by decide +kernel) (by decide +kernel)
theorem tw_558 : Cond.code y_AN_putRecord prog_2_method_6_code 3 (some .int) ∈ Ts := mw_in (i := 558) (by decide +kernel) (by decide +kernel)
theorem tw_559 : Cond.methodLink "MapStoreLaw" 117 y_LW_take ∈ Ts := mw_in (i := 559) (by decide +kernel) (by decide +kernel)
theorem tw_560 : Cond.static y_LW_take ∈ Ts := mw_in (i := 560) (by decide +kernel) (by decide +kernel)
theorem tw_561 : Cond.codeWith y_LW_take method_14_code 5 (some .int) [(0, 10, 13, 21)] ∈ Ts := mw_in (i := 561) (by decide +kernel) (by decide +kernel)
theorem tw_562 : Cond.methodLink "MapStoreLaw" 56 y_MS_take ∈ Ts := mw_in (i := 562) (by decide +kernel) (by decide +kernel)
theorem tw_563 : Cond.instanceMethod y_MS_take ∈ Ts := mw_in (i := 563) (by decide +kernel) (by decide +kernel)
theorem tw_564 : Cond.selects "MapStore" y_MS_take y_MS_take ∈ Ts := mw_in (i := 564) (by decide +kernel) (by decide +kernel)
theorem tw_565 : Cond.code y_MS_take prog_1_method_14_code 3 (some .int) ∈ Ts := mw_in (i := 565) (by decide +kernel) (by decide +kernel)
theorem tw_566 : Cond.methodLink "MapStore" 99 y_AN_takeRecord ∈ Ts := mw_in (i := 566) (by decide +kernel) (by decide +kernel)
theorem tw_567 : Cond.instanceMethod y_AN_takeRecord ∈ Ts := mw_in (i := 567) (by decide +kernel) (by decide +kernel)
theorem tw_568 : Cond.sameMethod "MapStore$AnyMap" "MapStore$AnyMap" "takeRecord" "(I)I" ∈ Ts := mw_in (i := 568) (by decide +kernel) (by decide +kernel)
theorem tw_569 : Cond.selects "MapStore$ArrayMap" y_AN_takeRecord y_AN_takeRecord ∈ Ts := mw_in (i := 569) (by decide +kernel) (by decide +kernel)
theorem tw_570 : Cond.selects "MapStore$RingMap" y_AN_takeRecord y_RM_takeRecord ∈ Ts := mw_in (i := 570) (by decide +kernel) (by decide +kernel)
theorem tw_571 : Cond.instanceMethod y_RM_takeRecord ∈ Ts := mw_in (i := 571) (by decide +kernel) (by decide +kernel)
theorem tw_572 : Cond.code y_RM_takeRecord prog_6_method_4_code 6 (some .int) ∈ Ts := mw_in (i := 572) (by decide +kernel) (by decide +kernel)
theorem tw_573 : Cond.methodLink "MapStore$RingMap" 58 y_BY_number ∈ Ts := mw_in (i := 573) (by decide +kernel) (by decide +kernel)
theorem tw_574 : Cond.selects "MapStore$TableMap" y_AN_takeRecord y_AN_takeRecord ∈ Ts := mw_in (i := 574) (by decide +kernel) (by decide +kernel)
theorem tw_575 : Cond.code y_AN_takeRecord prog_2_method_7_code 2 (some .int) ∈ Ts := mw_in (i := 575) (by decide +kernel) (by decide +kernel)
theorem tw_576 : Cond.methodLink "MapStoreLaw" 120 y_LW_next ∈ Ts := mw_in (i := 576) (by decide +kernel) (by decide +kernel)
theorem tw_577 : Cond.static y_LW_next ∈ Ts := mw_in (i := 577) (by decide +kernel) (by decide +kernel)
theorem tw_578 : Cond.codeWith y_LW_next method_15_code 6 (some .int) [(0, 12, 15, 21)] ∈ Ts := mw_in (i := 578) (by decide +kernel) (by decide +kernel)
theorem tw_579 : Cond.methodLink "MapStoreLaw" 59 y_MS_next ∈ Ts := mw_in (i := 579) (by decide +kernel) (by decide +kernel)
theorem tw_580 : Cond.instanceMethod y_MS_next ∈ Ts := mw_in (i := 580) (by decide +kernel) (by decide +kernel)
theorem tw_581 : Cond.selects "MapStore" y_MS_next y_MS_next ∈ Ts := mw_in (i := 581) (by decide +kernel) (by decide +kernel)
theorem tw_582 : Cond.code y_MS_next prog_1_method_15_code 4 (some .int) ∈ Ts := mw_in (i := 582) (by decide +kernel) (by decide +kernel)
theorem tw_583 : Cond.methodLink "MapStore" 102 y_AN_keyAfter ∈ Ts := mw_in (i := 583) (by decide +kernel) (by decide +kernel)
theorem tw_584 : Cond.instanceMethod y_AN_keyAfter ∈ Ts := mw_in (i := 584) (by decide +kernel) (by decide +kernel)
theorem tw_585 : Cond.sameMethod "MapStore$AnyMap" "MapStore$AnyMap" "keyAfter" "(II)I" ∈ Ts := mw_in (i := 585) (by decide +kernel) (by decide +kernel)
theorem tw_586 : Cond.selects "MapStore$ArrayMap" y_AN_keyAfter y_AN_keyAfter ∈ Ts := mw_in (i := 586) (by decide +kernel) (by decide +kernel)
theorem tw_587 : Cond.selects "MapStore$RingMap" y_AN_keyAfter y_AN_keyAfter ∈ Ts := mw_in (i := 587) (by decide +kernel) (by decide +kernel)
theorem tw_588 : Cond.selects "MapStore$TableMap" y_AN_keyAfter y_TM_keyAfter ∈ Ts := mw_in (i := 588) (by decide +kernel) (by decide +kernel)
theorem tw_589 : Cond.instanceMethod y_TM_keyAfter ∈ Ts := mw_in (i := 589) (by decide +kernel) (by decide +kernel)
theorem tw_590 : Cond.code y_TM_keyAfter prog_7_method_7_code 6 (some .int) ∈ Ts := mw_in (i := 590) (by decide +kernel) (by decide +kernel)
theorem tw_591 : Cond.code y_AN_keyAfter prog_2_method_8_code 3 (some .int) ∈ Ts := mw_in (i := 591) (by decide +kernel) (by decide +kernel)
theorem tw_592 : Cond.classLink "MapStoreLaw" 63 "MapStoreModel" ∈ Ts := mw_in (i := 592) (by decide +kernel) (by decide +kernel)
theorem tw_593 : Cond.instantiable "MapStoreModel" 21 ∈ Ts := mw_in (i := 593) (by decide +kernel) (by decide +kernel)
theorem tw_594 : Cond.methodLink "MapStoreLaw" 65 y_MO_init ∈ Ts := mw_in (i := 594) (by decide +kernel) (by decide +kernel)
theorem tw_595 : Cond.instanceMethod y_MO_init ∈ Ts := mw_in (i := 595) (by decide +kernel) (by decide +kernel)
theorem tw_596 : Cond.code y_MO_init prog_9_method_1_code 1 none ∈ Ts := mw_in (i := 596) (by decide +kernel) (by decide +kernel)
theorem tw_597 : Cond.methodLink "MapStoreModel" 1 y_OB_init ∈ Ts := mw_in (i := 597) (by decide +kernel) (by decide +kernel)
theorem tw_598 : Cond.constant "MapStoreModel" 13 65536 ∈ Ts := mw_in (i := 598) (by decide +kernel) (by decide +kernel)
theorem tw_599 : Cond.constant "MapStoreModel" 43 524288 ∈ Ts := mw_in (i := 599) (by decide +kernel) (by decide +kernel)
theorem tw_600 : Cond.fieldLink "MapStoreModel" 60 "MapStoreModel" "code" "I" ∈ Ts := mw_in (i := 600) (by decide +kernel) (by decide +kernel)
theorem tw_601 : Cond.fieldLink "MapStoreModel" 7 "MapStoreModel" "desk" "[B" ∈ Ts := mw_in (i := 601) (by decide +kernel) (by decide +kernel)
theorem tw_602 : Cond.fieldLink "MapStoreModel" 14 "MapStoreModel" "area" "[B" ∈ Ts := mw_in (i := 602) (by decide +kernel) (by decide +kernel)
theorem tw_603 : Cond.fieldLink "MapStoreModel" 83 "MapStoreModel" "areaUsed" "I" ∈ Ts := mw_in (i := 603) (by decide +kernel) (by decide +kernel)
theorem tw_604 : Cond.fieldLink "MapStoreModel" 80 "MapStoreModel" "maps" "I" ∈ Ts := mw_in (i := 604) (by decide +kernel) (by decide +kernel)
theorem tw_605 : Cond.fieldLink "MapStoreModel" 17 "MapStoreModel" "kinds" "[I" ∈ Ts := mw_in (i := 605) (by decide +kernel) (by decide +kernel)
theorem tw_606 : Cond.fieldLink "MapStoreModel" 21 "MapStoreModel" "keySizes" "[I" ∈ Ts := mw_in (i := 606) (by decide +kernel) (by decide +kernel)
theorem tw_607 : Cond.fieldLink "MapStoreModel" 24 "MapStoreModel" "valueSizes" "[I" ∈ Ts := mw_in (i := 607) (by decide +kernel) (by decide +kernel)
theorem tw_608 : Cond.fieldLink "MapStoreModel" 27 "MapStoreModel" "entries" "[I" ∈ Ts := mw_in (i := 608) (by decide +kernel) (by decide +kernel)
theorem tw_609 : Cond.fieldLink "MapStoreModel" 30 "MapStoreModel" "begins" "[I" ∈ Ts := mw_in (i := 609) (by decide +kernel) (by decide +kernel)
theorem tw_610 : Cond.fieldLink "MapStoreModel" 33 "MapStoreModel" "firstEntry" "[I" ∈ Ts := mw_in (i := 610) (by decide +kernel) (by decide +kernel)
theorem tw_611 : Cond.fieldLink "MapStoreModel" 36 "MapStoreModel" "firstKey" "[I" ∈ Ts := mw_in (i := 611) (by decide +kernel) (by decide +kernel)
theorem tw_612 : Cond.fieldLink "MapStoreModel" 86 "MapStoreModel" "entryCount" "I" ∈ Ts := mw_in (i := 612) (by decide +kernel) (by decide +kernel)
theorem tw_613 : Cond.fieldLink "MapStoreModel" 89 "MapStoreModel" "keyCount" "I" ∈ Ts := mw_in (i := 613) (by decide +kernel) (by decide +kernel)
theorem tw_614 : Cond.fieldLink "MapStoreModel" 39 "MapStoreModel" "taken" "[Z" ∈ Ts := mw_in (i := 614) (by decide +kernel) (by decide +kernel)
theorem tw_615 : Cond.fieldLink "MapStoreModel" 44 "MapStoreModel" "keys" "[B" ∈ Ts := mw_in (i := 615) (by decide +kernel) (by decide +kernel)
theorem tw_616 : Cond.fieldLink "MapStoreModel" 47 "MapStoreModel" "heads" "[J" ∈ Ts := mw_in (i := 616) (by decide +kernel) (by decide +kernel)
theorem tw_617 : Cond.fieldLink "MapStoreModel" 51 "MapStoreModel" "tails" "[J" ∈ Ts := mw_in (i := 617) (by decide +kernel) (by decide +kernel)
theorem tw_618 : Cond.fieldLink "MapStoreModel" 54 "MapStoreModel" "records" "[I" ∈ Ts := mw_in (i := 618) (by decide +kernel) (by decide +kernel)
theorem tw_619 : Cond.fieldLink "MapStoreModel" 57 "MapStoreModel" "broken" "[Z" ∈ Ts := mw_in (i := 619) (by decide +kernel) (by decide +kernel)
theorem tw_620 : Cond.fieldLink "MapStoreModel" 115 "MapStoreModel" "breaches" "I" ∈ Ts := mw_in (i := 620) (by decide +kernel) (by decide +kernel)
theorem tw_664 : Cond.arrayClass FieldType.int ∈ Ts := mw_in (i := 664) (by decide +kernel) (by decide +kernel)
theorem tw_665 : Cond.arrayClass FieldType.boolean ∈ Ts := mw_in (i := 665) (by decide +kernel) (by decide +kernel)
theorem tw_666 : Cond.methodLink "MapStoreLaw" 72 y_MO_thrown ∈ Ts := mw_in (i := 666) (by decide +kernel) (by decide +kernel)
theorem tw_667 : Cond.instanceMethod y_MO_thrown ∈ Ts := mw_in (i := 667) (by decide +kernel) (by decide +kernel)
theorem tw_668 : Cond.selects "MapStoreModel" y_MO_thrown y_MO_thrown ∈ Ts := mw_in (i := 668) (by decide +kernel) (by decide +kernel)
theorem tw_669 : Cond.code y_MO_thrown prog_9_method_2_code 1 (some .int) ∈ Ts := mw_in (i := 669) (by decide +kernel) (by decide +kernel)
theorem tw_670 : Cond.methodLink "MapStoreLaw" 71 y_MO_make ∈ Ts := mw_in (i := 670) (by decide +kernel) (by decide +kernel)
theorem tw_671 : Cond.instanceMethod y_MO_make ∈ Ts := mw_in (i := 671) (by decide +kernel) (by decide +kernel)
theorem tw_672 : Cond.selects "MapStoreModel" y_MO_make y_MO_make ∈ Ts := mw_in (i := 672) (by decide +kernel) (by decide +kernel)
theorem tw_673 : Cond.code y_MO_make prog_9_method_7_code 6 (some .int) ∈ Ts := mw_in (i := 673) (by decide +kernel) (by decide +kernel)
theorem tw_674 : Cond.methodLink "MapStoreModel" 72 y_MO_isProper ∈ Ts := mw_in (i := 674) (by decide +kernel) (by decide +kernel)
theorem tw_675 : Cond.static y_MO_isProper ∈ Ts := mw_in (i := 675) (by decide +kernel) (by decide +kernel)
theorem tw_676 : Cond.code y_MO_isProper prog_9_method_6_code 5 (some .boolean) ∈ Ts := mw_in (i := 676) (by decide +kernel) (by decide +kernel)
theorem tw_677 : Cond.methodLink "MapStoreModel" 64 y_MO_isIn ∈ Ts := mw_in (i := 677) (by decide +kernel) (by decide +kernel)
theorem tw_678 : Cond.static y_MO_isIn ∈ Ts := mw_in (i := 678) (by decide +kernel) (by decide +kernel)
theorem tw_679 : Cond.code y_MO_isIn prog_9_method_4_code 3 (some .boolean) ∈ Ts := mw_in (i := 679) (by decide +kernel) (by decide +kernel)
theorem tw_680 : Cond.methodLink "MapStoreModel" 68 y_MO_isPower ∈ Ts := mw_in (i := 680) (by decide +kernel) (by decide +kernel)
theorem tw_681 : Cond.static y_MO_isPower ∈ Ts := mw_in (i := 681) (by decide +kernel) (by decide +kernel)
theorem tw_682 : Cond.code y_MO_isPower prog_9_method_5_code 2 (some .boolean) ∈ Ts := mw_in (i := 682) (by decide +kernel) (by decide +kernel)
theorem tw_683 : Cond.methodLink "MapStoreModel" 76 y_MO_filled ∈ Ts := mw_in (i := 683) (by decide +kernel) (by decide +kernel)
theorem tw_684 : Cond.static y_MO_filled ∈ Ts := mw_in (i := 684) (by decide +kernel) (by decide +kernel)
theorem tw_685 : Cond.code y_MO_filled prog_9_method_3_code 1 (some .int) ∈ Ts := mw_in (i := 685) (by decide +kernel) (by decide +kernel)
theorem tw_686 : Cond.methodLink "MapStoreLaw" 79 y_MO_maps ∈ Ts := mw_in (i := 686) (by decide +kernel) (by decide +kernel)
theorem tw_687 : Cond.instanceMethod y_MO_maps ∈ Ts := mw_in (i := 687) (by decide +kernel) (by decide +kernel)
theorem tw_688 : Cond.selects "MapStoreModel" y_MO_maps y_MO_maps ∈ Ts := mw_in (i := 688) (by decide +kernel) (by decide +kernel)
theorem tw_689 : Cond.code y_MO_maps prog_9_method_8_code 1 (some .int) ∈ Ts := mw_in (i := 689) (by decide +kernel) (by decide +kernel)
theorem tw_690 : Cond.methodLink "MapStoreLaw" 83 y_MO_begins ∈ Ts := mw_in (i := 690) (by decide +kernel) (by decide +kernel)
theorem tw_691 : Cond.instanceMethod y_MO_begins ∈ Ts := mw_in (i := 691) (by decide +kernel) (by decide +kernel)
theorem tw_692 : Cond.selects "MapStoreModel" y_MO_begins y_MO_begins ∈ Ts := mw_in (i := 692) (by decide +kernel) (by decide +kernel)
theorem tw_693 : Cond.code y_MO_begins prog_9_method_10_code 2 (some .int) ∈ Ts := mw_in (i := 693) (by decide +kernel) (by decide +kernel)
theorem tw_694 : Cond.methodLink "MapStoreModel" 92 y_MO_noMap ∈ Ts := mw_in (i := 694) (by decide +kernel) (by decide +kernel)
theorem tw_696 : Cond.instanceMethod y_MO_noMap ∈ Ts := mw_in (i := 696) (by decide +kernel) (by decide +kernel)
theorem tw_697 : Cond.code y_MO_noMap prog_9_method_9_code 2 (some .boolean) ∈ Ts := mw_in (i := 697) (by decide +kernel) (by decide +kernel)
theorem tw_698 : Cond.methodLink "MapStoreLaw" 86 y_MO_used ∈ Ts := mw_in (i := 698) (by decide +kernel) (by decide +kernel)
theorem tw_699 : Cond.instanceMethod y_MO_used ∈ Ts := mw_in (i := 699) (by decide +kernel) (by decide +kernel)
theorem tw_700 : Cond.selects "MapStoreModel" y_MO_used y_MO_used ∈ Ts := mw_in (i := 700) (by decide +kernel) (by decide +kernel)
theorem tw_701 : Cond.code y_MO_used prog_9_method_11_code 4 (some .int) ∈ Ts := mw_in (i := 701) (by decide +kernel) (by decide +kernel)
theorem tw_702 : Cond.methodLink "MapStoreLaw" 89 y_MO_desk ∈ Ts := mw_in (i := 702) (by decide +kernel) (by decide +kernel)
theorem tw_703 : Cond.instanceMethod y_MO_desk ∈ Ts := mw_in (i := 703) (by decide +kernel) (by decide +kernel)
theorem tw_704 : Cond.selects "MapStoreModel" y_MO_desk y_MO_desk ∈ Ts := mw_in (i := 704) (by decide +kernel) (by decide +kernel)
theorem tw_705 : Cond.code y_MO_desk prog_9_method_15_code 2 (some .long) ∈ Ts := mw_in (i := 705) (by decide +kernel) (by decide +kernel)
theorem tw_706 : Cond.methodLink "MapStoreModel" 97 y_MO_isDesk ∈ Ts := mw_in (i := 706) (by decide +kernel) (by decide +kernel)
theorem tw_707 : Cond.static y_MO_isDesk ∈ Ts := mw_in (i := 707) (by decide +kernel) (by decide +kernel)
theorem tw_708 : Cond.code y_MO_isDesk prog_9_method_12_code 2 (some .boolean) ∈ Ts := mw_in (i := 708) (by decide +kernel) (by decide +kernel)
theorem tw_709 : Cond.methodLink "MapStoreModel" 101 y_MO_number ∈ Ts := mw_in (i := 709) (by decide +kernel) (by decide +kernel)
theorem tw_710 : Cond.static y_MO_number ∈ Ts := mw_in (i := 710) (by decide +kernel) (by decide +kernel)
theorem tw_711 : Cond.code y_MO_number prog_9_method_13_code 6 (some .long) ∈ Ts := mw_in (i := 711) (by decide +kernel) (by decide +kernel)
theorem tw_712 : Cond.constantLong "MapStoreModel" 95 256 ∈ Ts := mw_in (i := 712) (by decide +kernel) (by decide +kernel)
theorem tw_713 : Cond.methodLink "MapStoreLaw" 95 y_MO_lay ∈ Ts := mw_in (i := 713) (by decide +kernel) (by decide +kernel)
theorem tw_714 : Cond.instanceMethod y_MO_lay ∈ Ts := mw_in (i := 714) (by decide +kernel) (by decide +kernel)
theorem tw_715 : Cond.selects "MapStoreModel" y_MO_lay y_MO_lay ∈ Ts := mw_in (i := 715) (by decide +kernel) (by decide +kernel)
theorem tw_716 : Cond.code y_MO_lay prog_9_method_16_code 4 none ∈ Ts := mw_in (i := 716) (by decide +kernel) (by decide +kernel)
theorem tw_717 : Cond.methodLink "MapStoreModel" 105 y_MO_putB ∈ Ts := mw_in (i := 717) (by decide +kernel) (by decide +kernel)
theorem tw_718 : Cond.static y_MO_putB ∈ Ts := mw_in (i := 718) (by decide +kernel) (by decide +kernel)
theorem tw_719 : Cond.code y_MO_putB prog_9_method_14_code 6 none ∈ Ts := mw_in (i := 719) (by decide +kernel) (by decide +kernel)
theorem tw_720 : Cond.methodLink "MapStoreLaw" 99 y_MO_load ∈ Ts := mw_in (i := 720) (by decide +kernel) (by decide +kernel)
theorem tw_721 : Cond.instanceMethod y_MO_load ∈ Ts := mw_in (i := 721) (by decide +kernel) (by decide +kernel)
theorem tw_722 : Cond.selects "MapStoreModel" y_MO_load y_MO_load ∈ Ts := mw_in (i := 722) (by decide +kernel) (by decide +kernel)
theorem tw_723 : Cond.code y_MO_load prog_9_method_18_code 3 (some .long) ∈ Ts := mw_in (i := 723) (by decide +kernel) (by decide +kernel)
theorem tw_724 : Cond.methodLink "MapStoreModel" 109 y_MO_noArea ∈ Ts := mw_in (i := 724) (by decide +kernel) (by decide +kernel)
theorem tw_726 : Cond.instanceMethod y_MO_noArea ∈ Ts := mw_in (i := 726) (by decide +kernel) (by decide +kernel)
theorem tw_727 : Cond.code y_MO_noArea prog_9_method_17_code 4 (some .boolean) ∈ Ts := mw_in (i := 727) (by decide +kernel) (by decide +kernel)
theorem tw_728 : Cond.methodLink "MapStoreLaw" 103 y_MO_store ∈ Ts := mw_in (i := 728) (by decide +kernel) (by decide +kernel)
theorem tw_729 : Cond.instanceMethod y_MO_store ∈ Ts := mw_in (i := 729) (by decide +kernel) (by decide +kernel)
theorem tw_730 : Cond.selects "MapStoreModel" y_MO_store y_MO_store ∈ Ts := mw_in (i := 730) (by decide +kernel) (by decide +kernel)
theorem tw_731 : Cond.code y_MO_store prog_9_method_19_code 5 none ∈ Ts := mw_in (i := 731) (by decide +kernel) (by decide +kernel)
theorem tw_732 : Cond.methodLink "MapStoreLaw" 106 y_MO_find ∈ Ts := mw_in (i := 732) (by decide +kernel) (by decide +kernel)
theorem tw_733 : Cond.instanceMethod y_MO_find ∈ Ts := mw_in (i := 733) (by decide +kernel) (by decide +kernel)
theorem tw_734 : Cond.selects "MapStoreModel" y_MO_find y_MO_find ∈ Ts := mw_in (i := 734) (by decide +kernel) (by decide +kernel)
theorem tw_735 : Cond.code y_MO_find prog_9_method_24_code 4 (some .int) ∈ Ts := mw_in (i := 735) (by decide +kernel) (by decide +kernel)
theorem tw_736 : Cond.methodLink "MapStoreModel" 118 y_MO_entryOfArray ∈ Ts := mw_in (i := 736) (by decide +kernel) (by decide +kernel)
theorem tw_738 : Cond.instanceMethod y_MO_entryOfArray ∈ Ts := mw_in (i := 738) (by decide +kernel) (by decide +kernel)
theorem tw_739 : Cond.code y_MO_entryOfArray prog_9_method_23_code 5 (some .int) ∈ Ts := mw_in (i := 739) (by decide +kernel) (by decide +kernel)
theorem tw_740 : Cond.methodLink "MapStoreModel" 122 y_MO_entryOf ∈ Ts := mw_in (i := 740) (by decide +kernel) (by decide +kernel)
theorem tw_742 : Cond.instanceMethod y_MO_entryOf ∈ Ts := mw_in (i := 742) (by decide +kernel) (by decide +kernel)
theorem tw_743 : Cond.code y_MO_entryOf prog_9_method_21_code 5 (some .int) ∈ Ts := mw_in (i := 743) (by decide +kernel) (by decide +kernel)
theorem tw_744 : Cond.methodLink "MapStoreModel" 112 y_MO_isKey ∈ Ts := mw_in (i := 744) (by decide +kernel) (by decide +kernel)
theorem tw_746 : Cond.instanceMethod y_MO_isKey ∈ Ts := mw_in (i := 746) (by decide +kernel) (by decide +kernel)
theorem tw_747 : Cond.code y_MO_isKey prog_9_method_20_code 6 (some .boolean) ∈ Ts := mw_in (i := 747) (by decide +kernel) (by decide +kernel)
theorem tw_748 : Cond.methodLink "MapStoreModel" 125 y_MO_placeOf ∈ Ts := mw_in (i := 748) (by decide +kernel) (by decide +kernel)
theorem tw_750 : Cond.instanceMethod y_MO_placeOf ∈ Ts := mw_in (i := 750) (by decide +kernel) (by decide +kernel)
theorem tw_751 : Cond.code y_MO_placeOf prog_9_method_22_code 3 (some .int) ∈ Ts := mw_in (i := 751) (by decide +kernel) (by decide +kernel)
theorem tw_752 : Cond.methodLink "MapStoreLaw" 109 y_MO_update ∈ Ts := mw_in (i := 752) (by decide +kernel) (by decide +kernel)
theorem tw_753 : Cond.instanceMethod y_MO_update ∈ Ts := mw_in (i := 753) (by decide +kernel) (by decide +kernel)
theorem tw_754 : Cond.selects "MapStoreModel" y_MO_update y_MO_update ∈ Ts := mw_in (i := 754) (by decide +kernel) (by decide +kernel)
theorem tw_755 : Cond.code y_MO_update prog_9_method_28_code 5 (some .int) ∈ Ts := mw_in (i := 755) (by decide +kernel) (by decide +kernel)
theorem tw_756 : Cond.methodLink "MapStoreModel" 132 y_MO_updateArray ∈ Ts := mw_in (i := 756) (by decide +kernel) (by decide +kernel)
theorem tw_758 : Cond.instanceMethod y_MO_updateArray ∈ Ts := mw_in (i := 758) (by decide +kernel) (by decide +kernel)
theorem tw_759 : Cond.code y_MO_updateArray prog_9_method_26_code 6 (some .int) ∈ Ts := mw_in (i := 759) (by decide +kernel) (by decide +kernel)
theorem tw_760 : Cond.methodLink "MapStoreModel" 128 y_MO_write ∈ Ts := mw_in (i := 760) (by decide +kernel) (by decide +kernel)
theorem tw_762 : Cond.instanceMethod y_MO_write ∈ Ts := mw_in (i := 762) (by decide +kernel) (by decide +kernel)
theorem tw_763 : Cond.code y_MO_write prog_9_method_25_code 5 (some .int) ∈ Ts := mw_in (i := 763) (by decide +kernel) (by decide +kernel)
theorem tw_764 : Cond.methodLink "MapStoreModel" 136 y_MO_updateTable ∈ Ts := mw_in (i := 764) (by decide +kernel) (by decide +kernel)
theorem tw_766 : Cond.instanceMethod y_MO_updateTable ∈ Ts := mw_in (i := 766) (by decide +kernel) (by decide +kernel)
theorem tw_767 : Cond.code y_MO_updateTable prog_9_method_27_code 7 (some .int) ∈ Ts := mw_in (i := 767) (by decide +kernel) (by decide +kernel)
theorem tw_768 : Cond.methodLink "MapStoreLaw" 112 y_MO_remove ∈ Ts := mw_in (i := 768) (by decide +kernel) (by decide +kernel)
theorem tw_769 : Cond.instanceMethod y_MO_remove ∈ Ts := mw_in (i := 769) (by decide +kernel) (by decide +kernel)
theorem tw_770 : Cond.selects "MapStoreModel" y_MO_remove y_MO_remove ∈ Ts := mw_in (i := 770) (by decide +kernel) (by decide +kernel)
theorem tw_771 : Cond.code y_MO_remove prog_9_method_29_code 4 (some .int) ∈ Ts := mw_in (i := 771) (by decide +kernel) (by decide +kernel)
theorem tw_772 : Cond.methodLink "MapStoreLaw" 116 y_MO_put ∈ Ts := mw_in (i := 772) (by decide +kernel) (by decide +kernel)
theorem tw_773 : Cond.instanceMethod y_MO_put ∈ Ts := mw_in (i := 773) (by decide +kernel) (by decide +kernel)
theorem tw_774 : Cond.selects "MapStoreModel" y_MO_put y_MO_put ∈ Ts := mw_in (i := 774) (by decide +kernel) (by decide +kernel)
theorem tw_775 : Cond.code y_MO_put prog_9_method_33_code 7 (some .int) ∈ Ts := mw_in (i := 775) (by decide +kernel) (by decide +kernel)
theorem tw_776 : Cond.methodLink "MapStoreModel" 143 y_MO_putRing ∈ Ts := mw_in (i := 776) (by decide +kernel) (by decide +kernel)
theorem tw_778 : Cond.instanceMethod y_MO_putRing ∈ Ts := mw_in (i := 778) (by decide +kernel) (by decide +kernel)
theorem tw_779 : Cond.code y_MO_putRing prog_9_method_31_code 5 none ∈ Ts := mw_in (i := 779) (by decide +kernel) (by decide +kernel)
theorem tw_780 : Cond.methodLink "MapStoreModel" 139 y_MO_ringPlace ∈ Ts := mw_in (i := 780) (by decide +kernel) (by decide +kernel)
theorem tw_782 : Cond.instanceMethod y_MO_ringPlace ∈ Ts := mw_in (i := 782) (by decide +kernel) (by decide +kernel)
theorem tw_783 : Cond.code y_MO_ringPlace prog_9_method_30_code 4 (some .int) ∈ Ts := mw_in (i := 783) (by decide +kernel) (by decide +kernel)
theorem tw_784 : Cond.methodLink "MapStoreLaw" 119 y_MO_take ∈ Ts := mw_in (i := 784) (by decide +kernel) (by decide +kernel)
theorem tw_785 : Cond.instanceMethod y_MO_take ∈ Ts := mw_in (i := 785) (by decide +kernel) (by decide +kernel)
theorem tw_786 : Cond.selects "MapStoreModel" y_MO_take y_MO_take ∈ Ts := mw_in (i := 786) (by decide +kernel) (by decide +kernel)
theorem tw_787 : Cond.code y_MO_take prog_9_method_34_code 7 (some .int) ∈ Ts := mw_in (i := 787) (by decide +kernel) (by decide +kernel)
theorem tw_788 : Cond.methodLink "MapStoreModel" 147 y_MO_numberInRing ∈ Ts := mw_in (i := 788) (by decide +kernel) (by decide +kernel)
theorem tw_790 : Cond.instanceMethod y_MO_numberInRing ∈ Ts := mw_in (i := 790) (by decide +kernel) (by decide +kernel)
theorem tw_791 : Cond.code y_MO_numberInRing prog_9_method_32_code 7 (some .long) ∈ Ts := mw_in (i := 791) (by decide +kernel) (by decide +kernel)
theorem tw_792 : Cond.constantLong "MapStoreModel" 151 8 ∈ Ts := mw_in (i := 792) (by decide +kernel) (by decide +kernel)
theorem tw_793 : Cond.methodLink "MapStoreLaw" 122 y_MO_next ∈ Ts := mw_in (i := 793) (by decide +kernel) (by decide +kernel)
theorem tw_794 : Cond.instanceMethod y_MO_next ∈ Ts := mw_in (i := 794) (by decide +kernel) (by decide +kernel)
theorem tw_795 : Cond.selects "MapStoreModel" y_MO_next y_MO_next ∈ Ts := mw_in (i := 795) (by decide +kernel) (by decide +kernel)
theorem tw_796 : Cond.code y_MO_next prog_9_method_35_code 6 (some .int) ∈ Ts := mw_in (i := 796) (by decide +kernel) (by decide +kernel)
theorem tw_797 : Cond.methodLink "MapStoreLaw" 126 y_MO_breaches ∈ Ts := mw_in (i := 797) (by decide +kernel) (by decide +kernel)
theorem tw_798 : Cond.instanceMethod y_MO_breaches ∈ Ts := mw_in (i := 798) (by decide +kernel) (by decide +kernel)
theorem tw_799 : Cond.selects "MapStoreModel" y_MO_breaches y_MO_breaches ∈ Ts := mw_in (i := 799) (by decide +kernel) (by decide +kernel)
theorem tw_800 : Cond.code y_MO_breaches prog_9_method_36_code 1 (some .int) ∈ Ts := mw_in (i := 800) (by decide +kernel) (by decide +kernel)
theorem tw_801 : Cond.constantLong "MapStoreLaw" 90 4294967295 ∈ Ts := mw_in (i := 801) (by decide +kernel) (by decide +kernel)
theorem tw_802 : Cond.sameMethod "java/lang/Throwable" "java/lang/Throwable" "fillInStackTrace" "(I)Ljava/lang/Throwable;" ∈ Ts := mw_in (i := 802) (by decide +kernel) (by decide +kernel)
theorem tw_803 : Cond.sameMethod "MapStore$EntryMap" "MapStore$EntryMap" "placeOfEntry" "(I)I" ∈ Ts := mw_in (i := 803) (by decide +kernel) (by decide +kernel)
theorem tw_804 : Cond.selects "MapStore$TableMap" y_TM_entryOf y_TM_entryOf ∈ Ts := mw_in (i := 804) (by decide +kernel) (by decide +kernel)
theorem tw_805 : Cond.castable "MapStore$ArrayMap" "MapStore$AnyMap" ∈ Ts := mw_in (i := 805) (by decide +kernel) (by decide +kernel)
theorem tw_806 : Cond.castable "MapStore$RingMap" "MapStore$AnyMap" ∈ Ts := mw_in (i := 806) (by decide +kernel) (by decide +kernel)
theorem tw_807 : Cond.castable "MapStore$TableMap" "MapStore$AnyMap" ∈ Ts := mw_in (i := 807) (by decide +kernel) (by decide +kernel)
end
section
/-! the pool's entries of fields (printed) -/
theorem gf_BY_9_cBY : mw_Fl Ts mk_cl "MapStore$Bytes" 9 cBY 0 := ⟨_, "MapStore$Bytes", rfl, by decide, tw_54, Or.inl rfl⟩
theorem gp_BY_9_cBY : mw_Fp Ts mk_cl "MapStore$Bytes" 9 cBY 0 := ⟨_, "MapStore$Bytes", rfl, by decide, tw_54, Or.inl rfl, Or.inr ⟨rfl, rfl⟩⟩
theorem gf_BY_19_cBY : mw_Fl Ts mk_cl "MapStore$Bytes" 19 cBY 1 := ⟨_, "MapStore$Bytes", rfl, by decide, tw_55, Or.inl rfl⟩
theorem gp_BY_19_cBY : mw_Fp Ts mk_cl "MapStore$Bytes" 19 cBY 1 := ⟨_, "MapStore$Bytes", rfl, by decide, tw_55, Or.inl rfl, Or.inr ⟨rfl, rfl⟩⟩
theorem gf_MS_14_cMS : mw_Fl Ts mk_cl "MapStore" 14 cMS 0 := ⟨_, "MapStore", rfl, by decide, tw_65, Or.inl rfl⟩
theorem gp_MS_14_cMS : mw_Fp Ts mk_cl "MapStore" 14 cMS 0 := ⟨_, "MapStore", rfl, by decide, tw_65, Or.inl rfl, Or.inr ⟨rfl, rfl⟩⟩
theorem gf_MS_19_cMS : mw_Fl Ts mk_cl "MapStore" 19 cMS 1 := ⟨_, "MapStore", rfl, by decide, tw_66, Or.inl rfl⟩
theorem gp_MS_19_cMS : mw_Fp Ts mk_cl "MapStore" 19 cMS 1 := ⟨_, "MapStore", rfl, by decide, tw_66, Or.inl rfl, Or.inr ⟨rfl, rfl⟩⟩
theorem gf_MS_24_cMS : mw_Fl Ts mk_cl "MapStore" 24 cMS 2 := ⟨_, "MapStore", rfl, by decide, tw_67, Or.inl rfl⟩
theorem gp_MS_24_cMS : mw_Fp Ts mk_cl "MapStore" 24 cMS 2 := ⟨_, "MapStore", rfl, by decide, tw_67, Or.inl rfl, Or.inr ⟨rfl, rfl⟩⟩
theorem gf_MS_28_cMS : mw_Fl Ts mk_cl "MapStore" 28 cMS 3 := ⟨_, "MapStore", rfl, by decide, tw_68, Or.inl rfl⟩
theorem gp_MS_28_cMS : mw_Fp Ts mk_cl "MapStore" 28 cMS 3 := ⟨_, "MapStore", rfl, by decide, tw_68, Or.inl rfl, Or.inl rfl⟩
theorem gf_MS_32_cMS : mw_Fl Ts mk_cl "MapStore" 32 cMS 4 := ⟨_, "MapStore", rfl, by decide, tw_69, Or.inl rfl⟩
theorem gp_MS_32_cMS : mw_Fp Ts mk_cl "MapStore" 32 cMS 4 := ⟨_, "MapStore", rfl, by decide, tw_69, Or.inl rfl, Or.inl rfl⟩
theorem gf_EM_9_cAM : mw_Fl Ts mk_cl "MapStore$EntryMap" 9 cAM 3 := ⟨_, "MapStore$EntryMap", rfl, by decide, tw_240, Or.inl rfl⟩
theorem gp_EM_9_cAM : mw_Fp Ts mk_cl "MapStore$EntryMap" 9 cAM 3 := ⟨_, "MapStore$EntryMap", rfl, by decide, tw_240, Or.inl rfl, Or.inr ⟨rfl, rfl⟩⟩
theorem gf_EM_9_cTM : mw_Fl Ts mk_cl "MapStore$EntryMap" 9 cTM 3 := ⟨_, "MapStore$EntryMap", rfl, by decide, tw_240, Or.inl rfl⟩
theorem gp_EM_9_cTM : mw_Fp Ts mk_cl "MapStore$EntryMap" 9 cTM 3 := ⟨_, "MapStore$EntryMap", rfl, by decide, tw_240, Or.inl rfl, Or.inr ⟨rfl, rfl⟩⟩
theorem gf_TM_37_cAM : mw_Fl Ts mk_cl "MapStore$TableMap" 37 cAM 3 := ⟨_, "MapStore$TableMap", rfl, by decide, tw_241, Or.inr tw_242⟩
theorem gf_TM_37_cTM : mw_Fl Ts mk_cl "MapStore$TableMap" 37 cTM 3 := ⟨_, "MapStore$TableMap", rfl, by decide, tw_241, Or.inr tw_242⟩
theorem gf_EM_15_cAM : mw_Fl Ts mk_cl "MapStore$EntryMap" 15 cAM 4 := ⟨_, "MapStore$EntryMap", rfl, by decide, tw_243, Or.inl rfl⟩
theorem gp_EM_15_cAM : mw_Fp Ts mk_cl "MapStore$EntryMap" 15 cAM 4 := ⟨_, "MapStore$EntryMap", rfl, by decide, tw_243, Or.inl rfl, Or.inr ⟨rfl, rfl⟩⟩
theorem gf_EM_15_cTM : mw_Fl Ts mk_cl "MapStore$EntryMap" 15 cTM 4 := ⟨_, "MapStore$EntryMap", rfl, by decide, tw_243, Or.inl rfl⟩
theorem gp_EM_15_cTM : mw_Fp Ts mk_cl "MapStore$EntryMap" 15 cTM 4 := ⟨_, "MapStore$EntryMap", rfl, by decide, tw_243, Or.inl rfl, Or.inr ⟨rfl, rfl⟩⟩
theorem gf_EM_18_cAM : mw_Fl Ts mk_cl "MapStore$EntryMap" 18 cAM 5 := ⟨_, "MapStore$EntryMap", rfl, by decide, tw_244, Or.inl rfl⟩
theorem gp_EM_18_cAM : mw_Fp Ts mk_cl "MapStore$EntryMap" 18 cAM 5 := ⟨_, "MapStore$EntryMap", rfl, by decide, tw_244, Or.inl rfl, Or.inr ⟨rfl, rfl⟩⟩
theorem gf_EM_18_cTM : mw_Fl Ts mk_cl "MapStore$EntryMap" 18 cTM 5 := ⟨_, "MapStore$EntryMap", rfl, by decide, tw_244, Or.inl rfl⟩
theorem gp_EM_18_cTM : mw_Fp Ts mk_cl "MapStore$EntryMap" 18 cTM 5 := ⟨_, "MapStore$EntryMap", rfl, by decide, tw_244, Or.inl rfl, Or.inr ⟨rfl, rfl⟩⟩
theorem gf_AM_9_cAM : mw_Fl Ts mk_cl "MapStore$ArrayMap" 9 cAM 5 := ⟨_, "MapStore$ArrayMap", rfl, by decide, tw_245, Or.inr tw_246⟩
theorem gf_AM_9_cTM : mw_Fl Ts mk_cl "MapStore$ArrayMap" 9 cTM 5 := ⟨_, "MapStore$ArrayMap", rfl, by decide, tw_245, Or.inr tw_246⟩
theorem gf_TM_66_cAM : mw_Fl Ts mk_cl "MapStore$TableMap" 66 cAM 5 := ⟨_, "MapStore$TableMap", rfl, by decide, tw_247, Or.inr tw_248⟩
theorem gf_TM_66_cTM : mw_Fl Ts mk_cl "MapStore$TableMap" 66 cTM 5 := ⟨_, "MapStore$TableMap", rfl, by decide, tw_247, Or.inr tw_248⟩
theorem gf_AN_9_cAM : mw_Fl Ts mk_cl "MapStore$AnyMap" 9 cAM 0 := ⟨_, "MapStore$AnyMap", rfl, by decide, tw_249, Or.inl rfl⟩
theorem gp_AN_9_cAM : mw_Fp Ts mk_cl "MapStore$AnyMap" 9 cAM 0 := ⟨_, "MapStore$AnyMap", rfl, by decide, tw_249, Or.inl rfl, Or.inr ⟨rfl, rfl⟩⟩
theorem gf_AN_9_cTM : mw_Fl Ts mk_cl "MapStore$AnyMap" 9 cTM 0 := ⟨_, "MapStore$AnyMap", rfl, by decide, tw_249, Or.inl rfl⟩
theorem gp_AN_9_cTM : mw_Fp Ts mk_cl "MapStore$AnyMap" 9 cTM 0 := ⟨_, "MapStore$AnyMap", rfl, by decide, tw_249, Or.inl rfl, Or.inr ⟨rfl, rfl⟩⟩
theorem gf_AN_9_cRM : mw_Fl Ts mk_cl "MapStore$AnyMap" 9 cRM 0 := ⟨_, "MapStore$AnyMap", rfl, by decide, tw_249, Or.inl rfl⟩
theorem gp_AN_9_cRM : mw_Fp Ts mk_cl "MapStore$AnyMap" 9 cRM 0 := ⟨_, "MapStore$AnyMap", rfl, by decide, tw_249, Or.inl rfl, Or.inr ⟨rfl, rfl⟩⟩
theorem gf_AM_15_cAM : mw_Fl Ts mk_cl "MapStore$ArrayMap" 15 cAM 0 := ⟨_, "MapStore$ArrayMap", rfl, by decide, tw_250, Or.inr tw_251⟩
theorem gf_AM_15_cTM : mw_Fl Ts mk_cl "MapStore$ArrayMap" 15 cTM 0 := ⟨_, "MapStore$ArrayMap", rfl, by decide, tw_250, Or.inr tw_251⟩
theorem gf_AM_15_cRM : mw_Fl Ts mk_cl "MapStore$ArrayMap" 15 cRM 0 := ⟨_, "MapStore$ArrayMap", rfl, by decide, tw_250, Or.inr tw_251⟩
theorem gf_RM_33_cAM : mw_Fl Ts mk_cl "MapStore$RingMap" 33 cAM 0 := ⟨_, "MapStore$RingMap", rfl, by decide, tw_252, Or.inr tw_253⟩
theorem gf_RM_33_cTM : mw_Fl Ts mk_cl "MapStore$RingMap" 33 cTM 0 := ⟨_, "MapStore$RingMap", rfl, by decide, tw_252, Or.inr tw_253⟩
theorem gf_RM_33_cRM : mw_Fl Ts mk_cl "MapStore$RingMap" 33 cRM 0 := ⟨_, "MapStore$RingMap", rfl, by decide, tw_252, Or.inr tw_253⟩
theorem gf_EM_21_cAM : mw_Fl Ts mk_cl "MapStore$EntryMap" 21 cAM 0 := ⟨_, "MapStore$EntryMap", rfl, by decide, tw_254, Or.inr tw_255⟩
theorem gf_EM_21_cTM : mw_Fl Ts mk_cl "MapStore$EntryMap" 21 cTM 0 := ⟨_, "MapStore$EntryMap", rfl, by decide, tw_254, Or.inr tw_255⟩
theorem gf_EM_21_cRM : mw_Fl Ts mk_cl "MapStore$EntryMap" 21 cRM 0 := ⟨_, "MapStore$EntryMap", rfl, by decide, tw_254, Or.inr tw_255⟩
theorem gf_TM_34_cAM : mw_Fl Ts mk_cl "MapStore$TableMap" 34 cAM 0 := ⟨_, "MapStore$TableMap", rfl, by decide, tw_256, Or.inr tw_257⟩
theorem gf_TM_34_cTM : mw_Fl Ts mk_cl "MapStore$TableMap" 34 cTM 0 := ⟨_, "MapStore$TableMap", rfl, by decide, tw_256, Or.inr tw_257⟩
theorem gf_TM_34_cRM : mw_Fl Ts mk_cl "MapStore$TableMap" 34 cRM 0 := ⟨_, "MapStore$TableMap", rfl, by decide, tw_256, Or.inr tw_257⟩
theorem gf_AN_15_cAM : mw_Fl Ts mk_cl "MapStore$AnyMap" 15 cAM 1 := ⟨_, "MapStore$AnyMap", rfl, by decide, tw_258, Or.inl rfl⟩
theorem gp_AN_15_cAM : mw_Fp Ts mk_cl "MapStore$AnyMap" 15 cAM 1 := ⟨_, "MapStore$AnyMap", rfl, by decide, tw_258, Or.inl rfl, Or.inr ⟨rfl, rfl⟩⟩
theorem gf_AN_15_cTM : mw_Fl Ts mk_cl "MapStore$AnyMap" 15 cTM 1 := ⟨_, "MapStore$AnyMap", rfl, by decide, tw_258, Or.inl rfl⟩
theorem gp_AN_15_cTM : mw_Fp Ts mk_cl "MapStore$AnyMap" 15 cTM 1 := ⟨_, "MapStore$AnyMap", rfl, by decide, tw_258, Or.inl rfl, Or.inr ⟨rfl, rfl⟩⟩
theorem gf_AN_15_cRM : mw_Fl Ts mk_cl "MapStore$AnyMap" 15 cRM 1 := ⟨_, "MapStore$AnyMap", rfl, by decide, tw_258, Or.inl rfl⟩
theorem gp_AN_15_cRM : mw_Fp Ts mk_cl "MapStore$AnyMap" 15 cRM 1 := ⟨_, "MapStore$AnyMap", rfl, by decide, tw_258, Or.inl rfl, Or.inr ⟨rfl, rfl⟩⟩
theorem gf_RM_51_cAM : mw_Fl Ts mk_cl "MapStore$RingMap" 51 cAM 1 := ⟨_, "MapStore$RingMap", rfl, by decide, tw_259, Or.inr tw_260⟩
theorem gf_RM_51_cTM : mw_Fl Ts mk_cl "MapStore$RingMap" 51 cTM 1 := ⟨_, "MapStore$RingMap", rfl, by decide, tw_259, Or.inr tw_260⟩
theorem gf_RM_51_cRM : mw_Fl Ts mk_cl "MapStore$RingMap" 51 cRM 1 := ⟨_, "MapStore$RingMap", rfl, by decide, tw_259, Or.inr tw_260⟩
theorem gf_EM_45_cAM : mw_Fl Ts mk_cl "MapStore$EntryMap" 45 cAM 1 := ⟨_, "MapStore$EntryMap", rfl, by decide, tw_261, Or.inr tw_262⟩
theorem gf_EM_45_cTM : mw_Fl Ts mk_cl "MapStore$EntryMap" 45 cTM 1 := ⟨_, "MapStore$EntryMap", rfl, by decide, tw_261, Or.inr tw_262⟩
theorem gf_EM_45_cRM : mw_Fl Ts mk_cl "MapStore$EntryMap" 45 cRM 1 := ⟨_, "MapStore$EntryMap", rfl, by decide, tw_261, Or.inr tw_262⟩
theorem gf_AN_18_cAM : mw_Fl Ts mk_cl "MapStore$AnyMap" 18 cAM 2 := ⟨_, "MapStore$AnyMap", rfl, by decide, tw_263, Or.inl rfl⟩
theorem gp_AN_18_cAM : mw_Fp Ts mk_cl "MapStore$AnyMap" 18 cAM 2 := ⟨_, "MapStore$AnyMap", rfl, by decide, tw_263, Or.inl rfl, Or.inr ⟨rfl, rfl⟩⟩
theorem gf_AN_18_cTM : mw_Fl Ts mk_cl "MapStore$AnyMap" 18 cTM 2 := ⟨_, "MapStore$AnyMap", rfl, by decide, tw_263, Or.inl rfl⟩
theorem gp_AN_18_cTM : mw_Fp Ts mk_cl "MapStore$AnyMap" 18 cTM 2 := ⟨_, "MapStore$AnyMap", rfl, by decide, tw_263, Or.inl rfl, Or.inr ⟨rfl, rfl⟩⟩
theorem gf_AN_18_cRM : mw_Fl Ts mk_cl "MapStore$AnyMap" 18 cRM 2 := ⟨_, "MapStore$AnyMap", rfl, by decide, tw_263, Or.inl rfl⟩
theorem gp_AN_18_cRM : mw_Fp Ts mk_cl "MapStore$AnyMap" 18 cRM 2 := ⟨_, "MapStore$AnyMap", rfl, by decide, tw_263, Or.inl rfl, Or.inr ⟨rfl, rfl⟩⟩
theorem gf_MS_63_cAM : mw_Fl Ts mk_cl "MapStore" 63 cAM 2 := ⟨_, "MapStore$AnyMap", rfl, by decide, tw_264, Or.inl rfl⟩
theorem gf_MS_63_cTM : mw_Fl Ts mk_cl "MapStore" 63 cTM 2 := ⟨_, "MapStore$AnyMap", rfl, by decide, tw_264, Or.inl rfl⟩
theorem gf_MS_63_cRM : mw_Fl Ts mk_cl "MapStore" 63 cRM 2 := ⟨_, "MapStore$AnyMap", rfl, by decide, tw_264, Or.inl rfl⟩
theorem gf_EM_52_cAM : mw_Fl Ts mk_cl "MapStore$EntryMap" 52 cAM 2 := ⟨_, "MapStore$EntryMap", rfl, by decide, tw_265, Or.inr tw_266⟩
theorem gf_EM_52_cTM : mw_Fl Ts mk_cl "MapStore$EntryMap" 52 cTM 2 := ⟨_, "MapStore$EntryMap", rfl, by decide, tw_265, Or.inr tw_266⟩
theorem gf_EM_52_cRM : mw_Fl Ts mk_cl "MapStore$EntryMap" 52 cRM 2 := ⟨_, "MapStore$EntryMap", rfl, by decide, tw_265, Or.inr tw_266⟩
theorem gf_RM_75_cAM : mw_Fl Ts mk_cl "MapStore$RingMap" 75 cAM 2 := ⟨_, "MapStore$RingMap", rfl, by decide, tw_267, Or.inr tw_268⟩
theorem gf_RM_75_cTM : mw_Fl Ts mk_cl "MapStore$RingMap" 75 cTM 2 := ⟨_, "MapStore$RingMap", rfl, by decide, tw_267, Or.inr tw_268⟩
theorem gf_RM_75_cRM : mw_Fl Ts mk_cl "MapStore$RingMap" 75 cRM 2 := ⟨_, "MapStore$RingMap", rfl, by decide, tw_267, Or.inr tw_268⟩
theorem gf_TM_23_cTM : mw_Fl Ts mk_cl "MapStore$TableMap" 23 cTM 6 := ⟨_, "MapStore$TableMap", rfl, by decide, tw_291, Or.inl rfl⟩
theorem gp_TM_23_cTM : mw_Fp Ts mk_cl "MapStore$TableMap" 23 cTM 6 := ⟨_, "MapStore$TableMap", rfl, by decide, tw_291, Or.inl rfl, Or.inr ⟨rfl, rfl⟩⟩
theorem gf_TM_30_cTM : mw_Fl Ts mk_cl "MapStore$TableMap" 30 cTM 7 := ⟨_, "MapStore$TableMap", rfl, by decide, tw_292, Or.inl rfl⟩
theorem gp_TM_30_cTM : mw_Fp Ts mk_cl "MapStore$TableMap" 30 cTM 7 := ⟨_, "MapStore$TableMap", rfl, by decide, tw_292, Or.inl rfl, Or.inr ⟨rfl, rfl⟩⟩
theorem gf_TM_9_cTM : mw_Fl Ts mk_cl "MapStore$TableMap" 9 cTM 8 := ⟨_, "MapStore$TableMap", rfl, by decide, tw_293, Or.inl rfl⟩
theorem gp_TM_9_cTM : mw_Fp Ts mk_cl "MapStore$TableMap" 9 cTM 8 := ⟨_, "MapStore$TableMap", rfl, by decide, tw_293, Or.inl rfl, Or.inl rfl⟩
theorem gf_TM_15_cTM : mw_Fl Ts mk_cl "MapStore$TableMap" 15 cTM 9 := ⟨_, "MapStore$TableMap", rfl, by decide, tw_294, Or.inl rfl⟩
theorem gp_TM_15_cTM : mw_Fp Ts mk_cl "MapStore$TableMap" 15 cTM 9 := ⟨_, "MapStore$TableMap", rfl, by decide, tw_294, Or.inl rfl, Or.inl rfl⟩
theorem gf_TM_18_cTM : mw_Fl Ts mk_cl "MapStore$TableMap" 18 cTM 10 := ⟨_, "MapStore$TableMap", rfl, by decide, tw_295, Or.inl rfl⟩
theorem gp_TM_18_cTM : mw_Fp Ts mk_cl "MapStore$TableMap" 18 cTM 10 := ⟨_, "MapStore$TableMap", rfl, by decide, tw_295, Or.inl rfl, Or.inl rfl⟩
theorem gf_RM_26_cRM : mw_Fl Ts mk_cl "MapStore$RingMap" 26 cRM 3 := ⟨_, "MapStore$RingMap", rfl, by decide, tw_319, Or.inl rfl⟩
theorem gp_RM_26_cRM : mw_Fp Ts mk_cl "MapStore$RingMap" 26 cRM 3 := ⟨_, "MapStore$RingMap", rfl, by decide, tw_319, Or.inl rfl, Or.inr ⟨rfl, rfl⟩⟩
theorem gf_RM_9_cRM : mw_Fl Ts mk_cl "MapStore$RingMap" 9 cRM 4 := ⟨_, "MapStore$RingMap", rfl, by decide, tw_320, Or.inl rfl⟩
theorem gp_RM_9_cRM : mw_Fp Ts mk_cl "MapStore$RingMap" 9 cRM 4 := ⟨_, "MapStore$RingMap", rfl, by decide, tw_320, Or.inl rfl, Or.inl rfl⟩
theorem gf_RM_15_cRM : mw_Fl Ts mk_cl "MapStore$RingMap" 15 cRM 5 := ⟨_, "MapStore$RingMap", rfl, by decide, tw_321, Or.inl rfl⟩
theorem gp_RM_15_cRM : mw_Fp Ts mk_cl "MapStore$RingMap" 15 cRM 5 := ⟨_, "MapStore$RingMap", rfl, by decide, tw_321, Or.inl rfl, Or.inl rfl⟩
theorem gf_RM_18_cRM : mw_Fl Ts mk_cl "MapStore$RingMap" 18 cRM 6 := ⟨_, "MapStore$RingMap", rfl, by decide, tw_322, Or.inl rfl⟩
theorem gp_RM_18_cRM : mw_Fp Ts mk_cl "MapStore$RingMap" 18 cRM 6 := ⟨_, "MapStore$RingMap", rfl, by decide, tw_322, Or.inl rfl, Or.inl rfl⟩
theorem gf_RM_22_cRM : mw_Fl Ts mk_cl "MapStore$RingMap" 22 cRM 7 := ⟨_, "MapStore$RingMap", rfl, by decide, tw_323, Or.inl rfl⟩
theorem gp_RM_22_cRM : mw_Fp Ts mk_cl "MapStore$RingMap" 22 cRM 7 := ⟨_, "MapStore$RingMap", rfl, by decide, tw_323, Or.inl rfl, Or.inl rfl⟩
theorem gf_MO_60_cMO : mw_Fl Ts mk_cl "MapStoreModel" 60 cMO 0 := ⟨_, "MapStoreModel", rfl, by decide, tw_600, Or.inl rfl⟩
theorem gp_MO_60_cMO : mw_Fp Ts mk_cl "MapStoreModel" 60 cMO 0 := ⟨_, "MapStoreModel", rfl, by decide, tw_600, Or.inl rfl, Or.inl rfl⟩
theorem gf_MO_7_cMO : mw_Fl Ts mk_cl "MapStoreModel" 7 cMO 1 := ⟨_, "MapStoreModel", rfl, by decide, tw_601, Or.inl rfl⟩
theorem gp_MO_7_cMO : mw_Fp Ts mk_cl "MapStoreModel" 7 cMO 1 := ⟨_, "MapStoreModel", rfl, by decide, tw_601, Or.inl rfl, Or.inr ⟨rfl, rfl⟩⟩
theorem gf_MO_14_cMO : mw_Fl Ts mk_cl "MapStoreModel" 14 cMO 2 := ⟨_, "MapStoreModel", rfl, by decide, tw_602, Or.inl rfl⟩
theorem gp_MO_14_cMO : mw_Fp Ts mk_cl "MapStoreModel" 14 cMO 2 := ⟨_, "MapStoreModel", rfl, by decide, tw_602, Or.inl rfl, Or.inr ⟨rfl, rfl⟩⟩
theorem gf_MO_83_cMO : mw_Fl Ts mk_cl "MapStoreModel" 83 cMO 3 := ⟨_, "MapStoreModel", rfl, by decide, tw_603, Or.inl rfl⟩
theorem gp_MO_83_cMO : mw_Fp Ts mk_cl "MapStoreModel" 83 cMO 3 := ⟨_, "MapStoreModel", rfl, by decide, tw_603, Or.inl rfl, Or.inl rfl⟩
theorem gf_MO_80_cMO : mw_Fl Ts mk_cl "MapStoreModel" 80 cMO 4 := ⟨_, "MapStoreModel", rfl, by decide, tw_604, Or.inl rfl⟩
theorem gp_MO_80_cMO : mw_Fp Ts mk_cl "MapStoreModel" 80 cMO 4 := ⟨_, "MapStoreModel", rfl, by decide, tw_604, Or.inl rfl, Or.inl rfl⟩
theorem gf_MO_17_cMO : mw_Fl Ts mk_cl "MapStoreModel" 17 cMO 5 := ⟨_, "MapStoreModel", rfl, by decide, tw_605, Or.inl rfl⟩
theorem gp_MO_17_cMO : mw_Fp Ts mk_cl "MapStoreModel" 17 cMO 5 := ⟨_, "MapStoreModel", rfl, by decide, tw_605, Or.inl rfl, Or.inr ⟨rfl, rfl⟩⟩
theorem gf_MO_21_cMO : mw_Fl Ts mk_cl "MapStoreModel" 21 cMO 6 := ⟨_, "MapStoreModel", rfl, by decide, tw_606, Or.inl rfl⟩
theorem gp_MO_21_cMO : mw_Fp Ts mk_cl "MapStoreModel" 21 cMO 6 := ⟨_, "MapStoreModel", rfl, by decide, tw_606, Or.inl rfl, Or.inr ⟨rfl, rfl⟩⟩
theorem gf_MO_24_cMO : mw_Fl Ts mk_cl "MapStoreModel" 24 cMO 7 := ⟨_, "MapStoreModel", rfl, by decide, tw_607, Or.inl rfl⟩
theorem gp_MO_24_cMO : mw_Fp Ts mk_cl "MapStoreModel" 24 cMO 7 := ⟨_, "MapStoreModel", rfl, by decide, tw_607, Or.inl rfl, Or.inr ⟨rfl, rfl⟩⟩
theorem gf_MO_27_cMO : mw_Fl Ts mk_cl "MapStoreModel" 27 cMO 8 := ⟨_, "MapStoreModel", rfl, by decide, tw_608, Or.inl rfl⟩
theorem gp_MO_27_cMO : mw_Fp Ts mk_cl "MapStoreModel" 27 cMO 8 := ⟨_, "MapStoreModel", rfl, by decide, tw_608, Or.inl rfl, Or.inr ⟨rfl, rfl⟩⟩
theorem gf_MO_30_cMO : mw_Fl Ts mk_cl "MapStoreModel" 30 cMO 9 := ⟨_, "MapStoreModel", rfl, by decide, tw_609, Or.inl rfl⟩
theorem gp_MO_30_cMO : mw_Fp Ts mk_cl "MapStoreModel" 30 cMO 9 := ⟨_, "MapStoreModel", rfl, by decide, tw_609, Or.inl rfl, Or.inr ⟨rfl, rfl⟩⟩
theorem gf_MO_33_cMO : mw_Fl Ts mk_cl "MapStoreModel" 33 cMO 10 := ⟨_, "MapStoreModel", rfl, by decide, tw_610, Or.inl rfl⟩
theorem gp_MO_33_cMO : mw_Fp Ts mk_cl "MapStoreModel" 33 cMO 10 := ⟨_, "MapStoreModel", rfl, by decide, tw_610, Or.inl rfl, Or.inr ⟨rfl, rfl⟩⟩
theorem gf_MO_36_cMO : mw_Fl Ts mk_cl "MapStoreModel" 36 cMO 11 := ⟨_, "MapStoreModel", rfl, by decide, tw_611, Or.inl rfl⟩
theorem gp_MO_36_cMO : mw_Fp Ts mk_cl "MapStoreModel" 36 cMO 11 := ⟨_, "MapStoreModel", rfl, by decide, tw_611, Or.inl rfl, Or.inr ⟨rfl, rfl⟩⟩
theorem gf_MO_86_cMO : mw_Fl Ts mk_cl "MapStoreModel" 86 cMO 12 := ⟨_, "MapStoreModel", rfl, by decide, tw_612, Or.inl rfl⟩
theorem gp_MO_86_cMO : mw_Fp Ts mk_cl "MapStoreModel" 86 cMO 12 := ⟨_, "MapStoreModel", rfl, by decide, tw_612, Or.inl rfl, Or.inl rfl⟩
theorem gf_MO_89_cMO : mw_Fl Ts mk_cl "MapStoreModel" 89 cMO 13 := ⟨_, "MapStoreModel", rfl, by decide, tw_613, Or.inl rfl⟩
theorem gp_MO_89_cMO : mw_Fp Ts mk_cl "MapStoreModel" 89 cMO 13 := ⟨_, "MapStoreModel", rfl, by decide, tw_613, Or.inl rfl, Or.inl rfl⟩
theorem gf_MO_39_cMO : mw_Fl Ts mk_cl "MapStoreModel" 39 cMO 14 := ⟨_, "MapStoreModel", rfl, by decide, tw_614, Or.inl rfl⟩
theorem gp_MO_39_cMO : mw_Fp Ts mk_cl "MapStoreModel" 39 cMO 14 := ⟨_, "MapStoreModel", rfl, by decide, tw_614, Or.inl rfl, Or.inr ⟨rfl, rfl⟩⟩
theorem gf_MO_44_cMO : mw_Fl Ts mk_cl "MapStoreModel" 44 cMO 15 := ⟨_, "MapStoreModel", rfl, by decide, tw_615, Or.inl rfl⟩
theorem gp_MO_44_cMO : mw_Fp Ts mk_cl "MapStoreModel" 44 cMO 15 := ⟨_, "MapStoreModel", rfl, by decide, tw_615, Or.inl rfl, Or.inr ⟨rfl, rfl⟩⟩
theorem gf_MO_47_cMO : mw_Fl Ts mk_cl "MapStoreModel" 47 cMO 16 := ⟨_, "MapStoreModel", rfl, by decide, tw_616, Or.inl rfl⟩
theorem gp_MO_47_cMO : mw_Fp Ts mk_cl "MapStoreModel" 47 cMO 16 := ⟨_, "MapStoreModel", rfl, by decide, tw_616, Or.inl rfl, Or.inr ⟨rfl, rfl⟩⟩
theorem gf_MO_51_cMO : mw_Fl Ts mk_cl "MapStoreModel" 51 cMO 17 := ⟨_, "MapStoreModel", rfl, by decide, tw_617, Or.inl rfl⟩
theorem gp_MO_51_cMO : mw_Fp Ts mk_cl "MapStoreModel" 51 cMO 17 := ⟨_, "MapStoreModel", rfl, by decide, tw_617, Or.inl rfl, Or.inr ⟨rfl, rfl⟩⟩
theorem gf_MO_54_cMO : mw_Fl Ts mk_cl "MapStoreModel" 54 cMO 18 := ⟨_, "MapStoreModel", rfl, by decide, tw_618, Or.inl rfl⟩
theorem gp_MO_54_cMO : mw_Fp Ts mk_cl "MapStoreModel" 54 cMO 18 := ⟨_, "MapStoreModel", rfl, by decide, tw_618, Or.inl rfl, Or.inr ⟨rfl, rfl⟩⟩
theorem gf_MO_57_cMO : mw_Fl Ts mk_cl "MapStoreModel" 57 cMO 19 := ⟨_, "MapStoreModel", rfl, by decide, tw_619, Or.inl rfl⟩
theorem gp_MO_57_cMO : mw_Fp Ts mk_cl "MapStoreModel" 57 cMO 19 := ⟨_, "MapStoreModel", rfl, by decide, tw_619, Or.inl rfl, Or.inr ⟨rfl, rfl⟩⟩
theorem gf_MO_115_cMO : mw_Fl Ts mk_cl "MapStoreModel" 115 cMO 20 := ⟨_, "MapStoreModel", rfl, by decide, tw_620, Or.inl rfl⟩
theorem gp_MO_115_cMO : mw_Fp Ts mk_cl "MapStoreModel" 115 cMO 20 := ⟨_, "MapStoreModel", rfl, by decide, tw_620, Or.inl rfl, Or.inl rfl⟩
end
section
/-! ===== lN n to 2^64: shifts, and, or, masks, one bit ===== -/
theorem wb_tb (n : Nat) : (lN n).toBitVec = BitVec.ofNat 64 n := rfl
theorem wb_inj {a b : Int64} (h : a.toBitVec = b.toBitVec) : a = b := Int64.toBitVec_inj.mp h
theorem wb_tn {n : Nat} (h : n < 2 ^ 64) : (lN n).toBitVec.toNat = n := by rw [wb_tb, BitVec.toNat_ofNat, Nat.mod_eq_of_lt h]
theorem wb_of (x : Int64) : ∃ n, n < 2 ^ 64 ∧ x = lN n := ⟨x.toBitVec.toNat, x.toBitVec.isLt, wb_inj (by rw [wb_tb]; simp)⟩
theorem wb_of32 (x : Int32) : ∃ n, n < 2 ^ 32 ∧ x = nI n := ⟨x.toBitVec.toNat, x.toBitVec.isLt, Int32.toBitVec_inj.mp (by show _ = BitVec.ofNat 32 _; simp)⟩
theorem wb_c : ∀ k, k < 64 → ((nI k).toInt64 &&& 63) = lN k := by decide +kernel
theorem wb_cu : ∀ k, k < 64 → ((nI k).toInt64.toUInt64 &&& Int64.toUInt64 63) = UInt64.ofNat k := by decide +kernel
theorem wb_sm : ∀ k, k < 64 → (BitVec.ofNat 64 k).smod 64 = BitVec.ofNat 64 k := by decide +kernel
theorem wb_pw {a b : Nat} (h : a ≤ b) : 2 ^ b = 2 ^ a * 2 ^ (b - a) := by rw [← Nat.pow_add]; congr 1; omega
theorem wb_lt2 {a b : Nat} (h : a < b) : 2 ^ a < 2 ^ b := Nat.pow_lt_pow_right (by decide) h
theorem wb_mod (n : Nat) : lN n = lN (n % 2 ^ 64) := wb_inj (by rw [wb_tb, wb_tb]; apply BitVec.eq_of_toNat_eq; rw [BitVec.toNat_ofNat, BitVec.toNat_ofNat, Nat.mod_mod])
theorem wb_shr {n k : Nat} (hn : n < 2 ^ 64) (hk : k < 64) : ((lN n).toUInt64 >>> ((nI k).toInt64.toUInt64 &&& Int64.toUInt64 63)).toInt64 = lN (n / 2 ^ k) := by
  rw [wb_cu k hk]
  apply wb_inj
  apply BitVec.eq_of_toNat_eq
  show ((lN n).toUInt64 >>> UInt64.ofNat k).toNat = (BitVec.ofNat 64 _).toNat
  have h1 : (UInt64.ofNat k).toNat = k := by
    show (BitVec.ofNat 64 k).toNat = k
    rw [BitVec.toNat_ofNat, Nat.mod_eq_of_lt (by omega)]
  have h2 : (lN n).toUInt64.toNat = n := wb_tn hn
  rw [UInt64.toNat_shiftRight, h1, h2, Nat.mod_eq_of_lt hk, Nat.shiftRight_eq_div_pow, BitVec.toNat_ofNat, Nat.mod_eq_of_lt (Nat.lt_of_le_of_lt (Nat.div_le_self _ _) hn)]
theorem wb_shl (n : Nat) {k : Nat} (hk : k < 64) : lN n <<< ((nI k).toInt64 &&& 63) = lN (n * 2 ^ k) := by
  rw [wb_c k hk]
  apply wb_inj
  rw [Int64.toBitVec_shiftLeft, wb_tb, wb_tb, wb_tb, wb_sm k hk]
  apply BitVec.eq_of_toNat_eq
  rw [BitVec.shiftLeft_eq', BitVec.toNat_shiftLeft, BitVec.toNat_ofNat, BitVec.toNat_ofNat, BitVec.toNat_ofNat, Nat.mod_eq_of_lt (show k < 2 ^ 64 by omega), Nat.shiftLeft_eq, Nat.mul_mod, Nat.mod_mod, ← Nat.mul_mod]
theorem wb_and {a b : Nat} (ha : a < 2 ^ 64) (hb : b < 2 ^ 64) : lN a &&& lN b = lN (a &&& b) := by
  apply wb_inj
  rw [Int64.toBitVec_and, wb_tb, wb_tb, wb_tb]
  apply BitVec.eq_of_toNat_eq
  rw [BitVec.toNat_and, BitVec.toNat_ofNat, BitVec.toNat_ofNat, BitVec.toNat_ofNat, Nat.mod_eq_of_lt ha, Nat.mod_eq_of_lt hb, Nat.mod_eq_of_lt (Nat.and_lt_two_pow _ hb)]
theorem wb_or {a b : Nat} (ha : a < 2 ^ 64) (hb : b < 2 ^ 64) : lN a ||| lN b = lN (a ||| b) := by
  apply wb_inj
  rw [Int64.toBitVec_or, wb_tb, wb_tb, wb_tb]
  apply BitVec.eq_of_toNat_eq
  rw [BitVec.toNat_or, BitVec.toNat_ofNat, BitVec.toNat_ofNat, BitVec.toNat_ofNat, Nat.mod_eq_of_lt ha, Nat.mod_eq_of_lt hb, Nat.mod_eq_of_lt (Nat.or_lt_two_pow ha hb)]
theorem wb_mask {n k : Nat} (hn : n < 2 ^ 64) (hk : k < 64) : lN n &&& lN (2 ^ k - 1) = lN (n % 2 ^ k) := by
  rw [wb_and hn (by have := wb_lt2 hk; omega), Nat.and_two_pow_sub_one_eq_mod]
theorem wb_a1 {n : Nat} (hn : n < 2 ^ 64) : lN n &&& 1 = lN (n % 2) := wb_mask (k := 1) hn (by decide)
theorem wb_bit {n k : Nat} (hn : n < 2 ^ 64) (hk : k < 64) : ((lN n).toUInt64 >>> ((nI k).toInt64.toUInt64 &&& Int64.toUInt64 63)).toInt64 &&& 1 = lN (n / 2 ^ k % 2) := by
  rw [wb_shr hn hk, wb_a1 (Nat.lt_of_le_of_lt (Nat.div_le_self _ _) hn)]
theorem wb_xor {q k : Nat} (hk : k < 63) (h : 2 ^ k ≤ q) (h2 : q < 2 ^ (k + 1)) : lN q ^^^ lN (2 ^ k) = lN (q - 2 ^ k) := by
  obtain ⟨r, rfl⟩ : ∃ r, q = 2 ^ k + r := ⟨q - 2 ^ k, by omega⟩
  have hr : r < 2 ^ k := by rw [Nat.pow_succ] at h2; omega
  have hx : (2 ^ k + r) ^^^ 2 ^ k = r := by
    apply Nat.eq_of_testBit_eq
    intro i
    rw [Nat.testBit_xor, Nat.testBit_two_pow]
    rcases Nat.lt_trichotomy i k with h | h | h
    · rw [Nat.testBit_two_pow_add_gt h]
      simp [show ¬ k = i by omega]
    · subst h
      rw [Nat.testBit_two_pow_add_eq]
      simp
    · have a1 : 2 ^ (k + 1) ≤ 2 ^ i := Nat.pow_le_pow_right (by decide) h
      rw [Nat.testBit_lt_two_pow (show 2 ^ k + r < 2 ^ i by omega), Nat.testBit_lt_two_pow (show r < 2 ^ i by omega)]
      simp [show ¬ k = i by omega]
  have b1 := wb_lt2 (show k + 1 < 64 by omega)
  have b2 := wb_lt2 (show k < 64 by omega)
  apply wb_inj
  rw [Int64.toBitVec_xor, wb_tb, wb_tb, wb_tb]
  apply BitVec.eq_of_toNat_eq
  rw [BitVec.toNat_xor, BitVec.toNat_ofNat, BitVec.toNat_ofNat, BitVec.toNat_ofNat, Nat.mod_eq_of_lt (by omega : 2 ^ k + r < 2 ^ 64), Nat.mod_eq_of_lt b2, hx, Nat.add_sub_cancel_left, Nat.mod_eq_of_lt (by omega)]
/-! ===== lN: masks, 'or' of parts that don't overlap is a sum ===== -/
theorem u_tn {n : Nat} (h : n < 2 ^ 64) : (UInt64.ofNat n).toNat = n := Nat.mod_eq_of_lt h
theorem g_and {a b c : Nat} (ha : a < 2 ^ 64) (hb : b < 2 ^ 64) (hc : a &&& b = c) : lN a &&& lN b = lN c := by
  subst hc
  have h : UInt64.ofNat a &&& UInt64.ofNat b = UInt64.ofNat (a &&& b) := UInt64.toNat_inj.mp (by rw [UInt64.toNat_and, u_tn ha, u_tn hb, u_tn (Nat.and_lt_two_pow a hb)])
  have h2 := congrArg UInt64.toInt64 h
  exact h2
theorem g_and1 {a : Nat} (ha : a < 2 ^ 64) : lN a &&& 1 = lN (a % 2) := g_and (b := 1) ha (by decide) (Nat.and_two_pow_sub_one_eq_mod a 1)
theorem g_mask {a s p : Nat} (hp : 2 ^ s = p) (hs : s < 64) (ha : a < 2 ^ 64) : lN a &&& lN (p - 1) = lN (a % p) := by
  subst hp
  have := Nat.pow_lt_pow_right (show 1 < 2 by decide) hs
  exact g_and ha (by omega) (Nat.and_two_pow_sub_one_eq_mod a s)
theorem g_or {k p a b : Nat} (hp : 2 ^ k = p) (ha : a < p) (h : b * p + a < 2 ^ 64) : lN (b * p) ||| lN a = lN (b * p + a) := by
  subst hp
  have h1 : b * 2 ^ k ||| a = b * 2 ^ k + a := by rw [← Nat.shiftLeft_eq, Nat.shiftLeft_add_eq_or_of_lt ha]
  have h3 : UInt64.ofNat (b * 2 ^ k) ||| UInt64.ofNat a = UInt64.ofNat (b * 2 ^ k + a) := UInt64.toNat_inj.mp (by rw [UInt64.toNat_or, u_tn (by omega), u_tn (by omega), u_tn h, h1])
  have h2 := congrArg UInt64.toInt64 h3
  exact h2
theorem g_or' {k p a b : Nat} (hp : 2 ^ k = p) (ha : a < p) (h : a + b * p < 2 ^ 64) : lN a ||| lN (b * p) = lN (a + b * p) := by
  rw [Int64.or_comm, g_or hp ha (by omega), Nat.add_comm]
theorem g_ushr {a k p : Nat} {y : UInt64} (hy : y = UInt64.ofNat k) (hk : k < 64) (hp : 2 ^ k = p) (ha : a < 2 ^ 64) : ((lN a).toUInt64 >>> y).toInt64 = lN (a / p) := by
  subst hy hp
  have h : UInt64.ofNat a >>> UInt64.ofNat k = UInt64.ofNat (a / 2 ^ k) := UInt64.toNat_inj.mp (by rw [UInt64.toNat_shiftRight, u_tn ha, u_tn (by omega), u_tn (Nat.lt_of_le_of_lt (Nat.div_le_self _ _) ha), Nat.mod_eq_of_lt hk, Nat.shiftRight_eq_div_pow])
  have h2 := congrArg UInt64.toInt64 h
  exact h2
theorem g_shl {a k p : Nat} {y : Int64} (hy : y.toBitVec.smod 64 = BitVec.ofNat 64 k) (hk : k < 64) (hp : 2 ^ k = p) (ha : a < 2 ^ 64) : lN a <<< y = lN (a * p) := by
  subst hp
  apply Int64.toBitVec_inj.mp
  rw [Int64.toBitVec_shiftLeft, hy]
  apply BitVec.eq_of_toNat_eq
  have hb : (lN a).toBitVec.toNat = a := Nat.mod_eq_of_lt ha
  have hk' : (BitVec.ofNat 64 k).toNat = k := Nat.mod_eq_of_lt (by omega)
  have h : ((lN a).toBitVec <<< BitVec.ofNat 64 k).toNat = (a * 2 ^ k) % 2 ^ 64 := by simp only [BitVec.shiftLeft_eq', BitVec.toNat_shiftLeft, hb, hk', Nat.shiftLeft_eq]
  exact h
/-! ===== Int64 as an unsigned number: uN x ===== -/
def uN (x : Int64) : Nat := x.toUInt64.toNat
theorem uN_lt (x : Int64) : uN x < 18446744073709551616 := x.toUInt64.toNat_lt
theorem uN_inj {x y : Int64} (h : uN x = uN y) : x = y := congrArg UInt64.toInt64 (UInt64.toNat_inj.mp h)
theorem uN_add (x y : Int64) : uN (x + y) = (uN x + uN y) % 18446744073709551616 := by
  show (x.toUInt64 + y.toUInt64).toNat = _
  exact UInt64.toNat_add _ _
theorem uN_mul (x y : Int64) : uN (x * y) = (uN x * uN y) % 18446744073709551616 := by
  show (x.toUInt64 * y.toUInt64).toNat = _
  exact UInt64.toNat_mul _ _
theorem uN_shl (x : Int64) : uN (x <<< ((1 : Int32).toInt64 &&& 63)) = (2 * uN x) % 18446744073709551616 := by
  have h : (((1 : Int32).toInt64 &&& 63).toBitVec.smod 64).toNat = 1 := by decide
  show (x.toBitVec <<< (((1 : Int32).toInt64 &&& 63).toBitVec.smod 64).toNat).toNat = _
  rw [h, BitVec.toNat_shiftLeft, Nat.shiftLeft_eq, Nat.mul_comm]
  rfl
theorem uN_shr (x : Int64) (s : UInt64) : uN (x.toUInt64 >>> s).toInt64 = uN x / 2 ^ (s.toNat % 64) := by
  show (x.toUInt64 >>> s).toNat = _
  rw [UInt64.toNat_shiftRight, Nat.shiftRight_eq_div_pow]
  rfl
theorem uN_s32 (x : Int64) : uN (x.toUInt64 >>> ((32 : Int32).toInt64.toUInt64 &&& Int64.toUInt64 63)).toInt64 = uN x / 4294967296 := by
  have h : ((32 : Int32).toInt64.toUInt64 &&& Int64.toUInt64 63).toNat % 64 = 32 := by decide
  rw [uN_shr, h]
theorem uN_s63 (x : Int64) : uN (x.toUInt64 >>> ((63 : Int32).toInt64.toUInt64 &&& Int64.toUInt64 63)).toInt64 = uN x / 9223372036854775808 := by
  have h : ((63 : Int32).toInt64.toUInt64 &&& Int64.toUInt64 63).toNat % 64 = 63 := by decide
  rw [uN_shr, h]
theorem uN_lo (x : Int64) : uN (x &&& 4294967295) = uN x % 4294967296 := by
  show (x.toUInt64 &&& Int64.toUInt64 4294967295).toNat = _
  rw [UInt64.toNat_and]
  exact Nat.and_two_pow_sub_one_eq_mod _ 32
theorem uN_bit (x : Int64) : (x &&& 1) = 0 ↔ uN x % 2 = 0 := by
  have h : uN (x &&& 1) = uN x % 2 := by
    show (x.toUInt64 &&& Int64.toUInt64 1).toNat = _
    rw [UInt64.toNat_and]
    exact Nat.and_two_pow_sub_one_eq_mod _ 1
  rw [← h]
  exact ⟨fun z => by rw [z]; rfl, fun z => uN_inj (z.trans rfl)⟩
theorem uN_or {x y : Int64} (hy : uN y < 2) : uN ((x <<< ((1 : Int32).toInt64 &&& 63)) ||| y) = (2 * uN x) % 18446744073709551616 + uN y := by
  have h1 : uN ((x <<< ((1 : Int32).toInt64 &&& 63)) ||| y) = uN (x <<< ((1 : Int32).toInt64 &&& 63)) ||| uN y := UInt64.toNat_or _ _
  have h2 : (2 * uN x) % 18446744073709551616 = 2 ^ 1 * (uN x % 9223372036854775808) := by omega
  rw [h1, uN_shl, h2]
  exact (Nat.two_pow_add_eq_or_of_lt (i := 1) hy _).symm
theorem nat_xor {a : Nat} (h : a < 18446744073709551616) : a ^^^ 2 ^ 63 = (a + 9223372036854775808) % 18446744073709551616 := by
  have h1 : (a ^^^ 2 ^ 63) % 2 ^ 63 = a % 2 ^ 63 := by rw [Nat.xor_mod_two_pow, Nat.mod_self, Nat.xor_zero]
  have h2 : (a ^^^ 2 ^ 63) / 2 ^ 63 = (a / 2 ^ 63) ^^^ 1 := by rw [Nat.xor_div_two_pow, Nat.div_self (Nat.two_pow_pos 63)]
  have h3 : a / 2 ^ 63 = 0 ∨ a / 2 ^ 63 = 1 := by omega
  generalize a ^^^ 2 ^ 63 = t at h1 h2
  rcases h3 with h3 | h3
  · rw [h3] at h2
    have h2 : t / 2 ^ 63 = 1 := h2
    omega
  · rw [h3] at h2
    have h2 : t / 2 ^ 63 = 0 := h2
    omega
theorem uN_xor (x : Int64) : uN (x ^^^ (-9223372036854775808)) = (uN x + 9223372036854775808) % 18446744073709551616 := by
  rw [← nat_xor (uN_lt x)]
  exact UInt64.toNat_xor _ _
theorem uN_int (x : Int64) : x.toInt = if 2 * uN x < 18446744073709551616 then (uN x : Int) else (uN x : Int) - 18446744073709551616 := BitVec.toInt_eq_toNat_cond _
theorem uN_le (x y : Int64) : (x ^^^ (-9223372036854775808)) ≤ (y ^^^ (-9223372036854775808)) ↔ uN x ≤ uN y := by
  have hx := uN_lt x
  have hy := uN_lt y
  rw [Int64.le_iff_toInt_le, uN_int, uN_int, uN_xor, uN_xor]
  omega
theorem uN_sk (x : Int64) {k : Nat} (hk : k < 64) : uN (x.toUInt64 >>> ((nI k).toInt64.toUInt64 &&& Int64.toUInt64 63)).toInt64 = uN x / 2 ^ k := by
  have h : ((nI k).toInt64.toUInt64 &&& Int64.toUInt64 63).toNat % 64 = k := by
    rw [nI_l (by omega), UInt64.toNat_and]
    have e : (lN k).toUInt64.toNat = k % 2 ^ 64 := rfl
    have e2 : (Int64.toUInt64 63).toNat = 2 ^ 6 - 1 := by decide
    rw [e, e2, Nat.and_two_pow_sub_one_eq_mod]
    omega
  rw [uN_shr, h]
end
section
/-! ### bytes in longs -/
def bw_b (g : Nat → Int64) (i : Nat) : Nat := uN (g (i / 8)) / 2 ^ (8 * (i % 8)) % 256
theorem bw_lt (g : Nat → Int64) (i : Nat) : bw_b g i < 256 := Nat.mod_lt _ (by decide)
theorem bw_l2i (y : Int64) : y.toInt32.toBitVec.toNat = uN y % 2 ^ 32 := by
  show (y.toBitVec.signExtend 32).toNat = _
  rw [BitVec.signExtend_eq_setWidth_of_le _ (by decide), BitVec.toNat_setWidth]
  rfl
theorem bw_get (x : Int64) {t : Nat} (ht : t < 8) : (x.toUInt64 >>> ((nI (t * 8)).toInt64.toUInt64 &&& Int64.toUInt64 63)).toInt64.toInt32 &&& nI 255 = nI (uN x / 2 ^ (8 * t) % 256) := by
  rw [pk_and _ (m := nI 255) 8 (by decide), bw_l2i, uN_sk x (by omega), Nat.mul_comm t 8, Nat.mod_mod_of_dvd _ (by decide)]
theorem bw_tb (n k i : Nat) : (n / 2 ^ k % 256).testBit i = (decide (i < 8) && n.testBit (k + i)) := by
  rw [show (256 : Nat) = 2 ^ 8 from rfl, Nat.testBit_mod_two_pow, Nat.testBit_div_two_pow, Nat.add_comm]
def bw_w (x b : Int64) (t : Nat) : Int64 := (x &&& ((lN 255 <<< ((nI (t * 8)).toInt64 &&& 63)) ^^^ (-1))) ||| ((b &&& lN 255) <<< ((nI (t * 8)).toInt64 &&& 63))
theorem bw_uT (x : Int64) (j : Nat) : (uN x).testBit j = x.toBitVec.getLsbD j := rfl
theorem bw_set (x b : Int64) {t t' : Nat} (ht : t < 8) (ht' : t' < 8) : uN (bw_w x b t) / 2 ^ (8 * t') % 256 = if t' = t then uN b % 256 else uN x / 2 ^ (8 * t') % 256 := by
  unfold bw_w
  rw [wb_c (t * 8) (by omega)]
  have hR : ∀ i, i < 8 → (uN ((x &&& ((lN 255 <<< lN (t * 8)) ^^^ (-1))) ||| ((b &&& lN 255) <<< lN (t * 8)))).testBit (8 * t' + i) = if t' = t then (uN b).testBit i else (uN x).testBit (8 * t' + i) := by
    intro i hi
    rw [bw_uT, bw_uT, bw_uT, Int64.toBitVec_or, Int64.toBitVec_and, Int64.toBitVec_xor, Int64.toBitVec_shiftLeft, Int64.toBitVec_shiftLeft, Int64.toBitVec_and, wb_tb, wb_tb, wb_sm (t * 8) (by omega)]
    have hm : (-1 : Int64).toBitVec = BitVec.allOnes 64 := by decide
    have h255 : ∀ j, (BitVec.ofNat 64 255).getLsbD j = decide (j < 8) := by
      intro j
      rw [BitVec.getLsbD_ofNat, show (255 : Nat) = 2 ^ 8 - 1 from rfl, Nat.testBit_two_pow_sub_one]
      by_cases h : j < 8
      · have : j < 64 := by omega
        simp [h, this]
      · simp [h]
    rw [hm]
    simp only [BitVec.getLsbD_or, BitVec.getLsbD_and, BitVec.getLsbD_xor, BitVec.shiftLeft_eq', BitVec.getLsbD_shiftLeft, BitVec.getLsbD_allOnes, h255, BitVec.toNat_ofNat]
    have h64 : t * 8 % 2 ^ 64 = t * 8 := Nat.mod_eq_of_lt (by omega)
    rw [h64]
    have hj : 8 * t' + i < 64 := by omega
    by_cases e : t' = t
    · subst e
      have h1 : ¬ 8 * t' + i < t' * 8 := by omega
      have h2 : 8 * t' + i - t' * 8 = i := by omega
      simp [hj, h1, h2, hi]
    · by_cases h1 : 8 * t' + i < t * 8
      · simp [hj, h1, e]
      · have h2 : ¬ 8 * t' + i - t * 8 < 8 := by omega
        simp [hj, h1, h2, e]
  apply Nat.eq_of_testBit_eq
  intro i
  by_cases hi : i < 8
  · have h := hR i hi
    by_cases e : t' = t
    · rw [if_pos e, bw_tb, h, if_pos e, show (256 : Nat) = 2 ^ 8 from rfl, Nat.testBit_mod_two_pow]
    · rw [if_neg e, bw_tb, h, if_neg e, bw_tb]
  · by_cases e : t' = t
    · rw [if_pos e, bw_tb, show (256 : Nat) = 2 ^ 8 from rfl, Nat.testBit_mod_two_pow]; simp [hi]
    · rw [if_neg e, bw_tb, bw_tb]; simp [hi]
/-- one byte set -/
def bw_s (g : Nat → Int64) (i : Nat) (b : Int64) : Nat → Int64 := vp_updL g (i / 8) (bw_w (g (i / 8)) b (i % 8))
theorem bw_sb (g : Nat → Int64) (i : Nat) (b : Int64) (j : Nat) : bw_b (bw_s g i b) j = if j = i then uN b % 256 else bw_b g j := by
  unfold bw_b bw_s vp_updL
  by_cases h : j / 8 = i / 8
  · rw [if_pos h, bw_set _ _ (Nat.mod_lt _ (by decide)) (Nat.mod_lt _ (by decide))]
    by_cases e : j = i
    · subst e; simp
    · have : ¬ j % 8 = i % 8 := by omega
      rw [if_neg this, if_neg e, h]
  · have e : ¬ j = i := fun q => h (by rw [q])
    rw [if_neg h, if_neg e]
/-- a number of k bytes, the lowest first -/
def bw_n (f : Nat → Nat) : Nat → Nat → Nat
  | _, 0 => 0
  | i, k + 1 => f i + 256 * bw_n f (i + 1) k
theorem bw_n_lt {f : Nat → Nat} (hf : ∀ i, f i < 256) : ∀ (k i : Nat), bw_n f i k < 256 ^ k
  | 0, _ => by simp [bw_n]
  | k + 1, i => by
    have h1 := bw_n_lt hf k (i + 1)
    have h2 := hf i
    rw [bw_n, Nat.pow_succ]
    omega
theorem bw_n_congr {f h : Nat → Nat} : ∀ (k i : Nat), (∀ j, i ≤ j → j < i + k → f j = h j) → bw_n f i k = bw_n h i k
  | 0, _, _ => rfl
  | k + 1, i, e => by
    rw [bw_n, bw_n, e i (Nat.le_refl _) (by omega), bw_n_congr k (i + 1) (fun j h1 h2 => e j (by omega) (by omega))]
end
section
/-! how many parameters; receivers -/
theorem np_AM_entryForMissing : (parseMethodDescriptor y_AM_entryForMissing.desc).map (fun d => d.parameters.length) = some 1 := by decide +kernel
theorem np_AM_entryOf : (parseMethodDescriptor y_AM_entryOf.desc).map (fun d => d.parameters.length) = some 1 := by decide +kernel
theorem np_AM_inUse : (parseMethodDescriptor y_AM_inUse.desc).map (fun d => d.parameters.length) = some 0 := by decide +kernel
theorem np_AM_init : (parseMethodDescriptor y_AM_init.desc).map (fun d => d.parameters.length) = some 5 := by decide +kernel
theorem np_AN_clashes : (parseMethodDescriptor y_AN_clashes.desc).map (fun d => d.parameters.length) = some 0 := by decide +kernel
theorem np_AN_free : (parseMethodDescriptor y_AN_free.desc).map (fun d => d.parameters.length) = some 1 := by decide +kernel
theorem np_AN_inUse : (parseMethodDescriptor y_AN_inUse.desc).map (fun d => d.parameters.length) = some 0 := by decide +kernel
theorem np_AN_init : (parseMethodDescriptor y_AN_init.desc).map (fun d => d.parameters.length) = some 3 := by decide +kernel
theorem np_AN_keyAfter : (parseMethodDescriptor y_AN_keyAfter.desc).map (fun d => d.parameters.length) = some 2 := by decide +kernel
theorem np_AN_placeOf : (parseMethodDescriptor y_AN_placeOf.desc).map (fun d => d.parameters.length) = some 1 := by decide +kernel
theorem np_AN_putRecord : (parseMethodDescriptor y_AN_putRecord.desc).map (fun d => d.parameters.length) = some 2 := by decide +kernel
theorem np_AN_takeRecord : (parseMethodDescriptor y_AN_takeRecord.desc).map (fun d => d.parameters.length) = some 1 := by decide +kernel
theorem np_AN_write : (parseMethodDescriptor y_AN_write.desc).map (fun d => d.parameters.length) = some 3 := by decide +kernel
theorem np_BY_byteAt : (parseMethodDescriptor y_BY_byteAt.desc).map (fun d => d.parameters.length) = some 1 := by decide +kernel
theorem np_BY_copy : (parseMethodDescriptor y_BY_copy.desc).map (fun d => d.parameters.length) = some 4 := by decide +kernel
theorem np_BY_demand : (parseMethodDescriptor y_BY_demand.desc).map (fun d => d.parameters.length) = some 2 := by decide +kernel
theorem np_BY_init : (parseMethodDescriptor y_BY_init.desc).map (fun d => d.parameters.length) = some 1 := by decide +kernel
theorem np_BY_number : (parseMethodDescriptor y_BY_number.desc).map (fun d => d.parameters.length) = some 2 := by decide +kernel
theorem np_BY_same : (parseMethodDescriptor y_BY_same.desc).map (fun d => d.parameters.length) = some 1 := by decide +kernel
theorem np_BY_setByte : (parseMethodDescriptor y_BY_setByte.desc).map (fun d => d.parameters.length) = some 2 := by decide +kernel
theorem np_BY_setNumber : (parseMethodDescriptor y_BY_setNumber.desc).map (fun d => d.parameters.length) = some 3 := by decide +kernel
theorem np_BY_shiftOf : (parseMethodDescriptor y_BY_shiftOf.desc).map (fun d => d.parameters.length) = some 1 := by decide +kernel
theorem np_EM_entryForMissing : (parseMethodDescriptor y_EM_entryForMissing.desc).map (fun d => d.parameters.length) = some 1 := by decide +kernel
theorem np_EM_entryOf : (parseMethodDescriptor y_EM_entryOf.desc).map (fun d => d.parameters.length) = some 1 := by decide +kernel
theorem np_EM_init : (parseMethodDescriptor y_EM_init.desc).map (fun d => d.parameters.length) = some 6 := by decide +kernel
theorem np_EM_placeOf : (parseMethodDescriptor y_EM_placeOf.desc).map (fun d => d.parameters.length) = some 1 := by decide +kernel
theorem np_EM_placeOfEntry : (parseMethodDescriptor y_EM_placeOfEntry.desc).map (fun d => d.parameters.length) = some 1 := by decide +kernel
theorem np_EM_write : (parseMethodDescriptor y_EM_write.desc).map (fun d => d.parameters.length) = some 3 := by decide +kernel
theorem np_IN_bitCount : (parseMethodDescriptor y_IN_bitCount.desc).map (fun d => d.parameters.length) = some 1 := by decide +kernel
theorem np_LW_begins : (parseMethodDescriptor y_LW_begins.desc).map (fun d => d.parameters.length) = some 3 := by decide +kernel
theorem np_LW_desk : (parseMethodDescriptor y_LW_desk.desc).map (fun d => d.parameters.length) = some 3 := by decide +kernel
theorem np_LW_find : (parseMethodDescriptor y_LW_find.desc).map (fun d => d.parameters.length) = some 4 := by decide +kernel
theorem np_LW_lay : (parseMethodDescriptor y_LW_lay.desc).map (fun d => d.parameters.length) = some 3 := by decide +kernel
theorem np_LW_load : (parseMethodDescriptor y_LW_load.desc).map (fun d => d.parameters.length) = some 4 := by decide +kernel
theorem np_LW_make : (parseMethodDescriptor y_LW_make.desc).map (fun d => d.parameters.length) = some 6 := by decide +kernel
theorem np_LW_next : (parseMethodDescriptor y_LW_next.desc).map (fun d => d.parameters.length) = some 5 := by decide +kernel
theorem np_LW_put : (parseMethodDescriptor y_LW_put.desc).map (fun d => d.parameters.length) = some 5 := by decide +kernel
theorem np_LW_remove : (parseMethodDescriptor y_LW_remove.desc).map (fun d => d.parameters.length) = some 4 := by decide +kernel
theorem np_LW_store : (parseMethodDescriptor y_LW_store.desc).map (fun d => d.parameters.length) = some 4 := by decide +kernel
theorem np_LW_take : (parseMethodDescriptor y_LW_take.desc).map (fun d => d.parameters.length) = some 4 := by decide +kernel
theorem np_LW_update : (parseMethodDescriptor y_LW_update.desc).map (fun d => d.parameters.length) = some 6 := by decide +kernel
theorem np_LW_used : (parseMethodDescriptor y_LW_used.desc).map (fun d => d.parameters.length) = some 3 := by decide +kernel
theorem np_MA_max : (parseMethodDescriptor y_MA_max.desc).map (fun d => d.parameters.length) = some 2 := by decide +kernel
theorem np_MO_begins : (parseMethodDescriptor y_MO_begins.desc).map (fun d => d.parameters.length) = some 1 := by decide +kernel
theorem np_MO_breaches : (parseMethodDescriptor y_MO_breaches.desc).map (fun d => d.parameters.length) = some 0 := by decide +kernel
theorem np_MO_desk : (parseMethodDescriptor y_MO_desk.desc).map (fun d => d.parameters.length) = some 1 := by decide +kernel
theorem np_MO_entryOf : (parseMethodDescriptor y_MO_entryOf.desc).map (fun d => d.parameters.length) = some 2 := by decide +kernel
theorem np_MO_entryOfArray : (parseMethodDescriptor y_MO_entryOfArray.desc).map (fun d => d.parameters.length) = some 2 := by decide +kernel
theorem np_MO_filled : (parseMethodDescriptor y_MO_filled.desc).map (fun d => d.parameters.length) = some 1 := by decide +kernel
theorem np_MO_find : (parseMethodDescriptor y_MO_find.desc).map (fun d => d.parameters.length) = some 2 := by decide +kernel
theorem np_MO_init : (parseMethodDescriptor y_MO_init.desc).map (fun d => d.parameters.length) = some 0 := by decide +kernel
theorem np_MO_isDesk : (parseMethodDescriptor y_MO_isDesk.desc).map (fun d => d.parameters.length) = some 2 := by decide +kernel
theorem np_MO_isIn : (parseMethodDescriptor y_MO_isIn.desc).map (fun d => d.parameters.length) = some 3 := by decide +kernel
theorem np_MO_isKey : (parseMethodDescriptor y_MO_isKey.desc).map (fun d => d.parameters.length) = some 3 := by decide +kernel
theorem np_MO_isPower : (parseMethodDescriptor y_MO_isPower.desc).map (fun d => d.parameters.length) = some 1 := by decide +kernel
theorem np_MO_isProper : (parseMethodDescriptor y_MO_isProper.desc).map (fun d => d.parameters.length) = some 4 := by decide +kernel
theorem np_MO_lay : (parseMethodDescriptor y_MO_lay.desc).map (fun d => d.parameters.length) = some 2 := by decide +kernel
theorem np_MO_load : (parseMethodDescriptor y_MO_load.desc).map (fun d => d.parameters.length) = some 2 := by decide +kernel
theorem np_MO_make : (parseMethodDescriptor y_MO_make.desc).map (fun d => d.parameters.length) = some 4 := by decide +kernel
theorem np_MO_maps : (parseMethodDescriptor y_MO_maps.desc).map (fun d => d.parameters.length) = some 0 := by decide +kernel
theorem np_MO_next : (parseMethodDescriptor y_MO_next.desc).map (fun d => d.parameters.length) = some 3 := by decide +kernel
theorem np_MO_noArea : (parseMethodDescriptor y_MO_noArea.desc).map (fun d => d.parameters.length) = some 2 := by decide +kernel
theorem np_MO_noMap : (parseMethodDescriptor y_MO_noMap.desc).map (fun d => d.parameters.length) = some 1 := by decide +kernel
theorem np_MO_number : (parseMethodDescriptor y_MO_number.desc).map (fun d => d.parameters.length) = some 3 := by decide +kernel
theorem np_MO_numberInRing : (parseMethodDescriptor y_MO_numberInRing.desc).map (fun d => d.parameters.length) = some 2 := by decide +kernel
theorem np_MO_placeOf : (parseMethodDescriptor y_MO_placeOf.desc).map (fun d => d.parameters.length) = some 2 := by decide +kernel
theorem np_MO_put : (parseMethodDescriptor y_MO_put.desc).map (fun d => d.parameters.length) = some 3 := by decide +kernel
theorem np_MO_putB : (parseMethodDescriptor y_MO_putB.desc).map (fun d => d.parameters.length) = some 4 := by decide +kernel
theorem np_MO_putRing : (parseMethodDescriptor y_MO_putRing.desc).map (fun d => d.parameters.length) = some 3 := by decide +kernel
theorem np_MO_remove : (parseMethodDescriptor y_MO_remove.desc).map (fun d => d.parameters.length) = some 2 := by decide +kernel
theorem np_MO_ringPlace : (parseMethodDescriptor y_MO_ringPlace.desc).map (fun d => d.parameters.length) = some 2 := by decide +kernel
theorem np_MO_store : (parseMethodDescriptor y_MO_store.desc).map (fun d => d.parameters.length) = some 3 := by decide +kernel
theorem np_MO_take : (parseMethodDescriptor y_MO_take.desc).map (fun d => d.parameters.length) = some 2 := by decide +kernel
theorem np_MO_thrown : (parseMethodDescriptor y_MO_thrown.desc).map (fun d => d.parameters.length) = some 0 := by decide +kernel
theorem np_MO_update : (parseMethodDescriptor y_MO_update.desc).map (fun d => d.parameters.length) = some 4 := by decide +kernel
theorem np_MO_updateArray : (parseMethodDescriptor y_MO_updateArray.desc).map (fun d => d.parameters.length) = some 4 := by decide +kernel
theorem np_MO_updateTable : (parseMethodDescriptor y_MO_updateTable.desc).map (fun d => d.parameters.length) = some 4 := by decide +kernel
theorem np_MO_used : (parseMethodDescriptor y_MO_used.desc).map (fun d => d.parameters.length) = some 1 := by decide +kernel
theorem np_MO_write : (parseMethodDescriptor y_MO_write.desc).map (fun d => d.parameters.length) = some 3 := by decide +kernel
theorem np_MS_begins : (parseMethodDescriptor y_MS_begins.desc).map (fun d => d.parameters.length) = some 1 := by decide +kernel
theorem np_MS_breaches : (parseMethodDescriptor y_MS_breaches.desc).map (fun d => d.parameters.length) = some 0 := by decide +kernel
theorem np_MS_demandNumberSize : (parseMethodDescriptor y_MS_demandNumberSize.desc).map (fun d => d.parameters.length) = some 1 := by decide +kernel
theorem np_MS_desk : (parseMethodDescriptor y_MS_desk.desc).map (fun d => d.parameters.length) = some 1 := by decide +kernel
theorem np_MS_filledUp : (parseMethodDescriptor y_MS_filledUp.desc).map (fun d => d.parameters.length) = some 1 := by decide +kernel
theorem np_MS_find : (parseMethodDescriptor y_MS_find.desc).map (fun d => d.parameters.length) = some 2 := by decide +kernel
theorem np_MS_init : (parseMethodDescriptor y_MS_init.desc).map (fun d => d.parameters.length) = some 0 := by decide +kernel
theorem np_MS_lay : (parseMethodDescriptor y_MS_lay.desc).map (fun d => d.parameters.length) = some 2 := by decide +kernel
theorem np_MS_load : (parseMethodDescriptor y_MS_load.desc).map (fun d => d.parameters.length) = some 2 := by decide +kernel
theorem np_MS_make : (parseMethodDescriptor y_MS_make.desc).map (fun d => d.parameters.length) = some 4 := by decide +kernel
theorem np_MS_mapOf : (parseMethodDescriptor y_MS_mapOf.desc).map (fun d => d.parameters.length) = some 1 := by decide +kernel
theorem np_MS_maps : (parseMethodDescriptor y_MS_maps.desc).map (fun d => d.parameters.length) = some 0 := by decide +kernel
theorem np_MS_newMap : (parseMethodDescriptor y_MS_newMap.desc).map (fun d => d.parameters.length) = some 4 := by decide +kernel
theorem np_MS_next : (parseMethodDescriptor y_MS_next.desc).map (fun d => d.parameters.length) = some 3 := by decide +kernel
theorem np_MS_put : (parseMethodDescriptor y_MS_put.desc).map (fun d => d.parameters.length) = some 3 := by decide +kernel
theorem np_MS_remove : (parseMethodDescriptor y_MS_remove.desc).map (fun d => d.parameters.length) = some 2 := by decide +kernel
theorem np_MS_sizesFit : (parseMethodDescriptor y_MS_sizesFit.desc).map (fun d => d.parameters.length) = some 4 := by decide +kernel
theorem np_MS_store : (parseMethodDescriptor y_MS_store.desc).map (fun d => d.parameters.length) = some 3 := by decide +kernel
theorem np_MS_take : (parseMethodDescriptor y_MS_take.desc).map (fun d => d.parameters.length) = some 2 := by decide +kernel
theorem np_MS_update : (parseMethodDescriptor y_MS_update.desc).map (fun d => d.parameters.length) = some 4 := by decide +kernel
theorem np_MS_used : (parseMethodDescriptor y_MS_used.desc).map (fun d => d.parameters.length) = some 1 := by decide +kernel
theorem np_MS_within : (parseMethodDescriptor y_MS_within.desc).map (fun d => d.parameters.length) = some 3 := by decide +kernel
theorem np_RM_bytesOfRecord : (parseMethodDescriptor y_RM_bytesOfRecord.desc).map (fun d => d.parameters.length) = some 1 := by decide +kernel
theorem np_RM_inUse : (parseMethodDescriptor y_RM_inUse.desc).map (fun d => d.parameters.length) = some 0 := by decide +kernel
theorem np_RM_init : (parseMethodDescriptor y_RM_init.desc).map (fun d => d.parameters.length) = some 4 := by decide +kernel
theorem np_RM_placeOfCount : (parseMethodDescriptor y_RM_placeOfCount.desc).map (fun d => d.parameters.length) = some 1 := by decide +kernel
theorem np_RM_putRecord : (parseMethodDescriptor y_RM_putRecord.desc).map (fun d => d.parameters.length) = some 2 := by decide +kernel
theorem np_RM_takeRecord : (parseMethodDescriptor y_RM_takeRecord.desc).map (fun d => d.parameters.length) = some 1 := by decide +kernel
theorem np_RM_writeRecord : (parseMethodDescriptor y_RM_writeRecord.desc).map (fun d => d.parameters.length) = some 3 := by decide +kernel
theorem np_TM_clashes : (parseMethodDescriptor y_TM_clashes.desc).map (fun d => d.parameters.length) = some 0 := by decide +kernel
theorem np_TM_entryForMissing : (parseMethodDescriptor y_TM_entryForMissing.desc).map (fun d => d.parameters.length) = some 1 := by decide +kernel
theorem np_TM_entryOf : (parseMethodDescriptor y_TM_entryOf.desc).map (fun d => d.parameters.length) = some 1 := by decide +kernel
theorem np_TM_entryWithAsked : (parseMethodDescriptor y_TM_entryWithAsked.desc).map (fun d => d.parameters.length) = some 1 := by decide +kernel
theorem np_TM_free : (parseMethodDescriptor y_TM_free.desc).map (fun d => d.parameters.length) = some 1 := by decide +kernel
theorem np_TM_giveAsked : (parseMethodDescriptor y_TM_giveAsked.desc).map (fun d => d.parameters.length) = some 1 := by decide +kernel
theorem np_TM_inUse : (parseMethodDescriptor y_TM_inUse.desc).map (fun d => d.parameters.length) = some 0 := by decide +kernel
theorem np_TM_init : (parseMethodDescriptor y_TM_init.desc).map (fun d => d.parameters.length) = some 6 := by decide +kernel
theorem np_TM_keyAfter : (parseMethodDescriptor y_TM_keyAfter.desc).map (fun d => d.parameters.length) = some 2 := by decide +kernel
theorem np_TM_leastFree : (parseMethodDescriptor y_TM_leastFree.desc).map (fun d => d.parameters.length) = some 0 := by decide +kernel
theorem mw_rc {p : Program} {s : State} {m : MethodId} {args : Array Value} {c : Code} {H : Heap} {locs : List Loc} {cc : ByteArray} {nL : Nat} {own : String} {D : va_G} {cl : List vw_C} {tys : List (ClassId × FieldType)} {Ts : List Cond} {ty : Nat → Nat → FieldType} {w0 w : mw_W} {H0 : Heap} {a ci : Nat} {fs : List Value} {q : vw_C} (K : mw_K p s m args c cc nL own D cl tys Ts ty) (hI : mw_I D cl w0 H0 w H locs) (ha : w a = some (.inr (ci, fs))) (hc : cl[ci]? = some q) : ∃ cell : Cell, H[a]? = some cell ∧ cell.vm.isStatics = false ∧ s.vm.findClass q.1 = some cell.cls := va_recv K.2.2.2.2.2.1 (hI.1.one ha) hc (q0 := 0) rfl
abbrev CT (l : Launch) (D : va_G) (dA : Nat → ClassId) (y : MethodName) (ws : List Cond) (fr lo mc ms : Nat) (as : List Value) (w : mw_W) (post : mw_R → mw_W → Prop) : Prop := mw_Ct l D mk_cl (mk_tys dA) mk_strs y ws fr lo mc ms as w post
end
section
/-! ### static methods that touch no memory -/
theorem d_MS_filledUp_0 : decode b_MS_filledUp 0 = .ok (.iload_n 0, 1) := by decide +kernel
theorem d_MS_filledUp_1 : decode b_MS_filledUp 1 = .ok (.bipush 7, 2) := by decide +kernel
theorem d_MS_filledUp_3 : decode b_MS_filledUp 3 = .ok (.iadd, 1) := by decide +kernel
theorem d_MS_filledUp_4 : decode b_MS_filledUp 4 = .ok (.bipush (-8), 2) := by decide +kernel
theorem d_MS_filledUp_6 : decode b_MS_filledUp 6 = .ok (.iand, 1) := by decide +kernel
theorem d_MS_filledUp_7 : decode b_MS_filledUp 7 = .ok (.ireturn, 1) := by decide +kernel
theorem d_MS_within_0 : decode b_MS_within 0 = .ok (.lload_n 0, 1) := by decide +kernel
theorem d_MS_within_1 : decode b_MS_within 1 = .ok (.iload_n 2, 1) := by decide +kernel
theorem d_MS_within_2 : decode b_MS_within 2 = .ok (.i2l, 1) := by decide +kernel
theorem d_MS_within_3 : decode b_MS_within 3 = .ok (.lcmp, 1) := by decide +kernel
theorem d_MS_within_4 : decode b_MS_within 4 = .ok (.ifCond .lt 14, 3) := by decide +kernel
theorem d_MS_within_7 : decode b_MS_within 7 = .ok (.lload_n 0, 1) := by decide +kernel
theorem d_MS_within_8 : decode b_MS_within 8 = .ok (.iload_n 3, 1) := by decide +kernel
theorem d_MS_within_9 : decode b_MS_within 9 = .ok (.i2l, 1) := by decide +kernel
theorem d_MS_within_10 : decode b_MS_within 10 = .ok (.lcmp, 1) := by decide +kernel
theorem d_MS_within_11 : decode b_MS_within 11 = .ok (.ifCond .gt 7, 3) := by decide +kernel
theorem d_MS_within_14 : decode b_MS_within 14 = .ok (.iconst 1, 1) := by decide +kernel
theorem d_MS_within_15 : decode b_MS_within 15 = .ok (.goto 4, 3) := by decide +kernel
theorem d_MS_within_18 : decode b_MS_within 18 = .ok (.iconst 0, 1) := by decide +kernel
theorem d_MS_within_19 : decode b_MS_within 19 = .ok (.ireturn, 1) := by decide +kernel
theorem d_BY_shiftOf_0 : decode b_BY_shiftOf 0 = .ok (.iload_n 0, 1) := by decide +kernel
theorem d_BY_shiftOf_1 : decode b_BY_shiftOf 1 = .ok (.bipush 7, 2) := by decide +kernel
theorem d_BY_shiftOf_3 : decode b_BY_shiftOf 3 = .ok (.iand, 1) := by decide +kernel
theorem d_BY_shiftOf_4 : decode b_BY_shiftOf 4 = .ok (.bipush 8, 2) := by decide +kernel
theorem d_BY_shiftOf_6 : decode b_BY_shiftOf 6 = .ok (.imul, 1) := by decide +kernel
theorem d_BY_shiftOf_7 : decode b_BY_shiftOf 7 = .ok (.ireturn, 1) := by decide +kernel
theorem d_RM_bytesOfRecord_0 : decode b_RM_bytesOfRecord 0 = .ok (.bipush 8, 2) := by decide +kernel
theorem d_RM_bytesOfRecord_2 : decode b_RM_bytesOfRecord 2 = .ok (.iload_n 0, 1) := by decide +kernel
theorem d_RM_bytesOfRecord_3 : decode b_RM_bytesOfRecord 3 = .ok (.iadd, 1) := by decide +kernel
theorem d_RM_bytesOfRecord_4 : decode b_RM_bytesOfRecord 4 = .ok (.invokestatic 78, 3) := by decide +kernel
theorem d_RM_bytesOfRecord_7 : decode b_RM_bytesOfRecord 7 = .ok (.ireturn, 1) := by decide +kernel
def up8 (n : Nat) : Nat := (n + 7) / 8 * 8
theorem up8_and {n : Nat} (h : n < 2 ^ 30) : nI (n + 7) &&& (-8) = nI (up8 n) := by
  unfold up8
  generalize n + 7 = k
  apply Int32.toBitVec_inj.mp
  rw [Int32.toBitVec_and]
  show BitVec.ofNat 32 k &&& (-8 : Int32).toBitVec = BitVec.ofNat 32 (k / 8 * 8)
  rw [show (-8 : Int32).toBitVec = ~~~ (7#32) by decide]
  apply BitVec.eq_of_getLsbD_eq
  intro i hi
  rw [BitVec.getLsbD_and, BitVec.getLsbD_not, BitVec.getLsbD_ofNat, BitVec.getLsbD_ofNat, BitVec.getLsbD_ofNat, show (7 : Nat) = 2 ^ 3 - 1 from rfl, Nat.testBit_two_pow_sub_one, Nat.mul_comm (k / 8) 8, show (8 : Nat) = 2 ^ 3 from rfl, Nat.testBit_two_pow_mul, Nat.testBit_div_two_pow]
  by_cases h3 : i < 3
  · have : ¬ 3 ≤ i := by omega
    simp [hi, h3, this]
  · have h4 : 3 ≤ i := by omega
    have h5 : i - 3 + 3 = i := by omega
    simp [hi, h3, h4, h5]
set_option maxRecDepth 100000 in
theorem c_MS_filledUp (l : Launch) {n : Nat} (hn : n < 2 ^ 30) : mp_Ct l y_MS_filledUp (Cond.code y_MS_filledUp b_MS_filledUp 1 (some .int) :: Ts) 0 0 [.int (nI n)] (fun v => v = some (.int (nI (up8 n)))) := by
  refine mp_meth (by decide) (Nat.le_of_ble_eq_true rfl) ?_
  intro p e s m below meth c hx hb hml hown hts hr hlk ls hl
  have hl : lv_has ls 1 [(0, .int (nI n))] := hl
  refine lv_iload_n hx hb d_MS_filledUp_0 rfl (lv_at hl 0 rfl) ?_
  refine lv_bipush (v := nI 7) hx hb d_MS_filledUp_1 (by decide) ?_
  refine lv_iadd hx hb d_MS_filledUp_3 ?_
  refine mw_ti (nI_add _ _) ?_
  refine lv_bipush (v := (-8)) hx hb d_MS_filledUp_4 (by decide) ?_
  refine lv_iand hx hb d_MS_filledUp_6 ?_
  refine mw_ti (y := nI (up8 n)) (up8_and hn) ?_
  exact mp_iret hx hb hr hlk rfl d_MS_filledUp_7
set_option maxRecDepth 100000 in
theorem c_BY_shiftOf (l : Launch) {n : Nat} (hn : n < 2 ^ 30) : mp_Ct l y_BY_shiftOf (Cond.code y_BY_shiftOf b_BY_shiftOf 1 (some .int) :: Ts) 0 0 [.int (nI n)] (fun v => v = some (.int (nI (n % 8 * 8)))) := by
  refine mp_meth (by decide) (Nat.le_of_ble_eq_true rfl) ?_
  intro p e s m below meth c hx hb hml hown hts hr hlk ls hl
  have hl : lv_has ls 1 [(0, .int (nI n))] := hl
  refine lv_iload_n hx hb d_BY_shiftOf_0 rfl (lv_at hl 0 rfl) ?_
  refine lv_bipush (v := nI 7) hx hb d_BY_shiftOf_1 (by decide) ?_
  refine lv_iand hx hb d_BY_shiftOf_3 ?_
  refine mw_ti (y := nI (n % 8)) (pk_andN (m := nI 7) (by omega) 3 (by decide)) ?_
  refine lv_bipush (v := nI 8) hx hb d_BY_shiftOf_4 (by decide) ?_
  refine lv_imul hx hb d_BY_shiftOf_6 ?_
  refine mw_ti (pk_mul _ _) ?_
  exact mp_iret hx hb hr hlk rfl d_BY_shiftOf_7
set_option maxRecDepth 100000 in
theorem c_MS_within (l : Launch) (x : Int64) (a b : Int32) : mp_Ct l y_MS_within (Cond.code y_MS_within b_MS_within 4 (some .boolean) :: Ts) 0 0 [.long x, .int a, .int b] (fun v => v = some (.int (if a.toInt64 ≤ x ∧ x ≤ b.toInt64 then 1 else 0))) := by
  refine mp_meth (by decide) (Nat.le_of_ble_eq_true rfl) ?_
  intro p e s m below meth c hx hb hml hown hts hr hlk ls hl
  have hl : lv_has ls 4 [(0, .long x), (2, .int a), (3, .int b)] := hl
  refine lv_lload_n hx hb d_MS_within_0 rfl (lv_at hl 0 rfl) ?_
  refine lv_iload_n hx hb d_MS_within_1 rfl (lv_at hl 1 rfl) ?_
  refine lv_i2l hx hb d_MS_within_2 rfl ?_
  refine W.lcmp hx hb d_MS_within_3 ?_
  refine lv_if_lt (tgt := 18) hx hb d_MS_within_4 (by decide) (fun c4 => ?_) (fun c4 => ?_)
  · rw [lg_cmp_lt] at c4
    refine lv_iconst (v := nI 0) hx hb d_MS_within_18 (by decide) ?_
    have hn : ¬ (a.toInt64 ≤ x ∧ x ≤ b.toInt64) := fun h => absurd c4 (Int64.not_lt.mpr h.1)
    exact mp_zret hx hb hr hlk (Or.inl rfl) (by rw [if_neg hn]; rfl) d_MS_within_19
  · rw [lg_cmp_lt] at c4
    refine lv_lload_n hx hb d_MS_within_7 rfl (lv_at hl 0 rfl) ?_
    refine lv_iload_n hx hb d_MS_within_8 rfl (lv_at hl 2 rfl) ?_
    refine lv_i2l hx hb d_MS_within_9 rfl ?_
    refine W.lcmp hx hb d_MS_within_10 ?_
    refine lv_if_gt (tgt := 18) hx hb d_MS_within_11 (by decide) (fun c11 => ?_) (fun c11 => ?_)
    · rw [lg_cmp_gt] at c11
      refine lv_iconst (v := nI 0) hx hb d_MS_within_18 (by decide) ?_
      have hn : ¬ (a.toInt64 ≤ x ∧ x ≤ b.toInt64) := fun h => absurd c11 (Int64.not_lt.mpr h.2)
      exact mp_zret hx hb hr hlk (Or.inl rfl) (by rw [if_neg hn]; rfl) d_MS_within_19
    · rw [lg_cmp_gt] at c11
      refine lv_iconst (v := nI 1) hx hb d_MS_within_14 (by decide) ?_
      refine lv_goto (tgt := 19) hx hb d_MS_within_15 (by decide) ?_
      have hn : a.toInt64 ≤ x ∧ x ≤ b.toInt64 := ⟨Int64.not_lt.mp c4, Int64.not_lt.mp c11⟩
      exact mp_zret hx hb hr hlk (Or.inr rfl) (by rw [if_pos hn]; rfl) d_MS_within_19
set_option maxRecDepth 100000 in
theorem c_RM_bytesOfRecord (l : Launch) {n : Nat} (hn : n < 2 ^ 29) : mp_Ct l y_RM_bytesOfRecord (Cond.code y_RM_bytesOfRecord b_RM_bytesOfRecord 1 (some .int) :: Ts) 1 12 [.int (nI n)] (fun v => v = some (.int (nI (up8 (8 + n))))) := by
  refine mp_meth (by decide) (Nat.le_of_ble_eq_true rfl) ?_
  intro p e s m below meth c hx hb hml hown hts hr hlk ls hl
  have hl : lv_has ls 1 [(0, .int (nI n))] := hl
  refine lv_bipush (v := nI 8) hx hb d_RM_bytesOfRecord_0 (by decide) ?_
  refine lv_iload_n hx hb d_RM_bytesOfRecord_2 rfl (lv_at hl 0 rfl) ?_
  refine lv_iadd hx hb d_RM_bytesOfRecord_3 ?_
  refine mw_ti (nI_add _ _) ?_
  refine mp_call hb hml (c_MS_filledUp l (n := 8 + n) (by omega)) (mx_invSN hx hown (hts _ tw_544) (hts _ tw_52) (hts _ tw_21) (hts _ tw_53) (by decide) (g := F0 m 4 ls [.int (nI (8 + n))]) rfl (argsL := [.int (nI (8 + n))]) (rest := []) np_MS_filledUp rfl (by rw [hb]; exact d_RM_bytesOfRecord_4)) hl.1 d_RM_bytesOfRecord_4 ⟨Nat.le_of_ble_eq_true rfl, Nat.le_of_ble_eq_true rfl⟩ (Or.inl ⟨_, _, List.mem_cons_self⟩) (mk_ws tw_53 hts) (fun a9 U9 h9 => Ts_warm hts _ tw_21 a9 U9 h9) (by first | exact ⟨Nat.le_of_ble_eq_true rfl, Nat.le_of_ble_eq_true rfl⟩ | assumption) (fun v hv => ?_)
  subst hv
  refine W.eq (g2 := F0 m 7 ls [.int (nI (up8 (8 + n)))]) rfl ?_
  exact mp_iret hx hb hr hlk rfl d_RM_bytesOfRecord_7
end
section
/-! ### what a throw needs of the tables -/
theorem ow_in {own X : String} {ic : Nat} {names : List String} (h : ∀ a ∈ Bundle.ownAtoms own ic X names, (a ∈ lw_tbl ∧ mw_ok a = true) ∨ a = .isRef (.static Bundle.tN "UNASSIGNED_STACK" Bundle.steD) ∨ a = .isRef (.static Bundle.tN "SUPPRESSED_SENTINEL" Bundle.listD) ∨ a = .laysStatic Bundle.tN "UNASSIGNED_STACK" Bundle.steD ∨ a = .laysStatic Bundle.tN "SUPPRESSED_SENTINEL" Bundle.listD) : ∀ a ∈ Bundle.ownAtoms own ic X names, a ∈ Ts ∨ a = .isRef (.static Bundle.tN "UNASSIGNED_STACK" Bundle.steD) ∨ a = .isRef (.static Bundle.tN "SUPPRESSED_SENTINEL" Bundle.listD) ∨ a = .laysStatic Bundle.tN "UNASSIGNED_STACK" Bundle.steD ∨ a = .laysStatic Bundle.tN "SUPPRESSED_SENTINEL" Bundle.listD := fun a ha => by
  rcases h a ha with h | h
  · exact Or.inl (List.mem_filter.mpr h)
  · exact Or.inr h
theorem ow_BY : ∀ a ∈ Bundle.ownAtoms "MapStore$Bytes" 27 "java/lang/IndexOutOfBoundsException" ["java/lang/RuntimeException", "java/lang/Exception"], (a ∈ lw_tbl ∧ mw_ok a = true) ∨ a = .isRef (.static Bundle.tN "UNASSIGNED_STACK" Bundle.steD) ∨ a = .isRef (.static Bundle.tN "SUPPRESSED_SENTINEL" Bundle.listD) ∨ a = .laysStatic Bundle.tN "UNASSIGNED_STACK" Bundle.steD ∨ a = .laysStatic Bundle.tN "SUPPRESSED_SENTINEL" Bundle.listD := by decide +kernel
theorem ow_MS43 : ∀ a ∈ Bundle.ownAtoms "MapStore" 43 "java/lang/IllegalArgumentException" ["java/lang/RuntimeException", "java/lang/Exception"], (a ∈ lw_tbl ∧ mw_ok a = true) ∨ a = .isRef (.static Bundle.tN "UNASSIGNED_STACK" Bundle.steD) ∨ a = .isRef (.static Bundle.tN "SUPPRESSED_SENTINEL" Bundle.listD) ∨ a = .laysStatic Bundle.tN "UNASSIGNED_STACK" Bundle.steD ∨ a = .laysStatic Bundle.tN "SUPPRESSED_SENTINEL" Bundle.listD := by decide +kernel
theorem ow_MS54 : ∀ a ∈ Bundle.ownAtoms "MapStore" 54 "java/lang/IllegalStateException" ["java/lang/RuntimeException", "java/lang/Exception"], (a ∈ lw_tbl ∧ mw_ok a = true) ∨ a = .isRef (.static Bundle.tN "UNASSIGNED_STACK" Bundle.steD) ∨ a = .isRef (.static Bundle.tN "SUPPRESSED_SENTINEL" Bundle.listD) ∨ a = .laysStatic Bundle.tN "UNASSIGNED_STACK" Bundle.steD ∨ a = .laysStatic Bundle.tN "SUPPRESSED_SENTINEL" Bundle.listD := by decide +kernel
theorem ow_MS112 : ∀ a ∈ Bundle.ownAtoms "MapStore" 112 "java/lang/IndexOutOfBoundsException" ["java/lang/RuntimeException", "java/lang/Exception"], (a ∈ lw_tbl ∧ mw_ok a = true) ∨ a = .isRef (.static Bundle.tN "UNASSIGNED_STACK" Bundle.steD) ∨ a = .isRef (.static Bundle.tN "SUPPRESSED_SENTINEL" Bundle.listD) ∨ a = .laysStatic Bundle.tN "UNASSIGNED_STACK" Bundle.steD ∨ a = .laysStatic Bundle.tN "SUPPRESSED_SENTINEL" Bundle.listD := by decide +kernel
end
section
/-! ### MapStore.Bytes -/
theorem d_BY_byteAt_0 : decode b_BY_byteAt 0 = .ok (.aload_n 0, 1) := by decide +kernel
theorem d_BY_byteAt_1 : decode b_BY_byteAt 1 = .ok (.getfield 19, 3) := by decide +kernel
theorem d_BY_byteAt_4 : decode b_BY_byteAt 4 = .ok (.iload_n 1, 1) := by decide +kernel
theorem d_BY_byteAt_5 : decode b_BY_byteAt 5 = .ok (.iconst 3, 1) := by decide +kernel
theorem d_BY_byteAt_6 : decode b_BY_byteAt 6 = .ok (.ishr, 1) := by decide +kernel
theorem d_BY_byteAt_7 : decode b_BY_byteAt 7 = .ok (.laload, 1) := by decide +kernel
theorem d_BY_byteAt_8 : decode b_BY_byteAt 8 = .ok (.iload_n 1, 1) := by decide +kernel
theorem d_BY_byteAt_9 : decode b_BY_byteAt 9 = .ok (.invokestatic 30, 3) := by decide +kernel
theorem d_BY_byteAt_12 : decode b_BY_byteAt 12 = .ok (.lushr, 1) := by decide +kernel
theorem d_BY_byteAt_13 : decode b_BY_byteAt 13 = .ok (.l2i, 1) := by decide +kernel
theorem d_BY_byteAt_14 : decode b_BY_byteAt 14 = .ok (.sipush 255, 3) := by decide +kernel
theorem d_BY_byteAt_17 : decode b_BY_byteAt 17 = .ok (.iand, 1) := by decide +kernel
theorem d_BY_byteAt_18 : decode b_BY_byteAt 18 = .ok (.ireturn, 1) := by decide +kernel
theorem d_BY_setByte_0 : decode b_BY_setByte 0 = .ok (.aload_n 0, 1) := by decide +kernel
theorem d_BY_setByte_1 : decode b_BY_setByte 1 = .ok (.getfield 19, 3) := by decide +kernel
theorem d_BY_setByte_4 : decode b_BY_setByte 4 = .ok (.iload_n 1, 1) := by decide +kernel
theorem d_BY_setByte_5 : decode b_BY_setByte 5 = .ok (.iconst 3, 1) := by decide +kernel
theorem d_BY_setByte_6 : decode b_BY_setByte 6 = .ok (.ishr, 1) := by decide +kernel
theorem d_BY_setByte_7 : decode b_BY_setByte 7 = .ok (.laload, 1) := by decide +kernel
theorem d_BY_setByte_8 : decode b_BY_setByte 8 = .ok (.ldc2_w 33, 3) := by decide +kernel
theorem d_BY_setByte_11 : decode b_BY_setByte 11 = .ok (.iload_n 1, 1) := by decide +kernel
theorem d_BY_setByte_12 : decode b_BY_setByte 12 = .ok (.invokestatic 30, 3) := by decide +kernel
theorem d_BY_setByte_15 : decode b_BY_setByte 15 = .ok (.lshl, 1) := by decide +kernel
theorem d_BY_setByte_16 : decode b_BY_setByte 16 = .ok (.ldc2_w 35, 3) := by decide +kernel
theorem d_BY_setByte_19 : decode b_BY_setByte 19 = .ok (.lxor, 1) := by decide +kernel
theorem d_BY_setByte_20 : decode b_BY_setByte 20 = .ok (.land, 1) := by decide +kernel
theorem d_BY_setByte_21 : decode b_BY_setByte 21 = .ok (.lstore 4, 2) := by decide +kernel
theorem d_BY_setByte_23 : decode b_BY_setByte 23 = .ok (.aload_n 0, 1) := by decide +kernel
theorem d_BY_setByte_24 : decode b_BY_setByte 24 = .ok (.getfield 19, 3) := by decide +kernel
theorem d_BY_setByte_27 : decode b_BY_setByte 27 = .ok (.iload_n 1, 1) := by decide +kernel
theorem d_BY_setByte_28 : decode b_BY_setByte 28 = .ok (.iconst 3, 1) := by decide +kernel
theorem d_BY_setByte_29 : decode b_BY_setByte 29 = .ok (.ishr, 1) := by decide +kernel
theorem d_BY_setByte_30 : decode b_BY_setByte 30 = .ok (.lload 4, 2) := by decide +kernel
theorem d_BY_setByte_32 : decode b_BY_setByte 32 = .ok (.lload_n 2, 1) := by decide +kernel
theorem d_BY_setByte_33 : decode b_BY_setByte 33 = .ok (.ldc2_w 33, 3) := by decide +kernel
theorem d_BY_setByte_36 : decode b_BY_setByte 36 = .ok (.land, 1) := by decide +kernel
theorem d_BY_setByte_37 : decode b_BY_setByte 37 = .ok (.iload_n 1, 1) := by decide +kernel
theorem d_BY_setByte_38 : decode b_BY_setByte 38 = .ok (.invokestatic 30, 3) := by decide +kernel
theorem d_BY_setByte_41 : decode b_BY_setByte 41 = .ok (.lshl, 1) := by decide +kernel
theorem d_BY_setByte_42 : decode b_BY_setByte 42 = .ok (.lor, 1) := by decide +kernel
theorem d_BY_setByte_43 : decode b_BY_setByte 43 = .ok (.lastore, 1) := by decide +kernel
theorem d_BY_setByte_44 : decode b_BY_setByte 44 = .ok (.return_, 1) := by decide +kernel
theorem d_BY_number_0 : decode b_BY_number 0 = .ok (.lconst 0, 1) := by decide +kernel
theorem d_BY_number_1 : decode b_BY_number 1 = .ok (.lstore_n 3, 1) := by decide +kernel
theorem d_BY_number_2 : decode b_BY_number 2 = .ok (.iload_n 2, 1) := by decide +kernel
theorem d_BY_number_3 : decode b_BY_number 3 = .ok (.iconst 1, 1) := by decide +kernel
theorem d_BY_number_4 : decode b_BY_number 4 = .ok (.isub, 1) := by decide +kernel
theorem d_BY_number_5 : decode b_BY_number 5 = .ok (.istore 5, 2) := by decide +kernel
theorem d_BY_number_7 : decode b_BY_number 7 = .ok (.iload 5, 2) := by decide +kernel
theorem d_BY_number_9 : decode b_BY_number 9 = .ok (.ifCond .lt 24, 3) := by decide +kernel
theorem d_BY_number_12 : decode b_BY_number 12 = .ok (.lload_n 3, 1) := by decide +kernel
theorem d_BY_number_13 : decode b_BY_number 13 = .ok (.bipush 8, 2) := by decide +kernel
theorem d_BY_number_15 : decode b_BY_number 15 = .ok (.lshl, 1) := by decide +kernel
theorem d_BY_number_16 : decode b_BY_number 16 = .ok (.aload_n 0, 1) := by decide +kernel
theorem d_BY_number_17 : decode b_BY_number 17 = .ok (.iload_n 1, 1) := by decide +kernel
theorem d_BY_number_18 : decode b_BY_number 18 = .ok (.iload 5, 2) := by decide +kernel
theorem d_BY_number_20 : decode b_BY_number 20 = .ok (.iadd, 1) := by decide +kernel
theorem d_BY_number_21 : decode b_BY_number 21 = .ok (.invokevirtual 37, 3) := by decide +kernel
theorem d_BY_number_24 : decode b_BY_number 24 = .ok (.i2l, 1) := by decide +kernel
theorem d_BY_number_25 : decode b_BY_number 25 = .ok (.lor, 1) := by decide +kernel
theorem d_BY_number_26 : decode b_BY_number 26 = .ok (.lstore_n 3, 1) := by decide +kernel
theorem d_BY_number_27 : decode b_BY_number 27 = .ok (.iinc 5 (-1), 3) := by decide +kernel
theorem d_BY_number_30 : decode b_BY_number 30 = .ok (.goto (-23), 3) := by decide +kernel
theorem d_BY_number_33 : decode b_BY_number 33 = .ok (.lload_n 3, 1) := by decide +kernel
theorem d_BY_number_34 : decode b_BY_number 34 = .ok (.lreturn, 1) := by decide +kernel
theorem d_BY_demand_0 : decode b_BY_demand 0 = .ok (.iload_n 1, 1) := by decide +kernel
theorem d_BY_demand_1 : decode b_BY_demand 1 = .ok (.ifCond .lt 13, 3) := by decide +kernel
theorem d_BY_demand_4 : decode b_BY_demand 4 = .ok (.iload_n 1, 1) := by decide +kernel
theorem d_BY_demand_5 : decode b_BY_demand 5 = .ok (.aload_n 0, 1) := by decide +kernel
theorem d_BY_demand_6 : decode b_BY_demand 6 = .ok (.getfield 9, 3) := by decide +kernel
theorem d_BY_demand_9 : decode b_BY_demand 9 = .ok (.iload_n 2, 1) := by decide +kernel
theorem d_BY_demand_10 : decode b_BY_demand 10 = .ok (.isub, 1) := by decide +kernel
theorem d_BY_demand_11 : decode b_BY_demand 11 = .ok (.if_icmp .le 13, 3) := by decide +kernel
theorem d_BY_demand_14 : decode b_BY_demand 14 = .ok (.new 23, 3) := by decide +kernel
theorem d_BY_demand_17 : decode b_BY_demand 17 = .ok (.dup, 1) := by decide +kernel
theorem d_BY_demand_18 : decode b_BY_demand 18 = .ok (.ldc 25, 2) := by decide +kernel
theorem d_BY_demand_20 : decode b_BY_demand 20 = .ok (.invokespecial 27, 3) := by decide +kernel
theorem d_BY_demand_23 : decode b_BY_demand 23 = .ok (.athrow, 1) := by decide +kernel
theorem d_BY_demand_24 : decode b_BY_demand 24 = .ok (.return_, 1) := by decide +kernel
theorem d_BY_setNumber_0 : decode b_BY_setNumber 0 = .ok (.iconst 0, 1) := by decide +kernel
theorem d_BY_setNumber_1 : decode b_BY_setNumber 1 = .ok (.istore 5, 2) := by decide +kernel
theorem d_BY_setNumber_3 : decode b_BY_setNumber 3 = .ok (.iload 5, 2) := by decide +kernel
theorem d_BY_setNumber_5 : decode b_BY_setNumber 5 = .ok (.iload_n 2, 1) := by decide +kernel
theorem d_BY_setNumber_6 : decode b_BY_setNumber 6 = .ok (.if_icmp .ge 24, 3) := by decide +kernel
theorem d_BY_setNumber_9 : decode b_BY_setNumber 9 = .ok (.aload_n 0, 1) := by decide +kernel
theorem d_BY_setNumber_10 : decode b_BY_setNumber 10 = .ok (.iload_n 1, 1) := by decide +kernel
theorem d_BY_setNumber_11 : decode b_BY_setNumber 11 = .ok (.iload 5, 2) := by decide +kernel
theorem d_BY_setNumber_13 : decode b_BY_setNumber 13 = .ok (.iadd, 1) := by decide +kernel
theorem d_BY_setNumber_14 : decode b_BY_setNumber 14 = .ok (.lload_n 3, 1) := by decide +kernel
theorem d_BY_setNumber_15 : decode b_BY_setNumber 15 = .ok (.bipush 8, 2) := by decide +kernel
theorem d_BY_setNumber_17 : decode b_BY_setNumber 17 = .ok (.iload 5, 2) := by decide +kernel
theorem d_BY_setNumber_19 : decode b_BY_setNumber 19 = .ok (.imul, 1) := by decide +kernel
theorem d_BY_setNumber_20 : decode b_BY_setNumber 20 = .ok (.lushr, 1) := by decide +kernel
theorem d_BY_setNumber_21 : decode b_BY_setNumber 21 = .ok (.invokevirtual 40, 3) := by decide +kernel
theorem d_BY_setNumber_24 : decode b_BY_setNumber 24 = .ok (.iinc 5 1, 3) := by decide +kernel
theorem d_BY_setNumber_27 : decode b_BY_setNumber 27 = .ok (.goto (-24), 3) := by decide +kernel
theorem d_BY_setNumber_30 : decode b_BY_setNumber 30 = .ok (.return_, 1) := by decide +kernel
/-- at b a Bytes of n bytes, in the longs g at x -/
def by_ok (dA : Nat → ClassId) (w : mw_W) (b x n : Nat) (g : Nat → Int64) : Prop := w b = some (.inr (cBY, [.int (nI n), .ref x])) ∧ w x = some (.inl (dA tJ, (n + 7) / 8, .inr (.inl g)))
set_option maxRecDepth 100000 in
set_option maxHeartbeats 4000000 in
theorem c_BY_byteAt (l : Launch) (D : va_G) (dA : Nat → ClassId) {w : mw_W} {b x n : Nat} {g : Nat → Int64} (h : by_ok dA w b x n g) (hn : n ≤ 65536) {i : Nat} (hi : i < n) : CT l D dA y_BY_byteAt (Cond.code y_BY_byteAt b_BY_byteAt 2 (some .int) :: Ts) 1 14 0 0 [.ref b, .int (nI i)] w (fun r w' => r = .inl (some (.int (nI (bw_b g i)))) ∧ w' = w) := by
  refine mw_meth (by decide) mk_tb (Nat.le_of_ble_eq_true rfl) ?_
  intro p e s m below meth c K hr hlk hce hnm hP0 hSy ls hl
  have hl : lv_has ls 2 [(0, .ref b), (1, .int (nI i))] := hl
  obtain ⟨hx, hb, hml, hown, hts, hK, hTb⟩ := id K
  have hI := mw_I.start hP0
  obtain ⟨f0, f1⟩ := h
  refine lv_aload_n hx hb d_BY_byteAt_0 rfl (lv_at hl 0 rfl) ?_
  refine mw_get K hI gf_BY_19_cBY f0 rfl d_BY_byteAt_1 ?_
  refine lv_iload_n hx hb d_BY_byteAt_4 rfl (lv_at hl 1 rfl) ?_
  refine lv_iconst (v := nI 3) hx hb d_BY_byteAt_5 (by decide) ?_
  refine lv_ishr hx hb d_BY_byteAt_6 ?_
  refine mw_ti (y := nI (i / 8)) (pk_shrN (by omega) (nI 3 &&& 31) 3 (by decide)) ?_
  refine mw_lald K hI tJ f1 rfl (i / 8) rfl (by first | assumption | omega) (by omega) d_BY_byteAt_7 ?_
  refine lv_iload_n hx hb d_BY_byteAt_8 rfl (lv_at hl 1 rfl) ?_
  refine mp_call hb hml (c_BY_shiftOf l (n := i) (by omega)) (mx_invS hx hown (hts _ tw_387) (hts _ tw_388) (hts _ tw_22) (hts _ tw_389) (by decide) (g := F0 m 9 ls [.int (nI i), .long (g (i / 8))]) rfl (argsL := [.int (nI i)]) (rest := [.long (g (i / 8))]) np_BY_shiftOf rfl (by rw [hb]; exact d_BY_byteAt_9)) hl.1 d_BY_byteAt_9 ⟨Nat.le_of_ble_eq_true rfl, Nat.le_of_ble_eq_true rfl⟩ (Or.inl ⟨_, _, List.mem_cons_self⟩) (mk_ws tw_389 hts) (fun a9 U9 h9 => Ts_warm hts _ tw_22 a9 U9 h9) (by first | exact ⟨Nat.le_of_ble_eq_true rfl, Nat.le_of_ble_eq_true rfl⟩ | assumption) (fun v hv => ?_)
  subst hv
  refine W.eq (g2 := F0 m 12 ls [.int (nI (i % 8 * 8)), .long (g (i / 8))]) rfl ?_
  refine lv_lushr hx hb d_BY_byteAt_12 rfl ?_
  refine lv_l2i hx hb d_BY_byteAt_13 rfl ?_
  refine lv_sipush (v := nI 255) hx hb d_BY_byteAt_14 (by decide) ?_
  refine lv_iand hx hb d_BY_byteAt_17 ?_
  refine mw_ti (y := nI (bw_b g i)) (bw_get _ (Nat.mod_lt _ (by decide))) ?_
  exact mw_iret K hI hr hlk ⟨rfl, rfl⟩ d_BY_byteAt_18
set_option maxRecDepth 100000 in
set_option maxHeartbeats 4000000 in
theorem c_BY_setByte (l : Launch) (D : va_G) (dA : Nat → ClassId) {w : mw_W} {b x n : Nat} {g : Nat → Int64} (h : by_ok dA w b x n g) (hn : n ≤ 65536) {i : Nat} (hi : i < n) (v : Int64) : CT l D dA y_BY_setByte (Cond.code y_BY_setByte b_BY_setByte 6 none :: Ts) 1 20 0 0 [.ref b, .int (nI i), .long v] w (fun r w' => r = .inl none ∧ w' = mw_up w x (.inl (dA tJ, (n + 7) / 8, .inr (.inl (bw_s g i v))))) := by
  refine mw_meth (by decide) mk_tb (Nat.le_of_ble_eq_true rfl) ?_
  intro p e s m below meth c K hr hlk hce hnm hP0 hSy ls hl
  have hl : lv_has ls 6 [(0, .ref b), (1, .int (nI i)), (2, .long v)] := hl
  obtain ⟨hx, hb, hml, hown, hts, hK, hTb⟩ := id K
  have hI := mw_I.start hP0
  obtain ⟨f0, f1⟩ := h
  refine lv_aload_n hx hb d_BY_setByte_0 rfl (lv_at hl 0 rfl) ?_
  refine mw_get K hI gf_BY_19_cBY f0 rfl d_BY_setByte_1 ?_
  refine lv_iload_n hx hb d_BY_setByte_4 rfl (lv_at hl 1 rfl) ?_
  refine lv_iconst (v := nI 3) hx hb d_BY_setByte_5 (by decide) ?_
  refine lv_ishr hx hb d_BY_setByte_6 ?_
  refine mw_ti (y := nI (i / 8)) (pk_shrN (by omega) (nI 3 &&& 31) 3 (by decide)) ?_
  refine mw_lald K hI tJ f1 rfl (i / 8) rfl (by first | assumption | omega) (by omega) d_BY_setByte_7 ?_
  refine lv_ldc2 (v := lN 255) hx hb hown (hts _ tw_405) d_BY_setByte_8 ?_
  refine lv_iload_n hx hb d_BY_setByte_11 rfl (lv_at hl 1 rfl) ?_
  refine mp_call hb hml (c_BY_shiftOf l (n := i) (by omega)) (mx_invS hx hown (hts _ tw_387) (hts _ tw_388) (hts _ tw_22) (hts _ tw_389) (by decide) (g := F0 m 12 ls [.int (nI i), .long (lN 255), .long (g (i / 8))]) rfl (argsL := [.int (nI i)]) (rest := [.long (lN 255), .long (g (i / 8))]) np_BY_shiftOf rfl (by rw [hb]; exact d_BY_setByte_12)) hl.1 d_BY_setByte_12 ⟨Nat.le_of_ble_eq_true rfl, Nat.le_of_ble_eq_true rfl⟩ (Or.inl ⟨_, _, List.mem_cons_self⟩) (mk_ws tw_389 hts) (fun a9 U9 h9 => Ts_warm hts _ tw_22 a9 U9 h9) (by first | exact ⟨Nat.le_of_ble_eq_true rfl, Nat.le_of_ble_eq_true rfl⟩ | assumption) (fun v hv => ?_)
  subst hv
  refine W.eq (g2 := F0 m 15 ls [.int (nI (i % 8 * 8)), .long (lN 255), .long (g (i / 8))]) rfl ?_
  refine lv_lshl hx hb d_BY_setByte_15 rfl ?_
  refine lv_ldc2 (v := (-1)) hx hb hown (hts _ tw_406) d_BY_setByte_16 ?_
  refine lv_lxor hx hb d_BY_setByte_19 ?_
  refine lv_land hx hb d_BY_setByte_20 ?_
  refine lv_lstore (lv' := [(4, .long ((g (i / 8)) &&& (((lN 255) <<< ((nI (i % 8 * 8)).toInt64 &&& 63)) ^^^ (-1)))), (0, .ref b), (1, .int (nI i)), (2, .long v)]) hx hb d_BY_setByte_21 hl (by decide) rfl (fun ls hl => ?_)
  refine lv_aload_n hx hb d_BY_setByte_23 rfl (lv_at hl 1 rfl) ?_
  refine mw_get K hI gf_BY_19_cBY f0 rfl d_BY_setByte_24 ?_
  refine lv_iload_n hx hb d_BY_setByte_27 rfl (lv_at hl 2 rfl) ?_
  refine lv_iconst (v := nI 3) hx hb d_BY_setByte_28 (by decide) ?_
  refine lv_ishr hx hb d_BY_setByte_29 ?_
  refine mw_ti (y := nI (i / 8)) (pk_shrN (by omega) (nI 3 &&& 31) 3 (by decide)) ?_
  refine lv_lload hx hb d_BY_setByte_30 (lv_at hl 0 rfl) ?_
  refine lv_lload_n hx hb d_BY_setByte_32 rfl (lv_at hl 3 rfl) ?_
  refine lv_ldc2 (v := lN 255) hx hb hown (hts _ tw_405) d_BY_setByte_33 ?_
  refine lv_land hx hb d_BY_setByte_36 ?_
  refine lv_iload_n hx hb d_BY_setByte_37 rfl (lv_at hl 2 rfl) ?_
  refine mp_call hb hml (c_BY_shiftOf l (n := i) (by omega)) (mx_invS hx hown (hts _ tw_387) (hts _ tw_388) (hts _ tw_22) (hts _ tw_389) (by decide) (g := F0 m 38 ls [.int (nI i), .long (v &&& (lN 255)), .long ((g (i / 8)) &&& (((lN 255) <<< ((nI (i % 8 * 8)).toInt64 &&& 63)) ^^^ (-1))), .int (nI (i / 8)), .ref x]) rfl (argsL := [.int (nI i)]) (rest := [.long (v &&& (lN 255)), .long ((g (i / 8)) &&& (((lN 255) <<< ((nI (i % 8 * 8)).toInt64 &&& 63)) ^^^ (-1))), .int (nI (i / 8)), .ref x]) np_BY_shiftOf rfl (by rw [hb]; exact d_BY_setByte_38)) hl.1 d_BY_setByte_38 ⟨Nat.le_of_ble_eq_true rfl, Nat.le_of_ble_eq_true rfl⟩ (Or.inl ⟨_, _, List.mem_cons_self⟩) (mk_ws tw_389 hts) (fun a9 U9 h9 => Ts_warm hts _ tw_22 a9 U9 h9) (by first | exact ⟨Nat.le_of_ble_eq_true rfl, Nat.le_of_ble_eq_true rfl⟩ | assumption) (fun v hv => ?_)
  subst hv
  refine W.eq (g2 := F0 m 41 ls [.int (nI (i % 8 * 8)), .long (v &&& (lN 255)), .long ((g (i / 8)) &&& (((lN 255) <<< ((nI (i % 8 * 8)).toInt64 &&& 63)) ^^^ (-1))), .int (nI (i / 8)), .ref x]) rfl ?_
  refine lv_lshl hx hb d_BY_setByte_41 rfl ?_
  refine lv_lor hx hb d_BY_setByte_42 ?_
  refine mw_last K hI tJ f1 rfl (i / 8) rfl (by first | assumption | omega) (by omega) d_BY_setByte_43 (fun H locs hI => ?_)
  exact mw_vret K hI hr hlk ⟨rfl, rfl⟩ d_BY_setByte_44
end
section
/-! ### MapStore.Bytes, on -/
set_option maxRecDepth 100000 in
set_option maxHeartbeats 4000000 in
theorem c_BY_demand (l : Launch) (D : va_G) (dA : Nat → ClassId) (hL : mw_L l) {w : mw_W} {b x n : Nat} {g : Nat → Int64} (h : by_ok dA w b x n g) (hn : n ≤ 65536) (q : Int32) {k : Nat} (hk : k ≤ n) : CT l D dA y_BY_demand (Cond.code y_BY_demand b_BY_demand 3 none :: Ts) 6 90 1 6 [.ref b, .int q, .int (nI k)] w (fun r w' => w' = w ∧ ((0 ≤ q.toInt ∧ q.toInt + k ≤ n ∧ r = .inl none) ∨ (¬ (0 ≤ q.toInt ∧ q.toInt + k ≤ n) ∧ r = .inr 2))) := by
  refine mw_meth (by decide) mk_tb (Nat.le_of_ble_eq_true rfl) ?_
  intro p e s m below meth c K hr hlk hce hnm hP0 hSy ls hl
  have hl : lv_has ls 3 [(0, .ref b), (1, .int q), (2, .int (nI k))] := hl
  obtain ⟨hx, hb, hml, hown, hts, hK, hTb⟩ := id K
  have hI := mw_I.start hP0
  obtain ⟨f0, f1⟩ := h
  refine lv_iload_n hx hb d_BY_demand_0 rfl (lv_at hl 1 rfl) ?_
  refine lv_if_lt (tgt := 14) hx hb d_BY_demand_1 (by decide) (fun c1 => ?_) (fun c1 => ?_)
  · rw [Int32.lt_iff_toInt_lt, Int32.toInt_zero] at c1
    exact mw_throw (tx := "a byte goes beyond the desk or the area") K hL hSy hP0 hce hlk 2 rfl (by decide) (by decide) (ow_in ow_BY) (by decide) tw_376 tw_35 tw_94 hl.1 d_BY_demand_14 d_BY_demand_17 d_BY_demand_18 d_BY_demand_20 d_BY_demand_23 (Nat.le_of_ble_eq_true rfl) (Nat.le_of_ble_eq_true rfl) (Nat.le_of_ble_eq_true rfl) (Nat.le_of_ble_eq_true rfl) (⟨rfl, Or.inr ⟨by omega, rfl⟩⟩)
  · rw [Int32.lt_iff_toInt_lt, Int32.toInt_zero] at c1
    refine lv_iload_n hx hb d_BY_demand_4 rfl (lv_at hl 1 rfl) ?_
    refine lv_aload_n hx hb d_BY_demand_5 rfl (lv_at hl 0 rfl) ?_
    refine mw_get K hI gf_BY_9_cBY f0 rfl d_BY_demand_6 ?_
    refine lv_iload_n hx hb d_BY_demand_9 rfl (lv_at hl 2 rfl) ?_
    refine lv_isub hx hb d_BY_demand_10 ?_
    refine mw_ti (pk_sub (by omega)) ?_
    refine lv_icmp_le (tgt := 24) hx hb d_BY_demand_11 (by decide) (fun c11 => ?_) (fun c11 => ?_)
    · rw [Int32.le_iff_toInt_le, nI_toInt (by omega)] at c11
      refine W.widen (k := 1) (n := 6) (by decide) (by decide) ?_
      exact mw_vret K hI hr hlk ⟨rfl, Or.inl ⟨by omega, by omega, rfl⟩⟩ d_BY_demand_24
    · rw [Int32.le_iff_toInt_le, nI_toInt (by omega)] at c11
      exact mw_throw (tx := "a byte goes beyond the desk or the area") K hL hSy hP0 hce hlk 2 rfl (by decide) (by decide) (ow_in ow_BY) (by decide) tw_376 tw_35 tw_94 hl.1 d_BY_demand_14 d_BY_demand_17 d_BY_demand_18 d_BY_demand_20 d_BY_demand_23 (Nat.le_of_ble_eq_true rfl) (Nat.le_of_ble_eq_true rfl) (Nat.le_of_ble_eq_true rfl) (Nat.le_of_ble_eq_true rfl) (⟨rfl, Or.inr ⟨by omega, rfl⟩⟩)
set_option maxRecDepth 100000 in
set_option maxHeartbeats 4000000 in
theorem c_BY_number (l : Launch) (D : va_G) (dA : Nat → ClassId) {w : mw_W} {b x n : Nat} {g : Nat → Int64} (h : by_ok dA w b x n g) (hn : n ≤ 65536) {i k : Nat} (hk : k ≤ 8) (hi : i + k ≤ n) : CT l D dA y_BY_number (Cond.code y_BY_number b_BY_number 6 (some .long) :: Ts) 2 40 0 0 [.ref b, .int (nI i), .int (nI k)] w (fun r w' => r = .inl (some (.long (lN (bw_n (bw_b g) i k)))) ∧ w' = w) := by
  refine mw_meth (by decide) mk_tb (Nat.le_of_ble_eq_true rfl) ?_
  intro p e s m below meth c K hr hlk hce hnm hP0 hSy ls hl
  have hl : lv_has ls 6 [(0, .ref b), (1, .int (nI i)), (2, .int (nI k))] := hl
  obtain ⟨hx, hb, hml, hown, hts, hK, hTb⟩ := id K
  have hI := mw_I.start hP0
  have h' := h
  obtain ⟨f0, f1⟩ := h'
  have hloop : ∀ (j : Nat), j ≤ k → ∀ (H : Heap) (locs : List Loc), mw_I D mk_cl w s.heap w H locs → ∀ (v5 : Int32), v5 = nI j - 1 → ∀ ls : Array Slot, lv_has ls 6 [(5, .int v5), (3, .long (lN (bw_n (bw_b g) (i + j) (k - j)))), (0, .ref b), (1, .int (nI i)), (2, .int (nI k))] → W p l e { frames := 2, cells := 0, slots := 0, locals := 40 } s m ([.ref b, .int (nI i), .int (nI k)] : List Value).toArray below meth c H locs 0 0 (mx_Q below (mw_Qc D mk_cl w s.heap.size (fun r w' => r = .inl (some (.long (lN (bw_n (bw_b g) i k)))) ∧ w' = w)) ([.ref b, .int (nI i), .int (nI k)] : List Value).toArray s 0 0 (mw_A w s.heap.size)) (F0 m 7 ls []) := by
    intro j
    induction j with
    | zero =>
      intro hj H locs hI v5 hv ls hl
      have hneg : v5 < 0 := by rw [hv]; decide
      refine lv_iload hx hb d_BY_number_7 (lv_at hl 0 rfl) ?_
      refine lv_if_lt (tgt := 33) hx hb d_BY_number_9 (by decide) (fun c9 => ?_) (fun c9 => ?_)
      ·
        refine lv_lload_n hx hb d_BY_number_33 rfl (lv_at hl 1 rfl) ?_
        exact mw_lret K hI hr hlk ⟨rfl, rfl⟩ d_BY_number_34
      · exact absurd hneg c9
    | succ j ih =>
      intro hj H locs hI v5 hv ls hl
      rw [nI_pred] at hv
      subst hv
      refine lv_iload hx hb d_BY_number_7 (lv_at hl 0 rfl) ?_
      refine lv_if_lt (tgt := 33) hx hb d_BY_number_9 (by decide) (fun c9 => ?_) (fun c9 => ?_)
      · exact absurd c9 (nI_pos (by omega))
      ·
        have hlt := bw_n_lt (bw_lt g) (k - (j + 1)) (i + (j + 1))
        have hp : 256 ^ (k - (j + 1)) ≤ 256 ^ 7 := Nat.pow_le_pow_right (by decide) (by omega)
        refine lv_lload_n hx hb d_BY_number_12 rfl (lv_at hl 1 rfl) ?_
        refine lv_bipush (v := nI 8) hx hb d_BY_number_13 (by decide) ?_
        refine lv_lshl hx hb d_BY_number_15 rfl ?_
        refine mw_tl (y := lN (bw_n (bw_b g) (i + (j + 1)) (k - (j + 1)) * 256)) (wb_shl _ (k := 8) (by decide)) ?_
        refine lv_aload_n hx hb d_BY_number_16 rfl (lv_at hl 2 rfl) ?_
        refine lv_iload_n hx hb d_BY_number_17 rfl (lv_at hl 3 rfl) ?_
        refine lv_iload hx hb d_BY_number_18 (lv_at hl 0 rfl) ?_
        refine lv_iadd hx hb d_BY_number_20 ?_
        refine mw_ti (nI_add _ _) ?_
        refine mw_call K hSy hP0 hI (c_BY_byteAt l D dA h hn (i := i + j) (by omega)) (mx_invV hx hown (hts _ tw_383) (hts _ tw_384) (hts _ tw_385) (hts _ tw_386) (by decide) (b := b) (mw_rc K hI f0 rfl) (g := F0 m 21 ls [.int (nI (i + j)), .ref b, .long (lN (bw_n (bw_b g) (i + (j + 1)) (k - (j + 1)) * 256))]) rfl (argsL := [.int (nI (i + j))]) (rest := [.long (lN (bw_n (bw_b g) (i + (j + 1)) (k - (j + 1)) * 256))]) np_BY_byteAt rfl (by rw [hb]; exact d_BY_number_21)) hl.1 d_BY_number_21 ⟨Nat.le_of_ble_eq_true rfl, Nat.le_of_ble_eq_true rfl⟩ (Or.inl ⟨_, _, List.mem_cons_self⟩) (mk_ws tw_386 hts) (fun a9 U9 h9 => Ts_warm hts _ tw_22 a9 U9 h9) ⟨Nat.le_of_ble_eq_true rfl, Nat.le_of_ble_eq_true rfl⟩ (fun v w' H locs hq hI => ?_) (fun k x w' H locs hq hI hX => ?_)
        · obtain ⟨hq1, hq2⟩ := hq
          cases hq1
          subst hq2
          refine W.eq (g2 := F0 m 24 ls [.int (nI (bw_b g (i + j))), .long (lN (bw_n (bw_b g) (i + (j + 1)) (k - (j + 1)) * 256))]) rfl ?_
          refine lv_i2l hx hb d_BY_number_24 rfl ?_
          have hbl := bw_lt g (i + j)
          refine mw_tl (y := lN (bw_b g (i + j))) (nI_l (by omega)) ?_
          refine lv_lor hx hb d_BY_number_25 ?_
          refine mw_tl (y := lN (bw_n (bw_b g) (i + j) (k - j))) ((by rw [g_or (k := 8) (p := 256) rfl hbl (by omega)]; congr 1; rw [show k - j = (k - (j + 1)) + 1 by omega, bw_n, Nat.add_assoc i j 1]; omega)) ?_
          refine lv_lstore_n (lv' := [(3, .long (lN (bw_n (bw_b g) (i + j) (k - j)))), (5, .int (nI j)), (0, .ref b), (1, .int (nI i)), (2, .int (nI k))]) hx hb d_BY_number_26 rfl hl (by decide) rfl (fun ls hl => ?_)
          refine lv_iinc (v := nI j - 1) (lv' := [(5, .int (nI j - 1)), (3, .long (lN (bw_n (bw_b g) (i + j) (k - j)))), (0, .ref b), (1, .int (nI i)), (2, .int (nI k))]) hx hb d_BY_number_27 hl (k := 1) rfl ((by rw [Int32.sub_eq_add_neg]; rfl)) (by decide) rfl (fun ls hl => ?_)
          refine lv_goto (tgt := 7) hx hb d_BY_number_30 (by decide) ?_
          exact ih (by omega) H locs hI _ rfl ls (lv_sub hl [0, 1, 2, 3, 4] rfl)
        · exact absurd hq.1 (by simp)
  refine lv_lconst (v := lN 0) hx hb d_BY_number_0 (by decide) ?_
  refine lv_lstore_n (lv' := [(3, .long (lN 0)), (0, .ref b), (1, .int (nI i)), (2, .int (nI k))]) hx hb d_BY_number_1 rfl hl (by decide) rfl (fun ls hl => ?_)
  refine lv_iload_n hx hb d_BY_number_2 rfl (lv_at hl 3 rfl) ?_
  refine lv_iconst (v := nI 1) hx hb d_BY_number_3 (by decide) ?_
  refine lv_isub hx hb d_BY_number_4 ?_
  refine lv_istore (lv' := [(5, .int (nI k - nI 1)), (3, .long (lN 0)), (0, .ref b), (1, .int (nI i)), (2, .int (nI k))]) hx hb d_BY_number_5 hl (by decide) rfl (fun ls hl => ?_)
  exact hloop k (Nat.le_refl k) _ _ hI _ rfl ls (lv_sub hl [0, 1, 2, 3, 4] (by rw [Nat.sub_self]; rfl))
end
section
/-! ### MapStore.Bytes: numbers and copies in -/
theorem d_BY_copy_0 : decode b_BY_copy 0 = .ok (.iconst 0, 1) := by decide +kernel
theorem d_BY_copy_1 : decode b_BY_copy 1 = .ok (.istore 5, 2) := by decide +kernel
theorem d_BY_copy_3 : decode b_BY_copy 3 = .ok (.iload 5, 2) := by decide +kernel
theorem d_BY_copy_5 : decode b_BY_copy 5 = .ok (.iload 4, 2) := by decide +kernel
theorem d_BY_copy_7 : decode b_BY_copy 7 = .ok (.if_icmp .ge 26, 3) := by decide +kernel
theorem d_BY_copy_10 : decode b_BY_copy 10 = .ok (.aload_n 0, 1) := by decide +kernel
theorem d_BY_copy_11 : decode b_BY_copy 11 = .ok (.iload_n 1, 1) := by decide +kernel
theorem d_BY_copy_12 : decode b_BY_copy 12 = .ok (.iload 5, 2) := by decide +kernel
theorem d_BY_copy_14 : decode b_BY_copy 14 = .ok (.iadd, 1) := by decide +kernel
theorem d_BY_copy_15 : decode b_BY_copy 15 = .ok (.aload_n 2, 1) := by decide +kernel
theorem d_BY_copy_16 : decode b_BY_copy 16 = .ok (.iload_n 3, 1) := by decide +kernel
theorem d_BY_copy_17 : decode b_BY_copy 17 = .ok (.iload 5, 2) := by decide +kernel
theorem d_BY_copy_19 : decode b_BY_copy 19 = .ok (.iadd, 1) := by decide +kernel
theorem d_BY_copy_20 : decode b_BY_copy 20 = .ok (.invokevirtual 37, 3) := by decide +kernel
theorem d_BY_copy_23 : decode b_BY_copy 23 = .ok (.i2l, 1) := by decide +kernel
theorem d_BY_copy_24 : decode b_BY_copy 24 = .ok (.invokevirtual 40, 3) := by decide +kernel
theorem d_BY_copy_27 : decode b_BY_copy 27 = .ok (.iinc 5 1, 3) := by decide +kernel
theorem d_BY_copy_30 : decode b_BY_copy 30 = .ok (.goto (-27), 3) := by decide +kernel
theorem d_BY_copy_33 : decode b_BY_copy 33 = .ok (.return_, 1) := by decide +kernel
theorem d_BY_same_0 : decode b_BY_same 0 = .ok (.aload_n 0, 1) := by decide +kernel
theorem d_BY_same_1 : decode b_BY_same 1 = .ok (.getfield 19, 3) := by decide +kernel
theorem d_BY_same_4 : decode b_BY_same 4 = .ok (.arraylength, 1) := by decide +kernel
theorem d_BY_same_5 : decode b_BY_same 5 = .ok (.aload_n 1, 1) := by decide +kernel
theorem d_BY_same_6 : decode b_BY_same 6 = .ok (.getfield 19, 3) := by decide +kernel
theorem d_BY_same_9 : decode b_BY_same 9 = .ok (.arraylength, 1) := by decide +kernel
theorem d_BY_same_10 : decode b_BY_same 10 = .ok (.if_icmp .eq 5, 3) := by decide +kernel
theorem d_BY_same_13 : decode b_BY_same 13 = .ok (.iconst 0, 1) := by decide +kernel
theorem d_BY_same_14 : decode b_BY_same 14 = .ok (.ireturn, 1) := by decide +kernel
theorem d_BY_same_15 : decode b_BY_same 15 = .ok (.iconst 0, 1) := by decide +kernel
theorem d_BY_same_16 : decode b_BY_same 16 = .ok (.istore_n 2, 1) := by decide +kernel
theorem d_BY_same_17 : decode b_BY_same 17 = .ok (.iload_n 2, 1) := by decide +kernel
theorem d_BY_same_18 : decode b_BY_same 18 = .ok (.aload_n 0, 1) := by decide +kernel
theorem d_BY_same_19 : decode b_BY_same 19 = .ok (.getfield 19, 3) := by decide +kernel
theorem d_BY_same_22 : decode b_BY_same 22 = .ok (.arraylength, 1) := by decide +kernel
theorem d_BY_same_23 : decode b_BY_same 23 = .ok (.if_icmp .ge 27, 3) := by decide +kernel
theorem d_BY_same_26 : decode b_BY_same 26 = .ok (.aload_n 0, 1) := by decide +kernel
theorem d_BY_same_27 : decode b_BY_same 27 = .ok (.getfield 19, 3) := by decide +kernel
theorem d_BY_same_30 : decode b_BY_same 30 = .ok (.iload_n 2, 1) := by decide +kernel
theorem d_BY_same_31 : decode b_BY_same 31 = .ok (.laload, 1) := by decide +kernel
theorem d_BY_same_32 : decode b_BY_same 32 = .ok (.aload_n 1, 1) := by decide +kernel
theorem d_BY_same_33 : decode b_BY_same 33 = .ok (.getfield 19, 3) := by decide +kernel
theorem d_BY_same_36 : decode b_BY_same 36 = .ok (.iload_n 2, 1) := by decide +kernel
theorem d_BY_same_37 : decode b_BY_same 37 = .ok (.laload, 1) := by decide +kernel
theorem d_BY_same_38 : decode b_BY_same 38 = .ok (.lcmp, 1) := by decide +kernel
theorem d_BY_same_39 : decode b_BY_same 39 = .ok (.ifCond .eq 5, 3) := by decide +kernel
theorem d_BY_same_42 : decode b_BY_same 42 = .ok (.iconst 0, 1) := by decide +kernel
theorem d_BY_same_43 : decode b_BY_same 43 = .ok (.ireturn, 1) := by decide +kernel
theorem d_BY_same_44 : decode b_BY_same 44 = .ok (.iinc 2 1, 3) := by decide +kernel
theorem d_BY_same_47 : decode b_BY_same 47 = .ok (.goto (-30), 3) := by decide +kernel
theorem d_BY_same_50 : decode b_BY_same 50 = .ok (.iconst 1, 1) := by decide +kernel
theorem d_BY_same_51 : decode b_BY_same 51 = .ok (.ireturn, 1) := by decide +kernel
theorem d_BY_init_0 : decode b_BY_init 0 = .ok (.aload_n 0, 1) := by decide +kernel
theorem d_BY_init_1 : decode b_BY_init 1 = .ok (.invokespecial 3, 3) := by decide +kernel
theorem d_BY_init_4 : decode b_BY_init 4 = .ok (.aload_n 0, 1) := by decide +kernel
theorem d_BY_init_5 : decode b_BY_init 5 = .ok (.iload_n 1, 1) := by decide +kernel
theorem d_BY_init_6 : decode b_BY_init 6 = .ok (.putfield 9, 3) := by decide +kernel
theorem d_BY_init_9 : decode b_BY_init 9 = .ok (.aload_n 0, 1) := by decide +kernel
theorem d_BY_init_10 : decode b_BY_init 10 = .ok (.iload_n 1, 1) := by decide +kernel
theorem d_BY_init_11 : decode b_BY_init 11 = .ok (.invokestatic 15, 3) := by decide +kernel
theorem d_BY_init_14 : decode b_BY_init 14 = .ok (.bipush 8, 2) := by decide +kernel
theorem d_BY_init_16 : decode b_BY_init 16 = .ok (.idiv, 1) := by decide +kernel
theorem d_BY_init_17 : decode b_BY_init 17 = .ok (.newarray .long, 2) := by decide +kernel
theorem d_BY_init_19 : decode b_BY_init 19 = .ok (.putfield 19, 3) := by decide +kernel
theorem d_BY_init_22 : decode b_BY_init 22 = .ok (.return_, 1) := by decide +kernel
/-- the longs of a Bytes -/
abbrev by_a (dA : Nat → ClassId) (n : Nat) (g : Nat → Int64) : va_E := .inl (dA tJ, (n + 7) / 8, .inr (.inl g))
theorem mw_uu (w : mw_W) (a : Nat) (x y : va_E) : mw_up (mw_up w a x) a y = mw_up w a y := by
  funext q
  by_cases h : q = a
  · subst h; rw [mw_up_s, mw_up_s]
  · rw [mw_up_n _ _ h, mw_up_n _ _ h, mw_up_n _ _ h]
theorem mw_self {w : mw_W} {a : Nat} {x : va_E} (h : w a = some x) : w = mw_up w a x := by
  funext q
  by_cases e : q = a
  · subst e; rw [mw_up_s]; exact h
  · rw [mw_up_n _ _ e]
theorem by_ok.up {dA : Nat → ClassId} {w : mw_W} {b x n : Nat} {g : Nat → Int64} (h : by_ok dA w b x n g) (g' : Nat → Int64) : by_ok dA (mw_up w x (by_a dA n g')) b x n g' := ⟨by rw [mw_up_n _ _ (mw_neA h.1 h.2)]; exact h.1, mw_up_s _ _ _⟩
theorem by_ok.keep {dA : Nat → ClassId} {w : mw_W} {b x n a : Nat} {g : Nat → Int64} {y : va_E} (h : by_ok dA w b x n g) (h1 : b ≠ a) (h2 : x ≠ a) : by_ok dA (mw_up w a y) b x n g := ⟨by rw [mw_up_n _ _ h1]; exact h.1, by rw [mw_up_n _ _ h2]; exact h.2⟩
/-- k bytes from i on are those of h, the others stay -/
def by_w (g g' : Nat → Int64) (i k : Nat) (h : Nat → Nat) : Prop := ∀ j, bw_b g' j = if i ≤ j ∧ j < i + k then h (j - i) else bw_b g j
theorem by_w.z (g : Nat → Int64) (i : Nat) (h : Nat → Nat) : by_w g g i 0 h := fun j => by rw [if_neg (by omega)]
theorem by_w.s {g g' : Nat → Int64} {i k : Nat} {h : Nat → Nat} (e : by_w g g' i k h) {v : Int64} (hv : uN v % 256 = h k) : by_w g (bw_s g' (i + k) v) i (k + 1) h := by
  intro j
  rw [bw_sb]
  by_cases hj : j = i + k
  · rw [if_pos hj, if_pos (by omega), hv]; congr 1; omega
  · rw [if_neg hj, e j]
    by_cases h2 : i ≤ j ∧ j < i + k
    · rw [if_pos h2, if_pos (by omega)]
    · rw [if_neg h2, if_neg (by omega)]
set_option maxRecDepth 100000 in
set_option maxHeartbeats 4000000 in
theorem c_BY_setNumber (l : Launch) (D : va_G) (dA : Nat → ClassId) {w : mw_W} {b x n : Nat} {g : Nat → Int64} (h : by_ok dA w b x n g) (hn : n ≤ 65536) {i k : Nat} (hk : k ≤ 8) (hi : i + k ≤ n) (v : Int64) : CT l D dA y_BY_setNumber (Cond.code y_BY_setNumber b_BY_setNumber 6 none :: Ts) 2 50 0 0 [.ref b, .int (nI i), .int (nI k), .long v] w (fun r w' => r = .inl none ∧ ∃ g', w' = mw_up w x (by_a dA n g') ∧ by_w g g' i k (fun j => uN v / 2 ^ (8 * j) % 256)) := by
  refine mw_meth (by decide) mk_tb (Nat.le_of_ble_eq_true rfl) ?_
  intro p e s m below meth c K hr hlk hce hnm hP0 hSy ls hl
  have hl : lv_has ls 6 [(0, .ref b), (1, .int (nI i)), (2, .int (nI k)), (3, .long v)] := hl
  obtain ⟨hx, hb, hml, hown, hts, hK, hTb⟩ := id K
  have hI := mw_I.start hP0
  have hloop : ∀ (q j : Nat), j + q = k → ∀ (g1 : Nat → Int64) (w1 : mw_W), w1 = mw_up w x (by_a dA n g1) → by_w g g1 i j (fun j => uN v / 2 ^ (8 * j) % 256) → ∀ (H : Heap) (locs : List Loc), mw_I D mk_cl w s.heap w1 H locs → ∀ ls : Array Slot, lv_has ls 6 [(5, .int (nI j)), (0, .ref b), (1, .int (nI i)), (2, .int (nI k)), (3, .long v)] → W p l e { frames := 2, cells := 0, slots := 0, locals := 50 } s m ([.ref b, .int (nI i), .int (nI k), .long v] : List Value).toArray below meth c H locs 0 0 (mx_Q below (mw_Qc D mk_cl w s.heap.size (fun r w' => r = .inl none ∧ ∃ g', w' = mw_up w x (by_a dA n g') ∧ by_w g g' i k (fun j => uN v / 2 ^ (8 * j) % 256))) ([.ref b, .int (nI i), .int (nI k), .long v] : List Value).toArray s 0 0 (mw_A w s.heap.size)) (F0 m 3 ls []) := by
    intro q
    induction q with
    | zero =>
      intro j hj g1 w1 hw1 hg H locs hI ls hl
      refine lv_iload hx hb d_BY_setNumber_3 (lv_at hl 0 rfl) ?_
      refine lv_iload_n hx hb d_BY_setNumber_5 rfl (lv_at hl 3 rfl) ?_
      refine lv_icmp_ge (tgt := 30) hx hb d_BY_setNumber_6 (by decide) (fun c6 => ?_) (fun c6 => ?_)
      ·
        have e : j = k := by omega
        subst e
        exact mw_vret K hI hr hlk ⟨rfl, g1, hw1, hg⟩ d_BY_setNumber_30
      ·
        exact absurd (nI_le (by omega) (by omega)) c6
    | succ q ih =>
      intro j hj g1 w1 hw1 hg H locs hI ls hl
      have h1 : by_ok dA w1 b x n g1 := by rw [hw1]; exact h.up g1
      refine lv_iload hx hb d_BY_setNumber_3 (lv_at hl 0 rfl) ?_
      refine lv_iload_n hx hb d_BY_setNumber_5 rfl (lv_at hl 3 rfl) ?_
      refine lv_icmp_ge (tgt := 30) hx hb d_BY_setNumber_6 (by decide) (fun c6 => ?_) (fun c6 => ?_)
      ·
        exact absurd c6 (nI_ge (by omega) (by omega))
      ·
        refine lv_aload_n hx hb d_BY_setNumber_9 rfl (lv_at hl 1 rfl) ?_
        refine lv_iload_n hx hb d_BY_setNumber_10 rfl (lv_at hl 2 rfl) ?_
        refine lv_iload hx hb d_BY_setNumber_11 (lv_at hl 0 rfl) ?_
        refine lv_iadd hx hb d_BY_setNumber_13 ?_
        refine mw_ti (nI_add _ _) ?_
        refine lv_lload_n hx hb d_BY_setNumber_14 rfl (lv_at hl 4 rfl) ?_
        refine lv_bipush (v := nI 8) hx hb d_BY_setNumber_15 (by decide) ?_
        refine lv_iload hx hb d_BY_setNumber_17 (lv_at hl 0 rfl) ?_
        refine lv_imul hx hb d_BY_setNumber_19 ?_
        refine mw_ti (pk_mul _ _) ?_
        refine lv_lushr hx hb d_BY_setNumber_20 rfl ?_
        refine mw_call (rest := []) K hSy hP0 hI (c_BY_setByte l D dA h1 hn (i := i + j) (by omega) _) (mx_invV hx hown (hts _ tw_401) (hts _ tw_402) (hts _ tw_403) (hts _ tw_404) (by decide) (b := b) (mw_rc K hI h1.1 rfl) (g := F0 m 21 ls [.long ((v.toUInt64 >>> ((nI (8 * j)).toInt64.toUInt64 &&& Int64.toUInt64 63)).toInt64), .int (nI (i + j)), .ref b]) rfl (argsL := [.int (nI (i + j)), .long ((v.toUInt64 >>> ((nI (8 * j)).toInt64.toUInt64 &&& Int64.toUInt64 63)).toInt64)]) (rest := []) np_BY_setByte rfl (by rw [hb]; exact d_BY_setNumber_21)) hl.1 d_BY_setNumber_21 ⟨Nat.le_of_ble_eq_true rfl, Nat.le_of_ble_eq_true rfl⟩ (Or.inl ⟨_, _, List.mem_cons_self⟩) (mk_ws tw_404 hts) (fun a9 U9 h9 => Ts_warm hts _ tw_22 a9 U9 h9) ⟨Nat.le_of_ble_eq_true rfl, Nat.le_of_ble_eq_true rfl⟩ (fun v w' H locs hq hI => ?_) (fun k x w' H locs hq hI hX => ?_)
        · obtain ⟨hq1, hq2⟩ := hq
          cases hq1
          refine W.eq (g2 := F0 m 24 ls []) rfl ?_
          refine lv_iinc (v := nI (j + 1)) (lv' := [(5, .int (nI (j + 1))), (0, .ref b), (1, .int (nI i)), (2, .int (nI k)), (3, .long v)]) hx hb d_BY_setNumber_24 hl (k := 0) rfl (nI_add _ _) (by decide) rfl (fun ls hl => ?_)
          refine lv_goto (tgt := 3) hx hb d_BY_setNumber_27 (by decide) ?_
          refine ih (j + 1) (by omega) (bw_s g1 (i + j) _) w' (by rw [hq2, hw1, mw_uu]) (hg.s ?_) H locs hI ls (lv_sub hl [0, 1, 2, 3, 4] rfl)
          rw [uN_sk v (by omega)]
        · exact absurd hq.1 (by simp)
  refine lv_iconst (v := nI 0) hx hb d_BY_setNumber_0 (by decide) ?_
  refine lv_istore (lv' := [(5, .int (nI 0)), (0, .ref b), (1, .int (nI i)), (2, .int (nI k)), (3, .long v)]) hx hb d_BY_setNumber_1 hl (by decide) rfl (fun ls hl => ?_)
  exact hloop k 0 (by omega) g w (mw_self h.2) (by_w.z g i _) _ _ hI ls (lv_sub hl [0, 1, 2, 3, 4] rfl)
set_option maxRecDepth 100000 in
set_option maxHeartbeats 4000000 in
theorem c_BY_copy (l : Launch) (D : va_G) (dA : Nat → ClassId) {w : mw_W} {b x n : Nat} {g : Nat → Int64} (h : by_ok dA w b x n g) (hn : n ≤ 65536) {b2 x2 n2 : Nat} {g2 : Nat → Int64} (h2 : by_ok dA w b2 x2 n2 g2) (hn2 : n2 ≤ 65536) (hne : x2 ≠ x) {i i2 k : Nat} (hi : i + k ≤ n) (hi2 : i2 + k ≤ n2) : CT l D dA y_BY_copy (Cond.code y_BY_copy b_BY_copy 6 none :: Ts) 2 50 0 0 [.ref b, .int (nI i), .ref b2, .int (nI i2), .int (nI k)] w (fun r w' => r = .inl none ∧ ∃ g', w' = mw_up w x (by_a dA n g') ∧ by_w g g' i k (fun j => bw_b g2 (i2 + j))) := by
  refine mw_meth (by decide) mk_tb (Nat.le_of_ble_eq_true rfl) ?_
  intro p e s m below meth c K hr hlk hce hnm hP0 hSy ls hl
  have hl : lv_has ls 6 [(0, .ref b), (1, .int (nI i)), (2, .ref b2), (3, .int (nI i2)), (4, .int (nI k))] := hl
  obtain ⟨hx, hb, hml, hown, hts, hK, hTb⟩ := id K
  have hI := mw_I.start hP0
  have hloop : ∀ (q j : Nat), j + q = k → ∀ (g1 : Nat → Int64) (w1 : mw_W), w1 = mw_up w x (by_a dA n g1) → by_w g g1 i j (fun j => bw_b g2 (i2 + j)) → ∀ (H : Heap) (locs : List Loc), mw_I D mk_cl w s.heap w1 H locs → ∀ ls : Array Slot, lv_has ls 6 [(5, .int (nI j)), (0, .ref b), (1, .int (nI i)), (2, .ref b2), (3, .int (nI i2)), (4, .int (nI k))] → W p l e { frames := 2, cells := 0, slots := 0, locals := 50 } s m ([.ref b, .int (nI i), .ref b2, .int (nI i2), .int (nI k)] : List Value).toArray below meth c H locs 0 0 (mx_Q below (mw_Qc D mk_cl w s.heap.size (fun r w' => r = .inl none ∧ ∃ g', w' = mw_up w x (by_a dA n g') ∧ by_w g g' i k (fun j => bw_b g2 (i2 + j)))) ([.ref b, .int (nI i), .ref b2, .int (nI i2), .int (nI k)] : List Value).toArray s 0 0 (mw_A w s.heap.size)) (F0 m 3 ls []) := by
    intro q
    induction q with
    | zero =>
      intro j hj g1 w1 hw1 hg H locs hI ls hl
      refine lv_iload hx hb d_BY_copy_3 (lv_at hl 0 rfl) ?_
      refine lv_iload hx hb d_BY_copy_5 (lv_at hl 5 rfl) ?_
      refine lv_icmp_ge (tgt := 33) hx hb d_BY_copy_7 (by decide) (fun c7 => ?_) (fun c7 => ?_)
      ·
        have e : j = k := by omega
        subst e
        exact mw_vret K hI hr hlk ⟨rfl, g1, hw1, hg⟩ d_BY_copy_33
      ·
        exact absurd (nI_le (by omega) (by omega)) c7
    | succ q ih =>
      intro j hj g1 w1 hw1 hg H locs hI ls hl
      have h1 : by_ok dA w1 b x n g1 := by rw [hw1]; exact h.up g1
      have h3 : by_ok dA w1 b2 x2 n2 g2 := by rw [hw1]; exact h2.keep (mw_neA h2.1 h.2) hne
      refine lv_iload hx hb d_BY_copy_3 (lv_at hl 0 rfl) ?_
      refine lv_iload hx hb d_BY_copy_5 (lv_at hl 5 rfl) ?_
      refine lv_icmp_ge (tgt := 33) hx hb d_BY_copy_7 (by decide) (fun c7 => ?_) (fun c7 => ?_)
      ·
        exact absurd c7 (nI_ge (by omega) (by omega))
      ·
        refine lv_aload_n hx hb d_BY_copy_10 rfl (lv_at hl 1 rfl) ?_
        refine lv_iload_n hx hb d_BY_copy_11 rfl (lv_at hl 2 rfl) ?_
        refine lv_iload hx hb d_BY_copy_12 (lv_at hl 0 rfl) ?_
        refine lv_iadd hx hb d_BY_copy_14 ?_
        refine mw_ti (nI_add _ _) ?_
        refine lv_aload_n hx hb d_BY_copy_15 rfl (lv_at hl 3 rfl) ?_
        refine lv_iload_n hx hb d_BY_copy_16 rfl (lv_at hl 4 rfl) ?_
        refine lv_iload hx hb d_BY_copy_17 (lv_at hl 0 rfl) ?_
        refine lv_iadd hx hb d_BY_copy_19 ?_
        refine mw_ti (nI_add _ _) ?_
        refine mw_call (rest := [.int (nI (i + j)), .ref b]) K hSy hP0 hI (c_BY_byteAt l D dA h3 hn2 (i := i2 + j) (by omega)) (mx_invV hx hown (hts _ tw_383) (hts _ tw_384) (hts _ tw_385) (hts _ tw_386) (by decide) (b := b2) (mw_rc K hI h3.1 rfl) (g := F0 m 20 ls [.int (nI (i2 + j)), .ref b2, .int (nI (i + j)), .ref b]) rfl (argsL := [.int (nI (i2 + j))]) (rest := [.int (nI (i + j)), .ref b]) np_BY_byteAt rfl (by rw [hb]; exact d_BY_copy_20)) hl.1 d_BY_copy_20 ⟨Nat.le_of_ble_eq_true rfl, Nat.le_of_ble_eq_true rfl⟩ (Or.inl ⟨_, _, List.mem_cons_self⟩) (mk_ws tw_386 hts) (fun a9 U9 h9 => Ts_warm hts _ tw_22 a9 U9 h9) ⟨Nat.le_of_ble_eq_true rfl, Nat.le_of_ble_eq_true rfl⟩ (fun v w' H locs hq hI => ?_) (fun k x w' H locs hq hI hX => ?_)
        · obtain ⟨hq1, hq2⟩ := hq
          cases hq1
          rw [hq2] at hI
          refine W.eq (g2 := F0 m 23 ls [.int (nI (bw_b g2 (i2 + j))), .int (nI (i + j)), .ref b]) rfl ?_
          refine lv_i2l hx hb d_BY_copy_23 rfl ?_
          have hbl := bw_lt g2 (i2 + j)
          refine mw_tl (y := lN (bw_b g2 (i2 + j))) (nI_l (by omega)) ?_
          refine mw_call (rest := []) K hSy hP0 hI (c_BY_setByte l D dA h1 hn (i := i + j) (by omega) (lN (bw_b g2 (i2 + j)))) (mx_invV hx hown (hts _ tw_401) (hts _ tw_402) (hts _ tw_403) (hts _ tw_404) (by decide) (b := b) (mw_rc K hI h1.1 rfl) (g := F0 m 24 ls [.long (lN (bw_b g2 (i2 + j))), .int (nI (i + j)), .ref b]) rfl (argsL := [.int (nI (i + j)), .long (lN (bw_b g2 (i2 + j)))]) (rest := []) np_BY_setByte rfl (by rw [hb]; exact d_BY_copy_24)) hl.1 d_BY_copy_24 ⟨Nat.le_of_ble_eq_true rfl, Nat.le_of_ble_eq_true rfl⟩ (Or.inl ⟨_, _, List.mem_cons_self⟩) (mk_ws tw_404 hts) (fun a9 U9 h9 => Ts_warm hts _ tw_22 a9 U9 h9) ⟨Nat.le_of_ble_eq_true rfl, Nat.le_of_ble_eq_true rfl⟩ (fun v w' H locs hq hI => ?_) (fun k x w' H locs hq hI hX => ?_)
          · obtain ⟨hq1, hq2⟩ := hq
            cases hq1
            refine W.eq (g2 := F0 m 27 ls []) rfl ?_
            refine lv_iinc (v := nI (j + 1)) (lv' := [(5, .int (nI (j + 1))), (0, .ref b), (1, .int (nI i)), (2, .ref b2), (3, .int (nI i2)), (4, .int (nI k))]) hx hb d_BY_copy_27 hl (k := 0) rfl (nI_add _ _) (by decide) rfl (fun ls hl => ?_)
            refine lv_goto (tgt := 3) hx hb d_BY_copy_30 (by decide) ?_
            refine ih (j + 1) (by omega) (bw_s g1 (i + j) _) w' (by rw [hq2, hw1, mw_uu]) (hg.s ?_) H locs hI ls (lv_sub hl [0, 1, 2, 3, 4, 5] rfl)
            show (lN (bw_b g2 (i2 + j))).toBitVec.toNat % 256 = _
            rw [wb_tn (by omega), Nat.mod_eq_of_lt hbl]
          · exact absurd hq.1 (by simp)
        · exact absurd hq.1 (by simp)
  refine lv_iconst (v := nI 0) hx hb d_BY_copy_0 (by decide) ?_
  refine lv_istore (lv' := [(5, .int (nI 0)), (0, .ref b), (1, .int (nI i)), (2, .ref b2), (3, .int (nI i2)), (4, .int (nI k))]) hx hb d_BY_copy_1 hl (by decide) rfl (fun ls hl => ?_)
  exact hloop k 0 (by omega) g w (mw_self h.2) (by_w.z g i _) _ _ hI ls (lv_sub hl [0, 1, 2, 3, 4, 5] rfl)
set_option maxRecDepth 100000 in
set_option maxHeartbeats 4000000 in
theorem c_BY_same (l : Launch) (D : va_G) (dA : Nat → ClassId) {w : mw_W} {b x n : Nat} {g : Nat → Int64} (h : by_ok dA w b x n g) (hn : n ≤ 65536) {b2 x2 : Nat} {g2 : Nat → Int64} (h2 : by_ok dA w b2 x2 n g2) : CT l D dA y_BY_same (Cond.code y_BY_same b_BY_same 3 (some .boolean) :: Ts) 0 0 0 0 [.ref b, .ref b2] w (fun r w' => w' = w ∧ ∃ v : Int32, r = .inl (some (.int v)) ∧ ((v = 1 ∧ ∀ j, j < (n + 7) / 8 → g j = g2 j) ∨ (v = 0 ∧ ¬ ∀ j, j < (n + 7) / 8 → g j = g2 j))) := by
  refine mw_meth (by decide) mk_tb (Nat.le_of_ble_eq_true rfl) ?_
  intro p e s m below meth c K hr hlk hce hnm hP0 hSy ls hl
  have hl : lv_has ls 3 [(0, .ref b), (1, .ref b2)] := hl
  obtain ⟨hx, hb, hml, hown, hts, hK, hTb⟩ := id K
  have hI := mw_I.start hP0
  obtain ⟨f0, f1⟩ := h
  obtain ⟨f2, f3⟩ := h2
  have hloop : ∀ (q j : Nat), j + q = (n + 7) / 8 → (∀ i, i < j → g i = g2 i) → ∀ ls : Array Slot, lv_has ls 3 [(2, .int (nI j)), (0, .ref b), (1, .ref b2)] → W p l e { frames := 0, cells := 0, slots := 0, locals := 0 } s m ([.ref b, .ref b2] : List Value).toArray below meth c s.heap [] 0 0 (mx_Q below (mw_Qc D mk_cl w s.heap.size (fun r w' => w' = w ∧ ∃ v : Int32, r = .inl (some (.int v)) ∧ ((v = 1 ∧ ∀ j, j < (n + 7) / 8 → g j = g2 j) ∨ (v = 0 ∧ ¬ ∀ j, j < (n + 7) / 8 → g j = g2 j)))) ([.ref b, .ref b2] : List Value).toArray s 0 0 (mw_A w s.heap.size)) (F0 m 17 ls []) := by
    intro q
    induction q with
    | zero =>
      intro j hj hg ls hl
      refine lv_iload_n hx hb d_BY_same_17 rfl (lv_at hl 0 rfl) ?_
      refine lv_aload_n hx hb d_BY_same_18 rfl (lv_at hl 1 rfl) ?_
      refine mw_get K hI gf_BY_19_cBY f0 rfl d_BY_same_19 ?_
      refine mw_alen K hI tJ f1 rfl d_BY_same_22 ?_
      refine lv_icmp_ge (tgt := 50) hx hb d_BY_same_23 (by decide) (fun c23 => ?_) (fun c23 => ?_)
      ·
        refine lv_iconst (v := nI 1) hx hb d_BY_same_50 (by decide) ?_
        have e : j = (n + 7) / 8 := by omega
        subst e
        exact mw_zret K hI hr hlk (Or.inr rfl) ⟨rfl, _, rfl, Or.inl ⟨rfl, hg⟩⟩ d_BY_same_51
      ·
        exact absurd (nI_le (by omega) (by omega)) c23
    | succ q ih =>
      intro j hj hg ls hl
      refine lv_iload_n hx hb d_BY_same_17 rfl (lv_at hl 0 rfl) ?_
      refine lv_aload_n hx hb d_BY_same_18 rfl (lv_at hl 1 rfl) ?_
      refine mw_get K hI gf_BY_19_cBY f0 rfl d_BY_same_19 ?_
      refine mw_alen K hI tJ f1 rfl d_BY_same_22 ?_
      refine lv_icmp_ge (tgt := 50) hx hb d_BY_same_23 (by decide) (fun c23 => ?_) (fun c23 => ?_)
      ·
        exact absurd c23 (nI_ge (by omega) (by omega))
      ·
        refine lv_aload_n hx hb d_BY_same_26 rfl (lv_at hl 1 rfl) ?_
        refine mw_get K hI gf_BY_19_cBY f0 rfl d_BY_same_27 ?_
        refine lv_iload_n hx hb d_BY_same_30 rfl (lv_at hl 0 rfl) ?_
        refine mw_lald K hI tJ f1 rfl j rfl (by first | assumption | omega) (by omega) d_BY_same_31 ?_
        refine lv_aload_n hx hb d_BY_same_32 rfl (lv_at hl 2 rfl) ?_
        refine mw_get K hI gf_BY_19_cBY f2 rfl d_BY_same_33 ?_
        refine lv_iload_n hx hb d_BY_same_36 rfl (lv_at hl 0 rfl) ?_
        refine mw_lald K hI tJ f3 rfl j rfl (by first | assumption | omega) (by omega) d_BY_same_37 ?_
        refine W.lcmp hx hb d_BY_same_38 ?_
        refine lv_if_eq (tgt := 44) hx hb d_BY_same_39 (by decide) (fun c39 => ?_) (fun c39 => ?_)
        · rw [lg_cmp_eq] at c39
          refine lv_iinc (v := nI (j + 1)) (lv' := [(2, .int (nI (j + 1))), (0, .ref b), (1, .ref b2)]) hx hb d_BY_same_44 hl (k := 0) rfl (nI_add _ _) (by decide) rfl (fun ls hl => ?_)
          refine lv_goto (tgt := 17) hx hb d_BY_same_47 (by decide) ?_
          exact ih (j + 1) (by omega) (lt_s hg c39) ls (lv_sub hl [0, 1, 2] rfl)
        · rw [lg_cmp_eq] at c39
          refine lv_iconst (v := nI 0) hx hb d_BY_same_42 (by decide) ?_
          exact mw_zret K hI hr hlk (Or.inl rfl) ⟨rfl, _, rfl, Or.inr ⟨rfl, fun z => c39 (z j (by omega))⟩⟩ d_BY_same_43
  refine lv_aload_n hx hb d_BY_same_0 rfl (lv_at hl 0 rfl) ?_
  refine mw_get K hI gf_BY_19_cBY f0 rfl d_BY_same_1 ?_
  refine mw_alen K hI tJ f1 rfl d_BY_same_4 ?_
  refine lv_aload_n hx hb d_BY_same_5 rfl (lv_at hl 1 rfl) ?_
  refine mw_get K hI gf_BY_19_cBY f2 rfl d_BY_same_6 ?_
  refine mw_alen K hI tJ f3 rfl d_BY_same_9 ?_
  refine lv_icmp_eq (tgt := 15) hx hb d_BY_same_10 (by decide) (fun c10 => ?_) (fun c10 => ?_)
  ·
    refine lv_iconst (v := nI 0) hx hb d_BY_same_15 (by decide) ?_
    refine lv_istore_n (lv' := [(2, .int (nI 0)), (0, .ref b), (1, .ref b2)]) hx hb d_BY_same_16 rfl hl (by decide) rfl (fun ls hl => ?_)
    exact hloop ((n + 7) / 8) 0 (by omega) lt_0 ls (lv_sub hl [0, 1, 2] rfl)
  ·
    exact absurd rfl c10
end
section
/-! ### constructors -/
theorem d_AN_init_0 : decode b_AN_init 0 = .ok (.aload_n 0, 1) := by decide +kernel
theorem d_AN_init_1 : decode b_AN_init 1 = .ok (.invokespecial 3, 3) := by decide +kernel
theorem d_AN_init_4 : decode b_AN_init 4 = .ok (.aload_n 0, 1) := by decide +kernel
theorem d_AN_init_5 : decode b_AN_init 5 = .ok (.aload_n 1, 1) := by decide +kernel
theorem d_AN_init_6 : decode b_AN_init 6 = .ok (.putfield 9, 3) := by decide +kernel
theorem d_AN_init_9 : decode b_AN_init 9 = .ok (.aload_n 0, 1) := by decide +kernel
theorem d_AN_init_10 : decode b_AN_init 10 = .ok (.aload_n 2, 1) := by decide +kernel
theorem d_AN_init_11 : decode b_AN_init 11 = .ok (.putfield 15, 3) := by decide +kernel
theorem d_AN_init_14 : decode b_AN_init 14 = .ok (.aload_n 0, 1) := by decide +kernel
theorem d_AN_init_15 : decode b_AN_init 15 = .ok (.iload_n 3, 1) := by decide +kernel
theorem d_AN_init_16 : decode b_AN_init 16 = .ok (.putfield 18, 3) := by decide +kernel
theorem d_AN_init_19 : decode b_AN_init 19 = .ok (.return_, 1) := by decide +kernel
theorem d_EM_init_0 : decode b_EM_init 0 = .ok (.aload_n 0, 1) := by decide +kernel
theorem d_EM_init_1 : decode b_EM_init 1 = .ok (.aload_n 1, 1) := by decide +kernel
theorem d_EM_init_2 : decode b_EM_init 2 = .ok (.aload_n 2, 1) := by decide +kernel
theorem d_EM_init_3 : decode b_EM_init 3 = .ok (.iload_n 3, 1) := by decide +kernel
theorem d_EM_init_4 : decode b_EM_init 4 = .ok (.invokespecial 3, 3) := by decide +kernel
theorem d_EM_init_7 : decode b_EM_init 7 = .ok (.aload_n 0, 1) := by decide +kernel
theorem d_EM_init_8 : decode b_EM_init 8 = .ok (.iload 4, 2) := by decide +kernel
theorem d_EM_init_10 : decode b_EM_init 10 = .ok (.putfield 9, 3) := by decide +kernel
theorem d_EM_init_13 : decode b_EM_init 13 = .ok (.aload_n 0, 1) := by decide +kernel
theorem d_EM_init_14 : decode b_EM_init 14 = .ok (.iload 5, 2) := by decide +kernel
theorem d_EM_init_16 : decode b_EM_init 16 = .ok (.putfield 15, 3) := by decide +kernel
theorem d_EM_init_19 : decode b_EM_init 19 = .ok (.aload_n 0, 1) := by decide +kernel
theorem d_EM_init_20 : decode b_EM_init 20 = .ok (.iload 6, 2) := by decide +kernel
theorem d_EM_init_22 : decode b_EM_init 22 = .ok (.putfield 18, 3) := by decide +kernel
theorem d_EM_init_25 : decode b_EM_init 25 = .ok (.return_, 1) := by decide +kernel
theorem d_AM_init_0 : decode b_AM_init 0 = .ok (.aload_n 0, 1) := by decide +kernel
theorem d_AM_init_1 : decode b_AM_init 1 = .ok (.aload_n 1, 1) := by decide +kernel
theorem d_AM_init_2 : decode b_AM_init 2 = .ok (.aload_n 2, 1) := by decide +kernel
theorem d_AM_init_3 : decode b_AM_init 3 = .ok (.iload_n 3, 1) := by decide +kernel
theorem d_AM_init_4 : decode b_AM_init 4 = .ok (.iconst 4, 1) := by decide +kernel
theorem d_AM_init_5 : decode b_AM_init 5 = .ok (.iload 4, 2) := by decide +kernel
theorem d_AM_init_7 : decode b_AM_init 7 = .ok (.iload 5, 2) := by decide +kernel
theorem d_AM_init_9 : decode b_AM_init 9 = .ok (.invokespecial 3, 3) := by decide +kernel
theorem d_AM_init_12 : decode b_AM_init 12 = .ok (.return_, 1) := by decide +kernel
theorem mw_ub {w : mw_W} {a b : Nat} {x x2 y : va_E} (h : b ≠ a) : mw_up (mw_up (mw_up w a x) b y) a x2 = mw_up (mw_up w b y) a x2 := by
  funext q
  by_cases e : q = a
  · subst e; rw [mw_up_s, mw_up_s]
  · rw [mw_up_n _ _ e, mw_up_n _ _ e]
    by_cases e2 : q = b
    · subst e2; rw [mw_up_s, mw_up_s]
    · rw [mw_up_n _ _ e2, mw_up_n _ _ e2, mw_up_n _ _ e]
set_option maxRecDepth 100000 in
set_option maxHeartbeats 4000000 in
theorem c_BY_init (l : Launch) (D : va_G) (dA : Nat → ClassId) {w : mw_W} {b n : Nat} (f0 : w b = some (.inr (cBY, [.int 0, .null]))) (hn : n ≤ 65536) : CT l D dA y_BY_init (Cond.code y_BY_init b_BY_init 2 none :: Ts) 1 20 1 ((n + 7) / 8) [.ref b, .int (nI n)] w (fun r w' => r = .inl none ∧ ∃ x, w x = none ∧ x ≠ b ∧ w' = mw_up (mw_up w x (by_a dA n (fun _ => 0))) b (.inr (cBY, [.int (nI n), .ref x]))) := by
  refine mw_meth (by decide) mk_tb (Nat.le_of_ble_eq_true rfl) ?_
  intro p e s m below meth c K hr hlk hce hnm hP0 hSy ls hl
  have hl : lv_has ls 2 [(0, .ref b), (1, .int (nI n))] := hl
  obtain ⟨hx, hb, hml, hown, hts, hK, hTb⟩ := id K
  have hI := mw_I.start hP0
  have hin : meth.name = "<init>" := hnm
  refine lv_aload_n hx hb d_BY_init_0 rfl (lv_at hl 0 rfl) ?_
  refine W.objInit hx hb hown (hts _ tw_50) (hts _ tw_43) (hts _ tw_44) rfl (by rw [hml]; exact hl.1) rfl d_BY_init_1 (Nat.le_of_ble_eq_true rfl) (Nat.le_of_ble_eq_true rfl) ?_
  refine W.eq (g2 := F0 m 4 ls []) rfl ?_
  refine lv_aload_n hx hb d_BY_init_4 rfl (lv_at hl 0 rfl) ?_
  refine lv_iload_n hx hb d_BY_init_5 rfl (lv_at hl 1 rfl) ?_
  refine mw_put K hI gp_BY_9_cBY (Or.inr hin) f0 rfl rfl (by simp) d_BY_init_6 (fun H locs hI => ?_)
  have hI : mw_I D mk_cl w s.heap (mw_up w b (.inr (cBY, [.int (nI n), .null]))) H locs := hI
  have f0 : (mw_up w b (.inr (cBY, [.int (nI n), .null]))) b = some (.inr (cBY, [.int (nI n), .null])) := mw_up_s _ _ _
  refine lv_aload_n hx hb d_BY_init_9 rfl (lv_at hl 0 rfl) ?_
  refine lv_iload_n hx hb d_BY_init_10 rfl (lv_at hl 1 rfl) ?_
  refine mp_call (rest := [.ref b]) hb hml (c_MS_filledUp l (n := n) (by omega)) (mx_invSN hx hown (hts _ tw_51) (hts _ tw_52) (hts _ tw_21) (hts _ tw_53) (by decide) (g := F0 m 11 ls [.int (nI n), .ref b]) rfl (argsL := [.int (nI n)]) (rest := [.ref b]) np_MS_filledUp rfl (by rw [hb]; exact d_BY_init_11)) hl.1 d_BY_init_11 ⟨Nat.le_of_ble_eq_true rfl, Nat.le_of_ble_eq_true rfl⟩ (Or.inl ⟨_, _, List.mem_cons_self⟩) (mk_ws tw_53 hts) (fun a9 U9 h9 => Ts_warm hts _ tw_21 a9 U9 h9) (by first | exact ⟨Nat.le_of_ble_eq_true rfl, Nat.le_of_ble_eq_true rfl⟩ | assumption) (fun v hv => ?_)
  subst hv
  refine W.eq (g2 := F0 m 14 ls [.int (nI (up8 n)), .ref b]) rfl ?_
  refine lv_bipush (v := nI 8) hx hb d_BY_init_14 (by decide) ?_
  refine lv_idiv hx hb d_BY_init_16 (by decide) ?_
  refine mw_ti (y := nI ((n + 7) / 8)) ((by unfold up8; rw [pk_div (by omega) (by decide) (by decide)]; congr 1; omega)) ?_
  refine mw_newa K hI tJ (t := .long) rfl tw_61 rfl (fun C h => by cases h) (a0 := ((n + 7) / 8, .inr (.inl (fun _ => 0)))) (fun _ => rfl) (nI_pos (by omega)) (nI_clamp (by omega)) (by show _ * 8 ≤ _; omega) (Nat.le_refl 1) ((by dsimp only; omega)) d_BY_init_17 (fun x H hq hI => ?_)
  refine W.widen (k := 1) (n := (n + 7) / 8) (by omega) (by omega) ?_
  have hq_x := hq
  have hI : mw_I D mk_cl w s.heap (mw_up (mw_up w b (.inr (cBY, [.int (nI n), .null]))) x (.inl (dA tJ, (n + 7) / 8, .inr (.inl (fun _ => 0))))) H locs := hI
  have f0 : (mw_up (mw_up w b (.inr (cBY, [.int (nI n), .null]))) x (.inl (dA tJ, (n + 7) / 8, .inr (.inl (fun _ => 0))))) b = some (.inr (cBY, [.int (nI n), .null])) := by rw [mw_up_n _ _ (mw_neN f0 hq_x)]; exact f0
  have fx : (mw_up (mw_up w b (.inr (cBY, [.int (nI n), .null]))) x (.inl (dA tJ, (n + 7) / 8, .inr (.inl (fun _ => 0))))) x = some (.inl (dA tJ, (n + 7) / 8, .inr (.inl (fun _ => 0)))) := mw_up_s _ _ _
  refine mw_put K hI gp_BY_19_cBY (Or.inr hin) f0 rfl rfl (by simp) d_BY_init_19 (fun H locs hI => ?_)
  have hI : mw_I D mk_cl w s.heap (mw_up (mw_up (mw_up w b (.inr (cBY, [.int (nI n), .null]))) x (.inl (dA tJ, (n + 7) / 8, .inr (.inl (fun _ => 0))))) b (.inr (cBY, [.int (nI n), .ref x]))) H locs := hI
  have fx : (mw_up (mw_up (mw_up w b (.inr (cBY, [.int (nI n), .null]))) x (.inl (dA tJ, (n + 7) / 8, .inr (.inl (fun _ => 0))))) b (.inr (cBY, [.int (nI n), .ref x]))) x = some (.inl (dA tJ, (n + 7) / 8, .inr (.inl (fun _ => 0)))) := by rw [mw_up_n _ _ ((mw_neA f0 fx).symm)]; exact fx
  have f0 : (mw_up (mw_up (mw_up w b (.inr (cBY, [.int (nI n), .null]))) x (.inl (dA tJ, (n + 7) / 8, .inr (.inl (fun _ => 0))))) b (.inr (cBY, [.int (nI n), .ref x]))) b = some (.inr (cBY, [.int (nI n), .ref x])) := mw_up_s _ _ _
  have hxb : x ≠ b := by intro e; subst e; rw [mw_up_s] at hq_x; cases hq_x
  exact mw_vret K hI hr hlk ⟨rfl, x, by rw [mw_up_n _ _ hxb] at hq_x; exact hq_x, hxb, mw_ub hxb⟩ d_BY_init_22
set_option maxRecDepth 100000 in
set_option maxHeartbeats 4000000 in
theorem c_AN_init_AM (l : Launch) (D : va_G) (dA : Nat → ClassId) {w : mw_W} {b p1 p2 : Nat} {v : Int32} (f0 : w b = some (.inr (cAM, [.null, .null, .int 0, .int 0, .int 0, .int 0]))) : CT l D dA y_AN_init (Cond.code y_AN_init b_AN_init 4 none :: Ts) 1 14 0 0 [.ref b, .ref p1, .ref p2, .int v] w (fun r w' => r = .inl none ∧ w' = mw_up w b (.inr (cAM, [.ref p1, .ref p2, .int v, .int 0, .int 0, .int 0]))) := by
  refine mw_meth (by decide) mk_tb (Nat.le_of_ble_eq_true rfl) ?_
  intro p e s m below meth c K hr hlk hce hnm hP0 hSy ls hl
  have hl : lv_has ls 4 [(0, .ref b), (1, .ref p1), (2, .ref p2), (3, .int v)] := hl
  obtain ⟨hx, hb, hml, hown, hts, hK, hTb⟩ := id K
  have hI := mw_I.start hP0
  have hin : meth.name = "<init>" := hnm
  refine lv_aload_n hx hb d_AN_init_0 rfl (lv_at hl 0 rfl) ?_
  refine W.objInit hx hb hown (hts _ tw_239) (hts _ tw_43) (hts _ tw_44) rfl (by rw [hml]; exact hl.1) rfl d_AN_init_1 (Nat.le_of_ble_eq_true rfl) (Nat.le_of_ble_eq_true rfl) ?_
  refine W.eq (g2 := F0 m 4 ls []) rfl ?_
  refine lv_aload_n hx hb d_AN_init_4 rfl (lv_at hl 0 rfl) ?_
  refine lv_aload_n hx hb d_AN_init_5 rfl (lv_at hl 1 rfl) ?_
  refine mw_put K hI gp_AN_9_cAM (Or.inr hin) f0 rfl rfl (by simp) d_AN_init_6 (fun H locs hI => ?_)
  have hI : mw_I D mk_cl w s.heap (mw_up w b (.inr (cAM, [.ref p1, .null, .int 0, .int 0, .int 0, .int 0]))) H locs := hI
  have f0 : (mw_up w b (.inr (cAM, [.ref p1, .null, .int 0, .int 0, .int 0, .int 0]))) b = some (.inr (cAM, [.ref p1, .null, .int 0, .int 0, .int 0, .int 0])) := mw_up_s _ _ _
  refine lv_aload_n hx hb d_AN_init_9 rfl (lv_at hl 0 rfl) ?_
  refine lv_aload_n hx hb d_AN_init_10 rfl (lv_at hl 2 rfl) ?_
  refine mw_put K hI gp_AN_15_cAM (Or.inr hin) f0 rfl rfl (by simp) d_AN_init_11 (fun H locs hI => ?_)
  rw [mw_uu] at hI
  have hI : mw_I D mk_cl w s.heap (mw_up w b (.inr (cAM, [.ref p1, .ref p2, .int 0, .int 0, .int 0, .int 0]))) H locs := hI
  have f0 : (mw_up w b (.inr (cAM, [.ref p1, .ref p2, .int 0, .int 0, .int 0, .int 0]))) b = some (.inr (cAM, [.ref p1, .ref p2, .int 0, .int 0, .int 0, .int 0])) := mw_up_s _ _ _
  refine lv_aload_n hx hb d_AN_init_14 rfl (lv_at hl 0 rfl) ?_
  refine lv_iload_n hx hb d_AN_init_15 rfl (lv_at hl 3 rfl) ?_
  refine mw_put K hI gp_AN_18_cAM (Or.inr hin) f0 rfl rfl (by simp) d_AN_init_16 (fun H locs hI => ?_)
  rw [mw_uu] at hI
  have hI : mw_I D mk_cl w s.heap (mw_up w b (.inr (cAM, [.ref p1, .ref p2, .int v, .int 0, .int 0, .int 0]))) H locs := hI
  have f0 : (mw_up w b (.inr (cAM, [.ref p1, .ref p2, .int v, .int 0, .int 0, .int 0]))) b = some (.inr (cAM, [.ref p1, .ref p2, .int v, .int 0, .int 0, .int 0])) := mw_up_s _ _ _
  exact mw_vret K hI hr hlk ⟨rfl, rfl⟩ d_AN_init_19
set_option maxRecDepth 100000 in
set_option maxHeartbeats 4000000 in
theorem c_AN_init_TM (l : Launch) (D : va_G) (dA : Nat → ClassId) {w : mw_W} {b p1 p2 : Nat} {v : Int32} (f0 : w b = some (.inr (cTM, [.null, .null, .int 0, .int 0, .int 0, .int 0, .null, .null, .int 0, .int 0, .int 0]))) : CT l D dA y_AN_init (Cond.code y_AN_init b_AN_init 4 none :: Ts) 1 14 0 0 [.ref b, .ref p1, .ref p2, .int v] w (fun r w' => r = .inl none ∧ w' = mw_up w b (.inr (cTM, [.ref p1, .ref p2, .int v, .int 0, .int 0, .int 0, .null, .null, .int 0, .int 0, .int 0]))) := by
  refine mw_meth (by decide) mk_tb (Nat.le_of_ble_eq_true rfl) ?_
  intro p e s m below meth c K hr hlk hce hnm hP0 hSy ls hl
  have hl : lv_has ls 4 [(0, .ref b), (1, .ref p1), (2, .ref p2), (3, .int v)] := hl
  obtain ⟨hx, hb, hml, hown, hts, hK, hTb⟩ := id K
  have hI := mw_I.start hP0
  have hin : meth.name = "<init>" := hnm
  refine lv_aload_n hx hb d_AN_init_0 rfl (lv_at hl 0 rfl) ?_
  refine W.objInit hx hb hown (hts _ tw_239) (hts _ tw_43) (hts _ tw_44) rfl (by rw [hml]; exact hl.1) rfl d_AN_init_1 (Nat.le_of_ble_eq_true rfl) (Nat.le_of_ble_eq_true rfl) ?_
  refine W.eq (g2 := F0 m 4 ls []) rfl ?_
  refine lv_aload_n hx hb d_AN_init_4 rfl (lv_at hl 0 rfl) ?_
  refine lv_aload_n hx hb d_AN_init_5 rfl (lv_at hl 1 rfl) ?_
  refine mw_put K hI gp_AN_9_cTM (Or.inr hin) f0 rfl rfl (by simp) d_AN_init_6 (fun H locs hI => ?_)
  have hI : mw_I D mk_cl w s.heap (mw_up w b (.inr (cTM, [.ref p1, .null, .int 0, .int 0, .int 0, .int 0, .null, .null, .int 0, .int 0, .int 0]))) H locs := hI
  have f0 : (mw_up w b (.inr (cTM, [.ref p1, .null, .int 0, .int 0, .int 0, .int 0, .null, .null, .int 0, .int 0, .int 0]))) b = some (.inr (cTM, [.ref p1, .null, .int 0, .int 0, .int 0, .int 0, .null, .null, .int 0, .int 0, .int 0])) := mw_up_s _ _ _
  refine lv_aload_n hx hb d_AN_init_9 rfl (lv_at hl 0 rfl) ?_
  refine lv_aload_n hx hb d_AN_init_10 rfl (lv_at hl 2 rfl) ?_
  refine mw_put K hI gp_AN_15_cTM (Or.inr hin) f0 rfl rfl (by simp) d_AN_init_11 (fun H locs hI => ?_)
  rw [mw_uu] at hI
  have hI : mw_I D mk_cl w s.heap (mw_up w b (.inr (cTM, [.ref p1, .ref p2, .int 0, .int 0, .int 0, .int 0, .null, .null, .int 0, .int 0, .int 0]))) H locs := hI
  have f0 : (mw_up w b (.inr (cTM, [.ref p1, .ref p2, .int 0, .int 0, .int 0, .int 0, .null, .null, .int 0, .int 0, .int 0]))) b = some (.inr (cTM, [.ref p1, .ref p2, .int 0, .int 0, .int 0, .int 0, .null, .null, .int 0, .int 0, .int 0])) := mw_up_s _ _ _
  refine lv_aload_n hx hb d_AN_init_14 rfl (lv_at hl 0 rfl) ?_
  refine lv_iload_n hx hb d_AN_init_15 rfl (lv_at hl 3 rfl) ?_
  refine mw_put K hI gp_AN_18_cTM (Or.inr hin) f0 rfl rfl (by simp) d_AN_init_16 (fun H locs hI => ?_)
  rw [mw_uu] at hI
  have hI : mw_I D mk_cl w s.heap (mw_up w b (.inr (cTM, [.ref p1, .ref p2, .int v, .int 0, .int 0, .int 0, .null, .null, .int 0, .int 0, .int 0]))) H locs := hI
  have f0 : (mw_up w b (.inr (cTM, [.ref p1, .ref p2, .int v, .int 0, .int 0, .int 0, .null, .null, .int 0, .int 0, .int 0]))) b = some (.inr (cTM, [.ref p1, .ref p2, .int v, .int 0, .int 0, .int 0, .null, .null, .int 0, .int 0, .int 0])) := mw_up_s _ _ _
  exact mw_vret K hI hr hlk ⟨rfl, rfl⟩ d_AN_init_19
set_option maxRecDepth 100000 in
set_option maxHeartbeats 4000000 in
theorem c_AN_init_RM (l : Launch) (D : va_G) (dA : Nat → ClassId) {w : mw_W} {b p1 p2 : Nat} {v : Int32} (f0 : w b = some (.inr (cRM, [.null, .null, .int 0, .int 0, .long 0, .long 0, .int 0, .int 0]))) : CT l D dA y_AN_init (Cond.code y_AN_init b_AN_init 4 none :: Ts) 1 14 0 0 [.ref b, .ref p1, .ref p2, .int v] w (fun r w' => r = .inl none ∧ w' = mw_up w b (.inr (cRM, [.ref p1, .ref p2, .int v, .int 0, .long 0, .long 0, .int 0, .int 0]))) := by
  refine mw_meth (by decide) mk_tb (Nat.le_of_ble_eq_true rfl) ?_
  intro p e s m below meth c K hr hlk hce hnm hP0 hSy ls hl
  have hl : lv_has ls 4 [(0, .ref b), (1, .ref p1), (2, .ref p2), (3, .int v)] := hl
  obtain ⟨hx, hb, hml, hown, hts, hK, hTb⟩ := id K
  have hI := mw_I.start hP0
  have hin : meth.name = "<init>" := hnm
  refine lv_aload_n hx hb d_AN_init_0 rfl (lv_at hl 0 rfl) ?_
  refine W.objInit hx hb hown (hts _ tw_239) (hts _ tw_43) (hts _ tw_44) rfl (by rw [hml]; exact hl.1) rfl d_AN_init_1 (Nat.le_of_ble_eq_true rfl) (Nat.le_of_ble_eq_true rfl) ?_
  refine W.eq (g2 := F0 m 4 ls []) rfl ?_
  refine lv_aload_n hx hb d_AN_init_4 rfl (lv_at hl 0 rfl) ?_
  refine lv_aload_n hx hb d_AN_init_5 rfl (lv_at hl 1 rfl) ?_
  refine mw_put K hI gp_AN_9_cRM (Or.inr hin) f0 rfl rfl (by simp) d_AN_init_6 (fun H locs hI => ?_)
  have hI : mw_I D mk_cl w s.heap (mw_up w b (.inr (cRM, [.ref p1, .null, .int 0, .int 0, .long 0, .long 0, .int 0, .int 0]))) H locs := hI
  have f0 : (mw_up w b (.inr (cRM, [.ref p1, .null, .int 0, .int 0, .long 0, .long 0, .int 0, .int 0]))) b = some (.inr (cRM, [.ref p1, .null, .int 0, .int 0, .long 0, .long 0, .int 0, .int 0])) := mw_up_s _ _ _
  refine lv_aload_n hx hb d_AN_init_9 rfl (lv_at hl 0 rfl) ?_
  refine lv_aload_n hx hb d_AN_init_10 rfl (lv_at hl 2 rfl) ?_
  refine mw_put K hI gp_AN_15_cRM (Or.inr hin) f0 rfl rfl (by simp) d_AN_init_11 (fun H locs hI => ?_)
  rw [mw_uu] at hI
  have hI : mw_I D mk_cl w s.heap (mw_up w b (.inr (cRM, [.ref p1, .ref p2, .int 0, .int 0, .long 0, .long 0, .int 0, .int 0]))) H locs := hI
  have f0 : (mw_up w b (.inr (cRM, [.ref p1, .ref p2, .int 0, .int 0, .long 0, .long 0, .int 0, .int 0]))) b = some (.inr (cRM, [.ref p1, .ref p2, .int 0, .int 0, .long 0, .long 0, .int 0, .int 0])) := mw_up_s _ _ _
  refine lv_aload_n hx hb d_AN_init_14 rfl (lv_at hl 0 rfl) ?_
  refine lv_iload_n hx hb d_AN_init_15 rfl (lv_at hl 3 rfl) ?_
  refine mw_put K hI gp_AN_18_cRM (Or.inr hin) f0 rfl rfl (by simp) d_AN_init_16 (fun H locs hI => ?_)
  rw [mw_uu] at hI
  have hI : mw_I D mk_cl w s.heap (mw_up w b (.inr (cRM, [.ref p1, .ref p2, .int v, .int 0, .long 0, .long 0, .int 0, .int 0]))) H locs := hI
  have f0 : (mw_up w b (.inr (cRM, [.ref p1, .ref p2, .int v, .int 0, .long 0, .long 0, .int 0, .int 0]))) b = some (.inr (cRM, [.ref p1, .ref p2, .int v, .int 0, .long 0, .long 0, .int 0, .int 0])) := mw_up_s _ _ _
  exact mw_vret K hI hr hlk ⟨rfl, rfl⟩ d_AN_init_19
end
section
/-! ### constructors, on -/
theorem d_TM_init_0 : decode b_TM_init 0 = .ok (.aload_n 0, 1) := by decide +kernel
theorem d_TM_init_1 : decode b_TM_init 1 = .ok (.aload_n 1, 1) := by decide +kernel
theorem d_TM_init_2 : decode b_TM_init 2 = .ok (.aload_n 2, 1) := by decide +kernel
theorem d_TM_init_3 : decode b_TM_init 3 = .ok (.iload_n 3, 1) := by decide +kernel
theorem d_TM_init_4 : decode b_TM_init 4 = .ok (.iload 4, 2) := by decide +kernel
theorem d_TM_init_6 : decode b_TM_init 6 = .ok (.iload 5, 2) := by decide +kernel
theorem d_TM_init_8 : decode b_TM_init 8 = .ok (.iload 6, 2) := by decide +kernel
theorem d_TM_init_10 : decode b_TM_init 10 = .ok (.invokespecial 3, 3) := by decide +kernel
theorem d_TM_init_13 : decode b_TM_init 13 = .ok (.aload_n 0, 1) := by decide +kernel
theorem d_TM_init_14 : decode b_TM_init 14 = .ok (.iconst 0, 1) := by decide +kernel
theorem d_TM_init_15 : decode b_TM_init 15 = .ok (.putfield 9, 3) := by decide +kernel
theorem d_TM_init_18 : decode b_TM_init 18 = .ok (.aload_n 0, 1) := by decide +kernel
theorem d_TM_init_19 : decode b_TM_init 19 = .ok (.iconst 0, 1) := by decide +kernel
theorem d_TM_init_20 : decode b_TM_init 20 = .ok (.putfield 15, 3) := by decide +kernel
theorem d_TM_init_23 : decode b_TM_init 23 = .ok (.aload_n 0, 1) := by decide +kernel
theorem d_TM_init_24 : decode b_TM_init 24 = .ok (.iconst 0, 1) := by decide +kernel
theorem d_TM_init_25 : decode b_TM_init 25 = .ok (.putfield 18, 3) := by decide +kernel
theorem d_TM_init_28 : decode b_TM_init 28 = .ok (.aload_n 0, 1) := by decide +kernel
theorem d_TM_init_29 : decode b_TM_init 29 = .ok (.iload 6, 2) := by decide +kernel
theorem d_TM_init_31 : decode b_TM_init 31 = .ok (.anewarray 21, 3) := by decide +kernel
theorem d_TM_init_34 : decode b_TM_init 34 = .ok (.putfield 23, 3) := by decide +kernel
theorem d_TM_init_37 : decode b_TM_init 37 = .ok (.aload_n 0, 1) := by decide +kernel
theorem d_TM_init_38 : decode b_TM_init 38 = .ok (.new 21, 3) := by decide +kernel
theorem d_TM_init_41 : decode b_TM_init 41 = .ok (.dup, 1) := by decide +kernel
theorem d_TM_init_42 : decode b_TM_init 42 = .ok (.iload 4, 2) := by decide +kernel
theorem d_TM_init_44 : decode b_TM_init 44 = .ok (.invokespecial 27, 3) := by decide +kernel
theorem d_TM_init_47 : decode b_TM_init 47 = .ok (.putfield 30, 3) := by decide +kernel
theorem d_TM_init_50 : decode b_TM_init 50 = .ok (.return_, 1) := by decide +kernel
theorem d_RM_init_0 : decode b_RM_init 0 = .ok (.aload_n 0, 1) := by decide +kernel
theorem d_RM_init_1 : decode b_RM_init 1 = .ok (.aload_n 1, 1) := by decide +kernel
theorem d_RM_init_2 : decode b_RM_init 2 = .ok (.aload_n 2, 1) := by decide +kernel
theorem d_RM_init_3 : decode b_RM_init 3 = .ok (.iload_n 3, 1) := by decide +kernel
theorem d_RM_init_4 : decode b_RM_init 4 = .ok (.invokespecial 3, 3) := by decide +kernel
theorem d_RM_init_7 : decode b_RM_init 7 = .ok (.aload_n 0, 1) := by decide +kernel
theorem d_RM_init_8 : decode b_RM_init 8 = .ok (.lconst 0, 1) := by decide +kernel
theorem d_RM_init_9 : decode b_RM_init 9 = .ok (.putfield 9, 3) := by decide +kernel
theorem d_RM_init_12 : decode b_RM_init 12 = .ok (.aload_n 0, 1) := by decide +kernel
theorem d_RM_init_13 : decode b_RM_init 13 = .ok (.lconst 0, 1) := by decide +kernel
theorem d_RM_init_14 : decode b_RM_init 14 = .ok (.putfield 15, 3) := by decide +kernel
theorem d_RM_init_17 : decode b_RM_init 17 = .ok (.aload_n 0, 1) := by decide +kernel
theorem d_RM_init_18 : decode b_RM_init 18 = .ok (.iconst 0, 1) := by decide +kernel
theorem d_RM_init_19 : decode b_RM_init 19 = .ok (.putfield 18, 3) := by decide +kernel
theorem d_RM_init_22 : decode b_RM_init 22 = .ok (.aload_n 0, 1) := by decide +kernel
theorem d_RM_init_23 : decode b_RM_init 23 = .ok (.iconst 0, 1) := by decide +kernel
theorem d_RM_init_24 : decode b_RM_init 24 = .ok (.putfield 22, 3) := by decide +kernel
theorem d_RM_init_27 : decode b_RM_init 27 = .ok (.aload_n 0, 1) := by decide +kernel
theorem d_RM_init_28 : decode b_RM_init 28 = .ok (.iload 4, 2) := by decide +kernel
theorem d_RM_init_30 : decode b_RM_init 30 = .ok (.putfield 26, 3) := by decide +kernel
theorem d_RM_init_33 : decode b_RM_init 33 = .ok (.return_, 1) := by decide +kernel
theorem d_MS_init_0 : decode b_MS_init 0 = .ok (.aload_n 0, 1) := by decide +kernel
theorem d_MS_init_1 : decode b_MS_init 1 = .ok (.invokespecial 3, 3) := by decide +kernel
theorem d_MS_init_4 : decode b_MS_init 4 = .ok (.aload_n 0, 1) := by decide +kernel
theorem d_MS_init_5 : decode b_MS_init 5 = .ok (.new 9, 3) := by decide +kernel
theorem d_MS_init_8 : decode b_MS_init 8 = .ok (.dup, 1) := by decide +kernel
theorem d_MS_init_9 : decode b_MS_init 9 = .ok (.sipush 512, 3) := by decide +kernel
theorem d_MS_init_12 : decode b_MS_init 12 = .ok (.invokespecial 11, 3) := by decide +kernel
theorem d_MS_init_15 : decode b_MS_init 15 = .ok (.putfield 14, 3) := by decide +kernel
theorem d_MS_init_18 : decode b_MS_init 18 = .ok (.aload_n 0, 1) := by decide +kernel
theorem d_MS_init_19 : decode b_MS_init 19 = .ok (.new 9, 3) := by decide +kernel
theorem d_MS_init_22 : decode b_MS_init 22 = .ok (.dup, 1) := by decide +kernel
theorem d_MS_init_23 : decode b_MS_init 23 = .ok (.ldc 18, 2) := by decide +kernel
theorem d_MS_init_25 : decode b_MS_init 25 = .ok (.invokespecial 11, 3) := by decide +kernel
theorem d_MS_init_28 : decode b_MS_init 28 = .ok (.putfield 19, 3) := by decide +kernel
theorem d_MS_init_31 : decode b_MS_init 31 = .ok (.aload_n 0, 1) := by decide +kernel
theorem d_MS_init_32 : decode b_MS_init 32 = .ok (.bipush 64, 2) := by decide +kernel
theorem d_MS_init_34 : decode b_MS_init 34 = .ok (.anewarray 22, 3) := by decide +kernel
theorem d_MS_init_37 : decode b_MS_init 37 = .ok (.putfield 24, 3) := by decide +kernel
theorem d_MS_init_40 : decode b_MS_init 40 = .ok (.aload_n 0, 1) := by decide +kernel
theorem d_MS_init_41 : decode b_MS_init 41 = .ok (.iconst 0, 1) := by decide +kernel
theorem d_MS_init_42 : decode b_MS_init 42 = .ok (.putfield 28, 3) := by decide +kernel
theorem d_MS_init_45 : decode b_MS_init 45 = .ok (.aload_n 0, 1) := by decide +kernel
theorem d_MS_init_46 : decode b_MS_init 46 = .ok (.iconst 0, 1) := by decide +kernel
theorem d_MS_init_47 : decode b_MS_init 47 = .ok (.putfield 32, 3) := by decide +kernel
theorem d_MS_init_50 : decode b_MS_init 50 = .ok (.return_, 1) := by decide +kernel
theorem mw_nn {w M : mw_W} {a b : Nat} {z : va_E} (F : ∀ (q : Nat) (y : va_E), w q = some y → q ≠ b → M q = some y) (hb : M b = some z) (hq : M a = none) : w a = none := by
  cases h : w a with
  | none => rfl
  | some y =>
    exfalso
    by_cases e : a = b
    · subst e; rw [hb] at hq; cases hq
    · rw [F a y h e] at hq; cases hq
set_option maxRecDepth 100000 in
set_option maxHeartbeats 4000000 in
theorem c_EM_init_AM (l : Launch) (D : va_G) (dA : Nat → ClassId) {w : mw_W} {b p1 p2 : Nat} {v k1 k2 k3 : Int32} (f0 : w b = some (.inr (cAM, [.null, .null, .int 0, .int 0, .int 0, .int 0]))) : CT l D dA y_EM_init (Cond.code y_EM_init b_EM_init 7 none :: Ts) 2 40 0 0 [.ref b, .ref p1, .ref p2, .int v, .int k1, .int k2, .int k3] w (fun r w' => r = .inl none ∧ w' = mw_up w b (.inr (cAM, [.ref p1, .ref p2, .int v, .int k1, .int k2, .int k3]))) := by
  refine mw_meth (by decide) mk_tb (Nat.le_of_ble_eq_true rfl) ?_
  intro p e s m below meth c K hr hlk hce hnm hP0 hSy ls hl
  have hl : lv_has ls 7 [(0, .ref b), (1, .ref p1), (2, .ref p2), (3, .int v), (4, .int k1), (5, .int k2), (6, .int k3)] := hl
  obtain ⟨hx, hb, hml, hown, hts, hK, hTb⟩ := id K
  have hI := mw_I.start hP0
  have hin : meth.name = "<init>" := hnm
  refine lv_aload_n hx hb d_EM_init_0 rfl (lv_at hl 0 rfl) ?_
  refine lv_aload_n hx hb d_EM_init_1 rfl (lv_at hl 1 rfl) ?_
  refine lv_aload_n hx hb d_EM_init_2 rfl (lv_at hl 2 rfl) ?_
  refine lv_iload_n hx hb d_EM_init_3 rfl (lv_at hl 3 rfl) ?_
  refine mw_call (rest := []) K hSy hP0 hI (c_AN_init_AM l D dA f0) (mx_invI hx hown rfl (hts _ tw_236) (hts _ tw_237) (hts _ tw_238) (by decide) (g := F0 m 4 ls [.int v, .ref p2, .ref p1, .ref b]) rfl (a := b) (argsL := [.ref p1, .ref p2, .int v]) (rest := []) np_AN_init rfl (by rw [hb]; exact d_EM_init_4)) hl.1 d_EM_init_4 ⟨Nat.le_of_ble_eq_true rfl, Nat.le_of_ble_eq_true rfl⟩ (Or.inl ⟨_, _, List.mem_cons_self⟩) (mk_ws tw_238 hts) (fun a9 U9 h9 => Ts_warm hts _ tw_30 a9 U9 h9) ⟨Nat.le_of_ble_eq_true rfl, Nat.le_of_ble_eq_true rfl⟩ (fun v w' H locs hq hI => ?_) (fun k x w' H locs hq hI hX => ?_)
  · obtain ⟨hq1, hq2⟩ := hq
    cases hq1
    rw [hq2] at hI
    refine W.eq (g2 := F0 m 7 ls []) rfl ?_
    have hI : mw_I D mk_cl w s.heap (mw_up w b (.inr (cAM, [.ref p1, .ref p2, .int v, .int 0, .int 0, .int 0]))) H locs := hI
    have f0 : (mw_up w b (.inr (cAM, [.ref p1, .ref p2, .int v, .int 0, .int 0, .int 0]))) b = some (.inr (cAM, [.ref p1, .ref p2, .int v, .int 0, .int 0, .int 0])) := mw_up_s _ _ _
    refine lv_aload_n hx hb d_EM_init_7 rfl (lv_at hl 0 rfl) ?_
    refine lv_iload hx hb d_EM_init_8 (lv_at hl 4 rfl) ?_
    refine mw_put K hI gp_EM_9_cAM (Or.inr hin) f0 rfl rfl (by simp) d_EM_init_10 (fun H locs hI => ?_)
    rw [mw_uu] at hI
    have hI : mw_I D mk_cl w s.heap (mw_up w b (.inr (cAM, [.ref p1, .ref p2, .int v, .int k1, .int 0, .int 0]))) H locs := hI
    have f0 : (mw_up w b (.inr (cAM, [.ref p1, .ref p2, .int v, .int k1, .int 0, .int 0]))) b = some (.inr (cAM, [.ref p1, .ref p2, .int v, .int k1, .int 0, .int 0])) := mw_up_s _ _ _
    refine lv_aload_n hx hb d_EM_init_13 rfl (lv_at hl 0 rfl) ?_
    refine lv_iload hx hb d_EM_init_14 (lv_at hl 5 rfl) ?_
    refine mw_put K hI gp_EM_15_cAM (Or.inr hin) f0 rfl rfl (by simp) d_EM_init_16 (fun H locs hI => ?_)
    rw [mw_uu] at hI
    have hI : mw_I D mk_cl w s.heap (mw_up w b (.inr (cAM, [.ref p1, .ref p2, .int v, .int k1, .int k2, .int 0]))) H locs := hI
    have f0 : (mw_up w b (.inr (cAM, [.ref p1, .ref p2, .int v, .int k1, .int k2, .int 0]))) b = some (.inr (cAM, [.ref p1, .ref p2, .int v, .int k1, .int k2, .int 0])) := mw_up_s _ _ _
    refine lv_aload_n hx hb d_EM_init_19 rfl (lv_at hl 0 rfl) ?_
    refine lv_iload hx hb d_EM_init_20 (lv_at hl 6 rfl) ?_
    refine mw_put K hI gp_EM_18_cAM (Or.inr hin) f0 rfl rfl (by simp) d_EM_init_22 (fun H locs hI => ?_)
    rw [mw_uu] at hI
    have hI : mw_I D mk_cl w s.heap (mw_up w b (.inr (cAM, [.ref p1, .ref p2, .int v, .int k1, .int k2, .int k3]))) H locs := hI
    have f0 : (mw_up w b (.inr (cAM, [.ref p1, .ref p2, .int v, .int k1, .int k2, .int k3]))) b = some (.inr (cAM, [.ref p1, .ref p2, .int v, .int k1, .int k2, .int k3])) := mw_up_s _ _ _
    exact mw_vret K hI hr hlk ⟨rfl, rfl⟩ d_EM_init_25
  · exact absurd hq.1 (by simp)
set_option maxRecDepth 100000 in
set_option maxHeartbeats 4000000 in
theorem c_EM_init_TM (l : Launch) (D : va_G) (dA : Nat → ClassId) {w : mw_W} {b p1 p2 : Nat} {v k1 k2 k3 : Int32} (f0 : w b = some (.inr (cTM, [.null, .null, .int 0, .int 0, .int 0, .int 0, .null, .null, .int 0, .int 0, .int 0]))) : CT l D dA y_EM_init (Cond.code y_EM_init b_EM_init 7 none :: Ts) 2 40 0 0 [.ref b, .ref p1, .ref p2, .int v, .int k1, .int k2, .int k3] w (fun r w' => r = .inl none ∧ w' = mw_up w b (.inr (cTM, [.ref p1, .ref p2, .int v, .int k1, .int k2, .int k3, .null, .null, .int 0, .int 0, .int 0]))) := by
  refine mw_meth (by decide) mk_tb (Nat.le_of_ble_eq_true rfl) ?_
  intro p e s m below meth c K hr hlk hce hnm hP0 hSy ls hl
  have hl : lv_has ls 7 [(0, .ref b), (1, .ref p1), (2, .ref p2), (3, .int v), (4, .int k1), (5, .int k2), (6, .int k3)] := hl
  obtain ⟨hx, hb, hml, hown, hts, hK, hTb⟩ := id K
  have hI := mw_I.start hP0
  have hin : meth.name = "<init>" := hnm
  refine lv_aload_n hx hb d_EM_init_0 rfl (lv_at hl 0 rfl) ?_
  refine lv_aload_n hx hb d_EM_init_1 rfl (lv_at hl 1 rfl) ?_
  refine lv_aload_n hx hb d_EM_init_2 rfl (lv_at hl 2 rfl) ?_
  refine lv_iload_n hx hb d_EM_init_3 rfl (lv_at hl 3 rfl) ?_
  refine mw_call (rest := []) K hSy hP0 hI (c_AN_init_TM l D dA f0) (mx_invI hx hown rfl (hts _ tw_236) (hts _ tw_237) (hts _ tw_238) (by decide) (g := F0 m 4 ls [.int v, .ref p2, .ref p1, .ref b]) rfl (a := b) (argsL := [.ref p1, .ref p2, .int v]) (rest := []) np_AN_init rfl (by rw [hb]; exact d_EM_init_4)) hl.1 d_EM_init_4 ⟨Nat.le_of_ble_eq_true rfl, Nat.le_of_ble_eq_true rfl⟩ (Or.inl ⟨_, _, List.mem_cons_self⟩) (mk_ws tw_238 hts) (fun a9 U9 h9 => Ts_warm hts _ tw_30 a9 U9 h9) ⟨Nat.le_of_ble_eq_true rfl, Nat.le_of_ble_eq_true rfl⟩ (fun v w' H locs hq hI => ?_) (fun k x w' H locs hq hI hX => ?_)
  · obtain ⟨hq1, hq2⟩ := hq
    cases hq1
    rw [hq2] at hI
    refine W.eq (g2 := F0 m 7 ls []) rfl ?_
    have hI : mw_I D mk_cl w s.heap (mw_up w b (.inr (cTM, [.ref p1, .ref p2, .int v, .int 0, .int 0, .int 0, .null, .null, .int 0, .int 0, .int 0]))) H locs := hI
    have f0 : (mw_up w b (.inr (cTM, [.ref p1, .ref p2, .int v, .int 0, .int 0, .int 0, .null, .null, .int 0, .int 0, .int 0]))) b = some (.inr (cTM, [.ref p1, .ref p2, .int v, .int 0, .int 0, .int 0, .null, .null, .int 0, .int 0, .int 0])) := mw_up_s _ _ _
    refine lv_aload_n hx hb d_EM_init_7 rfl (lv_at hl 0 rfl) ?_
    refine lv_iload hx hb d_EM_init_8 (lv_at hl 4 rfl) ?_
    refine mw_put K hI gp_EM_9_cTM (Or.inr hin) f0 rfl rfl (by simp) d_EM_init_10 (fun H locs hI => ?_)
    rw [mw_uu] at hI
    have hI : mw_I D mk_cl w s.heap (mw_up w b (.inr (cTM, [.ref p1, .ref p2, .int v, .int k1, .int 0, .int 0, .null, .null, .int 0, .int 0, .int 0]))) H locs := hI
    have f0 : (mw_up w b (.inr (cTM, [.ref p1, .ref p2, .int v, .int k1, .int 0, .int 0, .null, .null, .int 0, .int 0, .int 0]))) b = some (.inr (cTM, [.ref p1, .ref p2, .int v, .int k1, .int 0, .int 0, .null, .null, .int 0, .int 0, .int 0])) := mw_up_s _ _ _
    refine lv_aload_n hx hb d_EM_init_13 rfl (lv_at hl 0 rfl) ?_
    refine lv_iload hx hb d_EM_init_14 (lv_at hl 5 rfl) ?_
    refine mw_put K hI gp_EM_15_cTM (Or.inr hin) f0 rfl rfl (by simp) d_EM_init_16 (fun H locs hI => ?_)
    rw [mw_uu] at hI
    have hI : mw_I D mk_cl w s.heap (mw_up w b (.inr (cTM, [.ref p1, .ref p2, .int v, .int k1, .int k2, .int 0, .null, .null, .int 0, .int 0, .int 0]))) H locs := hI
    have f0 : (mw_up w b (.inr (cTM, [.ref p1, .ref p2, .int v, .int k1, .int k2, .int 0, .null, .null, .int 0, .int 0, .int 0]))) b = some (.inr (cTM, [.ref p1, .ref p2, .int v, .int k1, .int k2, .int 0, .null, .null, .int 0, .int 0, .int 0])) := mw_up_s _ _ _
    refine lv_aload_n hx hb d_EM_init_19 rfl (lv_at hl 0 rfl) ?_
    refine lv_iload hx hb d_EM_init_20 (lv_at hl 6 rfl) ?_
    refine mw_put K hI gp_EM_18_cTM (Or.inr hin) f0 rfl rfl (by simp) d_EM_init_22 (fun H locs hI => ?_)
    rw [mw_uu] at hI
    have hI : mw_I D mk_cl w s.heap (mw_up w b (.inr (cTM, [.ref p1, .ref p2, .int v, .int k1, .int k2, .int k3, .null, .null, .int 0, .int 0, .int 0]))) H locs := hI
    have f0 : (mw_up w b (.inr (cTM, [.ref p1, .ref p2, .int v, .int k1, .int k2, .int k3, .null, .null, .int 0, .int 0, .int 0]))) b = some (.inr (cTM, [.ref p1, .ref p2, .int v, .int k1, .int k2, .int k3, .null, .null, .int 0, .int 0, .int 0])) := mw_up_s _ _ _
    exact mw_vret K hI hr hlk ⟨rfl, rfl⟩ d_EM_init_25
  · exact absurd hq.1 (by simp)
set_option maxRecDepth 100000 in
set_option maxHeartbeats 4000000 in
theorem c_AM_init (l : Launch) (D : va_G) (dA : Nat → ClassId) {w : mw_W} {b p1 p2 : Nat} {v k2 k3 : Int32} (f0 : w b = some (.inr (cAM, [.null, .null, .int 0, .int 0, .int 0, .int 0]))) : CT l D dA y_AM_init (Cond.code y_AM_init b_AM_init 6 none :: Ts) 3 70 0 0 [.ref b, .ref p1, .ref p2, .int v, .int k2, .int k3] w (fun r w' => r = .inl none ∧ w' = mw_up w b (.inr (cAM, [.ref p1, .ref p2, .int v, .int (nI 4), .int k2, .int k3]))) := by
  refine mw_meth (by decide) mk_tb (Nat.le_of_ble_eq_true rfl) ?_
  intro p e s m below meth c K hr hlk hce hnm hP0 hSy ls hl
  have hl : lv_has ls 6 [(0, .ref b), (1, .ref p1), (2, .ref p2), (3, .int v), (4, .int k2), (5, .int k3)] := hl
  obtain ⟨hx, hb, hml, hown, hts, hK, hTb⟩ := id K
  have hI := mw_I.start hP0
  have hin : meth.name = "<init>" := hnm
  refine lv_aload_n hx hb d_AM_init_0 rfl (lv_at hl 0 rfl) ?_
  refine lv_aload_n hx hb d_AM_init_1 rfl (lv_at hl 1 rfl) ?_
  refine lv_aload_n hx hb d_AM_init_2 rfl (lv_at hl 2 rfl) ?_
  refine lv_iload_n hx hb d_AM_init_3 rfl (lv_at hl 3 rfl) ?_
  refine lv_iconst (v := nI 4) hx hb d_AM_init_4 (by decide) ?_
  refine lv_iload hx hb d_AM_init_5 (lv_at hl 4 rfl) ?_
  refine lv_iload hx hb d_AM_init_7 (lv_at hl 5 rfl) ?_
  refine mw_call (rest := []) K hSy hP0 hI (c_EM_init_AM l D dA f0) (mx_invI hx hown rfl (hts _ tw_233) (hts _ tw_234) (hts _ tw_235) (by decide) (g := F0 m 9 ls [.int k3, .int k2, .int (nI 4), .int v, .ref p2, .ref p1, .ref b]) rfl (a := b) (argsL := [.ref p1, .ref p2, .int v, .int (nI 4), .int k2, .int k3]) (rest := []) np_EM_init rfl (by rw [hb]; exact d_AM_init_9)) hl.1 d_AM_init_9 ⟨Nat.le_of_ble_eq_true rfl, Nat.le_of_ble_eq_true rfl⟩ (Or.inl ⟨_, _, List.mem_cons_self⟩) (mk_ws tw_235 hts) (fun a9 U9 h9 => Ts_warm hts _ tw_31 a9 U9 h9) ⟨Nat.le_of_ble_eq_true rfl, Nat.le_of_ble_eq_true rfl⟩ (fun v w' H locs hq hI => ?_) (fun k x w' H locs hq hI hX => ?_)
  · obtain ⟨hq1, hq2⟩ := hq
    cases hq1
    refine W.eq (g2 := F0 m 12 ls []) rfl ?_
    exact mw_vret K hI hr hlk ⟨rfl, hq2⟩ d_AM_init_12
  · exact absurd hq.1 (by simp)
set_option maxRecDepth 100000 in
set_option maxHeartbeats 4000000 in
theorem c_RM_init (l : Launch) (D : va_G) (dA : Nat → ClassId) {w : mw_W} {b p1 p2 : Nat} {v k : Int32} (f0 : w b = some (.inr (cRM, [.null, .null, .int 0, .int 0, .long 0, .long 0, .int 0, .int 0]))) : CT l D dA y_RM_init (Cond.code y_RM_init b_RM_init 5 none :: Ts) 2 40 0 0 [.ref b, .ref p1, .ref p2, .int v, .int k] w (fun r w' => r = .inl none ∧ w' = mw_up w b (.inr (cRM, [.ref p1, .ref p2, .int v, .int k, .long (lN 0), .long (lN 0), .int (nI 0), .int (nI 0)]))) := by
  refine mw_meth (by decide) mk_tb (Nat.le_of_ble_eq_true rfl) ?_
  intro p e s m below meth c K hr hlk hce hnm hP0 hSy ls hl
  have hl : lv_has ls 5 [(0, .ref b), (1, .ref p1), (2, .ref p2), (3, .int v), (4, .int k)] := hl
  obtain ⟨hx, hb, hml, hown, hts, hK, hTb⟩ := id K
  have hI := mw_I.start hP0
  have hin : meth.name = "<init>" := hnm
  refine lv_aload_n hx hb d_RM_init_0 rfl (lv_at hl 0 rfl) ?_
  refine lv_aload_n hx hb d_RM_init_1 rfl (lv_at hl 1 rfl) ?_
  refine lv_aload_n hx hb d_RM_init_2 rfl (lv_at hl 2 rfl) ?_
  refine lv_iload_n hx hb d_RM_init_3 rfl (lv_at hl 3 rfl) ?_
  refine mw_call (rest := []) K hSy hP0 hI (c_AN_init_RM l D dA f0) (mx_invI hx hown rfl (hts _ tw_318) (hts _ tw_237) (hts _ tw_238) (by decide) (g := F0 m 4 ls [.int v, .ref p2, .ref p1, .ref b]) rfl (a := b) (argsL := [.ref p1, .ref p2, .int v]) (rest := []) np_AN_init rfl (by rw [hb]; exact d_RM_init_4)) hl.1 d_RM_init_4 ⟨Nat.le_of_ble_eq_true rfl, Nat.le_of_ble_eq_true rfl⟩ (Or.inl ⟨_, _, List.mem_cons_self⟩) (mk_ws tw_238 hts) (fun a9 U9 h9 => Ts_warm hts _ tw_30 a9 U9 h9) ⟨Nat.le_of_ble_eq_true rfl, Nat.le_of_ble_eq_true rfl⟩ (fun v w' H locs hq hI => ?_) (fun k x w' H locs hq hI hX => ?_)
  · obtain ⟨hq1, hq2⟩ := hq
    cases hq1
    rw [hq2] at hI
    refine W.eq (g2 := F0 m 7 ls []) rfl ?_
    have hI : mw_I D mk_cl w s.heap (mw_up w b (.inr (cRM, [.ref p1, .ref p2, .int v, .int 0, .long 0, .long 0, .int 0, .int 0]))) H locs := hI
    have f0 : (mw_up w b (.inr (cRM, [.ref p1, .ref p2, .int v, .int 0, .long 0, .long 0, .int 0, .int 0]))) b = some (.inr (cRM, [.ref p1, .ref p2, .int v, .int 0, .long 0, .long 0, .int 0, .int 0])) := mw_up_s _ _ _
    refine lv_aload_n hx hb d_RM_init_7 rfl (lv_at hl 0 rfl) ?_
    refine lv_lconst (v := lN 0) hx hb d_RM_init_8 (by decide) ?_
    refine mw_put K hI gp_RM_9_cRM (Or.inl ⟨_, rfl, rfl⟩) f0 rfl rfl (by simp) d_RM_init_9 (fun H locs hI => ?_)
    rw [mw_uu] at hI
    have hI : mw_I D mk_cl w s.heap (mw_up w b (.inr (cRM, [.ref p1, .ref p2, .int v, .int 0, .long (lN 0), .long 0, .int 0, .int 0]))) H locs := hI
    have f0 : (mw_up w b (.inr (cRM, [.ref p1, .ref p2, .int v, .int 0, .long (lN 0), .long 0, .int 0, .int 0]))) b = some (.inr (cRM, [.ref p1, .ref p2, .int v, .int 0, .long (lN 0), .long 0, .int 0, .int 0])) := mw_up_s _ _ _
    refine lv_aload_n hx hb d_RM_init_12 rfl (lv_at hl 0 rfl) ?_
    refine lv_lconst (v := lN 0) hx hb d_RM_init_13 (by decide) ?_
    refine mw_put K hI gp_RM_15_cRM (Or.inl ⟨_, rfl, rfl⟩) f0 rfl rfl (by simp) d_RM_init_14 (fun H locs hI => ?_)
    rw [mw_uu] at hI
    have hI : mw_I D mk_cl w s.heap (mw_up w b (.inr (cRM, [.ref p1, .ref p2, .int v, .int 0, .long (lN 0), .long (lN 0), .int 0, .int 0]))) H locs := hI
    have f0 : (mw_up w b (.inr (cRM, [.ref p1, .ref p2, .int v, .int 0, .long (lN 0), .long (lN 0), .int 0, .int 0]))) b = some (.inr (cRM, [.ref p1, .ref p2, .int v, .int 0, .long (lN 0), .long (lN 0), .int 0, .int 0])) := mw_up_s _ _ _
    refine lv_aload_n hx hb d_RM_init_17 rfl (lv_at hl 0 rfl) ?_
    refine lv_iconst (v := nI 0) hx hb d_RM_init_18 (by decide) ?_
    refine mw_put K hI gp_RM_18_cRM (Or.inl ⟨_, rfl, rfl⟩) f0 rfl rfl (by simp) d_RM_init_19 (fun H locs hI => ?_)
    rw [mw_uu] at hI
    have hI : mw_I D mk_cl w s.heap (mw_up w b (.inr (cRM, [.ref p1, .ref p2, .int v, .int 0, .long (lN 0), .long (lN 0), .int (nI 0), .int 0]))) H locs := hI
    have f0 : (mw_up w b (.inr (cRM, [.ref p1, .ref p2, .int v, .int 0, .long (lN 0), .long (lN 0), .int (nI 0), .int 0]))) b = some (.inr (cRM, [.ref p1, .ref p2, .int v, .int 0, .long (lN 0), .long (lN 0), .int (nI 0), .int 0])) := mw_up_s _ _ _
    refine lv_aload_n hx hb d_RM_init_22 rfl (lv_at hl 0 rfl) ?_
    refine lv_iconst (v := nI 0) hx hb d_RM_init_23 (by decide) ?_
    refine mw_put K hI gp_RM_22_cRM (Or.inl ⟨_, rfl, rfl⟩) f0 rfl rfl (by simp) d_RM_init_24 (fun H locs hI => ?_)
    rw [mw_uu] at hI
    have hI : mw_I D mk_cl w s.heap (mw_up w b (.inr (cRM, [.ref p1, .ref p2, .int v, .int 0, .long (lN 0), .long (lN 0), .int (nI 0), .int (nI 0)]))) H locs := hI
    have f0 : (mw_up w b (.inr (cRM, [.ref p1, .ref p2, .int v, .int 0, .long (lN 0), .long (lN 0), .int (nI 0), .int (nI 0)]))) b = some (.inr (cRM, [.ref p1, .ref p2, .int v, .int 0, .long (lN 0), .long (lN 0), .int (nI 0), .int (nI 0)])) := mw_up_s _ _ _
    refine lv_aload_n hx hb d_RM_init_27 rfl (lv_at hl 0 rfl) ?_
    refine lv_iload hx hb d_RM_init_28 (lv_at hl 4 rfl) ?_
    refine mw_put K hI gp_RM_26_cRM (Or.inr hin) f0 rfl rfl (by simp) d_RM_init_30 (fun H locs hI => ?_)
    rw [mw_uu] at hI
    have hI : mw_I D mk_cl w s.heap (mw_up w b (.inr (cRM, [.ref p1, .ref p2, .int v, .int k, .long (lN 0), .long (lN 0), .int (nI 0), .int (nI 0)]))) H locs := hI
    have f0 : (mw_up w b (.inr (cRM, [.ref p1, .ref p2, .int v, .int k, .long (lN 0), .long (lN 0), .int (nI 0), .int (nI 0)]))) b = some (.inr (cRM, [.ref p1, .ref p2, .int v, .int k, .long (lN 0), .long (lN 0), .int (nI 0), .int (nI 0)])) := mw_up_s _ _ _
    exact mw_vret K hI hr hlk ⟨rfl, rfl⟩ d_RM_init_33
  · exact absurd hq.1 (by simp)
end
section
/-! ### TableMap(), MapStore() -/
set_option maxRecDepth 100000 in
set_option maxHeartbeats 4000000 in
theorem c_TM_init (l : Launch) (D : va_G) (dA : Nat → ClassId) {w : mw_W} {b p1 p2 kz n : Nat} {v k2 : Int32} (f0 : w b = some (.inr (cTM, [.null, .null, .int 0, .int 0, .int 0, .int 0, .null, .null, .int 0, .int 0, .int 0]))) (hkz : kz ≤ 64) (hn : n ≤ 4096) : CT l D dA y_TM_init (Cond.code y_TM_init b_TM_init 7 none :: Ts) 3 70 3 (n + 2 + (kz + 7) / 8) [.ref b, .ref p1, .ref p2, .int v, .int (nI kz), .int k2, .int (nI n)] w (fun r w' => r = .inl none ∧ ∃ ka ak ax, w ka = none ∧ w ak = none ∧ w ax = none ∧ w' b = some (.inr (cTM, [.ref p1, .ref p2, .int v, .int (nI kz), .int k2, .int (nI n), .ref ka, .ref ak, .int (nI 0), .int (nI 0), .int (nI 0)])) ∧ w' ka = some (.inl (dA tBY, n, .inr (.inr (.inr (.inr (fun _ => none)))))) ∧ by_ok dA w' ak ax kz (fun _ => 0) ∧ ∀ (q : Nat) (y : va_E), w q = some y → q ≠ b → w' q = some y) := by
  refine mw_meth (by decide) mk_tb (Nat.le_of_ble_eq_true rfl) ?_
  intro p e s m below meth c K hr hlk hce hnm hP0 hSy ls hl
  have hl : lv_has ls 7 [(0, .ref b), (1, .ref p1), (2, .ref p2), (3, .int v), (4, .int (nI kz)), (5, .int k2), (6, .int (nI n))] := hl
  obtain ⟨hx, hb, hml, hown, hts, hK, hTb⟩ := id K
  have hI := mw_I.start hP0
  have hin : meth.name = "<init>" := hnm
  have hF : ∀ (q : Nat) (y : va_E), w q = some y → q ≠ b → w q = some y := fun q y h1 _ => h1
  refine lv_aload_n hx hb d_TM_init_0 rfl (lv_at hl 0 rfl) ?_
  refine lv_aload_n hx hb d_TM_init_1 rfl (lv_at hl 1 rfl) ?_
  refine lv_aload_n hx hb d_TM_init_2 rfl (lv_at hl 2 rfl) ?_
  refine lv_iload_n hx hb d_TM_init_3 rfl (lv_at hl 3 rfl) ?_
  refine lv_iload hx hb d_TM_init_4 (lv_at hl 4 rfl) ?_
  refine lv_iload hx hb d_TM_init_6 (lv_at hl 5 rfl) ?_
  refine lv_iload hx hb d_TM_init_8 (lv_at hl 6 rfl) ?_
  refine mw_call (rest := []) K hSy hP0 hI (c_EM_init_TM l D dA f0) (mx_invI hx hown rfl (hts _ tw_287) (hts _ tw_234) (hts _ tw_235) (by decide) (g := F0 m 10 ls [.int (nI n), .int k2, .int (nI kz), .int v, .ref p2, .ref p1, .ref b]) rfl (a := b) (argsL := [.ref p1, .ref p2, .int v, .int (nI kz), .int k2, .int (nI n)]) (rest := []) np_EM_init rfl (by rw [hb]; exact d_TM_init_10)) hl.1 d_TM_init_10 ⟨Nat.le_of_ble_eq_true rfl, Nat.le_of_ble_eq_true rfl⟩ (Or.inl ⟨_, _, List.mem_cons_self⟩) (mk_ws tw_235 hts) (fun a9 U9 h9 => Ts_warm hts _ tw_31 a9 U9 h9) ⟨Nat.le_of_ble_eq_true rfl, by dsimp only; omega⟩ (fun v w' H locs hq hI => ?_) (fun k x w' H locs hq hI hX => ?_)
  · obtain ⟨hq1, hq2⟩ := hq
    cases hq1
    rw [hq2] at hI
    refine W.eq (g2 := F0 m 13 ls []) rfl ?_
    have hI : mw_I D mk_cl w s.heap (mw_up w b (.inr (cTM, [.ref p1, .ref p2, .int v, .int (nI kz), .int k2, .int (nI n), .null, .null, .int 0, .int 0, .int 0]))) H _ := hI
    have hF : ∀ (q : Nat) (y : va_E), w q = some y → q ≠ b → (mw_up w b (.inr (cTM, [.ref p1, .ref p2, .int v, .int (nI kz), .int k2, .int (nI n), .null, .null, .int 0, .int 0, .int 0]))) q = some y := fun q y h1 h2 => by rw [mw_up_n _ _ (h2)]; exact hF q y h1 h2
    have f0 : (mw_up w b (.inr (cTM, [.ref p1, .ref p2, .int v, .int (nI kz), .int k2, .int (nI n), .null, .null, .int 0, .int 0, .int 0]))) b = some (.inr (cTM, [.ref p1, .ref p2, .int v, .int (nI kz), .int k2, .int (nI n), .null, .null, .int 0, .int 0, .int 0])) := mw_up_s _ _ _
    generalize (mw_up w b (.inr (cTM, [.ref p1, .ref p2, .int v, .int (nI kz), .int k2, .int (nI n), .null, .null, .int 0, .int 0, .int 0]))) = wm1 at hI  hF f0
    refine lv_aload_n hx hb d_TM_init_13 rfl (lv_at hl 0 rfl) ?_
    refine lv_iconst (v := nI 0) hx hb d_TM_init_14 (by decide) ?_
    refine mw_put K hI gp_TM_9_cTM (Or.inl ⟨_, rfl, rfl⟩) f0 rfl rfl (by simp) d_TM_init_15 (fun H locs hI => ?_)
    have hI : mw_I D mk_cl w s.heap (mw_up wm1 b (.inr (cTM, [.ref p1, .ref p2, .int v, .int (nI kz), .int k2, .int (nI n), .null, .null, .int (nI 0), .int 0, .int 0]))) H _ := hI
    have hF : ∀ (q : Nat) (y : va_E), w q = some y → q ≠ b → (mw_up wm1 b (.inr (cTM, [.ref p1, .ref p2, .int v, .int (nI kz), .int k2, .int (nI n), .null, .null, .int (nI 0), .int 0, .int 0]))) q = some y := fun q y h1 h2 => by rw [mw_up_n _ _ (h2)]; exact hF q y h1 h2
    have f0 : (mw_up wm1 b (.inr (cTM, [.ref p1, .ref p2, .int v, .int (nI kz), .int k2, .int (nI n), .null, .null, .int (nI 0), .int 0, .int 0]))) b = some (.inr (cTM, [.ref p1, .ref p2, .int v, .int (nI kz), .int k2, .int (nI n), .null, .null, .int (nI 0), .int 0, .int 0])) := mw_up_s _ _ _
    generalize (mw_up wm1 b (.inr (cTM, [.ref p1, .ref p2, .int v, .int (nI kz), .int k2, .int (nI n), .null, .null, .int (nI 0), .int 0, .int 0]))) = wm2 at hI  hF f0
    refine lv_aload_n hx hb d_TM_init_18 rfl (lv_at hl 0 rfl) ?_
    refine lv_iconst (v := nI 0) hx hb d_TM_init_19 (by decide) ?_
    refine mw_put K hI gp_TM_15_cTM (Or.inl ⟨_, rfl, rfl⟩) f0 rfl rfl (by simp) d_TM_init_20 (fun H locs hI => ?_)
    have hI : mw_I D mk_cl w s.heap (mw_up wm2 b (.inr (cTM, [.ref p1, .ref p2, .int v, .int (nI kz), .int k2, .int (nI n), .null, .null, .int (nI 0), .int (nI 0), .int 0]))) H _ := hI
    have hF : ∀ (q : Nat) (y : va_E), w q = some y → q ≠ b → (mw_up wm2 b (.inr (cTM, [.ref p1, .ref p2, .int v, .int (nI kz), .int k2, .int (nI n), .null, .null, .int (nI 0), .int (nI 0), .int 0]))) q = some y := fun q y h1 h2 => by rw [mw_up_n _ _ (h2)]; exact hF q y h1 h2
    have f0 : (mw_up wm2 b (.inr (cTM, [.ref p1, .ref p2, .int v, .int (nI kz), .int k2, .int (nI n), .null, .null, .int (nI 0), .int (nI 0), .int 0]))) b = some (.inr (cTM, [.ref p1, .ref p2, .int v, .int (nI kz), .int k2, .int (nI n), .null, .null, .int (nI 0), .int (nI 0), .int 0])) := mw_up_s _ _ _
    generalize (mw_up wm2 b (.inr (cTM, [.ref p1, .ref p2, .int v, .int (nI kz), .int k2, .int (nI n), .null, .null, .int (nI 0), .int (nI 0), .int 0]))) = wm3 at hI  hF f0
    refine lv_aload_n hx hb d_TM_init_23 rfl (lv_at hl 0 rfl) ?_
    refine lv_iconst (v := nI 0) hx hb d_TM_init_24 (by decide) ?_
    refine mw_put K hI gp_TM_18_cTM (Or.inl ⟨_, rfl, rfl⟩) f0 rfl rfl (by simp) d_TM_init_25 (fun H locs hI => ?_)
    have hI : mw_I D mk_cl w s.heap (mw_up wm3 b (.inr (cTM, [.ref p1, .ref p2, .int v, .int (nI kz), .int k2, .int (nI n), .null, .null, .int (nI 0), .int (nI 0), .int (nI 0)]))) H _ := hI
    have hF : ∀ (q : Nat) (y : va_E), w q = some y → q ≠ b → (mw_up wm3 b (.inr (cTM, [.ref p1, .ref p2, .int v, .int (nI kz), .int k2, .int (nI n), .null, .null, .int (nI 0), .int (nI 0), .int (nI 0)]))) q = some y := fun q y h1 h2 => by rw [mw_up_n _ _ (h2)]; exact hF q y h1 h2
    have f0 : (mw_up wm3 b (.inr (cTM, [.ref p1, .ref p2, .int v, .int (nI kz), .int k2, .int (nI n), .null, .null, .int (nI 0), .int (nI 0), .int (nI 0)]))) b = some (.inr (cTM, [.ref p1, .ref p2, .int v, .int (nI kz), .int k2, .int (nI n), .null, .null, .int (nI 0), .int (nI 0), .int (nI 0)])) := mw_up_s _ _ _
    generalize (mw_up wm3 b (.inr (cTM, [.ref p1, .ref p2, .int v, .int (nI kz), .int k2, .int (nI n), .null, .null, .int (nI 0), .int (nI 0), .int (nI 0)]))) = wm4 at hI  hF f0
    refine lv_aload_n hx hb d_TM_init_28 rfl (lv_at hl 0 rfl) ?_
    refine lv_iload hx hb d_TM_init_29 (lv_at hl 6 rfl) ?_
    refine mw_newq K hI tBY tw_288 tw_289 rfl (nI_pos (by omega)) (nI_clamp (by omega)) (by omega) (Nat.le_of_ble_eq_true rfl) (by dsimp only; omega) d_TM_init_31 (fun ka H hq hI => ?_)
    refine W.widen (k := 1) (n := n) (by omega) (by omega) ?_
    have hq_ka := hq
    have hw_ka : w ka = none := mw_nn hF f0 hq_ka
    have hI : mw_I D mk_cl w s.heap (mw_up wm4 ka (.inl (dA tBY, n, .inr (.inr (.inr (.inr (fun _ => none))))))) H _ := hI
    have ne_b_ka : b ≠ ka := mw_neN f0 hq_ka
    have f0 : (mw_up wm4 ka (.inl (dA tBY, n, .inr (.inr (.inr (.inr (fun _ => none))))))) b = some (.inr (cTM, [.ref p1, .ref p2, .int v, .int (nI kz), .int k2, .int (nI n), .null, .null, .int (nI 0), .int (nI 0), .int (nI 0)])) := by rw [mw_up_n _ _ (ne_b_ka)]; exact f0
    have hF : ∀ (q : Nat) (y : va_E), w q = some y → q ≠ b → (mw_up wm4 ka (.inl (dA tBY, n, .inr (.inr (.inr (.inr (fun _ => none))))))) q = some y := fun q y h1 h2 => by rw [mw_up_n _ _ (mw_neN h1 hw_ka)]; exact hF q y h1 h2
    have fk : (mw_up wm4 ka (.inl (dA tBY, n, .inr (.inr (.inr (.inr (fun _ => none))))))) ka = some (.inl (dA tBY, n, .inr (.inr (.inr (.inr (fun _ => none)))))) := mw_up_s _ _ _
    generalize (mw_up wm4 ka (.inl (dA tBY, n, .inr (.inr (.inr (.inr (fun _ => none))))))) = wm5 at hI f0 hF fk
    refine mw_put K hI gp_TM_23_cTM (Or.inr hin) f0 rfl rfl (by simp) d_TM_init_34 (fun H locs hI => ?_)
    have hI : mw_I D mk_cl w s.heap (mw_up wm5 b (.inr (cTM, [.ref p1, .ref p2, .int v, .int (nI kz), .int k2, .int (nI n), .ref ka, .null, .int (nI 0), .int (nI 0), .int (nI 0)]))) H _ := hI
    have fk : (mw_up wm5 b (.inr (cTM, [.ref p1, .ref p2, .int v, .int (nI kz), .int k2, .int (nI n), .ref ka, .null, .int (nI 0), .int (nI 0), .int (nI 0)]))) ka = some (.inl (dA tBY, n, .inr (.inr (.inr (.inr (fun _ => none)))))) := by rw [mw_up_n _ _ ((ne_b_ka).symm)]; exact fk
    have hF : ∀ (q : Nat) (y : va_E), w q = some y → q ≠ b → (mw_up wm5 b (.inr (cTM, [.ref p1, .ref p2, .int v, .int (nI kz), .int k2, .int (nI n), .ref ka, .null, .int (nI 0), .int (nI 0), .int (nI 0)]))) q = some y := fun q y h1 h2 => by rw [mw_up_n _ _ (h2)]; exact hF q y h1 h2
    have f0 : (mw_up wm5 b (.inr (cTM, [.ref p1, .ref p2, .int v, .int (nI kz), .int k2, .int (nI n), .ref ka, .null, .int (nI 0), .int (nI 0), .int (nI 0)]))) b = some (.inr (cTM, [.ref p1, .ref p2, .int v, .int (nI kz), .int k2, .int (nI n), .ref ka, .null, .int (nI 0), .int (nI 0), .int (nI 0)])) := mw_up_s _ _ _
    generalize (mw_up wm5 b (.inr (cTM, [.ref p1, .ref p2, .int v, .int (nI kz), .int k2, .int (nI n), .ref ka, .null, .int (nI 0), .int (nI 0), .int (nI 0)]))) = wm6 at hI fk hF f0
    refine lv_aload_n hx hb d_TM_init_37 rfl (lv_at hl 0 rfl) ?_
    refine mw_new K hI (ci := cBY) (fs := [.int 0, .null]) rfl tw_288 tw_46 tw_22 (by decide) (Nat.le_of_ble_eq_true rfl) (by dsimp only; omega) d_TM_init_38 (fun ak H hq hI => ?_)
    refine W.widen (k := 2) (n := n + 2) (by omega) (by omega) ?_
    have hq_ak := hq
    have hw_ak : w ak = none := mw_nn hF f0 hq_ak
    have hI : mw_I D mk_cl w s.heap (mw_up wm6 ak (.inr (cBY, [.int 0, .null]))) H _ := hI
    have ne_b_ak : b ≠ ak := mw_neN f0 hq_ak
    have f0 : (mw_up wm6 ak (.inr (cBY, [.int 0, .null]))) b = some (.inr (cTM, [.ref p1, .ref p2, .int v, .int (nI kz), .int k2, .int (nI n), .ref ka, .null, .int (nI 0), .int (nI 0), .int (nI 0)])) := by rw [mw_up_n _ _ (ne_b_ak)]; exact f0
    have ne_ka_ak : ka ≠ ak := mw_neN fk hq_ak
    have fk : (mw_up wm6 ak (.inr (cBY, [.int 0, .null]))) ka = some (.inl (dA tBY, n, .inr (.inr (.inr (.inr (fun _ => none)))))) := by rw [mw_up_n _ _ (ne_ka_ak)]; exact fk
    have hF : ∀ (q : Nat) (y : va_E), w q = some y → q ≠ b → (mw_up wm6 ak (.inr (cBY, [.int 0, .null]))) q = some y := fun q y h1 h2 => by rw [mw_up_n _ _ (mw_neN h1 hw_ak)]; exact hF q y h1 h2
    have fa : (mw_up wm6 ak (.inr (cBY, [.int 0, .null]))) ak = some (.inr (cBY, [.int 0, .null])) := mw_up_s _ _ _
    generalize (mw_up wm6 ak (.inr (cBY, [.int 0, .null]))) = wm7 at hI f0 fk hF fa
    refine lv_dup hx hb d_TM_init_41 rfl ?_
    refine lv_iload hx hb d_TM_init_42 (lv_at hl 4 rfl) ?_
    refine mw_call (rest := [.ref ak, .ref b]) K hSy hP0 hI (c_BY_init l D dA fa (n := kz) (by omega)) (mx_invI hx hown rfl (hts _ tw_290) (hts _ tw_48) (hts _ tw_49) (by decide) (g := F0 m 44 ls [.int (nI kz), .ref ak, .ref ak, .ref b]) rfl (a := ak) (argsL := [.int (nI kz)]) (rest := [.ref ak, .ref b]) np_BY_init rfl (by rw [hb]; exact d_TM_init_44)) hl.1 d_TM_init_44 ⟨Nat.le_of_ble_eq_true rfl, Nat.le_of_ble_eq_true rfl⟩ (Or.inl ⟨_, _, List.mem_cons_self⟩) (mk_ws tw_49 hts) (fun a9 U9 h9 => Ts_warm hts _ tw_22 a9 U9 h9) ⟨Nat.le_of_ble_eq_true rfl, by dsimp only; omega⟩ (fun v w' H locs hq hI => ?_) (fun k x w' H locs hq hI hX => ?_)
    · obtain ⟨hq1, ax, hq2, hq3, hq4⟩ := hq
      cases hq1
      rw [hq4] at hI
      refine W.eq (g2 := F0 m 47 ls [.ref ak, .ref b]) rfl ?_
      have hq_ax := hq2
      have hw_ax : w ax = none := mw_nn hF f0 hq_ax
      have ne_b_ax : b ≠ ax := mw_neN f0 hq_ax
      have f0 : (mw_up wm7 ax (.inl (dA tJ, (kz + 7) / 8, .inr (.inl (fun _ => 0))))) b = some (.inr (cTM, [.ref p1, .ref p2, .int v, .int (nI kz), .int k2, .int (nI n), .ref ka, .null, .int (nI 0), .int (nI 0), .int (nI 0)])) := by rw [mw_up_n _ _ (ne_b_ax)]; exact f0
      have ne_ak_ax : ak ≠ ax := mw_neN fa hq_ax
      have fa : (mw_up wm7 ax (.inl (dA tJ, (kz + 7) / 8, .inr (.inl (fun _ => 0))))) ak = some (.inr (cBY, [.int 0, .null])) := by rw [mw_up_n _ _ (ne_ak_ax)]; exact fa
      have ne_ka_ax : ka ≠ ax := mw_neN fk hq_ax
      have fk : (mw_up wm7 ax (.inl (dA tJ, (kz + 7) / 8, .inr (.inl (fun _ => 0))))) ka = some (.inl (dA tBY, n, .inr (.inr (.inr (.inr (fun _ => none)))))) := by rw [mw_up_n _ _ (ne_ka_ax)]; exact fk
      have hF : ∀ (q : Nat) (y : va_E), w q = some y → q ≠ b → (mw_up wm7 ax (.inl (dA tJ, (kz + 7) / 8, .inr (.inl (fun _ => 0))))) q = some y := fun q y h1 h2 => by rw [mw_up_n _ _ (mw_neN h1 hw_ax)]; exact hF q y h1 h2
      have fx : (mw_up wm7 ax (.inl (dA tJ, (kz + 7) / 8, .inr (.inl (fun _ => 0))))) ax = some (.inl (dA tJ, (kz + 7) / 8, .inr (.inl (fun _ => 0)))) := mw_up_s _ _ _
      generalize hwm8 : (mw_up wm7 ax (.inl (dA tJ, (kz + 7) / 8, .inr (.inl (fun _ => 0))))) = wm8 at f0 fa fk hF fx
      rw [hwm8] at hI
      have hI : mw_I D mk_cl w s.heap (mw_up wm8 ak (.inr (cBY, [.int (nI kz), .ref ax]))) H _ := hI
      have f0 : (mw_up wm8 ak (.inr (cBY, [.int (nI kz), .ref ax]))) b = some (.inr (cTM, [.ref p1, .ref p2, .int v, .int (nI kz), .int k2, .int (nI n), .ref ka, .null, .int (nI 0), .int (nI 0), .int (nI 0)])) := by rw [mw_up_n _ _ (ne_b_ak)]; exact f0
      have fk : (mw_up wm8 ak (.inr (cBY, [.int (nI kz), .ref ax]))) ka = some (.inl (dA tBY, n, .inr (.inr (.inr (.inr (fun _ => none)))))) := by rw [mw_up_n _ _ (ne_ka_ak)]; exact fk
      have fx : (mw_up wm8 ak (.inr (cBY, [.int (nI kz), .ref ax]))) ax = some (.inl (dA tJ, (kz + 7) / 8, .inr (.inl (fun _ => 0)))) := by rw [mw_up_n _ _ ((ne_ak_ax).symm)]; exact fx
      have hF : ∀ (q : Nat) (y : va_E), w q = some y → q ≠ b → (mw_up wm8 ak (.inr (cBY, [.int (nI kz), .ref ax]))) q = some y := fun q y h1 h2 => by rw [mw_up_n _ _ (mw_neN h1 hw_ak)]; exact hF q y h1 h2
      have fa : (mw_up wm8 ak (.inr (cBY, [.int (nI kz), .ref ax]))) ak = some (.inr (cBY, [.int (nI kz), .ref ax])) := mw_up_s _ _ _
      generalize (mw_up wm8 ak (.inr (cBY, [.int (nI kz), .ref ax]))) = wm9 at hI f0 fk fx hF fa
      refine mw_put K hI gp_TM_30_cTM (Or.inr hin) f0 rfl rfl (by simp) d_TM_init_47 (fun H locs hI => ?_)
      have hI : mw_I D mk_cl w s.heap (mw_up wm9 b (.inr (cTM, [.ref p1, .ref p2, .int v, .int (nI kz), .int k2, .int (nI n), .ref ka, .ref ak, .int (nI 0), .int (nI 0), .int (nI 0)]))) H _ := hI
      have fa : (mw_up wm9 b (.inr (cTM, [.ref p1, .ref p2, .int v, .int (nI kz), .int k2, .int (nI n), .ref ka, .ref ak, .int (nI 0), .int (nI 0), .int (nI 0)]))) ak = some (.inr (cBY, [.int (nI kz), .ref ax])) := by rw [mw_up_n _ _ ((ne_b_ak).symm)]; exact fa
      have fk : (mw_up wm9 b (.inr (cTM, [.ref p1, .ref p2, .int v, .int (nI kz), .int k2, .int (nI n), .ref ka, .ref ak, .int (nI 0), .int (nI 0), .int (nI 0)]))) ka = some (.inl (dA tBY, n, .inr (.inr (.inr (.inr (fun _ => none)))))) := by rw [mw_up_n _ _ ((ne_b_ka).symm)]; exact fk
      have fx : (mw_up wm9 b (.inr (cTM, [.ref p1, .ref p2, .int v, .int (nI kz), .int k2, .int (nI n), .ref ka, .ref ak, .int (nI 0), .int (nI 0), .int (nI 0)]))) ax = some (.inl (dA tJ, (kz + 7) / 8, .inr (.inl (fun _ => 0)))) := by rw [mw_up_n _ _ ((ne_b_ax).symm)]; exact fx
      have hF : ∀ (q : Nat) (y : va_E), w q = some y → q ≠ b → (mw_up wm9 b (.inr (cTM, [.ref p1, .ref p2, .int v, .int (nI kz), .int k2, .int (nI n), .ref ka, .ref ak, .int (nI 0), .int (nI 0), .int (nI 0)]))) q = some y := fun q y h1 h2 => by rw [mw_up_n _ _ (h2)]; exact hF q y h1 h2
      have f0 : (mw_up wm9 b (.inr (cTM, [.ref p1, .ref p2, .int v, .int (nI kz), .int k2, .int (nI n), .ref ka, .ref ak, .int (nI 0), .int (nI 0), .int (nI 0)]))) b = some (.inr (cTM, [.ref p1, .ref p2, .int v, .int (nI kz), .int k2, .int (nI n), .ref ka, .ref ak, .int (nI 0), .int (nI 0), .int (nI 0)])) := mw_up_s _ _ _
      generalize (mw_up wm9 b (.inr (cTM, [.ref p1, .ref p2, .int v, .int (nI kz), .int k2, .int (nI n), .ref ka, .ref ak, .int (nI 0), .int (nI 0), .int (nI 0)]))) = wm10 at hI fa fk fx hF f0
      exact mw_vret K hI hr hlk ⟨rfl, ka, ak, ax, hw_ka, hw_ak, hw_ax, f0, fk, ⟨fa, fx⟩, hF⟩ d_TM_init_50
    · exact absurd hq.1 (by simp)
  · exact absurd hq.1 (by simp)
set_option maxRecDepth 100000 in
set_option maxHeartbeats 4000000 in
theorem c_MS_init (l : Launch) (D : va_G) (dA : Nat → ClassId) {w : mw_W} {b : Nat} (f0 : w b = some (.inr (cMS, [.null, .null, .null, .int 0, .int 0]))) : CT l D dA y_MS_init (Cond.code y_MS_init b_MS_init 1 none :: Ts) 2 40 5 8324 [.ref b] w (fun r w' => r = .inl none ∧ ∃ bd xd ba xa ra, w bd = none ∧ w xd = none ∧ w ba = none ∧ w xa = none ∧ w ra = none ∧ w' b = some (.inr (cMS, [.ref bd, .ref ba, .ref ra, .int (nI 0), .int (nI 0)])) ∧ by_ok dA w' bd xd 512 (fun _ => 0) ∧ by_ok dA w' ba xa 65536 (fun _ => 0) ∧ w' ra = some (.inl (dA tAN, 64, .inr (.inr (.inr (.inr (fun _ => none)))))) ∧ ∀ (q : Nat) (y : va_E), w q = some y → q ≠ b → w' q = some y) := by
  refine mw_meth (by decide) mk_tb (Nat.le_of_ble_eq_true rfl) ?_
  intro p e s m below meth c K hr hlk hce hnm hP0 hSy ls hl
  have hl : lv_has ls 1 [(0, .ref b)] := hl
  obtain ⟨hx, hb, hml, hown, hts, hK, hTb⟩ := id K
  have hI := mw_I.start hP0
  have hin : meth.name = "<init>" := hnm
  have hF : ∀ (q : Nat) (y : va_E), w q = some y → q ≠ b → w q = some y := fun q y h1 _ => h1
  refine lv_aload_n hx hb d_MS_init_0 rfl (lv_at hl 0 rfl) ?_
  refine W.objInit hx hb hown (hts _ tw_42) (hts _ tw_43) (hts _ tw_44) rfl (by rw [hml]; exact hl.1) rfl d_MS_init_1 (Nat.le_of_ble_eq_true rfl) (Nat.le_of_ble_eq_true rfl) ?_
  refine W.eq (g2 := F0 m 4 ls []) rfl ?_
  refine lv_aload_n hx hb d_MS_init_4 rfl (lv_at hl 0 rfl) ?_
  refine mw_new K hI (ci := cBY) (fs := [.int 0, .null]) rfl tw_45 tw_46 tw_22 (by decide) (Nat.le_of_ble_eq_true rfl) (Nat.le_of_ble_eq_true rfl) d_MS_init_5 (fun bd H hq hI => ?_)
  have hq_bd := hq
  have hw_bd : w bd = none := mw_nn hF f0 hq_bd
  have hI : mw_I D mk_cl w s.heap (mw_up w bd (.inr (cBY, [.int 0, .null]))) H _ := hI
  have ne_b_bd : b ≠ bd := mw_neN f0 hq_bd
  have f0 : (mw_up w bd (.inr (cBY, [.int 0, .null]))) b = some (.inr (cMS, [.null, .null, .null, .int 0, .int 0])) := by rw [mw_up_n _ _ (ne_b_bd)]; exact f0
  have hF : ∀ (q : Nat) (y : va_E), w q = some y → q ≠ b → (mw_up w bd (.inr (cBY, [.int 0, .null]))) q = some y := fun q y h1 h2 => by rw [mw_up_n _ _ (mw_neN h1 hw_bd)]; exact hF q y h1 h2
  have fd : (mw_up w bd (.inr (cBY, [.int 0, .null]))) bd = some (.inr (cBY, [.int 0, .null])) := mw_up_s _ _ _
  generalize (mw_up w bd (.inr (cBY, [.int 0, .null]))) = wm11 at hI f0 hF fd
  refine lv_dup hx hb d_MS_init_8 rfl ?_
  refine lv_sipush (v := nI 512) hx hb d_MS_init_9 (by decide) ?_
  refine mw_call (rest := [.ref bd, .ref b]) K hSy hP0 hI (c_BY_init l D dA fd (n := 512) (by omega)) (mx_invI hx hown rfl (hts _ tw_47) (hts _ tw_48) (hts _ tw_49) (by decide) (g := F0 m 12 ls [.int (nI 512), .ref bd, .ref bd, .ref b]) rfl (a := bd) (argsL := [.int (nI 512)]) (rest := [.ref bd, .ref b]) np_BY_init rfl (by rw [hb]; exact d_MS_init_12)) hl.1 d_MS_init_12 ⟨Nat.le_of_ble_eq_true rfl, Nat.le_of_ble_eq_true rfl⟩ (Or.inl ⟨_, _, List.mem_cons_self⟩) (mk_ws tw_49 hts) (fun a9 U9 h9 => Ts_warm hts _ tw_22 a9 U9 h9) ⟨Nat.le_of_ble_eq_true rfl, Nat.le_of_ble_eq_true rfl⟩ (fun v w' H locs hq hI => ?_) (fun k x w' H locs hq hI hX => ?_)
  · obtain ⟨hq1, xd, hq2, hq3, hq4⟩ := hq
    cases hq1
    rw [hq4] at hI
    refine W.eq (g2 := F0 m 15 ls [.ref bd, .ref b]) rfl ?_
    have hq_xd := hq2
    have hw_xd : w xd = none := mw_nn hF f0 hq_xd
    have ne_b_xd : b ≠ xd := mw_neN f0 hq_xd
    have f0 : (mw_up wm11 xd (.inl (dA tJ, (512 + 7) / 8, .inr (.inl (fun _ => 0))))) b = some (.inr (cMS, [.null, .null, .null, .int 0, .int 0])) := by rw [mw_up_n _ _ (ne_b_xd)]; exact f0
    have ne_bd_xd : bd ≠ xd := mw_neN fd hq_xd
    have fd : (mw_up wm11 xd (.inl (dA tJ, (512 + 7) / 8, .inr (.inl (fun _ => 0))))) bd = some (.inr (cBY, [.int 0, .null])) := by rw [mw_up_n _ _ (ne_bd_xd)]; exact fd
    have hF : ∀ (q : Nat) (y : va_E), w q = some y → q ≠ b → (mw_up wm11 xd (.inl (dA tJ, (512 + 7) / 8, .inr (.inl (fun _ => 0))))) q = some y := fun q y h1 h2 => by rw [mw_up_n _ _ (mw_neN h1 hw_xd)]; exact hF q y h1 h2
    have fxd : (mw_up wm11 xd (.inl (dA tJ, (512 + 7) / 8, .inr (.inl (fun _ => 0))))) xd = some (.inl (dA tJ, (512 + 7) / 8, .inr (.inl (fun _ => 0)))) := mw_up_s _ _ _
    generalize hwm12 : (mw_up wm11 xd (.inl (dA tJ, (512 + 7) / 8, .inr (.inl (fun _ => 0))))) = wm12 at f0 fd hF fxd
    rw [hwm12] at hI
    have hI : mw_I D mk_cl w s.heap (mw_up wm12 bd (.inr (cBY, [.int (nI 512), .ref xd]))) H _ := hI
    have f0 : (mw_up wm12 bd (.inr (cBY, [.int (nI 512), .ref xd]))) b = some (.inr (cMS, [.null, .null, .null, .int 0, .int 0])) := by rw [mw_up_n _ _ (ne_b_bd)]; exact f0
    have fxd : (mw_up wm12 bd (.inr (cBY, [.int (nI 512), .ref xd]))) xd = some (.inl (dA tJ, (512 + 7) / 8, .inr (.inl (fun _ => 0)))) := by rw [mw_up_n _ _ ((ne_bd_xd).symm)]; exact fxd
    have hF : ∀ (q : Nat) (y : va_E), w q = some y → q ≠ b → (mw_up wm12 bd (.inr (cBY, [.int (nI 512), .ref xd]))) q = some y := fun q y h1 h2 => by rw [mw_up_n _ _ (mw_neN h1 hw_bd)]; exact hF q y h1 h2
    have fd : (mw_up wm12 bd (.inr (cBY, [.int (nI 512), .ref xd]))) bd = some (.inr (cBY, [.int (nI 512), .ref xd])) := mw_up_s _ _ _
    generalize (mw_up wm12 bd (.inr (cBY, [.int (nI 512), .ref xd]))) = wm13 at hI f0 fxd hF fd
    refine mw_put K hI gp_MS_14_cMS (Or.inr hin) f0 rfl rfl (by simp) d_MS_init_15 (fun H locs hI => ?_)
    have hI : mw_I D mk_cl w s.heap (mw_up wm13 b (.inr (cMS, [.ref bd, .null, .null, .int 0, .int 0]))) H _ := hI
    have fd : (mw_up wm13 b (.inr (cMS, [.ref bd, .null, .null, .int 0, .int 0]))) bd = some (.inr (cBY, [.int (nI 512), .ref xd])) := by rw [mw_up_n _ _ ((ne_b_bd).symm)]; exact fd
    have fxd : (mw_up wm13 b (.inr (cMS, [.ref bd, .null, .null, .int 0, .int 0]))) xd = some (.inl (dA tJ, (512 + 7) / 8, .inr (.inl (fun _ => 0)))) := by rw [mw_up_n _ _ ((ne_b_xd).symm)]; exact fxd
    have hF : ∀ (q : Nat) (y : va_E), w q = some y → q ≠ b → (mw_up wm13 b (.inr (cMS, [.ref bd, .null, .null, .int 0, .int 0]))) q = some y := fun q y h1 h2 => by rw [mw_up_n _ _ (h2)]; exact hF q y h1 h2
    have f0 : (mw_up wm13 b (.inr (cMS, [.ref bd, .null, .null, .int 0, .int 0]))) b = some (.inr (cMS, [.ref bd, .null, .null, .int 0, .int 0])) := mw_up_s _ _ _
    generalize (mw_up wm13 b (.inr (cMS, [.ref bd, .null, .null, .int 0, .int 0]))) = wm14 at hI fd fxd hF f0
    refine lv_aload_n hx hb d_MS_init_18 rfl (lv_at hl 0 rfl) ?_
    refine mw_new K hI (ci := cBY) (fs := [.int 0, .null]) rfl tw_45 tw_46 tw_22 (by decide) (Nat.le_of_ble_eq_true rfl) (Nat.le_of_ble_eq_true rfl) d_MS_init_19 (fun ba H hq hI => ?_)
    have hq_ba := hq
    have hw_ba : w ba = none := mw_nn hF f0 hq_ba
    have hI : mw_I D mk_cl w s.heap (mw_up wm14 ba (.inr (cBY, [.int 0, .null]))) H _ := hI
    have ne_b_ba : b ≠ ba := mw_neN f0 hq_ba
    have f0 : (mw_up wm14 ba (.inr (cBY, [.int 0, .null]))) b = some (.inr (cMS, [.ref bd, .null, .null, .int 0, .int 0])) := by rw [mw_up_n _ _ (ne_b_ba)]; exact f0
    have ne_bd_ba : bd ≠ ba := mw_neN fd hq_ba
    have fd : (mw_up wm14 ba (.inr (cBY, [.int 0, .null]))) bd = some (.inr (cBY, [.int (nI 512), .ref xd])) := by rw [mw_up_n _ _ (ne_bd_ba)]; exact fd
    have ne_xd_ba : xd ≠ ba := mw_neN fxd hq_ba
    have fxd : (mw_up wm14 ba (.inr (cBY, [.int 0, .null]))) xd = some (.inl (dA tJ, (512 + 7) / 8, .inr (.inl (fun _ => 0)))) := by rw [mw_up_n _ _ (ne_xd_ba)]; exact fxd
    have hF : ∀ (q : Nat) (y : va_E), w q = some y → q ≠ b → (mw_up wm14 ba (.inr (cBY, [.int 0, .null]))) q = some y := fun q y h1 h2 => by rw [mw_up_n _ _ (mw_neN h1 hw_ba)]; exact hF q y h1 h2
    have fa : (mw_up wm14 ba (.inr (cBY, [.int 0, .null]))) ba = some (.inr (cBY, [.int 0, .null])) := mw_up_s _ _ _
    generalize (mw_up wm14 ba (.inr (cBY, [.int 0, .null]))) = wm15 at hI f0 fd fxd hF fa
    refine lv_dup hx hb d_MS_init_22 rfl ?_
    refine lv_ldc (v := nI 65536) hx hb hown (hts _ tw_62) d_MS_init_23 ?_
    refine mw_call (rest := [.ref ba, .ref b]) K hSy hP0 hI (c_BY_init l D dA fa (n := 65536) (by omega)) (mx_invI hx hown rfl (hts _ tw_47) (hts _ tw_48) (hts _ tw_49) (by decide) (g := F0 m 25 ls [.int (nI 65536), .ref ba, .ref ba, .ref b]) rfl (a := ba) (argsL := [.int (nI 65536)]) (rest := [.ref ba, .ref b]) np_BY_init rfl (by rw [hb]; exact d_MS_init_25)) hl.1 d_MS_init_25 ⟨Nat.le_of_ble_eq_true rfl, Nat.le_of_ble_eq_true rfl⟩ (Or.inl ⟨_, _, List.mem_cons_self⟩) (mk_ws tw_49 hts) (fun a9 U9 h9 => Ts_warm hts _ tw_22 a9 U9 h9) ⟨Nat.le_of_ble_eq_true rfl, Nat.le_of_ble_eq_true rfl⟩ (fun v w' H locs hq hI => ?_) (fun k x w' H locs hq hI hX => ?_)
    · obtain ⟨hq1, xa, hq2, hq3, hq4⟩ := hq
      cases hq1
      rw [hq4] at hI
      refine W.eq (g2 := F0 m 28 ls [.ref ba, .ref b]) rfl ?_
      have hq_xa := hq2
      have hw_xa : w xa = none := mw_nn hF f0 hq_xa
      have ne_b_xa : b ≠ xa := mw_neN f0 hq_xa
      have f0 : (mw_up wm15 xa (.inl (dA tJ, (65536 + 7) / 8, .inr (.inl (fun _ => 0))))) b = some (.inr (cMS, [.ref bd, .null, .null, .int 0, .int 0])) := by rw [mw_up_n _ _ (ne_b_xa)]; exact f0
      have ne_bd_xa : bd ≠ xa := mw_neN fd hq_xa
      have fd : (mw_up wm15 xa (.inl (dA tJ, (65536 + 7) / 8, .inr (.inl (fun _ => 0))))) bd = some (.inr (cBY, [.int (nI 512), .ref xd])) := by rw [mw_up_n _ _ (ne_bd_xa)]; exact fd
      have ne_ba_xa : ba ≠ xa := mw_neN fa hq_xa
      have fa : (mw_up wm15 xa (.inl (dA tJ, (65536 + 7) / 8, .inr (.inl (fun _ => 0))))) ba = some (.inr (cBY, [.int 0, .null])) := by rw [mw_up_n _ _ (ne_ba_xa)]; exact fa
      have ne_xd_xa : xd ≠ xa := mw_neN fxd hq_xa
      have fxd : (mw_up wm15 xa (.inl (dA tJ, (65536 + 7) / 8, .inr (.inl (fun _ => 0))))) xd = some (.inl (dA tJ, (512 + 7) / 8, .inr (.inl (fun _ => 0)))) := by rw [mw_up_n _ _ (ne_xd_xa)]; exact fxd
      have hF : ∀ (q : Nat) (y : va_E), w q = some y → q ≠ b → (mw_up wm15 xa (.inl (dA tJ, (65536 + 7) / 8, .inr (.inl (fun _ => 0))))) q = some y := fun q y h1 h2 => by rw [mw_up_n _ _ (mw_neN h1 hw_xa)]; exact hF q y h1 h2
      have fxa : (mw_up wm15 xa (.inl (dA tJ, (65536 + 7) / 8, .inr (.inl (fun _ => 0))))) xa = some (.inl (dA tJ, (65536 + 7) / 8, .inr (.inl (fun _ => 0)))) := mw_up_s _ _ _
      generalize hwm16 : (mw_up wm15 xa (.inl (dA tJ, (65536 + 7) / 8, .inr (.inl (fun _ => 0))))) = wm16 at f0 fd fa fxd hF fxa
      rw [hwm16] at hI
      have hI : mw_I D mk_cl w s.heap (mw_up wm16 ba (.inr (cBY, [.int (nI 65536), .ref xa]))) H _ := hI
      have f0 : (mw_up wm16 ba (.inr (cBY, [.int (nI 65536), .ref xa]))) b = some (.inr (cMS, [.ref bd, .null, .null, .int 0, .int 0])) := by rw [mw_up_n _ _ (ne_b_ba)]; exact f0
      have fd : (mw_up wm16 ba (.inr (cBY, [.int (nI 65536), .ref xa]))) bd = some (.inr (cBY, [.int (nI 512), .ref xd])) := by rw [mw_up_n _ _ (ne_bd_ba)]; exact fd
      have fxd : (mw_up wm16 ba (.inr (cBY, [.int (nI 65536), .ref xa]))) xd = some (.inl (dA tJ, (512 + 7) / 8, .inr (.inl (fun _ => 0)))) := by rw [mw_up_n _ _ (ne_xd_ba)]; exact fxd
      have fxa : (mw_up wm16 ba (.inr (cBY, [.int (nI 65536), .ref xa]))) xa = some (.inl (dA tJ, (65536 + 7) / 8, .inr (.inl (fun _ => 0)))) := by rw [mw_up_n _ _ ((ne_ba_xa).symm)]; exact fxa
      have hF : ∀ (q : Nat) (y : va_E), w q = some y → q ≠ b → (mw_up wm16 ba (.inr (cBY, [.int (nI 65536), .ref xa]))) q = some y := fun q y h1 h2 => by rw [mw_up_n _ _ (mw_neN h1 hw_ba)]; exact hF q y h1 h2
      have fa : (mw_up wm16 ba (.inr (cBY, [.int (nI 65536), .ref xa]))) ba = some (.inr (cBY, [.int (nI 65536), .ref xa])) := mw_up_s _ _ _
      generalize (mw_up wm16 ba (.inr (cBY, [.int (nI 65536), .ref xa]))) = wm17 at hI f0 fd fxd fxa hF fa
      refine mw_put K hI gp_MS_19_cMS (Or.inr hin) f0 rfl rfl (by simp) d_MS_init_28 (fun H locs hI => ?_)
      have hI : mw_I D mk_cl w s.heap (mw_up wm17 b (.inr (cMS, [.ref bd, .ref ba, .null, .int 0, .int 0]))) H _ := hI
      have fd : (mw_up wm17 b (.inr (cMS, [.ref bd, .ref ba, .null, .int 0, .int 0]))) bd = some (.inr (cBY, [.int (nI 512), .ref xd])) := by rw [mw_up_n _ _ ((ne_b_bd).symm)]; exact fd
      have fa : (mw_up wm17 b (.inr (cMS, [.ref bd, .ref ba, .null, .int 0, .int 0]))) ba = some (.inr (cBY, [.int (nI 65536), .ref xa])) := by rw [mw_up_n _ _ ((ne_b_ba).symm)]; exact fa
      have fxd : (mw_up wm17 b (.inr (cMS, [.ref bd, .ref ba, .null, .int 0, .int 0]))) xd = some (.inl (dA tJ, (512 + 7) / 8, .inr (.inl (fun _ => 0)))) := by rw [mw_up_n _ _ ((ne_b_xd).symm)]; exact fxd
      have fxa : (mw_up wm17 b (.inr (cMS, [.ref bd, .ref ba, .null, .int 0, .int 0]))) xa = some (.inl (dA tJ, (65536 + 7) / 8, .inr (.inl (fun _ => 0)))) := by rw [mw_up_n _ _ ((ne_b_xa).symm)]; exact fxa
      have hF : ∀ (q : Nat) (y : va_E), w q = some y → q ≠ b → (mw_up wm17 b (.inr (cMS, [.ref bd, .ref ba, .null, .int 0, .int 0]))) q = some y := fun q y h1 h2 => by rw [mw_up_n _ _ (h2)]; exact hF q y h1 h2
      have f0 : (mw_up wm17 b (.inr (cMS, [.ref bd, .ref ba, .null, .int 0, .int 0]))) b = some (.inr (cMS, [.ref bd, .ref ba, .null, .int 0, .int 0])) := mw_up_s _ _ _
      generalize (mw_up wm17 b (.inr (cMS, [.ref bd, .ref ba, .null, .int 0, .int 0]))) = wm18 at hI fd fa fxd fxa hF f0
      refine lv_aload_n hx hb d_MS_init_31 rfl (lv_at hl 0 rfl) ?_
      refine lv_bipush (v := nI 64) hx hb d_MS_init_32 (by decide) ?_
      refine mw_newq K hI tAN tw_63 tw_64 rfl (nI_pos (by omega)) (nI_clamp (by omega)) (by omega) (Nat.le_of_ble_eq_true rfl) (Nat.le_of_ble_eq_true rfl) d_MS_init_34 (fun ra H hq hI => ?_)
      have hq_ra := hq
      have hw_ra : w ra = none := mw_nn hF f0 hq_ra
      have hI : mw_I D mk_cl w s.heap (mw_up wm18 ra (.inl (dA tAN, 64, .inr (.inr (.inr (.inr (fun _ => none))))))) H _ := hI
      have ne_b_ra : b ≠ ra := mw_neN f0 hq_ra
      have f0 : (mw_up wm18 ra (.inl (dA tAN, 64, .inr (.inr (.inr (.inr (fun _ => none))))))) b = some (.inr (cMS, [.ref bd, .ref ba, .null, .int 0, .int 0])) := by rw [mw_up_n _ _ (ne_b_ra)]; exact f0
      have ne_bd_ra : bd ≠ ra := mw_neN fd hq_ra
      have fd : (mw_up wm18 ra (.inl (dA tAN, 64, .inr (.inr (.inr (.inr (fun _ => none))))))) bd = some (.inr (cBY, [.int (nI 512), .ref xd])) := by rw [mw_up_n _ _ (ne_bd_ra)]; exact fd
      have ne_ba_ra : ba ≠ ra := mw_neN fa hq_ra
      have fa : (mw_up wm18 ra (.inl (dA tAN, 64, .inr (.inr (.inr (.inr (fun _ => none))))))) ba = some (.inr (cBY, [.int (nI 65536), .ref xa])) := by rw [mw_up_n _ _ (ne_ba_ra)]; exact fa
      have ne_xd_ra : xd ≠ ra := mw_neN fxd hq_ra
      have fxd : (mw_up wm18 ra (.inl (dA tAN, 64, .inr (.inr (.inr (.inr (fun _ => none))))))) xd = some (.inl (dA tJ, (512 + 7) / 8, .inr (.inl (fun _ => 0)))) := by rw [mw_up_n _ _ (ne_xd_ra)]; exact fxd
      have ne_xa_ra : xa ≠ ra := mw_neN fxa hq_ra
      have fxa : (mw_up wm18 ra (.inl (dA tAN, 64, .inr (.inr (.inr (.inr (fun _ => none))))))) xa = some (.inl (dA tJ, (65536 + 7) / 8, .inr (.inl (fun _ => 0)))) := by rw [mw_up_n _ _ (ne_xa_ra)]; exact fxa
      have hF : ∀ (q : Nat) (y : va_E), w q = some y → q ≠ b → (mw_up wm18 ra (.inl (dA tAN, 64, .inr (.inr (.inr (.inr (fun _ => none))))))) q = some y := fun q y h1 h2 => by rw [mw_up_n _ _ (mw_neN h1 hw_ra)]; exact hF q y h1 h2
      have fr : (mw_up wm18 ra (.inl (dA tAN, 64, .inr (.inr (.inr (.inr (fun _ => none))))))) ra = some (.inl (dA tAN, 64, .inr (.inr (.inr (.inr (fun _ => none)))))) := mw_up_s _ _ _
      generalize (mw_up wm18 ra (.inl (dA tAN, 64, .inr (.inr (.inr (.inr (fun _ => none))))))) = wm19 at hI f0 fd fa fxd fxa hF fr
      refine mw_put K hI gp_MS_24_cMS (Or.inr hin) f0 rfl rfl (by simp) d_MS_init_37 (fun H locs hI => ?_)
      have hI : mw_I D mk_cl w s.heap (mw_up wm19 b (.inr (cMS, [.ref bd, .ref ba, .ref ra, .int 0, .int 0]))) H _ := hI
      have fd : (mw_up wm19 b (.inr (cMS, [.ref bd, .ref ba, .ref ra, .int 0, .int 0]))) bd = some (.inr (cBY, [.int (nI 512), .ref xd])) := by rw [mw_up_n _ _ ((ne_b_bd).symm)]; exact fd
      have fa : (mw_up wm19 b (.inr (cMS, [.ref bd, .ref ba, .ref ra, .int 0, .int 0]))) ba = some (.inr (cBY, [.int (nI 65536), .ref xa])) := by rw [mw_up_n _ _ ((ne_b_ba).symm)]; exact fa
      have fxd : (mw_up wm19 b (.inr (cMS, [.ref bd, .ref ba, .ref ra, .int 0, .int 0]))) xd = some (.inl (dA tJ, (512 + 7) / 8, .inr (.inl (fun _ => 0)))) := by rw [mw_up_n _ _ ((ne_b_xd).symm)]; exact fxd
      have fxa : (mw_up wm19 b (.inr (cMS, [.ref bd, .ref ba, .ref ra, .int 0, .int 0]))) xa = some (.inl (dA tJ, (65536 + 7) / 8, .inr (.inl (fun _ => 0)))) := by rw [mw_up_n _ _ ((ne_b_xa).symm)]; exact fxa
      have fr : (mw_up wm19 b (.inr (cMS, [.ref bd, .ref ba, .ref ra, .int 0, .int 0]))) ra = some (.inl (dA tAN, 64, .inr (.inr (.inr (.inr (fun _ => none)))))) := by rw [mw_up_n _ _ ((ne_b_ra).symm)]; exact fr
      have hF : ∀ (q : Nat) (y : va_E), w q = some y → q ≠ b → (mw_up wm19 b (.inr (cMS, [.ref bd, .ref ba, .ref ra, .int 0, .int 0]))) q = some y := fun q y h1 h2 => by rw [mw_up_n _ _ (h2)]; exact hF q y h1 h2
      have f0 : (mw_up wm19 b (.inr (cMS, [.ref bd, .ref ba, .ref ra, .int 0, .int 0]))) b = some (.inr (cMS, [.ref bd, .ref ba, .ref ra, .int 0, .int 0])) := mw_up_s _ _ _
      generalize (mw_up wm19 b (.inr (cMS, [.ref bd, .ref ba, .ref ra, .int 0, .int 0]))) = wm20 at hI fd fa fxd fxa fr hF f0
      refine lv_aload_n hx hb d_MS_init_40 rfl (lv_at hl 0 rfl) ?_
      refine lv_iconst (v := nI 0) hx hb d_MS_init_41 (by decide) ?_
      refine mw_put K hI gp_MS_28_cMS (Or.inl ⟨_, rfl, rfl⟩) f0 rfl rfl (by simp) d_MS_init_42 (fun H locs hI => ?_)
      have hI : mw_I D mk_cl w s.heap (mw_up wm20 b (.inr (cMS, [.ref bd, .ref ba, .ref ra, .int (nI 0), .int 0]))) H _ := hI
      have fd : (mw_up wm20 b (.inr (cMS, [.ref bd, .ref ba, .ref ra, .int (nI 0), .int 0]))) bd = some (.inr (cBY, [.int (nI 512), .ref xd])) := by rw [mw_up_n _ _ ((ne_b_bd).symm)]; exact fd
      have fa : (mw_up wm20 b (.inr (cMS, [.ref bd, .ref ba, .ref ra, .int (nI 0), .int 0]))) ba = some (.inr (cBY, [.int (nI 65536), .ref xa])) := by rw [mw_up_n _ _ ((ne_b_ba).symm)]; exact fa
      have fxd : (mw_up wm20 b (.inr (cMS, [.ref bd, .ref ba, .ref ra, .int (nI 0), .int 0]))) xd = some (.inl (dA tJ, (512 + 7) / 8, .inr (.inl (fun _ => 0)))) := by rw [mw_up_n _ _ ((ne_b_xd).symm)]; exact fxd
      have fxa : (mw_up wm20 b (.inr (cMS, [.ref bd, .ref ba, .ref ra, .int (nI 0), .int 0]))) xa = some (.inl (dA tJ, (65536 + 7) / 8, .inr (.inl (fun _ => 0)))) := by rw [mw_up_n _ _ ((ne_b_xa).symm)]; exact fxa
      have fr : (mw_up wm20 b (.inr (cMS, [.ref bd, .ref ba, .ref ra, .int (nI 0), .int 0]))) ra = some (.inl (dA tAN, 64, .inr (.inr (.inr (.inr (fun _ => none)))))) := by rw [mw_up_n _ _ ((ne_b_ra).symm)]; exact fr
      have hF : ∀ (q : Nat) (y : va_E), w q = some y → q ≠ b → (mw_up wm20 b (.inr (cMS, [.ref bd, .ref ba, .ref ra, .int (nI 0), .int 0]))) q = some y := fun q y h1 h2 => by rw [mw_up_n _ _ (h2)]; exact hF q y h1 h2
      have f0 : (mw_up wm20 b (.inr (cMS, [.ref bd, .ref ba, .ref ra, .int (nI 0), .int 0]))) b = some (.inr (cMS, [.ref bd, .ref ba, .ref ra, .int (nI 0), .int 0])) := mw_up_s _ _ _
      generalize (mw_up wm20 b (.inr (cMS, [.ref bd, .ref ba, .ref ra, .int (nI 0), .int 0]))) = wm21 at hI fd fa fxd fxa fr hF f0
      refine lv_aload_n hx hb d_MS_init_45 rfl (lv_at hl 0 rfl) ?_
      refine lv_iconst (v := nI 0) hx hb d_MS_init_46 (by decide) ?_
      refine mw_put K hI gp_MS_32_cMS (Or.inl ⟨_, rfl, rfl⟩) f0 rfl rfl (by simp) d_MS_init_47 (fun H locs hI => ?_)
      have hI : mw_I D mk_cl w s.heap (mw_up wm21 b (.inr (cMS, [.ref bd, .ref ba, .ref ra, .int (nI 0), .int (nI 0)]))) H _ := hI
      have fd : (mw_up wm21 b (.inr (cMS, [.ref bd, .ref ba, .ref ra, .int (nI 0), .int (nI 0)]))) bd = some (.inr (cBY, [.int (nI 512), .ref xd])) := by rw [mw_up_n _ _ ((ne_b_bd).symm)]; exact fd
      have fa : (mw_up wm21 b (.inr (cMS, [.ref bd, .ref ba, .ref ra, .int (nI 0), .int (nI 0)]))) ba = some (.inr (cBY, [.int (nI 65536), .ref xa])) := by rw [mw_up_n _ _ ((ne_b_ba).symm)]; exact fa
      have fxd : (mw_up wm21 b (.inr (cMS, [.ref bd, .ref ba, .ref ra, .int (nI 0), .int (nI 0)]))) xd = some (.inl (dA tJ, (512 + 7) / 8, .inr (.inl (fun _ => 0)))) := by rw [mw_up_n _ _ ((ne_b_xd).symm)]; exact fxd
      have fxa : (mw_up wm21 b (.inr (cMS, [.ref bd, .ref ba, .ref ra, .int (nI 0), .int (nI 0)]))) xa = some (.inl (dA tJ, (65536 + 7) / 8, .inr (.inl (fun _ => 0)))) := by rw [mw_up_n _ _ ((ne_b_xa).symm)]; exact fxa
      have fr : (mw_up wm21 b (.inr (cMS, [.ref bd, .ref ba, .ref ra, .int (nI 0), .int (nI 0)]))) ra = some (.inl (dA tAN, 64, .inr (.inr (.inr (.inr (fun _ => none)))))) := by rw [mw_up_n _ _ ((ne_b_ra).symm)]; exact fr
      have hF : ∀ (q : Nat) (y : va_E), w q = some y → q ≠ b → (mw_up wm21 b (.inr (cMS, [.ref bd, .ref ba, .ref ra, .int (nI 0), .int (nI 0)]))) q = some y := fun q y h1 h2 => by rw [mw_up_n _ _ (h2)]; exact hF q y h1 h2
      have f0 : (mw_up wm21 b (.inr (cMS, [.ref bd, .ref ba, .ref ra, .int (nI 0), .int (nI 0)]))) b = some (.inr (cMS, [.ref bd, .ref ba, .ref ra, .int (nI 0), .int (nI 0)])) := mw_up_s _ _ _
      generalize (mw_up wm21 b (.inr (cMS, [.ref bd, .ref ba, .ref ra, .int (nI 0), .int (nI 0)]))) = wm22 at hI fd fa fxd fxa fr hF f0
      refine W.widen (k := 5) (n := 8324) (by decide) (by decide) ?_
      exact mw_vret K hI hr hlk ⟨rfl, bd, xd, ba, xa, ra, hw_bd, hw_xd, hw_ba, hw_xa, hw_ra, f0, ⟨fd, fxd⟩, ⟨fa, fxa⟩, fr, hF⟩ d_MS_init_50
    · exact absurd hq.1 (by simp)
  · exact absurd hq.1 (by simp)
end
section
/-! ### the state of the store, and how the class holds it -/
/-- a map: (kind, key size, value size, entries, begin), its table of keys, (head, tail, records, broken), the key that was asked last -/
abbrev as_M : Type := (Nat × Nat × Nat × Nat × Nat) × (Nat → Option (List Nat)) × (Nat × Nat × Nat × Bool) × List Nat
abbrev kd (m : as_M) : Nat := m.1.1
abbrev ks (m : as_M) : Nat := m.1.2.1
abbrev vs (m : as_M) : Nat := m.1.2.2.1
abbrev en (m : as_M) : Nat := m.1.2.2.2.1
abbrev bg (m : as_M) : Nat := m.1.2.2.2.2
abbrev tb (m : as_M) : Nat → Option (List Nat) := m.2.1
abbrev hd (m : as_M) : Nat := m.2.2.1.1
abbrev tl (m : as_M) : Nat := m.2.2.1.2.1
abbrev rc (m : as_M) : Nat := m.2.2.1.2.2.1
abbrev bk (m : as_M) : Bool := m.2.2.1.2.2.2
abbrev aq (m : as_M) : List Nat := m.2.2.2
/-- desk, area, how many maps, how much area is given, the maps -/
abbrev as_S : Type := (Nat → Nat) × (Nat → Nat) × Nat × Nat × (Nat → as_M)
abbrev dk (S : as_S) : Nat → Nat := S.1
abbrev ar (S : as_S) : Nat → Nat := S.2.1
abbrev nm (S : as_S) : Nat := S.2.2.1
abbrev gv (S : as_S) : Nat := S.2.2.2.1
abbrev mm (S : as_S) : Nat → as_M := S.2.2.2.2
def S_dk (S : as_S) (f : Nat → Nat) : as_S := (f, S.2)
def S_ar (S : as_S) (f : Nat → Nat) : as_S := (S.1, f, S.2.2)
def S_mm (S : as_S) (i : Nat) (m : as_M) : as_S := (S.1, S.2.1, S.2.2.1, S.2.2.2.1, va_up S.2.2.2.2 i m)
def M_tb (m : as_M) (t : Nat → Option (List Nat)) : as_M := (m.1, t, m.2.2)
def M_rg (m : as_M) (h t r : Nat) (b : Bool) : as_M := (m.1, m.2.1, (h, t, r, b), m.2.2.2)
def M_aq (m : as_M) (k : List Nat) : as_M := (m.1, m.2.1, m.2.2.1, k)
/-- what fits of a map's sizes -/
def wf_M (t : Nat) (m : as_M) : Prop :=
  bg m % 8 = 0 ∧ ((kd m = 0 ∧ ks m = 4 ∧ 1 ≤ vs m ∧ vs m ≤ 256 ∧ 1 ≤ en m ∧ en m ≤ 4096 ∧ bg m + en m * up8 (vs m) ≤ 65536) ∨
  (kd m = 1 ∧ 1 ≤ ks m ∧ ks m ≤ 64 ∧ 1 ≤ vs m ∧ vs m ≤ 256 ∧ 1 ≤ en m ∧ en m ≤ 4096 ∧ bg m + en m * up8 (vs m) ≤ 65536 ∧ (aq m).length = ks m ∧
    (∀ e k, tb m e = some k → e < en m ∧ k.length = ks m) ∧ ∀ e e' k, tb m e = some k → tb m e' = some k → e = e') ∨
  (kd m = 2 ∧ ks m = 0 ∧ vs m = 0 ∧ (∃ p, 6 ≤ p ∧ p ≤ 14 ∧ en m = 2 ^ p) ∧ bg m + en m ≤ 65536 ∧ tl m ≤ hd m ∧ hd m - tl m ≤ en m ∧ hd m % 8 = 0 ∧ tl m % 8 = 0 ∧ hd m ≤ 264 * t ∧ rc m ≤ t))
def wf_S (t : Nat) (S : as_S) : Prop := nm S ≤ 64 ∧ gv S ≤ 65536 ∧ gv S % 8 = 0 ∧ (∀ j, dk S j < 256) ∧ (∀ j, ar S j < 256) ∧ ∀ i, i < nm S → wf_M t (mm S i)
abbrev as_W : Type := Nat → Nat × Nat × Nat
/-- the bytes of a Bytes of k are the list; what is behind them in the last long is 0 -/
def by_l (g : Nat → Int64) (k : Nat) (l : List Nat) : Prop := l.length = k ∧ (∀ j, j < k → bw_b g j = l.getD j 0) ∧ ∀ j, k ≤ j → j < (k + 7) / 8 * 8 → bw_b g j = 0
def tb_n (t : Nat → Option (List Nat)) : Nat → Nat
  | 0 => 0
  | n + 1 => tb_n t n + (if (t n).isSome then 1 else 0)
/-- map number i of the class, at a -/
def rc_M (dA : Nat → ClassId) (w : mw_W) (own : as_W) (bd ba i a : Nat) (m : as_M) : Prop := own a = (7, i, 0) ∧
  ((kd m = 0 ∧ w a = some (.inr (cAM, [.ref bd, .ref ba, .int (nI (bg m)), .int (nI 4), .int (nI (vs m)), .int (nI (en m))]))) ∨
   (kd m = 1 ∧ ∃ (ka ak ax rch : Nat) (gk : Nat → Int64) (f : Nat → Option Nat), w a = some (.inr (cTM, [.ref bd, .ref ba, .int (nI (bg m)), .int (nI (ks m)), .int (nI (vs m)), .int (nI (en m)), .ref ka, .ref ak, .int (nI rch), .int (nI (tb_n (tb m) (en m))), .int (nI 0)])) ∧
      own ka = (5, i, 0) ∧ own ax = (3, i, 0) ∧ by_ok dA w ak ax (ks m) gk ∧ by_l gk (ks m) (aq m) ∧ w ka = some (.inl (dA tBY, en m, .inr (.inr (.inr (.inr f))))) ∧ rch ≤ en m ∧
      (∀ e, e < en m → tb m e = none → f e = none) ∧ ∀ e k, tb m e = some k → e < rch ∧ ∃ (kb kx : Nat) (g : Nat → Int64), f e = some kb ∧ own kx = (4, i, e) ∧ by_ok dA w kb kx (ks m) g ∧ by_l g (ks m) k) ∨
   (kd m = 2 ∧ w a = some (.inr (cRM, [.ref bd, .ref ba, .int (nI (bg m)), .int (nI (en m)), .long (lN (hd m)), .long (lN (tl m)), .int (nI (rc m)), .int (nI (if bk m = true then 1 else 0))]))))
def rc_0 (dA : Nat → ClassId) (w : mw_W) (own : as_W) (x bd xd ba xa ra : Nat) (mp : Nat → Nat) (gd ga : Nat → Int64) (S : as_S) : Prop :=
  own x = (8, 0, 0) ∧ own xd = (1, 0, 0) ∧ own xa = (2, 0, 0) ∧ own ra = (6, 0, 0) ∧
  w x = some (.inr (cMS, [.ref bd, .ref ba, .ref ra, .int (nI (nm S)), .int (nI (gv S))])) ∧ by_ok dA w bd xd 512 gd ∧ by_ok dA w ba xa 65536 ga ∧
  w ra = some (.inl (dA tAN, 64, .inr (.inr (.inr (.inr (fun i => if i < nm S then some (mp i) else none)))))) ∧
  (∀ j, j < 512 → bw_b gd j = dk S j) ∧ ∀ j, j < 65536 → bw_b ga j = ar S j
def rc_A (dA : Nat → ClassId) (w : mw_W) (own : as_W) (x bd xd ba xa ra : Nat) (mp : Nat → Nat) (gd ga : Nat → Int64) (S : as_S) : Prop :=
  rc_0 dA w own x bd xd ba xa ra mp gd ga S ∧ ∀ i, i < nm S → rc_M dA w own bd ba i (mp i) (mm S i)
/-- the class holds the state S, its object at x -/
def RepC (dA : Nat → ClassId) (w : mw_W) (own : as_W) (x : Nat) (S : as_S) : Prop := ∃ (bd xd ba xa ra : Nat) (mp : Nat → Nat) (gd ga : Nat → Int64), rc_A dA w own x bd xd ba xa ra mp gd ga S
/-- the other side's cells stay -/
def Fr (w : mw_W) (own : as_W) (w' : mw_W) (own' : as_W) : Prop := ∀ (q : Nat) (y : va_E), w q = some y → own' q = own q ∧ ∃ y', w' q = some y' ∧ (20 ≤ (own q).1 → y' = y)
theorem Fr.rf (w : mw_W) (own : as_W) : Fr w own w own := fun _ y h => ⟨rfl, y, h, fun _ => rfl⟩
theorem Fr.trans {w1 w2 w3 : mw_W} {o1 o2 o3 : as_W} (h1 : Fr w1 o1 w2 o2) (h2 : Fr w2 o2 w3 o3) : Fr w1 o1 w3 o3 := fun q y h => by
  obtain ⟨a1, y2, b1, c1⟩ := h1 q y h
  obtain ⟨a2, y3, b2, c2⟩ := h2 q y2 b1
  exact ⟨a2.trans a1, y3, b2, fun z => (c2 (by rw [a1]; exact z)).trans (c1 z)⟩
theorem Fr.up {w : mw_W} {own : as_W} {a : Nat} {x y0 : va_E} (ha : w a = some y0) (ht : (own a).1 < 20) : Fr w own (mw_up w a x) own := fun q y h => by
  refine ⟨rfl, ?_⟩
  by_cases e : q = a
  · subst e; exact ⟨x, mw_up_s _ _ _, fun z => absurd ht (by omega)⟩
  · exact ⟨y, by rw [mw_up_n _ _ e]; exact h, fun _ => rfl⟩
theorem own_ne {own : as_W} {a b : Nat} {r1 r2 : Nat × Nat × Nat} (h1 : own a = r1) (h2 : own b = r2) (h : r1 ≠ r2) : a ≠ b := fun e => h (by rw [← h1, ← h2, e])
/-- a map's cells: what of the memory it rests on -/
theorem rc_M.keep {dA : Nat → ClassId} {w w' : mw_W} {own own' : as_W} {bd ba i a : Nat} {m : as_M} (h : rc_M dA w own bd ba i a m)
    (hk : ∀ (q : Nat) (y : va_E), w q = some y → ((own q = (7, i, 0) ∨ own q = (5, i, 0) ∨ own q = (3, i, 0) ∨ ∃ e, own q = (4, i, e)) ∨ ∃ fs, y = .inr (cBY, fs)) → w' q = some y)
    (ho : ∀ (q : Nat) (y : va_E), w q = some y → own' q = own q) : rc_M dA w' own' bd ba i a m := by
  obtain ⟨h0, h⟩ := h
  have kb : ∀ {b x n : Nat} {g : Nat → Int64}, by_ok dA w b x n g → (own x = (3, i, 0) ∨ ∃ e, own x = (4, i, e)) → by_ok dA w' b x n g := fun {b x n g} hb hx =>
    ⟨hk _ _ hb.1 (Or.inr ⟨_, rfl⟩), hk _ _ hb.2 (Or.inl (hx.elim (fun e => Or.inr (Or.inr (Or.inl e))) (fun e => Or.inr (Or.inr (Or.inr e)))))⟩
  rcases h with ⟨k0, h1⟩ | ⟨k0, ka, ak, ax, rch, gk, f, h1, h2, h3, h4, h5, h6, h7, h8, h9⟩ | ⟨k0, h1⟩
  · exact ⟨(ho _ _ h1).trans h0, Or.inl ⟨k0, hk _ _ h1 (Or.inl (Or.inl h0))⟩⟩
  · refine ⟨(ho _ _ h1).trans h0, Or.inr (Or.inl ⟨k0, ka, ak, ax, rch, gk, f, hk _ _ h1 (Or.inl (Or.inl h0)), (ho _ _ h6).trans h2, (ho _ _ h4.2).trans h3, kb h4 (Or.inl h3), h5, hk _ _ h6 (Or.inl (Or.inr (Or.inl h2))), h7, h8, fun e k he => ?_⟩)⟩
    obtain ⟨g1, kb1, kx, g, g2, g3, g4, g5⟩ := h9 e k he
    exact ⟨g1, kb1, kx, g, g2, (ho _ _ g4.2).trans g3, kb g4 (Or.inr ⟨e, g3⟩), g5⟩
  · exact ⟨(ho _ _ h1).trans h0, Or.inr (Or.inr ⟨k0, hk _ _ h1 (Or.inl (Or.inl h0))⟩)⟩
/-- one cell with another role was written -/
theorem rc_M.up {dA : Nat → ClassId} {w : mw_W} {own : as_W} {bd ba i a b : Nat} {m : as_M} {x y0 : va_E} (h : rc_M dA w own bd ba i a m) (hb : w b = some y0) (hn : ∀ fs, y0 ≠ .inr (cBY, fs)) (ht : (own b).1 ≠ 7 ∧ (own b).1 ≠ 5 ∧ (own b).1 ≠ 3 ∧ (own b).1 ≠ 4 ∨ (own b).2.1 ≠ i) : rc_M dA (mw_up w b x) own bd ba i a m := by
  refine h.keep (fun q y hq hr => ?_) (fun _ _ _ => rfl)
  rw [mw_up_n _ _ ?_]
  · exact hq
  · intro e
    subst e
    rcases hr with (e | e | e | ⟨e', e⟩) | ⟨fs, e⟩
    · rw [e] at ht; exact ht.elim (fun t => t.1 rfl) (fun t => t rfl)
    · rw [e] at ht; exact ht.elim (fun t => t.2.1 rfl) (fun t => t rfl)
    · rw [e] at ht; exact ht.elim (fun t => t.2.2.1 rfl) (fun t => t rfl)
    · rw [e] at ht; exact ht.elim (fun t => t.2.2.2 rfl) (fun t => t rfl)
    · exact hn fs (by rw [← e]; exact Option.some.inj (hb.symm.trans hq))
/-- the desk's bytes were written -/
theorem rc_A.desk {dA : Nat → ClassId} {w : mw_W} {own : as_W} {x bd xd ba xa ra : Nat} {mp : Nat → Nat} {gd ga : Nat → Int64} {S : as_S} (h : rc_A dA w own x bd xd ba xa ra mp gd ga S) (g' : Nat → Int64) (f : Nat → Nat) (hf : ∀ j, j < 512 → bw_b g' j = f j) : rc_A dA (mw_up w xd (by_a dA 512 g')) own x bd xd ba xa ra mp g' ga (S_dk S f) := by
  obtain ⟨⟨h1, h2, h3, h4, h5, h6, h7, h8, h9, h10⟩, hM⟩ := h
  refine ⟨⟨h1, h2, h3, h4, ?_, h6.up g', h7.keep (mw_neA h7.1 h6.2) (own_ne h3 h2 (by decide)), ?_, hf, h10⟩, fun i hi => (hM i hi).up h6.2 (fun fs e => by cases e) (Or.inl (by rw [h2]; decide))⟩
  · rw [mw_up_n _ _ (own_ne h1 h2 (by decide))]; exact h5
  · rw [mw_up_n _ _ (own_ne h4 h2 (by decide))]; exact h8
/-- the area's bytes were written -/
theorem rc_A.area {dA : Nat → ClassId} {w : mw_W} {own : as_W} {x bd xd ba xa ra : Nat} {mp : Nat → Nat} {gd ga : Nat → Int64} {S : as_S} (h : rc_A dA w own x bd xd ba xa ra mp gd ga S) (g' : Nat → Int64) (f : Nat → Nat) (hf : ∀ j, j < 65536 → bw_b g' j = f j) : rc_A dA (mw_up w xa (by_a dA 65536 g')) own x bd xd ba xa ra mp gd g' (S_ar S f) := by
  obtain ⟨⟨h1, h2, h3, h4, h5, h6, h7, h8, h9, h10⟩, hM⟩ := h
  refine ⟨⟨h1, h2, h3, h4, ?_, h6.keep (mw_neA h6.1 h7.2) (own_ne h2 h3 (by decide)), h7.up g', ?_, h9, hf⟩, fun i hi => (hM i hi).up h7.2 (fun fs e => by cases e) (Or.inl (by rw [h3]; decide))⟩
  · rw [mw_up_n _ _ (own_ne h1 h3 (by decide))]; exact h5
  · rw [mw_up_n _ _ (own_ne h4 h3 (by decide))]; exact h8
end
section
/-! ### MapStore: desk, area, maps -/
theorem d_MS_desk_0 : decode b_MS_desk 0 = .ok (.aload_n 0, 1) := by decide +kernel
theorem d_MS_desk_1 : decode b_MS_desk 1 = .ok (.getfield 14, 3) := by decide +kernel
theorem d_MS_desk_4 : decode b_MS_desk 4 = .ok (.iload_n 1, 1) := by decide +kernel
theorem d_MS_desk_5 : decode b_MS_desk 5 = .ok (.bipush 8, 2) := by decide +kernel
theorem d_MS_desk_7 : decode b_MS_desk 7 = .ok (.invokevirtual 70, 3) := by decide +kernel
theorem d_MS_desk_10 : decode b_MS_desk 10 = .ok (.aload_n 0, 1) := by decide +kernel
theorem d_MS_desk_11 : decode b_MS_desk 11 = .ok (.getfield 14, 3) := by decide +kernel
theorem d_MS_desk_14 : decode b_MS_desk 14 = .ok (.iload_n 1, 1) := by decide +kernel
theorem d_MS_desk_15 : decode b_MS_desk 15 = .ok (.bipush 8, 2) := by decide +kernel
theorem d_MS_desk_17 : decode b_MS_desk 17 = .ok (.invokevirtual 74, 3) := by decide +kernel
theorem d_MS_desk_20 : decode b_MS_desk 20 = .ok (.lreturn, 1) := by decide +kernel
theorem d_MS_lay_0 : decode b_MS_lay 0 = .ok (.aload_n 0, 1) := by decide +kernel
theorem d_MS_lay_1 : decode b_MS_lay 1 = .ok (.getfield 14, 3) := by decide +kernel
theorem d_MS_lay_4 : decode b_MS_lay 4 = .ok (.iload_n 1, 1) := by decide +kernel
theorem d_MS_lay_5 : decode b_MS_lay 5 = .ok (.bipush 8, 2) := by decide +kernel
theorem d_MS_lay_7 : decode b_MS_lay 7 = .ok (.invokevirtual 70, 3) := by decide +kernel
theorem d_MS_lay_10 : decode b_MS_lay 10 = .ok (.aload_n 0, 1) := by decide +kernel
theorem d_MS_lay_11 : decode b_MS_lay 11 = .ok (.getfield 14, 3) := by decide +kernel
theorem d_MS_lay_14 : decode b_MS_lay 14 = .ok (.iload_n 1, 1) := by decide +kernel
theorem d_MS_lay_15 : decode b_MS_lay 15 = .ok (.bipush 8, 2) := by decide +kernel
theorem d_MS_lay_17 : decode b_MS_lay 17 = .ok (.lload_n 2, 1) := by decide +kernel
theorem d_MS_lay_18 : decode b_MS_lay 18 = .ok (.invokevirtual 78, 3) := by decide +kernel
theorem d_MS_lay_21 : decode b_MS_lay 21 = .ok (.return_, 1) := by decide +kernel
theorem d_MS_load_0 : decode b_MS_load 0 = .ok (.iload_n 2, 1) := by decide +kernel
theorem d_MS_load_1 : decode b_MS_load 1 = .ok (.invokestatic 82, 3) := by decide +kernel
theorem d_MS_load_4 : decode b_MS_load 4 = .ok (.aload_n 0, 1) := by decide +kernel
theorem d_MS_load_5 : decode b_MS_load 5 = .ok (.getfield 19, 3) := by decide +kernel
theorem d_MS_load_8 : decode b_MS_load 8 = .ok (.iload_n 1, 1) := by decide +kernel
theorem d_MS_load_9 : decode b_MS_load 9 = .ok (.iload_n 2, 1) := by decide +kernel
theorem d_MS_load_10 : decode b_MS_load 10 = .ok (.invokevirtual 70, 3) := by decide +kernel
theorem d_MS_load_13 : decode b_MS_load 13 = .ok (.aload_n 0, 1) := by decide +kernel
theorem d_MS_load_14 : decode b_MS_load 14 = .ok (.getfield 19, 3) := by decide +kernel
theorem d_MS_load_17 : decode b_MS_load 17 = .ok (.iload_n 1, 1) := by decide +kernel
theorem d_MS_load_18 : decode b_MS_load 18 = .ok (.iload_n 2, 1) := by decide +kernel
theorem d_MS_load_19 : decode b_MS_load 19 = .ok (.invokevirtual 74, 3) := by decide +kernel
theorem d_MS_load_22 : decode b_MS_load 22 = .ok (.lreturn, 1) := by decide +kernel
theorem d_MS_store_0 : decode b_MS_store 0 = .ok (.iload_n 2, 1) := by decide +kernel
theorem d_MS_store_1 : decode b_MS_store 1 = .ok (.invokestatic 82, 3) := by decide +kernel
theorem d_MS_store_4 : decode b_MS_store 4 = .ok (.aload_n 0, 1) := by decide +kernel
theorem d_MS_store_5 : decode b_MS_store 5 = .ok (.getfield 19, 3) := by decide +kernel
theorem d_MS_store_8 : decode b_MS_store 8 = .ok (.iload_n 1, 1) := by decide +kernel
theorem d_MS_store_9 : decode b_MS_store 9 = .ok (.iload_n 2, 1) := by decide +kernel
theorem d_MS_store_10 : decode b_MS_store 10 = .ok (.invokevirtual 70, 3) := by decide +kernel
theorem d_MS_store_13 : decode b_MS_store 13 = .ok (.aload_n 0, 1) := by decide +kernel
theorem d_MS_store_14 : decode b_MS_store 14 = .ok (.getfield 19, 3) := by decide +kernel
theorem d_MS_store_17 : decode b_MS_store 17 = .ok (.iload_n 1, 1) := by decide +kernel
theorem d_MS_store_18 : decode b_MS_store 18 = .ok (.iload_n 2, 1) := by decide +kernel
theorem d_MS_store_19 : decode b_MS_store 19 = .ok (.lload_n 3, 1) := by decide +kernel
theorem d_MS_store_20 : decode b_MS_store 20 = .ok (.invokevirtual 78, 3) := by decide +kernel
theorem d_MS_store_23 : decode b_MS_store 23 = .ok (.return_, 1) := by decide +kernel
theorem d_MS_maps_0 : decode b_MS_maps 0 = .ok (.aload_n 0, 1) := by decide +kernel
theorem d_MS_maps_1 : decode b_MS_maps 1 = .ok (.getfield 28, 3) := by decide +kernel
theorem d_MS_maps_4 : decode b_MS_maps 4 = .ok (.ireturn, 1) := by decide +kernel
theorem d_MS_mapOf_0 : decode b_MS_mapOf 0 = .ok (.iload_n 1, 1) := by decide +kernel
theorem d_MS_mapOf_1 : decode b_MS_mapOf 1 = .ok (.ifCond .lt 11, 3) := by decide +kernel
theorem d_MS_mapOf_4 : decode b_MS_mapOf 4 = .ok (.iload_n 1, 1) := by decide +kernel
theorem d_MS_mapOf_5 : decode b_MS_mapOf 5 = .ok (.aload_n 0, 1) := by decide +kernel
theorem d_MS_mapOf_6 : decode b_MS_mapOf 6 = .ok (.getfield 28, 3) := by decide +kernel
theorem d_MS_mapOf_9 : decode b_MS_mapOf 9 = .ok (.if_icmp .lt 7, 3) := by decide +kernel
theorem d_MS_mapOf_12 : decode b_MS_mapOf 12 = .ok (.aconst_null, 1) := by decide +kernel
theorem d_MS_mapOf_13 : decode b_MS_mapOf 13 = .ok (.goto 9, 3) := by decide +kernel
theorem d_MS_mapOf_16 : decode b_MS_mapOf 16 = .ok (.aload_n 0, 1) := by decide +kernel
theorem d_MS_mapOf_17 : decode b_MS_mapOf 17 = .ok (.getfield 24, 3) := by decide +kernel
theorem d_MS_mapOf_20 : decode b_MS_mapOf 20 = .ok (.iload_n 1, 1) := by decide +kernel
theorem d_MS_mapOf_21 : decode b_MS_mapOf 21 = .ok (.aaload, 1) := by decide +kernel
theorem d_MS_mapOf_22 : decode b_MS_mapOf 22 = .ok (.astore_n 2, 1) := by decide +kernel
theorem d_MS_mapOf_23 : decode b_MS_mapOf 23 = .ok (.aload_n 2, 1) := by decide +kernel
theorem d_MS_mapOf_24 : decode b_MS_mapOf 24 = .ok (.ifnonnull 13, 3) := by decide +kernel
theorem d_MS_mapOf_27 : decode b_MS_mapOf 27 = .ok (.new 108, 3) := by decide +kernel
theorem d_MS_mapOf_30 : decode b_MS_mapOf 30 = .ok (.dup, 1) := by decide +kernel
theorem d_MS_mapOf_31 : decode b_MS_mapOf 31 = .ok (.ldc 110, 2) := by decide +kernel
theorem d_MS_mapOf_33 : decode b_MS_mapOf 33 = .ok (.invokespecial 112, 3) := by decide +kernel
theorem d_MS_mapOf_36 : decode b_MS_mapOf 36 = .ok (.athrow, 1) := by decide +kernel
theorem d_MS_mapOf_37 : decode b_MS_mapOf 37 = .ok (.aload_n 2, 1) := by decide +kernel
theorem d_MS_mapOf_38 : decode b_MS_mapOf 38 = .ok (.areturn, 1) := by decide +kernel
theorem d_MS_demandNumberSize_0 : decode b_MS_demandNumberSize 0 = .ok (.iload_n 0, 1) := by decide +kernel
theorem d_MS_demandNumberSize_1 : decode b_MS_demandNumberSize 1 = .ok (.iconst 1, 1) := by decide +kernel
theorem d_MS_demandNumberSize_2 : decode b_MS_demandNumberSize 2 = .ok (.if_icmp .eq 29, 3) := by decide +kernel
theorem d_MS_demandNumberSize_5 : decode b_MS_demandNumberSize 5 = .ok (.iload_n 0, 1) := by decide +kernel
theorem d_MS_demandNumberSize_6 : decode b_MS_demandNumberSize 6 = .ok (.iconst 2, 1) := by decide +kernel
theorem d_MS_demandNumberSize_7 : decode b_MS_demandNumberSize 7 = .ok (.if_icmp .eq 24, 3) := by decide +kernel
theorem d_MS_demandNumberSize_10 : decode b_MS_demandNumberSize 10 = .ok (.iload_n 0, 1) := by decide +kernel
theorem d_MS_demandNumberSize_11 : decode b_MS_demandNumberSize 11 = .ok (.iconst 4, 1) := by decide +kernel
theorem d_MS_demandNumberSize_12 : decode b_MS_demandNumberSize 12 = .ok (.if_icmp .eq 19, 3) := by decide +kernel
theorem d_MS_demandNumberSize_15 : decode b_MS_demandNumberSize 15 = .ok (.iload_n 0, 1) := by decide +kernel
theorem d_MS_demandNumberSize_16 : decode b_MS_demandNumberSize 16 = .ok (.bipush 8, 2) := by decide +kernel
theorem d_MS_demandNumberSize_18 : decode b_MS_demandNumberSize 18 = .ok (.if_icmp .eq 13, 3) := by decide +kernel
theorem d_MS_demandNumberSize_21 : decode b_MS_demandNumberSize 21 = .ok (.new 39, 3) := by decide +kernel
theorem d_MS_demandNumberSize_24 : decode b_MS_demandNumberSize 24 = .ok (.dup, 1) := by decide +kernel
theorem d_MS_demandNumberSize_25 : decode b_MS_demandNumberSize 25 = .ok (.ldc 137, 2) := by decide +kernel
theorem d_MS_demandNumberSize_27 : decode b_MS_demandNumberSize 27 = .ok (.invokespecial 43, 3) := by decide +kernel
theorem d_MS_demandNumberSize_30 : decode b_MS_demandNumberSize 30 = .ok (.athrow, 1) := by decide +kernel
theorem d_MS_demandNumberSize_31 : decode b_MS_demandNumberSize 31 = .ok (.return_, 1) := by decide +kernel
abbrev inD (q : Int32) (k n : Nat) : Prop := 0 ≤ q.toInt ∧ q.toInt + k ≤ n
theorem inD_nI {q : Int32} {k n : Nat} (h : inD q k n) (hn : n < 2 ^ 31) : q = nI q.toNatClampNeg ∧ q.toNatClampNeg + k ≤ n := by
  obtain ⟨j, hj, rfl⟩ := nI_of (x := q) (by rw [Int32.lt_iff_toInt_lt, Int32.toInt_zero]; omega)
  rw [nI_clamp hj]
  have := h.2
  rw [nI_toInt hj] at this
  exact ⟨rfl, by omega⟩
/-- the lowest k bytes of v, from i on -/
def wr (f : Nat → Nat) (i k : Nat) (v : Int64) : Nat → Nat := fun j => if i ≤ j ∧ j < i + k then uN v / 2 ^ (8 * (j - i)) % 256 else f j
theorem WT.widen {p : Program} {l : Launch} {e : Env} {R : Room} {s : State} {m : MethodId} {args : Array Value} {below : List Frame} {meth : Method} {c : Code} {H : Heap} {locs : List Loc} {cells slots : Nat} {Q : State → Prop} {g : JFrame} {x : Addr} {k n : Nat} (h1 : cells ≤ k) (h2 : slots ≤ n) (kk : WT p l e R s m args below meth c H locs k n Q g x) : WT p l e R s m args below meth c H locs cells slots Q g x := fun T hT X => kk T hT (stand_widen X h1 h2)
set_option maxRecDepth 100000 in
set_option maxHeartbeats 4000000 in
theorem c_MS_maps (l : Launch) (D : va_G) (dA : Nat → ClassId) {w : mw_W} {own : as_W} {x : Nat} {S : as_S} (hR : RepC dA w own x S) : CT l D dA y_MS_maps (Cond.code y_MS_maps b_MS_maps 1 (some .int) :: Ts) 0 0 0 0 [.ref x] w (fun r w' => w' = w ∧ r = .inl (some (.int (nI (nm S))))) := by
  refine mw_meth (by decide) mk_tb (Nat.le_of_ble_eq_true rfl) ?_
  intro p e s m below meth c K hr hlk hce hnm hP0 hSy ls hl
  have hl : lv_has ls 1 [(0, .ref x)] := hl
  obtain ⟨hx, hb, hml, hown, hts, hK, hTb⟩ := id K
  have hI := mw_I.start hP0
  obtain ⟨bd, xd, ba, xa, ra, mp, gd, ga, ⟨o1, o2, o3, o4, f0, fd, fa, fr, hdk, har⟩, hM⟩ := hR
  refine lv_aload_n hx hb d_MS_maps_0 rfl (lv_at hl 0 rfl) ?_
  refine mw_get K hI gf_MS_28_cMS f0 rfl d_MS_maps_1 ?_
  exact mw_iret K hI hr hlk ⟨rfl, rfl⟩ d_MS_maps_4
set_option maxRecDepth 100000 in
set_option maxHeartbeats 4000000 in
theorem c_MS_desk (l : Launch) (D : va_G) (dA : Nat → ClassId) (hL : mw_L l) {w : mw_W} {own : as_W} {x : Nat} {S : as_S} (hR : RepC dA w own x S) (q : Int32) : CT l D dA y_MS_desk (Cond.code y_MS_desk b_MS_desk 2 (some .long) :: Ts) 7 110 1 6 [.ref x, .int q] w (fun r w' => w' = w ∧ ((inD q 8 512 ∧ r = .inl (some (.long (lN (bw_n (dk S) q.toNatClampNeg 8))))) ∨ (¬ inD q 8 512 ∧ r = .inr 2))) := by
  refine mw_meth (by decide) mk_tb (Nat.le_of_ble_eq_true rfl) ?_
  intro p e s m below meth c K hr hlk hce hnm hP0 hSy ls hl
  have hl : lv_has ls 2 [(0, .ref x), (1, .int q)] := hl
  obtain ⟨hx, hb, hml, hown, hts, hK, hTb⟩ := id K
  have hI := mw_I.start hP0
  obtain ⟨bd, xd, ba, xa, ra, mp, gd, ga, ⟨o1, o2, o3, o4, f0, fd, fa, fr, hdk, har⟩, hM⟩ := hR
  refine lv_aload_n hx hb d_MS_desk_0 rfl (lv_at hl 0 rfl) ?_
  refine mw_get K hI gf_MS_14_cMS f0 rfl d_MS_desk_1 ?_
  refine lv_iload_n hx hb d_MS_desk_4 rfl (lv_at hl 1 rfl) ?_
  refine lv_bipush (v := nI 8) hx hb d_MS_desk_5 (by decide) ?_
  refine mw_call (rest := []) K hSy hP0 hI (c_BY_demand l D dA hL fd (by decide) q (k := 8) (by decide)) (mx_invV hx hown (hts _ tw_372) (hts _ tw_373) (hts _ tw_374) (hts _ tw_375) (by decide) (b := bd) (mw_rc K hI fd.1 rfl) (g := F0 m 7 ls [.int (nI 8), .int q, .ref bd]) rfl (argsL := [.int q, .int (nI 8)]) (rest := []) np_BY_demand rfl (by rw [hb]; exact d_MS_desk_7)) hl.1 d_MS_desk_7 ⟨Nat.le_of_ble_eq_true rfl, Nat.le_of_ble_eq_true rfl⟩ (Or.inl ⟨_, _, List.mem_cons_self⟩) (mk_ws tw_375 hts) (fun a9 U9 h9 => Ts_warm hts _ tw_22 a9 U9 h9) ⟨Nat.le_of_ble_eq_true rfl, Nat.le_of_ble_eq_true rfl⟩ (fun v w' H locs hq hI => ?_) (fun k x w' H locs hq hI hX => ?_)
  · obtain ⟨hq1, ⟨hq2, hq3, hq4⟩ | ⟨-, hq4⟩⟩ := hq
    · cases hq4
      rw [hq1] at hI
      obtain ⟨e1, e2⟩ := inD_nI ⟨hq2, hq3⟩ (by decide)
      refine W.eq (g2 := F0 m 10 ls []) rfl ?_
      rw [e1] at hl
      refine lv_aload_n hx hb d_MS_desk_10 rfl (lv_at hl 0 rfl) ?_
      refine mw_get K hI gf_MS_14_cMS f0 rfl d_MS_desk_11 ?_
      refine lv_iload_n hx hb d_MS_desk_14 rfl (lv_at hl 1 rfl) ?_
      refine lv_bipush (v := nI 8) hx hb d_MS_desk_15 (by decide) ?_
      refine mw_call (rest := []) K hSy hP0 hI (c_BY_number l D dA fd (by decide) (i := q.toNatClampNeg) (k := 8) (by decide) e2) (mx_invV hx hown (hts _ tw_379) (hts _ tw_380) (hts _ tw_381) (hts _ tw_382) (by decide) (b := bd) (mw_rc K hI fd.1 rfl) (g := F0 m 17 ls [.int (nI 8), .int (nI q.toNatClampNeg), .ref bd]) rfl (argsL := [.int (nI q.toNatClampNeg), .int (nI 8)]) (rest := []) np_BY_number rfl (by rw [hb]; exact d_MS_desk_17)) hl.1 d_MS_desk_17 ⟨Nat.le_of_ble_eq_true rfl, Nat.le_of_ble_eq_true rfl⟩ (Or.inl ⟨_, _, List.mem_cons_self⟩) (mk_ws tw_382 hts) (fun a9 U9 h9 => Ts_warm hts _ tw_22 a9 U9 h9) ⟨Nat.le_of_ble_eq_true rfl, Nat.le_of_ble_eq_true rfl⟩ (fun v w' H locs hq hI => ?_) (fun k x w' H locs hq hI hX => ?_)
      · obtain ⟨hq5, hq6⟩ := hq
        cases hq5
        rw [hq6] at hI
        refine W.eq (g2 := F0 m 20 ls [.long (lN (bw_n (bw_b gd) q.toNatClampNeg 8))]) rfl ?_
        refine mw_tl (y := lN (bw_n (dk S) q.toNatClampNeg 8)) ((by rw [bw_n_congr 8 _ (fun j h1 h2 => hdk j (by omega))])) ?_
        exact mw_lret K hI hr hlk ⟨rfl, Or.inl ⟨⟨hq2, hq3⟩, rfl⟩⟩ d_MS_desk_20
      · exact absurd hq.1 (by simp)
    · cases hq4
  · obtain ⟨hq1, ⟨-, -, hq4⟩ | ⟨hq2, hq4⟩⟩ := hq
    · cases hq4
    · cases hq4
      rw [hq1] at hI
      exact mw_on hI hce hlk hX ⟨rfl, Or.inr ⟨hq2, rfl⟩⟩
set_option maxRecDepth 100000 in
set_option maxHeartbeats 4000000 in
theorem c_MS_lay (l : Launch) (D : va_G) (dA : Nat → ClassId) (hL : mw_L l) {w : mw_W} {own : as_W} {x : Nat} {S : as_S} (hR : RepC dA w own x S) (q : Int32) (v : Int64) : CT l D dA y_MS_lay (Cond.code y_MS_lay b_MS_lay 4 none :: Ts) 7 110 1 6 [.ref x, .int q, .long v] w (fun r w' => ((inD q 8 512 ∧ r = .inl none ∧ RepC dA w' own x (S_dk S (wr (dk S) q.toNatClampNeg 8 v))) ∨ (¬ inD q 8 512 ∧ r = .inr 2 ∧ w' = w)) ∧ Fr w own w' own) := by
  refine mw_meth (by decide) mk_tb (Nat.le_of_ble_eq_true rfl) ?_
  intro p e s m below meth c K hr hlk hce hnm hP0 hSy ls hl
  have hl : lv_has ls 4 [(0, .ref x), (1, .int q), (2, .long v)] := hl
  obtain ⟨hx, hb, hml, hown, hts, hK, hTb⟩ := id K
  have hI := mw_I.start hP0
  obtain ⟨bd, xd, ba, xa, ra, mp, gd, ga, hA⟩ := hR
  obtain ⟨⟨o1, o2, o3, o4, f0, fd, fa, fr, hdk, har⟩, hM⟩ := id hA
  refine lv_aload_n hx hb d_MS_lay_0 rfl (lv_at hl 0 rfl) ?_
  refine mw_get K hI gf_MS_14_cMS f0 rfl d_MS_lay_1 ?_
  refine lv_iload_n hx hb d_MS_lay_4 rfl (lv_at hl 1 rfl) ?_
  refine lv_bipush (v := nI 8) hx hb d_MS_lay_5 (by decide) ?_
  refine mw_call (rest := []) K hSy hP0 hI (c_BY_demand l D dA hL fd (by decide) q (k := 8) (by decide)) (mx_invV hx hown (hts _ tw_372) (hts _ tw_373) (hts _ tw_374) (hts _ tw_375) (by decide) (b := bd) (mw_rc K hI fd.1 rfl) (g := F0 m 7 ls [.int (nI 8), .int q, .ref bd]) rfl (argsL := [.int q, .int (nI 8)]) (rest := []) np_BY_demand rfl (by rw [hb]; exact d_MS_lay_7)) hl.1 d_MS_lay_7 ⟨Nat.le_of_ble_eq_true rfl, Nat.le_of_ble_eq_true rfl⟩ (Or.inl ⟨_, _, List.mem_cons_self⟩) (mk_ws tw_375 hts) (fun a9 U9 h9 => Ts_warm hts _ tw_22 a9 U9 h9) ⟨Nat.le_of_ble_eq_true rfl, Nat.le_of_ble_eq_true rfl⟩ (fun v w' H locs hq hI => ?_) (fun k x w' H locs hq hI hX => ?_)
  · obtain ⟨hq1, ⟨hq2, hq3, hq4⟩ | ⟨-, hq4⟩⟩ := hq
    · cases hq4
      rw [hq1] at hI
      obtain ⟨e1, e2⟩ := inD_nI ⟨hq2, hq3⟩ (by decide)
      refine W.eq (g2 := F0 m 10 ls []) rfl ?_
      rw [e1] at hl
      refine lv_aload_n hx hb d_MS_lay_10 rfl (lv_at hl 0 rfl) ?_
      refine mw_get K hI gf_MS_14_cMS f0 rfl d_MS_lay_11 ?_
      refine lv_iload_n hx hb d_MS_lay_14 rfl (lv_at hl 1 rfl) ?_
      refine lv_bipush (v := nI 8) hx hb d_MS_lay_15 (by decide) ?_
      refine lv_lload_n hx hb d_MS_lay_17 rfl (lv_at hl 2 rfl) ?_
      refine mw_call (rest := []) K hSy hP0 hI (c_BY_setNumber l D dA fd (by decide) (i := q.toNatClampNeg) (k := 8) (by decide) e2 v) (mx_invV hx hown (hts _ tw_397) (hts _ tw_398) (hts _ tw_399) (hts _ tw_400) (by decide) (b := bd) (mw_rc K hI fd.1 rfl) (g := F0 m 18 ls [.long v, .int (nI 8), .int (nI q.toNatClampNeg), .ref bd]) rfl (argsL := [.int (nI q.toNatClampNeg), .int (nI 8), .long v]) (rest := []) np_BY_setNumber rfl (by rw [hb]; exact d_MS_lay_18)) hl.1 d_MS_lay_18 ⟨Nat.le_of_ble_eq_true rfl, Nat.le_of_ble_eq_true rfl⟩ (Or.inl ⟨_, _, List.mem_cons_self⟩) (mk_ws tw_400 hts) (fun a9 U9 h9 => Ts_warm hts _ tw_22 a9 U9 h9) ⟨Nat.le_of_ble_eq_true rfl, Nat.le_of_ble_eq_true rfl⟩ (fun v w' H locs hq hI => ?_) (fun k x w' H locs hq hI hX => ?_)
      · obtain ⟨hq5, g', hq6, hq7⟩ := hq
        cases hq5
        rw [hq6] at hI
        refine W.eq (g2 := F0 m 21 ls []) rfl ?_
        exact mw_vret K hI hr hlk ⟨Or.inl ⟨⟨hq2, hq3⟩, rfl, bd, xd, ba, xa, ra, mp, g', ga, hA.desk g' _ (fun j hj => by rw [hq7 j]; unfold wr; rw [hdk j hj])⟩, Fr.up fd.2 (by rw [o2]; decide)⟩ d_MS_lay_21
      · exact absurd hq.1 (by simp)
    · cases hq4
  · obtain ⟨hq1, ⟨-, -, hq4⟩ | ⟨hq2, hq4⟩⟩ := hq
    · cases hq4
    · cases hq4
      rw [hq1] at hI
      exact mw_on hI hce hlk hX ⟨Or.inr ⟨hq2, rfl, rfl⟩, Fr.rf w own⟩
abbrev okZ (z : Int32) : Prop := z = nI 1 ∨ z = nI 2 ∨ z = nI 4 ∨ z = nI 8
set_option maxRecDepth 100000 in
set_option maxHeartbeats 4000000 in
theorem c_MS_demandNumberSize (l : Launch) (D : va_G) (dA : Nat → ClassId) (hL : mw_L l) {w : mw_W} (z : Int32) : CT l D dA y_MS_demandNumberSize (Cond.code y_MS_demandNumberSize b_MS_demandNumberSize 1 none :: Ts) 6 90 1 6 [.int z] w (fun r w' => w' = w ∧ ((okZ z ∧ r = .inl none) ∨ (¬ okZ z ∧ r = .inr 0))) := by
  refine mw_meth (by decide) mk_tb (Nat.le_of_ble_eq_true rfl) ?_
  intro p e s m below meth c K hr hlk hce hnm hP0 hSy ls hl
  have hl : lv_has ls 1 [(0, .int z)] := hl
  obtain ⟨hx, hb, hml, hown, hts, hK, hTb⟩ := id K
  have hI := mw_I.start hP0
  refine lv_iload_n hx hb d_MS_demandNumberSize_0 rfl (lv_at hl 0 rfl) ?_
  refine lv_iconst (v := nI 1) hx hb d_MS_demandNumberSize_1 (by decide) ?_
  refine lv_icmp_eq (tgt := 31) hx hb d_MS_demandNumberSize_2 (by decide) (fun c2 => ?_) (fun c2 => ?_)
  ·
    refine W.widen (k := 1) (n := 6) (by decide) (by decide) ?_
    exact mw_vret K hI hr hlk ⟨rfl, Or.inl ⟨Or.inl c2, rfl⟩⟩ d_MS_demandNumberSize_31
  ·
    refine lv_iload_n hx hb d_MS_demandNumberSize_5 rfl (lv_at hl 0 rfl) ?_
    refine lv_iconst (v := nI 2) hx hb d_MS_demandNumberSize_6 (by decide) ?_
    refine lv_icmp_eq (tgt := 31) hx hb d_MS_demandNumberSize_7 (by decide) (fun c7 => ?_) (fun c7 => ?_)
    ·
      refine W.widen (k := 1) (n := 6) (by decide) (by decide) ?_
      exact mw_vret K hI hr hlk ⟨rfl, Or.inl ⟨Or.inr (Or.inl c7), rfl⟩⟩ d_MS_demandNumberSize_31
    ·
      refine lv_iload_n hx hb d_MS_demandNumberSize_10 rfl (lv_at hl 0 rfl) ?_
      refine lv_iconst (v := nI 4) hx hb d_MS_demandNumberSize_11 (by decide) ?_
      refine lv_icmp_eq (tgt := 31) hx hb d_MS_demandNumberSize_12 (by decide) (fun c12 => ?_) (fun c12 => ?_)
      ·
        refine W.widen (k := 1) (n := 6) (by decide) (by decide) ?_
        exact mw_vret K hI hr hlk ⟨rfl, Or.inl ⟨Or.inr (Or.inr (Or.inl c12)), rfl⟩⟩ d_MS_demandNumberSize_31
      ·
        refine lv_iload_n hx hb d_MS_demandNumberSize_15 rfl (lv_at hl 0 rfl) ?_
        refine lv_bipush (v := nI 8) hx hb d_MS_demandNumberSize_16 (by decide) ?_
        refine lv_icmp_eq (tgt := 31) hx hb d_MS_demandNumberSize_18 (by decide) (fun c18 => ?_) (fun c18 => ?_)
        ·
          refine W.widen (k := 1) (n := 6) (by decide) (by decide) ?_
          exact mw_vret K hI hr hlk ⟨rfl, Or.inl ⟨Or.inr (Or.inr (Or.inr c18)), rfl⟩⟩ d_MS_demandNumberSize_31
        ·
          exact mw_throw (tx := "a number has 1, 2, 4 or 8 bytes") K hL hSy hP0 hce hlk 0 rfl (by decide) (by decide) (ow_in ow_MS43) (by decide) tw_191 tw_28 tw_192 hl.1 d_MS_demandNumberSize_21 d_MS_demandNumberSize_24 d_MS_demandNumberSize_25 d_MS_demandNumberSize_27 d_MS_demandNumberSize_30 (Nat.le_of_ble_eq_true rfl) (Nat.le_of_ble_eq_true rfl) (Nat.le_of_ble_eq_true rfl) (Nat.le_of_ble_eq_true rfl) (⟨rfl, Or.inr ⟨fun z => by rcases z with z | z | z | z <;> contradiction, rfl⟩⟩)
end
section
/-! ### MapStore: load, store, mapOf, begins -/
theorem d_MS_begins_0 : decode b_MS_begins 0 = .ok (.aload_n 0, 1) := by decide +kernel
theorem d_MS_begins_1 : decode b_MS_begins 1 = .ok (.iload_n 1, 1) := by decide +kernel
theorem d_MS_begins_2 : decode b_MS_begins 2 = .ok (.invokevirtual 59, 3) := by decide +kernel
theorem d_MS_begins_5 : decode b_MS_begins 5 = .ok (.getfield 63, 3) := by decide +kernel
theorem d_MS_begins_8 : decode b_MS_begins 8 = .ok (.ireturn, 1) := by decide +kernel
theorem okZ_n {z : Int32} (h : okZ z) : ∃ k : Nat, z = nI k ∧ 1 ≤ k ∧ k ≤ 8 := by
  rcases h with h | h | h | h
  · exact ⟨1, h, by decide⟩
  · exact ⟨2, h, by decide⟩
  · exact ⟨4, h, by decide⟩
  · exact ⟨8, h, by decide⟩
set_option maxRecDepth 100000 in
set_option maxHeartbeats 4000000 in
theorem c_MS_load (l : Launch) (D : va_G) (dA : Nat → ClassId) (hL : mw_L l) {w : mw_W} {own : as_W} {x : Nat} {S : as_S} (hR : RepC dA w own x S) (q z : Int32) : CT l D dA y_MS_load (Cond.code y_MS_load b_MS_load 3 (some .long) :: Ts) 7 110 2 12 [.ref x, .int q, .int z] w (fun r w' => w' = w ∧ ((¬ okZ z ∧ r = .inr 0) ∨ (okZ z ∧ ¬ inD q z.toNatClampNeg 65536 ∧ r = .inr 2) ∨ (okZ z ∧ inD q z.toNatClampNeg 65536 ∧ r = .inl (some (.long (lN (bw_n (ar S) q.toNatClampNeg z.toNatClampNeg))))))) := by
  refine mw_meth (by decide) mk_tb (Nat.le_of_ble_eq_true rfl) ?_
  intro p e s m below meth c K hr hlk hce hnm hP0 hSy ls hl
  have hl : lv_has ls 3 [(0, .ref x), (1, .int q), (2, .int z)] := hl
  obtain ⟨hx, hb, hml, hown, hts, hK, hTb⟩ := id K
  have hI := mw_I.start hP0
  obtain ⟨bd, xd, ba, xa, ra, mp, gd, ga, ⟨o1, o2, o3, o4, f0, fd, fa, fr, hdk, har⟩, hM⟩ := hR
  refine lv_iload_n hx hb d_MS_load_0 rfl (lv_at hl 2 rfl) ?_
  refine mw_call (rest := []) K hSy hP0 hI (c_MS_demandNumberSize l D dA hL z) (mx_invS hx hown (hts _ tw_414) (hts _ tw_415) (hts _ tw_21) (hts _ tw_416) (by decide) (g := F0 m 1 ls [.int z]) rfl (argsL := [.int z]) (rest := []) np_MS_demandNumberSize rfl (by rw [hb]; exact d_MS_load_1)) hl.1 d_MS_load_1 ⟨Nat.le_of_ble_eq_true rfl, Nat.le_of_ble_eq_true rfl⟩ (Or.inl ⟨_, _, List.mem_cons_self⟩) (mk_ws tw_416 hts) (fun a9 U9 h9 => Ts_warm hts _ tw_21 a9 U9 h9) ⟨Nat.le_of_ble_eq_true rfl, Nat.le_of_ble_eq_true rfl⟩ (fun v w' H locs hq hI => ?_) (fun k x w' H locs hq hI hX => ?_)
  · obtain ⟨hq1, ⟨hz, hq4⟩ | ⟨-, hq4⟩⟩ := hq
    · cases hq4
      rw [hq1] at hI
      obtain ⟨k, ek, hk1, hk8⟩ := okZ_n hz
      have ez : z.toNatClampNeg = k := by rw [ek]; exact nI_clamp (by omega)
      refine W.eq (g2 := F0 m 4 ls []) rfl ?_
      rw [ek] at hl
      refine lv_aload_n hx hb d_MS_load_4 rfl (lv_at hl 0 rfl) ?_
      refine mw_get K hI gf_MS_19_cMS f0 rfl d_MS_load_5 ?_
      refine lv_iload_n hx hb d_MS_load_8 rfl (lv_at hl 1 rfl) ?_
      refine lv_iload_n hx hb d_MS_load_9 rfl (lv_at hl 2 rfl) ?_
      refine mw_call (rest := []) K hSy hP0 hI (c_BY_demand l D dA hL fa (by decide) q (k := k) (by omega)) (mx_invV hx hown (hts _ tw_372) (hts _ tw_373) (hts _ tw_374) (hts _ tw_375) (by decide) (b := ba) (mw_rc K hI fa.1 rfl) (g := F0 m 10 ls [.int (nI k), .int q, .ref ba]) rfl (argsL := [.int q, .int (nI k)]) (rest := []) np_BY_demand rfl (by rw [hb]; exact d_MS_load_10)) hl.1 d_MS_load_10 ⟨Nat.le_of_ble_eq_true rfl, Nat.le_of_ble_eq_true rfl⟩ (Or.inl ⟨_, _, List.mem_cons_self⟩) (mk_ws tw_375 hts) (fun a9 U9 h9 => Ts_warm hts _ tw_22 a9 U9 h9) ⟨Nat.le_of_ble_eq_true rfl, Nat.le_of_ble_eq_true rfl⟩ (fun v w' H locs hq hI => ?_) (fun k x w' H locs hq hI hX => ?_)
      · obtain ⟨hq1, ⟨hq2, hq3, hq4⟩ | ⟨-, hq4⟩⟩ := hq
        · cases hq4
          rw [hq1] at hI
          obtain ⟨e1, e2⟩ := inD_nI ⟨hq2, hq3⟩ (by decide)
          refine W.eq (g2 := F0 m 13 ls []) rfl ?_
          rw [e1] at hl
          refine lv_aload_n hx hb d_MS_load_13 rfl (lv_at hl 0 rfl) ?_
          refine mw_get K hI gf_MS_19_cMS f0 rfl d_MS_load_14 ?_
          refine lv_iload_n hx hb d_MS_load_17 rfl (lv_at hl 1 rfl) ?_
          refine lv_iload_n hx hb d_MS_load_18 rfl (lv_at hl 2 rfl) ?_
          refine mw_call (rest := []) K hSy hP0 hI (c_BY_number l D dA fa (by decide) (i := q.toNatClampNeg) (k := k) hk8 e2) (mx_invV hx hown (hts _ tw_379) (hts _ tw_380) (hts _ tw_381) (hts _ tw_382) (by decide) (b := ba) (mw_rc K hI fa.1 rfl) (g := F0 m 19 ls [.int (nI k), .int (nI q.toNatClampNeg), .ref ba]) rfl (argsL := [.int (nI q.toNatClampNeg), .int (nI k)]) (rest := []) np_BY_number rfl (by rw [hb]; exact d_MS_load_19)) hl.1 d_MS_load_19 ⟨Nat.le_of_ble_eq_true rfl, Nat.le_of_ble_eq_true rfl⟩ (Or.inl ⟨_, _, List.mem_cons_self⟩) (mk_ws tw_382 hts) (fun a9 U9 h9 => Ts_warm hts _ tw_22 a9 U9 h9) ⟨Nat.le_of_ble_eq_true rfl, Nat.le_of_ble_eq_true rfl⟩ (fun v w' H locs hq hI => ?_) (fun k x w' H locs hq hI hX => ?_)
          · obtain ⟨hq5, hq6⟩ := hq
            cases hq5
            rw [hq6] at hI
            refine W.eq (g2 := F0 m 22 ls [.long (lN (bw_n (bw_b ga) q.toNatClampNeg k))]) rfl ?_
            refine mw_tl (y := lN (bw_n (ar S) q.toNatClampNeg z.toNatClampNeg)) ((by rw [ez, bw_n_congr k _ (fun j h1 h2 => har j (by omega))])) ?_
            exact mw_lret K hI hr hlk ⟨rfl, Or.inr (Or.inr ⟨hz, by rw [ez]; exact ⟨hq2, hq3⟩, rfl⟩)⟩ d_MS_load_22
          · exact absurd hq.1 (by simp)
        · cases hq4
      · obtain ⟨hq1, ⟨-, -, hq4⟩ | ⟨hq2, hq4⟩⟩ := hq
        · cases hq4
        · cases hq4
          rw [hq1] at hI
          exact mw_on hI hce hlk hX ⟨rfl, Or.inr (Or.inl ⟨hz, by rw [ez]; exact hq2, rfl⟩)⟩
    · cases hq4
  · obtain ⟨hq1, ⟨-, hq4⟩ | ⟨hq2, hq4⟩⟩ := hq
    · cases hq4
    · cases hq4
      rw [hq1] at hI
      refine WT.widen (k := 2) (n := 12) (by decide) (by decide) ?_
      exact mw_on hI hce hlk hX ⟨rfl, Or.inl ⟨hq2, rfl⟩⟩
set_option maxRecDepth 100000 in
set_option maxHeartbeats 4000000 in
theorem c_MS_store (l : Launch) (D : va_G) (dA : Nat → ClassId) (hL : mw_L l) {w : mw_W} {own : as_W} {x : Nat} {S : as_S} (hR : RepC dA w own x S) (q z : Int32) (v : Int64) : CT l D dA y_MS_store (Cond.code y_MS_store b_MS_store 5 none :: Ts) 7 110 2 12 [.ref x, .int q, .int z, .long v] w (fun r w' => ((¬ okZ z ∧ r = .inr 0 ∧ w' = w) ∨ (okZ z ∧ ¬ inD q z.toNatClampNeg 65536 ∧ r = .inr 2 ∧ w' = w) ∨ (okZ z ∧ inD q z.toNatClampNeg 65536 ∧ r = .inl none ∧ RepC dA w' own x (S_ar S (wr (ar S) q.toNatClampNeg z.toNatClampNeg v)))) ∧ Fr w own w' own) := by
  refine mw_meth (by decide) mk_tb (Nat.le_of_ble_eq_true rfl) ?_
  intro p e s m below meth c K hr hlk hce hnm hP0 hSy ls hl
  have hl : lv_has ls 5 [(0, .ref x), (1, .int q), (2, .int z), (3, .long v)] := hl
  obtain ⟨hx, hb, hml, hown, hts, hK, hTb⟩ := id K
  have hI := mw_I.start hP0
  obtain ⟨bd, xd, ba, xa, ra, mp, gd, ga, hA⟩ := hR
  obtain ⟨⟨o1, o2, o3, o4, f0, fd, fa, fr, hdk, har⟩, hM⟩ := id hA
  refine lv_iload_n hx hb d_MS_store_0 rfl (lv_at hl 2 rfl) ?_
  refine mw_call (rest := []) K hSy hP0 hI (c_MS_demandNumberSize l D dA hL z) (mx_invS hx hown (hts _ tw_414) (hts _ tw_415) (hts _ tw_21) (hts _ tw_416) (by decide) (g := F0 m 1 ls [.int z]) rfl (argsL := [.int z]) (rest := []) np_MS_demandNumberSize rfl (by rw [hb]; exact d_MS_store_1)) hl.1 d_MS_store_1 ⟨Nat.le_of_ble_eq_true rfl, Nat.le_of_ble_eq_true rfl⟩ (Or.inl ⟨_, _, List.mem_cons_self⟩) (mk_ws tw_416 hts) (fun a9 U9 h9 => Ts_warm hts _ tw_21 a9 U9 h9) ⟨Nat.le_of_ble_eq_true rfl, Nat.le_of_ble_eq_true rfl⟩ (fun v w' H locs hq hI => ?_) (fun k x w' H locs hq hI hX => ?_)
  · obtain ⟨hq1, ⟨hz, hq4⟩ | ⟨-, hq4⟩⟩ := hq
    · cases hq4
      rw [hq1] at hI
      obtain ⟨k, ek, hk1, hk8⟩ := okZ_n hz
      have ez : z.toNatClampNeg = k := by rw [ek]; exact nI_clamp (by omega)
      refine W.eq (g2 := F0 m 4 ls []) rfl ?_
      rw [ek] at hl
      refine lv_aload_n hx hb d_MS_store_4 rfl (lv_at hl 0 rfl) ?_
      refine mw_get K hI gf_MS_19_cMS f0 rfl d_MS_store_5 ?_
      refine lv_iload_n hx hb d_MS_store_8 rfl (lv_at hl 1 rfl) ?_
      refine lv_iload_n hx hb d_MS_store_9 rfl (lv_at hl 2 rfl) ?_
      refine mw_call (rest := []) K hSy hP0 hI (c_BY_demand l D dA hL fa (by decide) q (k := k) (by omega)) (mx_invV hx hown (hts _ tw_372) (hts _ tw_373) (hts _ tw_374) (hts _ tw_375) (by decide) (b := ba) (mw_rc K hI fa.1 rfl) (g := F0 m 10 ls [.int (nI k), .int q, .ref ba]) rfl (argsL := [.int q, .int (nI k)]) (rest := []) np_BY_demand rfl (by rw [hb]; exact d_MS_store_10)) hl.1 d_MS_store_10 ⟨Nat.le_of_ble_eq_true rfl, Nat.le_of_ble_eq_true rfl⟩ (Or.inl ⟨_, _, List.mem_cons_self⟩) (mk_ws tw_375 hts) (fun a9 U9 h9 => Ts_warm hts _ tw_22 a9 U9 h9) ⟨Nat.le_of_ble_eq_true rfl, Nat.le_of_ble_eq_true rfl⟩ (fun v w' H locs hq hI => ?_) (fun k x w' H locs hq hI hX => ?_)
      · obtain ⟨hq1, ⟨hq2, hq3, hq4⟩ | ⟨-, hq4⟩⟩ := hq
        · cases hq4
          rw [hq1] at hI
          obtain ⟨e1, e2⟩ := inD_nI ⟨hq2, hq3⟩ (by decide)
          refine W.eq (g2 := F0 m 13 ls []) rfl ?_
          rw [e1] at hl
          refine lv_aload_n hx hb d_MS_store_13 rfl (lv_at hl 0 rfl) ?_
          refine mw_get K hI gf_MS_19_cMS f0 rfl d_MS_store_14 ?_
          refine lv_iload_n hx hb d_MS_store_17 rfl (lv_at hl 1 rfl) ?_
          refine lv_iload_n hx hb d_MS_store_18 rfl (lv_at hl 2 rfl) ?_
          refine lv_lload_n hx hb d_MS_store_19 rfl (lv_at hl 3 rfl) ?_
          refine mw_call (rest := []) K hSy hP0 hI (c_BY_setNumber l D dA fa (by decide) (i := q.toNatClampNeg) (k := k) hk8 e2 v) (mx_invV hx hown (hts _ tw_397) (hts _ tw_398) (hts _ tw_399) (hts _ tw_400) (by decide) (b := ba) (mw_rc K hI fa.1 rfl) (g := F0 m 20 ls [.long v, .int (nI k), .int (nI q.toNatClampNeg), .ref ba]) rfl (argsL := [.int (nI q.toNatClampNeg), .int (nI k), .long v]) (rest := []) np_BY_setNumber rfl (by rw [hb]; exact d_MS_store_20)) hl.1 d_MS_store_20 ⟨Nat.le_of_ble_eq_true rfl, Nat.le_of_ble_eq_true rfl⟩ (Or.inl ⟨_, _, List.mem_cons_self⟩) (mk_ws tw_400 hts) (fun a9 U9 h9 => Ts_warm hts _ tw_22 a9 U9 h9) ⟨Nat.le_of_ble_eq_true rfl, Nat.le_of_ble_eq_true rfl⟩ (fun v w' H locs hq hI => ?_) (fun k x w' H locs hq hI hX => ?_)
          · obtain ⟨hq5, g', hq6, hq7⟩ := hq
            cases hq5
            rw [hq6] at hI
            refine W.eq (g2 := F0 m 23 ls []) rfl ?_
            exact mw_vret K hI hr hlk ⟨Or.inr (Or.inr ⟨hz, by rw [ez]; exact ⟨hq2, hq3⟩, rfl, bd, xd, ba, xa, ra, mp, gd, g', hA.area g' _ (fun j hj => by rw [hq7 j, ez]; unfold wr; rw [har j hj])⟩), Fr.up fa.2 (by rw [o3]; decide)⟩ d_MS_store_23
          · exact absurd hq.1 (by simp)
        · cases hq4
      · obtain ⟨hq1, ⟨-, -, hq4⟩ | ⟨hq2, hq4⟩⟩ := hq
        · cases hq4
        · cases hq4
          rw [hq1] at hI
          exact mw_on hI hce hlk hX ⟨Or.inr (Or.inl ⟨hz, by rw [ez]; exact hq2, rfl, rfl⟩), Fr.rf w own⟩
    · cases hq4
  · obtain ⟨hq1, ⟨-, hq4⟩ | ⟨hq2, hq4⟩⟩ := hq
    · cases hq4
    · cases hq4
      rw [hq1] at hI
      refine WT.widen (k := 2) (n := 12) (by decide) (by decide) ?_
      exact mw_on hI hce hlk hX ⟨Or.inl ⟨hq2, rfl, rfl⟩, Fr.rf w own⟩
abbrev inM (S : as_S) (q : Int32) : Prop := 0 ≤ q.toInt ∧ q.toInt < nm S
theorem inM_nI {S : as_S} {q : Int32} (h : inM S q) (hn : nm S ≤ 64) : q = nI q.toNatClampNeg ∧ q.toNatClampNeg < nm S := by
  obtain ⟨j, hj, rfl⟩ := nI_of (x := q) (by rw [Int32.lt_iff_toInt_lt, Int32.toInt_zero]; omega)
  rw [nI_clamp hj]
  have := h.2
  rw [nI_toInt hj] at this
  exact ⟨rfl, by omega⟩
set_option maxRecDepth 100000 in
set_option maxHeartbeats 4000000 in
theorem c_MS_mapOf (l : Launch) (D : va_G) (dA : Nat → ClassId) (hL : mw_L l) {w : mw_W} {own : as_W} {x bd xd ba xa ra : Nat} {mp : Nat → Nat} {gd ga : Nat → Int64} {S : as_S} (hA : rc_A dA w own x bd xd ba xa ra mp gd ga S) (hn64 : nm S ≤ 64) (q : Int32) : CT l D dA y_MS_mapOf (Cond.code y_MS_mapOf b_MS_mapOf 3 (some (.object "MapStore$AnyMap")) :: Ts) 6 90 1 6 [.ref x, .int q] w (fun r w' => w' = w ∧ ((inM S q ∧ r = .inl (some (.ref (mp q.toNatClampNeg)))) ∨ (¬ inM S q ∧ r = .inr 2))) := by
  refine mw_meth (by decide) mk_tb (Nat.le_of_ble_eq_true rfl) ?_
  intro p e s m below meth c K hr hlk hce hnm hP0 hSy ls hl
  have hl : lv_has ls 3 [(0, .ref x), (1, .int q)] := hl
  obtain ⟨hx, hb, hml, hown, hts, hK, hTb⟩ := id K
  have hI := mw_I.start hP0
  obtain ⟨⟨o1, o2, o3, o4, f0, fd, fa, fr, hdk, har⟩, hM⟩ := id hA
  refine lv_iload_n hx hb d_MS_mapOf_0 rfl (lv_at hl 1 rfl) ?_
  refine lv_if_lt (tgt := 12) hx hb d_MS_mapOf_1 (by decide) (fun c1 => ?_) (fun c1 => ?_)
  · rw [Int32.lt_iff_toInt_lt, Int32.toInt_zero] at c1
    refine lv_null hx hb d_MS_mapOf_12 ?_
    refine lv_goto (tgt := 22) hx hb d_MS_mapOf_13 (by decide) ?_
    refine lv_astore_nN (lv' := [(2, .null), (0, .ref x), (1, .int q)]) hx hb d_MS_mapOf_22 rfl hl (by decide) rfl (fun ls hl => ?_)
    refine lv_aload_nN hx hb d_MS_mapOf_23 rfl (lv_at hl 0 rfl) ?_
    refine lv_ifnonnullN hx hb d_MS_mapOf_24 ?_
    exact mw_throw (tx := "no such map") K hL hSy hP0 hce hlk 2 rfl (by decide) (by decide) (ow_in ow_MS112) (by decide) tw_93 tw_35 tw_94 hl.1 d_MS_mapOf_27 d_MS_mapOf_30 d_MS_mapOf_31 d_MS_mapOf_33 d_MS_mapOf_36 (Nat.le_of_ble_eq_true rfl) (Nat.le_of_ble_eq_true rfl) (Nat.le_of_ble_eq_true rfl) (Nat.le_of_ble_eq_true rfl) (⟨rfl, Or.inr ⟨fun z => by omega, rfl⟩⟩)
  · rw [Int32.lt_iff_toInt_lt, Int32.toInt_zero] at c1
    refine lv_iload_n hx hb d_MS_mapOf_4 rfl (lv_at hl 1 rfl) ?_
    refine lv_aload_n hx hb d_MS_mapOf_5 rfl (lv_at hl 0 rfl) ?_
    refine mw_get K hI gf_MS_28_cMS f0 rfl d_MS_mapOf_6 ?_
    refine lv_icmp_lt (tgt := 16) hx hb d_MS_mapOf_9 (by decide) (fun c9 => ?_) (fun c9 => ?_)
    · rw [Int32.lt_iff_toInt_lt, nI_toInt (by omega)] at c9
      have hin : inM S q := ⟨by omega, c9⟩
      obtain ⟨e1, e2⟩ := inM_nI hin hn64
      rw [e1] at hl
      refine lv_aload_n hx hb d_MS_mapOf_16 rfl (lv_at hl 0 rfl) ?_
      refine mw_get K hI gf_MS_24_cMS f0 rfl d_MS_mapOf_17 ?_
      refine lv_iload_n hx hb d_MS_mapOf_20 rfl (lv_at hl 1 rfl) ?_
      refine mw_aald K hI tAN fr rfl q.toNatClampNeg rfl (by first | assumption | omega) (by omega) d_MS_mapOf_21 ?_
      refine mw_tv (y := .ref (mp q.toNatClampNeg)) ((by show va_rf (if q.toNatClampNeg < nm S then some (mp q.toNatClampNeg) else none) = _; rw [if_pos e2]; rfl)) ?_
      refine lv_astore_n (lv' := [(2, .ref (mp q.toNatClampNeg)), (0, .ref x), (1, .int (nI q.toNatClampNeg))]) hx hb d_MS_mapOf_22 rfl hl (by decide) rfl (fun ls hl => ?_)
      refine lv_aload_n hx hb d_MS_mapOf_23 rfl (lv_at hl 0 rfl) ?_
      refine lv_ifnonnull (tgt := 37) hx hb d_MS_mapOf_24 (by decide) ?_
      refine lv_aload_n hx hb d_MS_mapOf_37 rfl (lv_at hl 0 rfl) ?_
      refine W.widen (k := 1) (n := 6) (by decide) (by decide) ?_
      exact mw_aret K hI hr (Or.inl ⟨_, rfl⟩) hlk (Or.inr ⟨_, rfl⟩) ⟨rfl, Or.inl ⟨hin, rfl⟩⟩ d_MS_mapOf_38
    · rw [Int32.lt_iff_toInt_lt, nI_toInt (by omega)] at c9
      refine lv_null hx hb d_MS_mapOf_12 ?_
      refine lv_goto (tgt := 22) hx hb d_MS_mapOf_13 (by decide) ?_
      refine lv_astore_nN (lv' := [(2, .null), (0, .ref x), (1, .int q)]) hx hb d_MS_mapOf_22 rfl hl (by decide) rfl (fun ls hl => ?_)
      refine lv_aload_nN hx hb d_MS_mapOf_23 rfl (lv_at hl 0 rfl) ?_
      refine lv_ifnonnullN hx hb d_MS_mapOf_24 ?_
      exact mw_throw (tx := "no such map") K hL hSy hP0 hce hlk 2 rfl (by decide) (by decide) (ow_in ow_MS112) (by decide) tw_93 tw_35 tw_94 hl.1 d_MS_mapOf_27 d_MS_mapOf_30 d_MS_mapOf_31 d_MS_mapOf_33 d_MS_mapOf_36 (Nat.le_of_ble_eq_true rfl) (Nat.le_of_ble_eq_true rfl) (Nat.le_of_ble_eq_true rfl) (Nat.le_of_ble_eq_true rfl) (⟨rfl, Or.inr ⟨fun z => c9 z.2, rfl⟩⟩)
set_option maxRecDepth 100000 in
set_option maxHeartbeats 4000000 in
theorem c_MS_begins (l : Launch) (D : va_G) (dA : Nat → ClassId) (hL : mw_L l) {w : mw_W} {own : as_W} {x t : Nat} {S : as_S} (hR : RepC dA w own x S) (hW : wf_S t S) (q : Int32) : CT l D dA y_MS_begins (Cond.code y_MS_begins b_MS_begins 2 (some .int) :: Ts) 7 110 1 6 [.ref x, .int q] w (fun r w' => w' = w ∧ ((inM S q ∧ r = .inl (some (.int (nI (bg (mm S q.toNatClampNeg)))))) ∨ (¬ inM S q ∧ r = .inr 2))) := by
  refine mw_meth (by decide) mk_tb (Nat.le_of_ble_eq_true rfl) ?_
  intro p e s m below meth c K hr hlk hce hnm hP0 hSy ls hl
  have hl : lv_has ls 2 [(0, .ref x), (1, .int q)] := hl
  obtain ⟨hx, hb, hml, hown, hts, hK, hTb⟩ := id K
  have hI := mw_I.start hP0
  obtain ⟨bd, xd, ba, xa, ra, mp, gd, ga, hA⟩ := hR
  obtain ⟨⟨o1, o2, o3, o4, f0, fd, fa, fr, hdk, har⟩, hM⟩ := id hA
  refine lv_aload_n hx hb d_MS_begins_0 rfl (lv_at hl 0 rfl) ?_
  refine lv_iload_n hx hb d_MS_begins_1 rfl (lv_at hl 1 rfl) ?_
  refine mw_call (rest := []) K hSy hP0 hI (c_MS_mapOf l D dA hL hA hW.1 q) (mx_invV hx hown (hts _ tw_89) (hts _ tw_91) (hts _ tw_0) (hts _ tw_92) (by decide) (b := x) (mw_rc K hI f0 rfl) (g := F0 m 2 ls [.int q, .ref x]) rfl (argsL := [.int q]) (rest := []) np_MS_mapOf rfl (by rw [hb]; exact d_MS_begins_2)) hl.1 d_MS_begins_2 ⟨Nat.le_of_ble_eq_true rfl, Nat.le_of_ble_eq_true rfl⟩ (Or.inl ⟨_, _, List.mem_cons_self⟩) (mk_ws tw_92 hts) (fun a9 U9 h9 => Ts_warm hts _ tw_21 a9 U9 h9) ⟨Nat.le_of_ble_eq_true rfl, Nat.le_of_ble_eq_true rfl⟩ (fun v w' H locs hq hI => ?_) (fun k x w' H locs hq hI hX => ?_)
  · obtain ⟨hq1, ⟨hin, hq4⟩ | ⟨-, hq4⟩⟩ := hq
    · cases hq4
      rw [hq1] at hI
      obtain ⟨e1, e2⟩ := inM_nI hin hW.1
      refine W.eq (g2 := F0 m 5 ls [.ref (mp q.toNatClampNeg)]) rfl ?_
      obtain ⟨om, ⟨k0, fm⟩ | ⟨k0, ka, ak, ax, rch, gk, ff, fm, h9⟩ | ⟨k0, fm⟩⟩ := hM _ e2
      · refine mw_get K hI gf_MS_63_cAM fm rfl d_MS_begins_5 ?_
        exact mw_iret K hI hr hlk ⟨rfl, Or.inl ⟨hin, rfl⟩⟩ d_MS_begins_8
      · refine mw_get K hI gf_MS_63_cTM fm rfl d_MS_begins_5 ?_
        exact mw_iret K hI hr hlk ⟨rfl, Or.inl ⟨hin, rfl⟩⟩ d_MS_begins_8
      · refine mw_get K hI gf_MS_63_cRM fm rfl d_MS_begins_5 ?_
        exact mw_iret K hI hr hlk ⟨rfl, Or.inl ⟨hin, rfl⟩⟩ d_MS_begins_8
    · cases hq4
  · obtain ⟨hq1, ⟨-, hq4⟩ | ⟨hq2, hq4⟩⟩ := hq
    · cases hq4
    · cases hq4
      rw [hq1] at hI
      exact mw_on hI hce hlk hX ⟨rfl, Or.inr ⟨hq2, rfl⟩⟩
end
section
/-! ### tables: looking for keys -/
theorem d_TM_entryWithAsked_0 : decode b_TM_entryWithAsked 0 = .ok (.iconst 0, 1) := by decide +kernel
theorem d_TM_entryWithAsked_1 : decode b_TM_entryWithAsked 1 = .ok (.istore_n 2, 1) := by decide +kernel
theorem d_TM_entryWithAsked_2 : decode b_TM_entryWithAsked 2 = .ok (.iload_n 2, 1) := by decide +kernel
theorem d_TM_entryWithAsked_3 : decode b_TM_entryWithAsked 3 = .ok (.aload_n 0, 1) := by decide +kernel
theorem d_TM_entryWithAsked_4 : decode b_TM_entryWithAsked 4 = .ok (.getfield 9, 3) := by decide +kernel
theorem d_TM_entryWithAsked_7 : decode b_TM_entryWithAsked 7 = .ok (.if_icmp .ge 38, 3) := by decide +kernel
theorem d_TM_entryWithAsked_10 : decode b_TM_entryWithAsked 10 = .ok (.aload_n 0, 1) := by decide +kernel
theorem d_TM_entryWithAsked_11 : decode b_TM_entryWithAsked 11 = .ok (.getfield 23, 3) := by decide +kernel
theorem d_TM_entryWithAsked_14 : decode b_TM_entryWithAsked 14 = .ok (.iload_n 2, 1) := by decide +kernel
theorem d_TM_entryWithAsked_15 : decode b_TM_entryWithAsked 15 = .ok (.aaload, 1) := by decide +kernel
theorem d_TM_entryWithAsked_16 : decode b_TM_entryWithAsked 16 = .ok (.astore_n 3, 1) := by decide +kernel
theorem d_TM_entryWithAsked_17 : decode b_TM_entryWithAsked 17 = .ok (.aload_n 3, 1) := by decide +kernel
theorem d_TM_entryWithAsked_18 : decode b_TM_entryWithAsked 18 = .ok (.ifnull 21, 3) := by decide +kernel
theorem d_TM_entryWithAsked_21 : decode b_TM_entryWithAsked 21 = .ok (.iload_n 2, 1) := by decide +kernel
theorem d_TM_entryWithAsked_22 : decode b_TM_entryWithAsked 22 = .ok (.iload_n 1, 1) := by decide +kernel
theorem d_TM_entryWithAsked_23 : decode b_TM_entryWithAsked 23 = .ok (.if_icmp .eq 16, 3) := by decide +kernel
theorem d_TM_entryWithAsked_26 : decode b_TM_entryWithAsked 26 = .ok (.aload_n 3, 1) := by decide +kernel
theorem d_TM_entryWithAsked_27 : decode b_TM_entryWithAsked 27 = .ok (.aload_n 0, 1) := by decide +kernel
theorem d_TM_entryWithAsked_28 : decode b_TM_entryWithAsked 28 = .ok (.getfield 30, 3) := by decide +kernel
theorem d_TM_entryWithAsked_31 : decode b_TM_entryWithAsked 31 = .ok (.invokevirtual 62, 3) := by decide +kernel
theorem d_TM_entryWithAsked_34 : decode b_TM_entryWithAsked 34 = .ok (.ifCond .eq 5, 3) := by decide +kernel
theorem d_TM_entryWithAsked_37 : decode b_TM_entryWithAsked 37 = .ok (.iload_n 2, 1) := by decide +kernel
theorem d_TM_entryWithAsked_38 : decode b_TM_entryWithAsked 38 = .ok (.ireturn, 1) := by decide +kernel
theorem d_TM_entryWithAsked_39 : decode b_TM_entryWithAsked 39 = .ok (.iinc 2 1, 3) := by decide +kernel
theorem d_TM_entryWithAsked_42 : decode b_TM_entryWithAsked 42 = .ok (.goto (-40), 3) := by decide +kernel
theorem d_TM_entryWithAsked_45 : decode b_TM_entryWithAsked 45 = .ok (.iconst (-1), 1) := by decide +kernel
theorem d_TM_entryWithAsked_46 : decode b_TM_entryWithAsked 46 = .ok (.ireturn, 1) := by decide +kernel
theorem d_TM_leastFree_0 : decode b_TM_leastFree 0 = .ok (.iconst 0, 1) := by decide +kernel
theorem d_TM_leastFree_1 : decode b_TM_leastFree 1 = .ok (.istore_n 1, 1) := by decide +kernel
theorem d_TM_leastFree_2 : decode b_TM_leastFree 2 = .ok (.iload_n 1, 1) := by decide +kernel
theorem d_TM_leastFree_3 : decode b_TM_leastFree 3 = .ok (.aload_n 0, 1) := by decide +kernel
theorem d_TM_leastFree_4 : decode b_TM_leastFree 4 = .ok (.getfield 66, 3) := by decide +kernel
theorem d_TM_leastFree_7 : decode b_TM_leastFree 7 = .ok (.if_icmp .ge 20, 3) := by decide +kernel
theorem d_TM_leastFree_10 : decode b_TM_leastFree 10 = .ok (.aload_n 0, 1) := by decide +kernel
theorem d_TM_leastFree_11 : decode b_TM_leastFree 11 = .ok (.getfield 23, 3) := by decide +kernel
theorem d_TM_leastFree_14 : decode b_TM_leastFree 14 = .ok (.iload_n 1, 1) := by decide +kernel
theorem d_TM_leastFree_15 : decode b_TM_leastFree 15 = .ok (.aaload, 1) := by decide +kernel
theorem d_TM_leastFree_16 : decode b_TM_leastFree 16 = .ok (.ifnonnull 5, 3) := by decide +kernel
theorem d_TM_leastFree_19 : decode b_TM_leastFree 19 = .ok (.iload_n 1, 1) := by decide +kernel
theorem d_TM_leastFree_20 : decode b_TM_leastFree 20 = .ok (.ireturn, 1) := by decide +kernel
theorem d_TM_leastFree_21 : decode b_TM_leastFree 21 = .ok (.iinc 1 1, 3) := by decide +kernel
theorem d_TM_leastFree_24 : decode b_TM_leastFree 24 = .ok (.goto (-22), 3) := by decide +kernel
theorem d_TM_leastFree_27 : decode b_TM_leastFree 27 = .ok (.iconst (-1), 1) := by decide +kernel
theorem d_TM_leastFree_28 : decode b_TM_leastFree 28 = .ok (.ireturn, 1) := by decide +kernel
theorem d_TM_entryOf_0 : decode b_TM_entryOf 0 = .ok (.aload_n 0, 1) := by decide +kernel
theorem d_TM_entryOf_1 : decode b_TM_entryOf 1 = .ok (.getfield 30, 3) := by decide +kernel
theorem d_TM_entryOf_4 : decode b_TM_entryOf 4 = .ok (.iconst 0, 1) := by decide +kernel
theorem d_TM_entryOf_5 : decode b_TM_entryOf 5 = .ok (.aload_n 0, 1) := by decide +kernel
theorem d_TM_entryOf_6 : decode b_TM_entryOf 6 = .ok (.getfield 34, 3) := by decide +kernel
theorem d_TM_entryOf_9 : decode b_TM_entryOf 9 = .ok (.iload_n 1, 1) := by decide +kernel
theorem d_TM_entryOf_10 : decode b_TM_entryOf 10 = .ok (.aload_n 0, 1) := by decide +kernel
theorem d_TM_entryOf_11 : decode b_TM_entryOf 11 = .ok (.getfield 37, 3) := by decide +kernel
theorem d_TM_entryOf_14 : decode b_TM_entryOf 14 = .ok (.invokevirtual 40, 3) := by decide +kernel
theorem d_TM_entryOf_17 : decode b_TM_entryOf 17 = .ok (.aload_n 0, 1) := by decide +kernel
theorem d_TM_entryOf_18 : decode b_TM_entryOf 18 = .ok (.iconst (-1), 1) := by decide +kernel
theorem d_TM_entryOf_19 : decode b_TM_entryOf 19 = .ok (.invokevirtual 44, 3) := by decide +kernel
theorem d_TM_entryOf_22 : decode b_TM_entryOf 22 = .ok (.ireturn, 1) := by decide +kernel
theorem bw_ext {x y : Int64} (h : ∀ t, t < 8 → uN x / 2 ^ (8 * t) % 256 = uN y / 2 ^ (8 * t) % 256) : x = y := by
  apply uN_inj
  apply Nat.eq_of_testBit_eq
  intro i
  by_cases hi : i < 64
  · have h1 := congrArg (fun n => n.testBit (i % 8)) (h (i / 8) (by omega))
    simp only [bw_tb] at h1
    have h2 : i % 8 < 8 := Nat.mod_lt _ (by decide)
    have h3 : 8 * (i / 8) + i % 8 = i := by omega
    rw [h3] at h1
    simpa [h2] using h1
  · have hp : (18446744073709551616 : Nat) ≤ 2 ^ i := by
      have : (2 : Nat) ^ 64 ≤ 2 ^ i := Nat.pow_le_pow_right (by decide) (by omega)
      omega
    rw [Nat.testBit_lt_two_pow (Nat.lt_of_lt_of_le (uN_lt x) hp), Nat.testBit_lt_two_pow (Nat.lt_of_lt_of_le (uN_lt y) hp)]
theorem by_l_eq {g g2 : Nat → Int64} {k : Nat} {l l2 : List Nat} (h : by_l g k l) (h2 : by_l g2 k l2) : (∀ j, j < (k + 7) / 8 → g j = g2 j) ↔ l = l2 := by
  constructor
  · intro e
    apply List.ext_getElem (by rw [h.1, h2.1])
    intro j h3 h4
    have hj : j < k := by rw [h.1] at h3; exact h3
    have e1 := h.2.1 j hj
    have e2 := h2.2.1 j hj
    have e3 : bw_b g j = bw_b g2 j := by unfold bw_b; rw [e (j / 8) (by omega)]
    rw [e1, e2, List.getD_eq_getElem?_getD, List.getD_eq_getElem?_getD, List.getElem?_eq_getElem h3, List.getElem?_eq_getElem h4] at e3
    exact e3
  · intro e j hj
    subst e
    apply bw_ext
    intro t ht
    have hb : bw_b g (8 * j + t) = bw_b g2 (8 * j + t) := by
      by_cases hk : 8 * j + t < k
      · rw [h.2.1 _ hk, h2.2.1 _ hk]
      · rw [h.2.2 _ (by omega) (by omega), h2.2.2 _ (by omega) (by omega)]
    unfold bw_b at hb
    rw [show (8 * j + t) / 8 = j by omega, show (8 * j + t) % 8 = t by omega] at hb
    exact hb
/-- the least number under n with P -/
def lst (P : Nat → Bool) : Nat → Option Nat
  | 0 => none
  | n + 1 => match lst P n with
    | some e => some e
    | none => if P n = true then some n else none
theorem lst_none {P : Nat → Bool} : ∀ {n : Nat}, (∀ e, e < n → P e = false) → lst P n = none
  | 0, _ => rfl
  | n + 1, h => by rw [lst, lst_none (fun e he => h e (by omega)), h n (by omega)]; rfl
theorem lst_some {P : Nat → Bool} {e : Nat} (he : P e = true) (hl : ∀ e', e' < e → P e' = false) : ∀ {n : Nat}, e < n → lst P n = some e
  | 0, h => absurd h (by omega)
  | n + 1, h => by
    by_cases q : e < n
    · rw [lst, lst_some he hl q]
    · have : e = n := by omega
      subst this
      rw [lst, lst_none hl, he]; rfl
theorem lst_is {P : Nat → Bool} : ∀ {n e : Nat}, lst P n = some e → e < n ∧ P e = true ∧ ∀ e', e' < e → P e' = false
  | 0, _, h => by cases h
  | n + 1, e, h => by
    rw [lst] at h
    cases q : lst P n with
    | some a =>
      rw [q] at h; cases h
      obtain ⟨h1, h2, h3⟩ := lst_is q
      exact ⟨by omega, h2, h3⟩
    | none =>
      rw [q] at h
      by_cases hp : P n = true
      · rw [if_pos hp] at h; cases h
        exact ⟨by omega, hp, fun e' he' => lst_no q e' he'⟩
      · rw [if_neg hp] at h; cases h
where lst_no {P : Nat → Bool} : ∀ {n : Nat}, lst P n = none → ∀ e, e < n → P e = false
  | 0, _, e, he => absurd he (by omega)
  | n + 1, h, e, he => by
    rw [lst] at h
    cases q : lst P n with
    | some a => rw [q] at h; cases h
    | none =>
      rw [q] at h
      by_cases hp : P n = true
      · rw [if_pos hp] at h; cases h
      · by_cases e2 : e = n
        · subst e2; simpa using hp
        · exact lst_no q e (by omega)
def oI (r : Option Nat) : Int32 := match r with
  | none => -1
  | some e => nI e
set_option maxRecDepth 100000 in
set_option maxHeartbeats 4000000 in
theorem c_TM_entryWithAsked (l : Launch) (D : va_G) (dA : Nat → ClassId) {w : mw_W} {a : Nat} {m0 : as_M} {bd ba ka ak ax rch : Nat} {gk : Nat → Int64} {f : Nat → Option Nat} {wk : Int32} (f0 : w a = some (.inr (cTM, [.ref bd, .ref ba, .int (nI (bg m0)), .int (nI (ks m0)), .int (nI (vs m0)), .int (nI (en m0)), .ref ka, .ref ak, .int (nI rch), .int wk, .int (nI 0)]))) (fk : by_ok dA w ak ax (ks m0) gk) (hk : by_l gk (ks m0) (aq m0)) (hks : ks m0 ≤ 64) (hen : en m0 ≤ 4096) (f1 : w ka = some (.inl (dA tBY, en m0, .inr (.inr (.inr (.inr f)))))) (hr1 : rch ≤ en m0) (hn1 : ∀ e, e < en m0 → tb m0 e = none → f e = none) (hs1 : ∀ e k, tb m0 e = some k → e < rch ∧ ∃ (kb kx : Nat) (g : Nat → Int64), f e = some kb ∧ by_ok dA w kb kx (ks m0) g ∧ by_l g (ks m0) k) (bes : Int32) : CT l D dA y_TM_entryWithAsked (Cond.code y_TM_entryWithAsked b_TM_entryWithAsked 4 (some .int) :: Ts) 1 20 0 0 [.ref a, .int bes] w (fun r w' => w' = w ∧ r = .inl (some (.int (oI (lst (fun e => decide (tb m0 e = some (aq m0)) && decide (bes ≠ nI e)) (en m0)))))) := by
  refine mw_meth (by decide) mk_tb (Nat.le_of_ble_eq_true rfl) ?_
  intro p e s m below meth c K hr hlk hce hnm hP0 hSy ls hl
  have hl : lv_has ls 4 [(0, .ref a), (1, .int bes)] := hl
  obtain ⟨hx, hb, hml, hown, hts, hK, hTb⟩ := id K
  have hI := mw_I.start hP0
  have hloop : ∀ (q j : Nat), j + q = rch → (∀ e, e < j → (decide (tb m0 e = some (aq m0)) && decide (bes ≠ nI e)) = false) → ∀ (H : Heap) (locs : List Loc), mw_I D mk_cl w s.heap w H locs → ∀ ls : Array Slot, lv_has ls 4 [(2, .int (nI j)), (0, .ref a), (1, .int bes)] → W p l e { frames := 1, cells := 0, slots := 0, locals := 20 } s m ([.ref a, .int bes] : List Value).toArray below meth c H locs 0 0 (mx_Q below (mw_Qc D mk_cl w s.heap.size (fun r w' => w' = w ∧ r = .inl (some (.int (oI (lst (fun e => decide (tb m0 e = some (aq m0)) && decide (bes ≠ nI e)) (en m0))))))) ([.ref a, .int bes] : List Value).toArray s 0 0 (mw_A w s.heap.size)) (F0 m 2 ls []) := by
    intro q
    induction q with
    | zero =>
      intro j hj hno H locs hI ls hl
      refine lv_iload_n hx hb d_TM_entryWithAsked_2 rfl (lv_at hl 0 rfl) ?_
      refine lv_aload_n hx hb d_TM_entryWithAsked_3 rfl (lv_at hl 1 rfl) ?_
      refine mw_get K hI gf_TM_9_cTM f0 rfl d_TM_entryWithAsked_4 ?_
      refine lv_icmp_ge (tgt := 45) hx hb d_TM_entryWithAsked_7 (by decide) (fun c7 => ?_) (fun c7 => ?_)
      ·
        refine lv_iconst (v := (-1)) hx hb d_TM_entryWithAsked_45 (by decide) ?_
        refine mw_iret K hI hr hlk ⟨rfl, ?_⟩ d_TM_entryWithAsked_46
        rw [lst_none (fun e he => ?_)]
        · rfl
        · by_cases hej : e < j
          · exact hno e hej
          · cases ht : tb m0 e with
            | none => rfl
            | some k => exact absurd (hs1 e k ht).1 (by omega)
      ·
        exact absurd (nI_le (by omega) (by omega)) c7
    | succ q ih =>
      intro j hj hno H locs hI ls hl
      refine lv_iload_n hx hb d_TM_entryWithAsked_2 rfl (lv_at hl 0 rfl) ?_
      refine lv_aload_n hx hb d_TM_entryWithAsked_3 rfl (lv_at hl 1 rfl) ?_
      refine mw_get K hI gf_TM_9_cTM f0 rfl d_TM_entryWithAsked_4 ?_
      refine lv_icmp_ge (tgt := 45) hx hb d_TM_entryWithAsked_7 (by decide) (fun c7 => ?_) (fun c7 => ?_)
      ·
        exact absurd c7 (nI_ge (by omega) (by omega))
      ·
        refine lv_aload_n hx hb d_TM_entryWithAsked_10 rfl (lv_at hl 1 rfl) ?_
        refine mw_get K hI gf_TM_23_cTM f0 rfl d_TM_entryWithAsked_11 ?_
        refine lv_iload_n hx hb d_TM_entryWithAsked_14 rfl (lv_at hl 0 rfl) ?_
        refine mw_aald K hI tBY f1 rfl j rfl (by first | assumption | omega) (by omega) d_TM_entryWithAsked_15 ?_
        cases ht : tb m0 j with
        | none =>
          have hfj := hn1 j (by omega) ht
          refine mw_tv (y := .null) ((by rw [hfj]; rfl)) ?_
          refine lv_astore_nN (lv' := [(3, .null), (2, .int (nI j)), (0, .ref a), (1, .int bes)]) hx hb d_TM_entryWithAsked_16 rfl hl (by decide) rfl (fun ls hl => ?_)
          refine lv_aload_nN hx hb d_TM_entryWithAsked_17 rfl (lv_at hl 0 rfl) ?_
          refine lv_ifnullN (tgt := 39) hx hb d_TM_entryWithAsked_18 (by decide) ?_
          refine lv_iinc (v := nI (j + 1)) (lv' := [(2, .int (nI (j + 1))), (3, .null), (0, .ref a), (1, .int bes)]) hx hb d_TM_entryWithAsked_39 hl (k := 1) rfl (nI_add _ _) (by decide) rfl (fun ls hl => ?_)
          refine lv_goto (tgt := 2) hx hb d_TM_entryWithAsked_42 (by decide) ?_
          exact ih (j + 1) (by omega) (lt_s hno (by rw [ht]; rfl)) H locs hI ls (lv_sub hl [0, 2, 3] rfl)
        | some k =>
          obtain ⟨hjr, kb, kx, g, hfj, fb, hbl⟩ := hs1 j k ht
          refine mw_tv (y := .ref kb) ((by rw [hfj]; rfl)) ?_
          refine lv_astore_n (lv' := [(3, .ref kb), (2, .int (nI j)), (0, .ref a), (1, .int bes)]) hx hb d_TM_entryWithAsked_16 rfl hl (by decide) rfl (fun ls hl => ?_)
          refine lv_aload_n hx hb d_TM_entryWithAsked_17 rfl (lv_at hl 0 rfl) ?_
          refine lv_ifnull hx hb d_TM_entryWithAsked_18 ?_
          refine lv_iload_n hx hb d_TM_entryWithAsked_21 rfl (lv_at hl 1 rfl) ?_
          refine lv_iload_n hx hb d_TM_entryWithAsked_22 rfl (lv_at hl 3 rfl) ?_
          refine lv_icmp_eq (tgt := 39) hx hb d_TM_entryWithAsked_23 (by decide) (fun c23 => ?_) (fun c23 => ?_)
          ·
            refine lv_iinc (v := nI (j + 1)) (lv' := [(2, .int (nI (j + 1))), (3, .ref kb), (0, .ref a), (1, .int bes)]) hx hb d_TM_entryWithAsked_39 hl (k := 1) rfl (nI_add _ _) (by decide) rfl (fun ls hl => ?_)
            refine lv_goto (tgt := 2) hx hb d_TM_entryWithAsked_42 (by decide) ?_
            exact ih (j + 1) (by omega) (lt_s hno (by rw [← c23]; simp)) H locs hI ls (lv_sub hl [0, 2, 3] rfl)
          ·
            refine lv_aload_n hx hb d_TM_entryWithAsked_26 rfl (lv_at hl 0 rfl) ?_
            refine lv_aload_n hx hb d_TM_entryWithAsked_27 rfl (lv_at hl 2 rfl) ?_
            refine mw_get K hI gf_TM_30_cTM f0 rfl d_TM_entryWithAsked_28 ?_
            refine mw_call (rest := []) K hSy hP0 hI (c_BY_same l D dA fb (by omega) fk) (mx_invV hx hown (hts _ tw_457) (hts _ tw_458) (hts _ tw_459) (hts _ tw_460) (by decide) (b := kb) (mw_rc K hI fb.1 rfl) (g := F0 m 31 ls [.ref ak, .ref kb]) rfl (argsL := [.ref ak]) (rest := []) np_BY_same rfl (by rw [hb]; exact d_TM_entryWithAsked_31)) hl.1 d_TM_entryWithAsked_31 ⟨Nat.le_of_ble_eq_true rfl, Nat.le_of_ble_eq_true rfl⟩ (Or.inl ⟨_, _, List.mem_cons_self⟩) (mk_ws tw_460 hts) (fun a9 U9 h9 => Ts_warm hts _ tw_22 a9 U9 h9) ⟨Nat.le_of_ble_eq_true rfl, Nat.le_of_ble_eq_true rfl⟩ (fun v w' H locs hq hI => ?_) (fun k x w' H locs hq hI hX => ?_)
            · obtain ⟨hq1, v9, hq2, hq3⟩ := hq
              cases hq2
              rw [hq1] at hI
              refine W.eq (g2 := F0 m 34 ls [.int v9]) rfl ?_
              refine lv_if_eq (tgt := 39) hx hb d_TM_entryWithAsked_34 (by decide) (fun c34 => ?_) (fun c34 => ?_)
              ·
                refine lv_iinc (v := nI (j + 1)) (lv' := [(2, .int (nI (j + 1))), (3, .ref kb), (0, .ref a), (1, .int bes)]) hx hb d_TM_entryWithAsked_39 hl (k := 1) rfl (nI_add _ _) (by decide) rfl (fun ls hl => ?_)
                refine lv_goto (tgt := 2) hx hb d_TM_entryWithAsked_42 (by decide) ?_
                refine ih (j + 1) (by omega) (lt_s hno ?_) H locs hI ls (lv_sub hl [0, 2, 3] rfl)
                rcases hq3 with ⟨e9, -⟩ | ⟨-, hne⟩
                · rw [e9] at c34; exact absurd c34 (by decide)
                · rw [by_l_eq hbl hk] at hne
                  rw [ht]
                  simp [hne]
              ·
                refine lv_iload_n hx hb d_TM_entryWithAsked_37 rfl (lv_at hl 1 rfl) ?_
                refine mw_iret K hI hr hlk ⟨rfl, ?_⟩ d_TM_entryWithAsked_38
                rcases hq3 with ⟨-, heq⟩ | ⟨e9, -⟩
                · rw [by_l_eq hbl hk] at heq
                  rw [lst_some (e := j) (by rw [ht, heq]; simp; exact fun z => c23 z.symm) hno (by omega)]
                  rfl
                · exact absurd e9 c34
            · obtain ⟨-, v9, hq2, -⟩ := hq
              cases hq2
  refine lv_iconst (v := nI 0) hx hb d_TM_entryWithAsked_0 (by decide) ?_
  refine lv_istore_n (lv' := [(2, .int (nI 0)), (0, .ref a), (1, .int bes)]) hx hb d_TM_entryWithAsked_1 rfl hl (by decide) rfl (fun ls hl => ?_)
  exact hloop rch 0 (by omega) lt_0 _ _ hI ls (lv_sub hl [0, 1, 2] rfl)
end
section
/-! ### tables: entryOf, leastFree -/
def roleI (i : Nat) (r : Nat × Nat × Nat) : Prop := r = (7, i, 0) ∨ r = (5, i, 0) ∨ r = (3, i, 0) ∨ ∃ e, r = (4, i, e)
theorem roleI_t {i : Nat} {r : Nat × Nat × Nat} (h : roleI i r) : r.2.1 = i ∧ (r.1 = 7 ∨ r.1 = 5 ∨ r.1 = 3 ∨ r.1 = 4) := by
  rcases h with h | h | h | ⟨e, h⟩ <;> subst h <;> simp
/-- one map has changed, with its own cells -/
theorem rc_A.map {dA : Nat → ClassId} {w w' : mw_W} {own own' : as_W} {x bd xd ba xa ra : Nat} {mp : Nat → Nat} {gd ga : Nat → Int64} {S : as_S} (h : rc_A dA w own x bd xd ba xa ra mp gd ga S) {i : Nat} {m' : as_M} (hm : rc_M dA w' own' bd ba i (mp i) m')
    (hk : ∀ (q : Nat) (y : va_E), w q = some y → (¬ roleI i (own q) ∨ ∃ fs, y = .inr (cBY, fs)) → w' q = some y) (ho : ∀ (q : Nat) (y : va_E), w q = some y → own' q = own q) : rc_A dA w' own' x bd xd ba xa ra mp gd ga (S_mm S i m') := by
  obtain ⟨⟨h1, h2, h3, h4, h5, h6, h7, h8, h9, h10⟩, hM⟩ := h
  have nr : ∀ {r : Nat × Nat × Nat}, r.1 ≠ 7 → r.1 ≠ 5 → r.1 ≠ 3 → r.1 ≠ 4 → ¬ roleI i r := fun a b c d z => by
    have := (roleI_t z).2; omega
  refine ⟨⟨(ho _ _ h5).trans h1, (ho _ _ h6.2).trans h2, (ho _ _ h7.2).trans h3, (ho _ _ h8).trans h4, hk _ _ h5 (Or.inl (by rw [h1]; exact nr (by decide) (by decide) (by decide) (by decide))), ⟨hk _ _ h6.1 (Or.inr ⟨_, rfl⟩), hk _ _ h6.2 (Or.inl (by rw [h2]; exact nr (by decide) (by decide) (by decide) (by decide)))⟩, ⟨hk _ _ h7.1 (Or.inr ⟨_, rfl⟩), hk _ _ h7.2 (Or.inl (by rw [h3]; exact nr (by decide) (by decide) (by decide) (by decide)))⟩, hk _ _ h8 (Or.inl (by rw [h4]; exact nr (by decide) (by decide) (by decide) (by decide))), h9, h10⟩, fun j hj => ?_⟩
  by_cases e : j = i
  · subst e
    show rc_M dA w' own' bd ba j (mp j) (va_up (mm S) j m' j)
    rw [va_up_self]; exact hm
  · show rc_M dA w' own' bd ba j (mp j) (va_up (mm S) i m' j)
    rw [va_up_ne _ _ e]
    refine (hM j hj).keep (fun q y hq hr => hk q y hq ?_) ho
    rcases hr with hr | hr
    · refine Or.inl (fun z => e ?_)
      have h1 : (own q).2.1 = j := by rcases hr with r | r | r | ⟨e', r⟩ <;> rw [r]
      rw [← (roleI_t z).1, h1]
    · exact Or.inr hr
/-- the key of k bytes on the desk, from q on -/
def kyL (d : Nat → Nat) (q k : Nat) : List Nat := (List.range k).map (fun j => d (q + j))
theorem kyL_len (d : Nat → Nat) (q k : Nat) : (kyL d q k).length = k := by simp [kyL]
theorem kyL_get (d : Nat → Nat) (q k : Nat) {j : Nat} (h : j < k) : (kyL d q k).getD j 0 = d (q + j) := by
  simp [kyL, h]
theorem lst_congr {P Q : Nat → Bool} : ∀ {n : Nat}, (∀ e, e < n → P e = Q e) → lst P n = lst Q n
  | 0, _ => rfl
  | n + 1, h => by rw [lst, lst, lst_congr (fun e he => h e (by omega)), h n (by omega)]
/-- looking for a key -/
def fnd (m : as_M) (k : List Nat) : Option Nat := lst (fun e => decide (tb m e = some k)) (en m)
theorem neg_ne {e : Nat} (h : e < 2 ^ 30) : (-1 : Int32) ≠ nI e := fun z => by
  have := congrArg Int32.toInt z
  rw [nI_toInt (by omega)] at this
  have h2 : (-1 : Int32).toInt = -1 := by decide
  omega
set_option maxRecDepth 100000 in
set_option maxHeartbeats 4000000 in
theorem c_TM_leastFree (l : Launch) (D : va_G) (dA : Nat → ClassId) {w : mw_W} {a : Nat} {m0 : as_M} {bd ba ka ak rch : Nat} {f : Nat → Option Nat} {wk : Int32} (f0 : w a = some (.inr (cTM, [.ref bd, .ref ba, .int (nI (bg m0)), .int (nI (ks m0)), .int (nI (vs m0)), .int (nI (en m0)), .ref ka, .ref ak, .int (nI rch), .int wk, .int (nI 0)]))) (hen : en m0 ≤ 4096) (f1 : w ka = some (.inl (dA tBY, en m0, .inr (.inr (.inr (.inr f)))))) (hn1 : ∀ e, e < en m0 → (tb m0 e = none ↔ f e = none)) : CT l D dA y_TM_leastFree (Cond.code y_TM_leastFree b_TM_leastFree 2 (some .int) :: Ts) 0 0 0 0 [.ref a] w (fun r w' => w' = w ∧ r = .inl (some (.int (oI (lst (fun e => (tb m0 e).isNone) (en m0)))))) := by
  refine mw_meth (by decide) mk_tb (Nat.le_of_ble_eq_true rfl) ?_
  intro p e s m below meth c K hr hlk hce hnm hP0 hSy ls hl
  have hl : lv_has ls 2 [(0, .ref a)] := hl
  obtain ⟨hx, hb, hml, hown, hts, hK, hTb⟩ := id K
  have hI := mw_I.start hP0
  have hloop : ∀ (q j : Nat), j + q = en m0 → (∀ e, e < j → (tb m0 e).isNone = false) → ∀ ls : Array Slot, lv_has ls 2 [(1, .int (nI j)), (0, .ref a)] → W p l e { frames := 0, cells := 0, slots := 0, locals := 0 } s m ([.ref a] : List Value).toArray below meth c s.heap [] 0 0 (mx_Q below (mw_Qc D mk_cl w s.heap.size (fun r w' => w' = w ∧ r = .inl (some (.int (oI (lst (fun e => (tb m0 e).isNone) (en m0))))))) ([.ref a] : List Value).toArray s 0 0 (mw_A w s.heap.size)) (F0 m 2 ls []) := by
    intro q
    induction q with
    | zero =>
      intro j hj hno ls hl
      refine lv_iload_n hx hb d_TM_leastFree_2 rfl (lv_at hl 0 rfl) ?_
      refine lv_aload_n hx hb d_TM_leastFree_3 rfl (lv_at hl 1 rfl) ?_
      refine mw_get K hI gf_TM_66_cTM f0 rfl d_TM_leastFree_4 ?_
      refine lv_icmp_ge (tgt := 27) hx hb d_TM_leastFree_7 (by decide) (fun c7 => ?_) (fun c7 => ?_)
      ·
        refine lv_iconst (v := (-1)) hx hb d_TM_leastFree_27 (by decide) ?_
        refine mw_iret K hI hr hlk ⟨rfl, ?_⟩ d_TM_leastFree_28
        rw [lst_none (fun e he => hno e (by omega))]
        rfl
      ·
        exact absurd (nI_le (by omega) (by omega)) c7
    | succ q ih =>
      intro j hj hno ls hl
      refine lv_iload_n hx hb d_TM_leastFree_2 rfl (lv_at hl 0 rfl) ?_
      refine lv_aload_n hx hb d_TM_leastFree_3 rfl (lv_at hl 1 rfl) ?_
      refine mw_get K hI gf_TM_66_cTM f0 rfl d_TM_leastFree_4 ?_
      refine lv_icmp_ge (tgt := 27) hx hb d_TM_leastFree_7 (by decide) (fun c7 => ?_) (fun c7 => ?_)
      ·
        exact absurd c7 (nI_ge (by omega) (by omega))
      ·
        refine lv_aload_n hx hb d_TM_leastFree_10 rfl (lv_at hl 1 rfl) ?_
        refine mw_get K hI gf_TM_23_cTM f0 rfl d_TM_leastFree_11 ?_
        refine lv_iload_n hx hb d_TM_leastFree_14 rfl (lv_at hl 0 rfl) ?_
        refine mw_aald K hI tBY f1 rfl j rfl (by first | assumption | omega) (by omega) d_TM_leastFree_15 ?_
        cases hfj : f j with
        | none =>
          refine mw_tv (y := .null) (rfl) ?_
          refine lv_ifnonnullN hx hb d_TM_leastFree_16 ?_
          refine lv_iload_n hx hb d_TM_leastFree_19 rfl (lv_at hl 0 rfl) ?_
          refine mw_iret K hI hr hlk ⟨rfl, ?_⟩ d_TM_leastFree_20
          rw [lst_some (e := j) (by rw [(hn1 j (by omega)).mpr hfj]; rfl) hno (by omega)]
          rfl
        | some kb =>
          refine mw_tv (y := .ref kb) (rfl) ?_
          refine lv_ifnonnull (tgt := 21) hx hb d_TM_leastFree_16 (by decide) ?_
          refine lv_iinc (v := nI (j + 1)) (lv' := [(1, .int (nI (j + 1))), (0, .ref a)]) hx hb d_TM_leastFree_21 hl (k := 0) rfl (nI_add _ _) (by decide) rfl (fun ls hl => ?_)
          refine lv_goto (tgt := 2) hx hb d_TM_leastFree_24 (by decide) ?_
          refine ih (j + 1) (by omega) (lt_s hno ?_) ls (lv_sub hl [0, 1] rfl)
          cases ht : tb m0 j with
          | none => rw [(hn1 j (by omega)).mp ht] at hfj; cases hfj
          | some k => rfl
  refine lv_iconst (v := nI 0) hx hb d_TM_leastFree_0 (by decide) ?_
  refine lv_istore_n (lv' := [(1, .int (nI 0)), (0, .ref a)]) hx hb d_TM_leastFree_1 rfl hl (by decide) rfl (fun ls hl => ?_)
  exact hloop (en m0) 0 (by omega) lt_0 ls (lv_sub hl [0, 1] rfl)
set_option maxRecDepth 100000 in
set_option maxHeartbeats 4000000 in
theorem c_TM_entryOf (l : Launch) (D : va_G) (dA : Nat → ClassId) {w : mw_W} {own : as_W} {x bd xd ba xa ra : Nat} {mp : Nat → Nat} {gd ga : Nat → Int64} {S : as_S} {t : Nat} (hA : rc_A dA w own x bd xd ba xa ra mp gd ga S) (hW : wf_S t S) {i : Nat} (hi : i < nm S) (hk1 : kd (mm S i) = 1) {q : Nat} (hq0 : q + ks (mm S i) ≤ 512) : CT l D dA y_TM_entryOf (Cond.code y_TM_entryOf b_TM_entryOf 2 (some .int) :: Ts) 3 80 0 0 [.ref (mp i), .int (nI q)] w (fun r w' => r = .inl (some (.int (oI (fnd (mm S i) (kyL (dk S) q (ks (mm S i))))))) ∧ rc_A dA w' own x bd xd ba xa ra mp gd ga (S_mm S i (M_aq (mm S i) (kyL (dk S) q (ks (mm S i))))) ∧ Fr w own w' own) := by
  refine mw_meth (by decide) mk_tb (Nat.le_of_ble_eq_true rfl) ?_
  intro p e s m below meth c K hr hlk hce hnm hP0 hSy ls hl
  have hl : lv_has ls 2 [(0, .ref (mp i)), (1, .int (nI q))] := hl
  obtain ⟨hx, hb, hml, hown, hts, hK, hTb⟩ := id K
  have hI := mw_I.start hP0
  obtain ⟨⟨o1, o2, o3, o4, fx, fd, fa, fr, hdk, har⟩, hM⟩ := id hA
  obtain ⟨-, hwf⟩ := hW.2.2.2.2.2 i hi
  have hM0 := hM i hi
  generalize em : mm S i = mi at *
  obtain ⟨om, ⟨k0, -⟩ | ⟨k0, ka, ak, ax, rch, gk, f, f0, oka, oax, fk, hbl, f1, hr1, hn1, hs1⟩ | ⟨k0, -⟩⟩ := hM0
  · rw [hk1] at k0; cases k0
  · rcases hwf with ⟨k2, -⟩ | ⟨-, b1, b2, b3, b4, b5, b6, b7, b8, b9, b10⟩ | ⟨k2, -⟩
    · rw [hk1] at k2; cases k2
    · have hax : ax ≠ xd := own_ne oax o2 (by simp)
      refine lv_aload_n hx hb d_TM_entryOf_0 rfl (lv_at hl 0 rfl) ?_
      refine mw_get K hI gf_TM_30_cTM f0 rfl d_TM_entryOf_1 ?_
      refine lv_iconst (v := nI 0) hx hb d_TM_entryOf_4 (by decide) ?_
      refine lv_aload_n hx hb d_TM_entryOf_5 rfl (lv_at hl 0 rfl) ?_
      refine mw_get K hI gf_TM_34_cTM f0 rfl d_TM_entryOf_6 ?_
      refine lv_iload_n hx hb d_TM_entryOf_9 rfl (lv_at hl 1 rfl) ?_
      refine lv_aload_n hx hb d_TM_entryOf_10 rfl (lv_at hl 0 rfl) ?_
      refine mw_get K hI gf_TM_37_cTM f0 rfl d_TM_entryOf_11 ?_
      refine mw_call (rest := []) K hSy hP0 hI (c_BY_copy l D dA fk (by omega) fd (by decide) hax.symm (i := 0) (i2 := q) (k := ks mi) (by omega) hq0) (mx_invV hx hown (hts _ tw_449) (hts _ tw_450) (hts _ tw_451) (hts _ tw_452) (by decide) (b := ak) (mw_rc K hI fk.1 rfl) (g := F0 m 14 ls [.int (nI (ks mi)), .int (nI q), .ref bd, .int (nI 0), .ref ak]) rfl (argsL := [.int (nI 0), .ref bd, .int (nI q), .int (nI (ks mi))]) (rest := []) np_BY_copy rfl (by rw [hb]; exact d_TM_entryOf_14)) hl.1 d_TM_entryOf_14 ⟨Nat.le_of_ble_eq_true rfl, Nat.le_of_ble_eq_true rfl⟩ (Or.inl ⟨_, _, List.mem_cons_self⟩) (mk_ws tw_452 hts) (fun a9 U9 h9 => Ts_warm hts _ tw_22 a9 U9 h9) ⟨Nat.le_of_ble_eq_true rfl, Nat.le_of_ble_eq_true rfl⟩ (fun v w' H locs hq hI => ?_) (fun k x w' H locs hq hI hX => ?_)
      · obtain ⟨hq1, g', hq2, hq3⟩ := hq
        cases hq1
        rw [hq2] at hI
        refine W.eq (g2 := F0 m 17 ls []) rfl ?_
        have hkl : by_l g' (ks mi) (kyL (dk S) q (ks mi)) := by
          refine ⟨kyL_len _ _ _, fun j hj => ?_, fun j h1 h2 => ?_⟩
          · rw [hq3 j, if_pos (by omega), kyL_get _ _ _ hj]; show bw_b gd (q + (j - 0)) = _; rw [Nat.sub_zero]; exact hdk _ (by omega)
          · rw [hq3 j, if_neg (by omega)]; exact hbl.2.2 j h1 h2
        have f0' := (mw_up_n w (by_a dA (ks mi) g') (mw_neA f0 fk.2)).trans f0
        have f1' := (mw_up_n w (by_a dA (ks mi) g') (own_ne oka oax (by simp))).trans f1
        have hs2 : ∀ e k, tb mi e = some k → e < rch ∧ ∃ (kb kx : Nat) (g : Nat → Int64), f e = some kb ∧ own kx = (4, i, e) ∧ by_ok dA (mw_up w ax (by_a dA (ks mi) g')) kb kx (ks mi) g ∧ by_l g (ks mi) k := by
          intro e k he
          obtain ⟨g1, kb, kx, g, g2, g3, g4, g5⟩ := hs1 e k he
          exact ⟨g1, kb, kx, g, g2, g3, g4.keep (mw_neA g4.1 fk.2) (own_ne g3 oax (by simp)), g5⟩
        refine lv_aload_n hx hb d_TM_entryOf_17 rfl (lv_at hl 0 rfl) ?_
        refine lv_iconst (v := (-1)) hx hb d_TM_entryOf_18 (by decide) ?_
        refine mw_call (rest := []) K hSy hP0 hI (c_TM_entryWithAsked l D dA (m0 := M_aq mi (kyL (dk S) q (ks mi))) f0' (fk.up g') hkl b2 b6 f1' hr1 hn1 (fun e k he => by obtain ⟨g1, kb, kx, g, g2, g3, g4, g5⟩ := hs2 e k he; exact ⟨g1, kb, kx, g, g2, g4, g5⟩) (-1)) (mx_invV hx hown (hts _ tw_453) (hts _ tw_455) (hts _ tw_3) (hts _ tw_456) (by decide) (b := (mp i)) (mw_rc K hI f0' rfl) (g := F0 m 19 ls [.int (-1), .ref (mp i)]) rfl (argsL := [.int (-1)]) (rest := []) np_TM_entryWithAsked rfl (by rw [hb]; exact d_TM_entryOf_19)) hl.1 d_TM_entryOf_19 ⟨Nat.le_of_ble_eq_true rfl, Nat.le_of_ble_eq_true rfl⟩ (Or.inl ⟨_, _, List.mem_cons_self⟩) (mk_ws tw_456 hts) (fun a9 U9 h9 => Ts_warm hts _ tw_33 a9 U9 h9) ⟨Nat.le_of_ble_eq_true rfl, Nat.le_of_ble_eq_true rfl⟩ (fun v w' H locs hq hI => ?_) (fun k x w' H locs hq hI hX => ?_)
        · obtain ⟨hq5, hq6⟩ := hq
          cases hq6
          rw [hq5] at hI
          have hl9 : lst (fun e => decide (tb (M_aq mi (kyL (dk S) q (ks mi))) e = some (aq (M_aq mi (kyL (dk S) q (ks mi))))) && decide ((-1 : Int32) ≠ nI e)) (en (M_aq mi (kyL (dk S) q (ks mi)))) = fnd mi (kyL (dk S) q (ks mi)) := by
            unfold fnd
            refine lst_congr (fun e he => ?_)
            have he2 : e < en mi := he
            rw [decide_eq_true (neg_ne (by omega)), Bool.and_true]
            rfl
          rw [hl9]
          refine W.eq (g2 := F0 m 22 ls [.int (oI (fnd mi (kyL (dk S) q (ks mi))))]) rfl ?_
          refine mw_iret K hI hr hlk ⟨rfl, ?_, Fr.up fk.2 (by rw [oax]; simp)⟩ d_TM_entryOf_22
          refine hA.map (w' := mw_up w ax (by_a dA (ks mi) g')) (own' := own) ⟨om, Or.inr (Or.inl ⟨hk1, ka, ak, ax, rch, g', f, f0', oka, oax, fk.up g', hkl, f1', hr1, hn1, hs2⟩)⟩ (fun q' y hy hz => ?_) (fun _ _ _ => rfl)
          rw [mw_up_n _ _ ?_]
          · exact hy
          · intro e
            subst e
            rcases hz with hz | ⟨fs, hz⟩
            · exact hz (by rw [oax]; exact Or.inr (Or.inr (Or.inl rfl)))
            · rw [hz] at hy; exact absurd (hy.symm.trans fk.2) (by simp)
        · exact absurd hq.2 (by simp)
      · exact absurd hq.1 (by simp)
    · rw [hk1] at k2; cases k2
  · rw [hk1] at k0; cases k0
end
section
/-! ### tables: giveAsked -/
theorem d_TM_giveAsked_0 : decode b_TM_giveAsked 0 = .ok (.new 21, 3) := by decide +kernel
theorem d_TM_giveAsked_3 : decode b_TM_giveAsked 3 = .ok (.dup, 1) := by decide +kernel
theorem d_TM_giveAsked_4 : decode b_TM_giveAsked 4 = .ok (.aload_n 0, 1) := by decide +kernel
theorem d_TM_giveAsked_5 : decode b_TM_giveAsked 5 = .ok (.getfield 37, 3) := by decide +kernel
theorem d_TM_giveAsked_8 : decode b_TM_giveAsked 8 = .ok (.invokespecial 27, 3) := by decide +kernel
theorem d_TM_giveAsked_11 : decode b_TM_giveAsked 11 = .ok (.astore_n 2, 1) := by decide +kernel
theorem d_TM_giveAsked_12 : decode b_TM_giveAsked 12 = .ok (.aload_n 2, 1) := by decide +kernel
theorem d_TM_giveAsked_13 : decode b_TM_giveAsked 13 = .ok (.iconst 0, 1) := by decide +kernel
theorem d_TM_giveAsked_14 : decode b_TM_giveAsked 14 = .ok (.aload_n 0, 1) := by decide +kernel
theorem d_TM_giveAsked_15 : decode b_TM_giveAsked 15 = .ok (.getfield 30, 3) := by decide +kernel
theorem d_TM_giveAsked_18 : decode b_TM_giveAsked 18 = .ok (.iconst 0, 1) := by decide +kernel
theorem d_TM_giveAsked_19 : decode b_TM_giveAsked 19 = .ok (.aload_n 0, 1) := by decide +kernel
theorem d_TM_giveAsked_20 : decode b_TM_giveAsked 20 = .ok (.getfield 37, 3) := by decide +kernel
theorem d_TM_giveAsked_23 : decode b_TM_giveAsked 23 = .ok (.invokevirtual 40, 3) := by decide +kernel
theorem d_TM_giveAsked_26 : decode b_TM_giveAsked 26 = .ok (.aload_n 0, 1) := by decide +kernel
theorem d_TM_giveAsked_27 : decode b_TM_giveAsked 27 = .ok (.getfield 23, 3) := by decide +kernel
theorem d_TM_giveAsked_30 : decode b_TM_giveAsked 30 = .ok (.iload_n 1, 1) := by decide +kernel
theorem d_TM_giveAsked_31 : decode b_TM_giveAsked 31 = .ok (.aload_n 2, 1) := by decide +kernel
theorem d_TM_giveAsked_32 : decode b_TM_giveAsked 32 = .ok (.aastore, 1) := by decide +kernel
theorem d_TM_giveAsked_33 : decode b_TM_giveAsked 33 = .ok (.aload_n 0, 1) := by decide +kernel
theorem d_TM_giveAsked_34 : decode b_TM_giveAsked 34 = .ok (.dup, 1) := by decide +kernel
theorem d_TM_giveAsked_35 : decode b_TM_giveAsked 35 = .ok (.getfield 15, 3) := by decide +kernel
theorem d_TM_giveAsked_38 : decode b_TM_giveAsked 38 = .ok (.iconst 1, 1) := by decide +kernel
theorem d_TM_giveAsked_39 : decode b_TM_giveAsked 39 = .ok (.iadd, 1) := by decide +kernel
theorem d_TM_giveAsked_40 : decode b_TM_giveAsked 40 = .ok (.putfield 15, 3) := by decide +kernel
theorem d_TM_giveAsked_43 : decode b_TM_giveAsked 43 = .ok (.aload_n 0, 1) := by decide +kernel
theorem d_TM_giveAsked_44 : decode b_TM_giveAsked 44 = .ok (.aload_n 0, 1) := by decide +kernel
theorem d_TM_giveAsked_45 : decode b_TM_giveAsked 45 = .ok (.getfield 9, 3) := by decide +kernel
theorem d_TM_giveAsked_48 : decode b_TM_giveAsked 48 = .ok (.iload_n 1, 1) := by decide +kernel
theorem d_TM_giveAsked_49 : decode b_TM_giveAsked 49 = .ok (.iconst 1, 1) := by decide +kernel
theorem d_TM_giveAsked_50 : decode b_TM_giveAsked 50 = .ok (.iadd, 1) := by decide +kernel
theorem d_TM_giveAsked_51 : decode b_TM_giveAsked 51 = .ok (.invokestatic 69, 3) := by decide +kernel
theorem d_TM_giveAsked_54 : decode b_TM_giveAsked 54 = .ok (.putfield 9, 3) := by decide +kernel
theorem d_TM_giveAsked_57 : decode b_TM_giveAsked 57 = .ok (.aload_n 0, 1) := by decide +kernel
theorem d_TM_giveAsked_58 : decode b_TM_giveAsked 58 = .ok (.iload_n 1, 1) := by decide +kernel
theorem d_TM_giveAsked_59 : decode b_TM_giveAsked 59 = .ok (.invokevirtual 44, 3) := by decide +kernel
theorem d_TM_giveAsked_62 : decode b_TM_giveAsked 62 = .ok (.iconst (-1), 1) := by decide +kernel
theorem d_TM_giveAsked_63 : decode b_TM_giveAsked 63 = .ok (.if_icmp .eq 13, 3) := by decide +kernel
theorem d_TM_giveAsked_66 : decode b_TM_giveAsked 66 = .ok (.aload_n 0, 1) := by decide +kernel
theorem d_TM_giveAsked_67 : decode b_TM_giveAsked 67 = .ok (.dup, 1) := by decide +kernel
theorem d_TM_giveAsked_68 : decode b_TM_giveAsked 68 = .ok (.getfield 18, 3) := by decide +kernel
theorem d_TM_giveAsked_71 : decode b_TM_giveAsked 71 = .ok (.iconst 1, 1) := by decide +kernel
theorem d_TM_giveAsked_72 : decode b_TM_giveAsked 72 = .ok (.iadd, 1) := by decide +kernel
theorem d_TM_giveAsked_73 : decode b_TM_giveAsked 73 = .ok (.putfield 18, 3) := by decide +kernel
theorem d_TM_giveAsked_76 : decode b_TM_giveAsked 76 = .ok (.return_, 1) := by decide +kernel
theorem d_TM_entryForMissing_0 : decode b_TM_entryForMissing 0 = .ok (.iload_n 1, 1) := by decide +kernel
theorem d_TM_entryForMissing_1 : decode b_TM_entryForMissing 1 = .ok (.iconst 2, 1) := by decide +kernel
theorem d_TM_entryForMissing_2 : decode b_TM_entryForMissing 2 = .ok (.if_icmp .ne 6, 3) := by decide +kernel
theorem d_TM_entryForMissing_5 : decode b_TM_entryForMissing 5 = .ok (.bipush (-2), 2) := by decide +kernel
theorem d_TM_entryForMissing_7 : decode b_TM_entryForMissing 7 = .ok (.ireturn, 1) := by decide +kernel
theorem d_TM_entryForMissing_8 : decode b_TM_entryForMissing 8 = .ok (.aload_n 0, 1) := by decide +kernel
theorem d_TM_entryForMissing_9 : decode b_TM_entryForMissing 9 = .ok (.invokevirtual 48, 3) := by decide +kernel
theorem d_TM_entryForMissing_12 : decode b_TM_entryForMissing 12 = .ok (.istore_n 2, 1) := by decide +kernel
theorem d_TM_entryForMissing_13 : decode b_TM_entryForMissing 13 = .ok (.iload_n 2, 1) := by decide +kernel
theorem d_TM_entryForMissing_14 : decode b_TM_entryForMissing 14 = .ok (.iconst (-1), 1) := by decide +kernel
theorem d_TM_entryForMissing_15 : decode b_TM_entryForMissing 15 = .ok (.if_icmp .ne 6, 3) := by decide +kernel
theorem d_TM_entryForMissing_18 : decode b_TM_entryForMissing 18 = .ok (.bipush (-7), 2) := by decide +kernel
theorem d_TM_entryForMissing_20 : decode b_TM_entryForMissing 20 = .ok (.ireturn, 1) := by decide +kernel
theorem d_TM_entryForMissing_21 : decode b_TM_entryForMissing 21 = .ok (.aload_n 0, 1) := by decide +kernel
theorem d_TM_entryForMissing_22 : decode b_TM_entryForMissing 22 = .ok (.iload_n 2, 1) := by decide +kernel
theorem d_TM_entryForMissing_23 : decode b_TM_entryForMissing 23 = .ok (.invokevirtual 52, 3) := by decide +kernel
theorem d_TM_entryForMissing_26 : decode b_TM_entryForMissing 26 = .ok (.iload_n 2, 1) := by decide +kernel
theorem d_TM_entryForMissing_27 : decode b_TM_entryForMissing 27 = .ok (.ireturn, 1) := by decide +kernel
theorem mw_nn2 {w M : mw_W} {a b c : Nat} {z z2 : va_E} (F : ∀ (q : Nat) (y : va_E), w q = some y → q ≠ b → q ≠ c → M q = some y) (hb : M b = some z) (hc : M c = some z2) (hq : M a = none) : w a = none := by
  cases h : w a with
  | none => rfl
  | some y =>
    exfalso
    by_cases e : a = b
    · subst e; rw [hb] at hq; cases hq
    · by_cases e2 : a = c
      · subst e2; rw [hc] at hq; cases hq
      · rw [F a y h e e2] at hq; cases hq
theorem by_l.z (k : Nat) : ∀ j, k ≤ j → j < (k + 7) / 8 * 8 → bw_b (fun _ => (0 : Int64)) j = 0 := fun j _ _ => by
  show (0 : Int64).toUInt64.toNat / 2 ^ (8 * (j % 8)) % 256 = 0
  rw [show (0 : Int64).toUInt64.toNat = 0 from rfl, Nat.zero_div]
theorem tb_n_le (t : Nat → Option (List Nat)) : ∀ n, tb_n t n ≤ n
  | 0 => Nat.le_refl _
  | n + 1 => by have := tb_n_le t n; rw [tb_n]; split <;> omega
theorem tb_n_up (t : Nat → Option (List Nat)) {e : Nat} (k : List Nat) (he : t e = none) : ∀ {n}, e < n → tb_n (va_up t e (some k)) n = tb_n t n + 1
  | 0, h => absurd h (by omega)
  | n + 1, h => by
    rw [tb_n, tb_n]
    by_cases q : e < n
    · rw [tb_n_up t k he q, va_up_ne _ _ (by omega)]; omega
    · have e1 : e = n := by omega
      subst e1
      rw [va_up_self, he, tb_n_lo t _ (Nat.le_refl e)]; rfl
where tb_n_lo (t : Nat → Option (List Nat)) {e : Nat} (v : Option (List Nat)) : ∀ {n}, n ≤ e → tb_n (va_up t e v) n = tb_n t n
  | 0, _ => rfl
  | n + 1, h => by rw [tb_n, tb_n, tb_n_lo t v (by omega), va_up_ne _ _ (by omega)]
set_option maxRecDepth 100000 in
set_option maxHeartbeats 4000000 in
theorem c_TM_giveAsked (l : Launch) (D : va_G) (dA : Nat → ClassId) {w : mw_W} {own : as_W} {x bd xd ba xa ra : Nat} {mp : Nat → Nat} {gd ga : Nat → Int64} {S : as_S} {t : Nat} (hA : rc_A dA w own x bd xd ba xa ra mp gd ga S) (hW : wf_S t S) {i : Nat} (hi : i < nm S) (hk1 : kd (mm S i) = 1) {e0 : Nat} (he0 : e0 < en (mm S i)) (ht0 : tb (mm S i) e0 = none) (hno : ∀ e', tb (mm S i) e' ≠ some (aq (mm S i))) : CT l D dA y_TM_giveAsked (Cond.code y_TM_giveAsked b_TM_giveAsked 3 none :: Ts) 3 80 2 10 [.ref (mp i), .int (nI e0)] w (fun r w' => r = .inl none ∧ ∃ own', rc_A dA w' own' x bd xd ba xa ra mp gd ga (S_mm S i (M_tb (mm S i) (va_up (tb (mm S i)) e0 (some (aq (mm S i)))))) ∧ Fr w own w' own') := by
  refine mw_meth (by decide) mk_tb (Nat.le_of_ble_eq_true rfl) ?_
  intro p e s m below meth c K hr hlk hce hnm hP0 hSy ls hl
  have hl : lv_has ls 3 [(0, .ref (mp i)), (1, .int (nI e0))] := hl
  obtain ⟨hx, hb, hml, hown, hts, hK, hTb⟩ := id K
  have hI := mw_I.start hP0
  obtain ⟨⟨o1, o2, o3, o4, fx, fd, fa, fr, hdk, har⟩, hM⟩ := id hA
  obtain ⟨-, hwf⟩ := hW.2.2.2.2.2 i hi
  have hM0 := hM i hi
  generalize em : mm S i = mi at *
  generalize ea : mp i = a at *
  obtain ⟨om, ⟨k0, -⟩ | ⟨k0, ka, ak, ax, rch, gk, f, f0, oka, oax, fk, hbl, f1, hr1, hn1, hs1⟩ | ⟨k0, -⟩⟩ := hM0
  · rw [hk1] at k0; cases k0
  · rcases hwf with ⟨k2, -⟩ | ⟨-, b1, b2, b3, b4, b5, b6, b7, b8, b9, b10⟩ | ⟨k2, -⟩
    · rw [hk1] at k2; cases k2
    · obtain ⟨fk1, fk2⟩ := id fk
      have hkaax : ka ≠ ax := own_ne oka oax (by simp)
      have htn := tb_n_le (tb mi) (en mi)
      have f0_0 := f0
      have f1_0 := f1
      have hF : ∀ (q : Nat) (y : va_E), w q = some y → q ≠ a → q ≠ ka → w q = some y := fun q y h1 _ _ => h1
      refine mw_new K hI (ci := cBY) (fs := [.int 0, .null]) rfl tw_288 tw_46 tw_22 (by decide) (Nat.le_of_ble_eq_true rfl) (Nat.le_of_ble_eq_true rfl) d_TM_giveAsked_0 (fun kb H hq hI => ?_)
      have hq_kb := hq
      have hw_kb : w kb = none := mw_nn2 hF f0 f1 hq_kb
      have hI : mw_I D mk_cl w s.heap (mw_up w kb (.inr (cBY, [.int 0, .null]))) H _ := hI
      have ne_a_kb : a ≠ kb := mw_neN f0 hq_kb
      have f0 : (mw_up w kb (.inr (cBY, [.int 0, .null]))) a = some (.inr (cTM, [.ref bd, .ref ba, .int (nI (bg mi)), .int (nI (ks mi)), .int (nI (vs mi)), .int (nI (en mi)), .ref ka, .ref ak, .int (nI rch), .int (nI (tb_n (tb mi) (en mi))), .int (nI 0)])) := by rw [mw_up_n _ _ (ne_a_kb)]; exact f0
      have ne_ak_kb : ak ≠ kb := mw_neN fk1 hq_kb
      have fk1 : (mw_up w kb (.inr (cBY, [.int 0, .null]))) ak = some (.inr (cBY, [.int (nI (ks mi)), .ref ax])) := by rw [mw_up_n _ _ (ne_ak_kb)]; exact fk1
      have ne_ka_kb : ka ≠ kb := mw_neN f1 hq_kb
      have f1 : (mw_up w kb (.inr (cBY, [.int 0, .null]))) ka = some (.inl (dA tBY, en mi, .inr (.inr (.inr (.inr (f)))))) := by rw [mw_up_n _ _ (ne_ka_kb)]; exact f1
      have ne_ax_kb : ax ≠ kb := mw_neN fk2 hq_kb
      have fk2 : (mw_up w kb (.inr (cBY, [.int 0, .null]))) ax = some (.inl (dA tJ, (ks mi + 7) / 8, .inr (.inl (gk)))) := by rw [mw_up_n _ _ (ne_ax_kb)]; exact fk2
      have hF : ∀ (q : Nat) (y : va_E), w q = some y → q ≠ a → q ≠ ka → (mw_up w kb (.inr (cBY, [.int 0, .null]))) q = some y := fun q y h1 h2 h3 => by rw [mw_up_n _ _ (mw_neN h1 hw_kb)]; exact hF q y h1 h2 h3
      have fb : (mw_up w kb (.inr (cBY, [.int 0, .null]))) kb = some (.inr (cBY, [.int 0, .null])) := mw_up_s _ _ _
      generalize (mw_up w kb (.inr (cBY, [.int 0, .null]))) = wm1 at hI f0 fk1 f1 fk2 hF fb
      refine lv_dup hx hb d_TM_giveAsked_3 rfl ?_
      refine lv_aload_n hx hb d_TM_giveAsked_4 rfl (lv_at hl 0 rfl) ?_
      refine mw_get K hI gf_TM_37_cTM f0 rfl d_TM_giveAsked_5 ?_
      refine mw_call (rest := [.ref kb]) K hSy hP0 hI (c_BY_init l D dA fb (n := ks mi) (by omega)) (mx_invI hx hown rfl (hts _ tw_290) (hts _ tw_48) (hts _ tw_49) (by decide) (g := F0 m 8 ls [.int (nI (ks mi)), .ref kb, .ref kb]) rfl (a := kb) (argsL := [.int (nI (ks mi))]) (rest := [.ref kb]) np_BY_init rfl (by rw [hb]; exact d_TM_giveAsked_8)) hl.1 d_TM_giveAsked_8 ⟨Nat.le_of_ble_eq_true rfl, Nat.le_of_ble_eq_true rfl⟩ (Or.inl ⟨_, _, List.mem_cons_self⟩) (mk_ws tw_49 hts) (fun a9 U9 h9 => Ts_warm hts _ tw_22 a9 U9 h9) ⟨Nat.le_of_ble_eq_true rfl, by dsimp only; omega⟩ (fun v w' H locs hq hI => ?_) (fun k x w' H locs hq hI hX => ?_)
      · obtain ⟨hq1, kx, hq2, hq3, hq4⟩ := hq
        cases hq1
        rw [hq4] at hI
        refine W.widen (k := 2) (n := 10) (by omega) (by omega) ?_
        refine W.eq (g2 := F0 m 11 ls [.ref kb]) rfl ?_
        have hq_kx := hq2
        have hw_kx : w kx = none := mw_nn2 hF f0 f1 hq_kx
        have ne_a_kx : a ≠ kx := mw_neN f0 hq_kx
        have f0 : (mw_up wm1 kx (.inl (dA tJ, (ks mi + 7) / 8, .inr (.inl (fun _ => 0))))) a = some (.inr (cTM, [.ref bd, .ref ba, .int (nI (bg mi)), .int (nI (ks mi)), .int (nI (vs mi)), .int (nI (en mi)), .ref ka, .ref ak, .int (nI rch), .int (nI (tb_n (tb mi) (en mi))), .int (nI 0)])) := by rw [mw_up_n _ _ (ne_a_kx)]; exact f0
        have ne_ak_kx : ak ≠ kx := mw_neN fk1 hq_kx
        have fk1 : (mw_up wm1 kx (.inl (dA tJ, (ks mi + 7) / 8, .inr (.inl (fun _ => 0))))) ak = some (.inr (cBY, [.int (nI (ks mi)), .ref ax])) := by rw [mw_up_n _ _ (ne_ak_kx)]; exact fk1
        have ne_kb_kx : kb ≠ kx := mw_neN fb hq_kx
        have fb : (mw_up wm1 kx (.inl (dA tJ, (ks mi + 7) / 8, .inr (.inl (fun _ => 0))))) kb = some (.inr (cBY, [.int 0, .null])) := by rw [mw_up_n _ _ (ne_kb_kx)]; exact fb
        have ne_ka_kx : ka ≠ kx := mw_neN f1 hq_kx
        have f1 : (mw_up wm1 kx (.inl (dA tJ, (ks mi + 7) / 8, .inr (.inl (fun _ => 0))))) ka = some (.inl (dA tBY, en mi, .inr (.inr (.inr (.inr (f)))))) := by rw [mw_up_n _ _ (ne_ka_kx)]; exact f1
        have ne_ax_kx : ax ≠ kx := mw_neN fk2 hq_kx
        have fk2 : (mw_up wm1 kx (.inl (dA tJ, (ks mi + 7) / 8, .inr (.inl (fun _ => 0))))) ax = some (.inl (dA tJ, (ks mi + 7) / 8, .inr (.inl (gk)))) := by rw [mw_up_n _ _ (ne_ax_kx)]; exact fk2
        have hF : ∀ (q : Nat) (y : va_E), w q = some y → q ≠ a → q ≠ ka → (mw_up wm1 kx (.inl (dA tJ, (ks mi + 7) / 8, .inr (.inl (fun _ => 0))))) q = some y := fun q y h1 h2 h3 => by rw [mw_up_n _ _ (mw_neN h1 hw_kx)]; exact hF q y h1 h2 h3
        have fkx : (mw_up wm1 kx (.inl (dA tJ, (ks mi + 7) / 8, .inr (.inl (fun _ => 0))))) kx = some (.inl (dA tJ, (ks mi + 7) / 8, .inr (.inl (fun _ => 0)))) := mw_up_s _ _ _
        generalize hwm2 : (mw_up wm1 kx (.inl (dA tJ, (ks mi + 7) / 8, .inr (.inl (fun _ => 0))))) = wm2 at f0 fk1 fb f1 fk2 hF fkx
        rw [hwm2] at hI
        have hI : mw_I D mk_cl w s.heap (mw_up wm2 kb (.inr (cBY, [.int (nI (ks mi)), .ref kx]))) H _ := hI
        have f0 : (mw_up wm2 kb (.inr (cBY, [.int (nI (ks mi)), .ref kx]))) a = some (.inr (cTM, [.ref bd, .ref ba, .int (nI (bg mi)), .int (nI (ks mi)), .int (nI (vs mi)), .int (nI (en mi)), .ref ka, .ref ak, .int (nI rch), .int (nI (tb_n (tb mi) (en mi))), .int (nI 0)])) := by rw [mw_up_n _ _ (ne_a_kb)]; exact f0
        have fk1 : (mw_up wm2 kb (.inr (cBY, [.int (nI (ks mi)), .ref kx]))) ak = some (.inr (cBY, [.int (nI (ks mi)), .ref ax])) := by rw [mw_up_n _ _ (ne_ak_kb)]; exact fk1
        have f1 : (mw_up wm2 kb (.inr (cBY, [.int (nI (ks mi)), .ref kx]))) ka = some (.inl (dA tBY, en mi, .inr (.inr (.inr (.inr (f)))))) := by rw [mw_up_n _ _ (ne_ka_kb)]; exact f1
        have fk2 : (mw_up wm2 kb (.inr (cBY, [.int (nI (ks mi)), .ref kx]))) ax = some (.inl (dA tJ, (ks mi + 7) / 8, .inr (.inl (gk)))) := by rw [mw_up_n _ _ (ne_ax_kb)]; exact fk2
        have fkx : (mw_up wm2 kb (.inr (cBY, [.int (nI (ks mi)), .ref kx]))) kx = some (.inl (dA tJ, (ks mi + 7) / 8, .inr (.inl (fun _ => 0)))) := by rw [mw_up_n _ _ ((ne_kb_kx).symm)]; exact fkx
        have hF : ∀ (q : Nat) (y : va_E), w q = some y → q ≠ a → q ≠ ka → (mw_up wm2 kb (.inr (cBY, [.int (nI (ks mi)), .ref kx]))) q = some y := fun q y h1 h2 h3 => by rw [mw_up_n _ _ (mw_neN h1 hw_kb)]; exact hF q y h1 h2 h3
        have fb : (mw_up wm2 kb (.inr (cBY, [.int (nI (ks mi)), .ref kx]))) kb = some (.inr (cBY, [.int (nI (ks mi)), .ref kx])) := mw_up_s _ _ _
        generalize (mw_up wm2 kb (.inr (cBY, [.int (nI (ks mi)), .ref kx]))) = wm3 at hI f0 fk1 f1 fk2 fkx hF fb
        refine lv_astore_n (lv' := [(2, .ref kb), (0, .ref a), (1, .int (nI e0))]) hx hb d_TM_giveAsked_11 rfl hl (by decide) rfl (fun ls hl => ?_)
        refine lv_aload_n hx hb d_TM_giveAsked_12 rfl (lv_at hl 0 rfl) ?_
        refine lv_iconst (v := nI 0) hx hb d_TM_giveAsked_13 (by decide) ?_
        refine lv_aload_n hx hb d_TM_giveAsked_14 rfl (lv_at hl 1 rfl) ?_
        refine mw_get K hI gf_TM_30_cTM f0 rfl d_TM_giveAsked_15 ?_
        refine lv_iconst (v := nI 0) hx hb d_TM_giveAsked_18 (by decide) ?_
        refine lv_aload_n hx hb d_TM_giveAsked_19 rfl (lv_at hl 1 rfl) ?_
        refine mw_get K hI gf_TM_37_cTM f0 rfl d_TM_giveAsked_20 ?_
        refine mw_call (rest := []) K hSy hP0 hI (c_BY_copy l D dA (⟨fb, fkx⟩ : by_ok dA wm3 kb kx (ks mi) (fun _ => 0)) (by omega) (⟨fk1, fk2⟩ : by_ok dA wm3 ak ax (ks mi) gk) (by omega) ne_ax_kx (i := 0) (i2 := 0) (k := ks mi) (by omega) (by omega)) (mx_invV hx hown (hts _ tw_449) (hts _ tw_450) (hts _ tw_451) (hts _ tw_452) (by decide) (b := kb) (mw_rc K hI fb rfl) (g := F0 m 23 ls [.int (nI (ks mi)), .int (nI 0), .ref ak, .int (nI 0), .ref kb]) rfl (argsL := [.int (nI 0), .ref ak, .int (nI 0), .int (nI (ks mi))]) (rest := []) np_BY_copy rfl (by rw [hb]; exact d_TM_giveAsked_23)) hl.1 d_TM_giveAsked_23 ⟨Nat.le_of_ble_eq_true rfl, Nat.le_of_ble_eq_true rfl⟩ (Or.inl ⟨_, _, List.mem_cons_self⟩) (mk_ws tw_452 hts) (fun a9 U9 h9 => Ts_warm hts _ tw_22 a9 U9 h9) ⟨Nat.le_of_ble_eq_true rfl, Nat.le_of_ble_eq_true rfl⟩ (fun v w' H locs hq hI => ?_) (fun k x w' H locs hq hI hX => ?_)
        · obtain ⟨hq1, g', hq5, hq6⟩ := hq
          cases hq1
          rw [hq5] at hI
          refine W.eq (g2 := F0 m 26 ls []) rfl ?_
          have hI : mw_I D mk_cl w s.heap (mw_up wm3 kx (.inl (dA tJ, (ks mi + 7) / 8, .inr (.inl (g'))))) H _ := hI
          have f0 : (mw_up wm3 kx (.inl (dA tJ, (ks mi + 7) / 8, .inr (.inl (g'))))) a = some (.inr (cTM, [.ref bd, .ref ba, .int (nI (bg mi)), .int (nI (ks mi)), .int (nI (vs mi)), .int (nI (en mi)), .ref ka, .ref ak, .int (nI rch), .int (nI (tb_n (tb mi) (en mi))), .int (nI 0)])) := by rw [mw_up_n _ _ (ne_a_kx)]; exact f0
          have fk1 : (mw_up wm3 kx (.inl (dA tJ, (ks mi + 7) / 8, .inr (.inl (g'))))) ak = some (.inr (cBY, [.int (nI (ks mi)), .ref ax])) := by rw [mw_up_n _ _ (ne_ak_kx)]; exact fk1
          have fb : (mw_up wm3 kx (.inl (dA tJ, (ks mi + 7) / 8, .inr (.inl (g'))))) kb = some (.inr (cBY, [.int (nI (ks mi)), .ref kx])) := by rw [mw_up_n _ _ (ne_kb_kx)]; exact fb
          have f1 : (mw_up wm3 kx (.inl (dA tJ, (ks mi + 7) / 8, .inr (.inl (g'))))) ka = some (.inl (dA tBY, en mi, .inr (.inr (.inr (.inr (f)))))) := by rw [mw_up_n _ _ (ne_ka_kx)]; exact f1
          have fk2 : (mw_up wm3 kx (.inl (dA tJ, (ks mi + 7) / 8, .inr (.inl (g'))))) ax = some (.inl (dA tJ, (ks mi + 7) / 8, .inr (.inl (gk)))) := by rw [mw_up_n _ _ (ne_ax_kx)]; exact fk2
          have hF : ∀ (q : Nat) (y : va_E), w q = some y → q ≠ a → q ≠ ka → (mw_up wm3 kx (.inl (dA tJ, (ks mi + 7) / 8, .inr (.inl (g'))))) q = some y := fun q y h1 h2 h3 => by rw [mw_up_n _ _ (mw_neN h1 hw_kx)]; exact hF q y h1 h2 h3
          have fkx : (mw_up wm3 kx (.inl (dA tJ, (ks mi + 7) / 8, .inr (.inl (g'))))) kx = some (.inl (dA tJ, (ks mi + 7) / 8, .inr (.inl (g')))) := mw_up_s _ _ _
          generalize (mw_up wm3 kx (.inl (dA tJ, (ks mi + 7) / 8, .inr (.inl (g'))))) = wm4 at hI f0 fk1 fb f1 fk2 hF fkx
          have hkl : by_l g' (ks mi) (aq mi) := by
            refine ⟨hbl.1, fun j hj => ?_, fun j h1 h2 => ?_⟩
            · rw [hq6 j, if_pos (by omega)]; show bw_b gk (0 + (j - 0)) = _; rw [Nat.sub_zero, Nat.zero_add]; exact hbl.2.1 j hj
            · rw [hq6 j, if_neg (by omega)]; exact by_l.z (ks mi) j h1 h2
          refine lv_aload_n hx hb d_TM_giveAsked_26 rfl (lv_at hl 1 rfl) ?_
          refine mw_get K hI gf_TM_23_cTM f0 rfl d_TM_giveAsked_27 ?_
          refine lv_iload_n hx hb d_TM_giveAsked_30 rfl (lv_at hl 2 rfl) ?_
          refine lv_aload_n hx hb d_TM_giveAsked_31 rfl (lv_at hl 0 rfl) ?_
          refine mw_aast K hI tBY f1 rfl fb rfl ((fun comp hc => by obtain ⟨hc1, -⟩ := (hK.1 cBY _ rfl).2; cases hc.symm.trans hc1; exact va_assign (hK.1 cBY _ rfl).2)) e0 rfl (by first | assumption | omega) (by omega) d_TM_giveAsked_32 (fun H locs hI => ?_)
          have hI : mw_I D mk_cl w s.heap (mw_up wm4 ka (.inl (dA tBY, en mi, .inr (.inr (.inr (.inr (va_up f e0 (some kb)))))))) H _ := hI
          have f0 : (mw_up wm4 ka (.inl (dA tBY, en mi, .inr (.inr (.inr (.inr (va_up f e0 (some kb)))))))) a = some (.inr (cTM, [.ref bd, .ref ba, .int (nI (bg mi)), .int (nI (ks mi)), .int (nI (vs mi)), .int (nI (en mi)), .ref ka, .ref ak, .int (nI rch), .int (nI (tb_n (tb mi) (en mi))), .int (nI 0)])) := by rw [mw_up_n _ _ (mw_neA f0 f1)]; exact f0
          have fk1 : (mw_up wm4 ka (.inl (dA tBY, en mi, .inr (.inr (.inr (.inr (va_up f e0 (some kb)))))))) ak = some (.inr (cBY, [.int (nI (ks mi)), .ref ax])) := by rw [mw_up_n _ _ (mw_neA fk1 f1)]; exact fk1
          have fb : (mw_up wm4 ka (.inl (dA tBY, en mi, .inr (.inr (.inr (.inr (va_up f e0 (some kb)))))))) kb = some (.inr (cBY, [.int (nI (ks mi)), .ref kx])) := by rw [mw_up_n _ _ ((ne_ka_kb).symm)]; exact fb
          have fk2 : (mw_up wm4 ka (.inl (dA tBY, en mi, .inr (.inr (.inr (.inr (va_up f e0 (some kb)))))))) ax = some (.inl (dA tJ, (ks mi + 7) / 8, .inr (.inl (gk)))) := by rw [mw_up_n _ _ ((hkaax).symm)]; exact fk2
          have fkx : (mw_up wm4 ka (.inl (dA tBY, en mi, .inr (.inr (.inr (.inr (va_up f e0 (some kb)))))))) kx = some (.inl (dA tJ, (ks mi + 7) / 8, .inr (.inl (g')))) := by rw [mw_up_n _ _ ((ne_ka_kx).symm)]; exact fkx
          have hF : ∀ (q : Nat) (y : va_E), w q = some y → q ≠ a → q ≠ ka → (mw_up wm4 ka (.inl (dA tBY, en mi, .inr (.inr (.inr (.inr (va_up f e0 (some kb)))))))) q = some y := fun q y h1 h2 h3 => by rw [mw_up_n _ _ (h3)]; exact hF q y h1 h2 h3
          have f1 : (mw_up wm4 ka (.inl (dA tBY, en mi, .inr (.inr (.inr (.inr (va_up f e0 (some kb)))))))) ka = some (.inl (dA tBY, en mi, .inr (.inr (.inr (.inr (va_up f e0 (some kb))))))) := mw_up_s _ _ _
          generalize (mw_up wm4 ka (.inl (dA tBY, en mi, .inr (.inr (.inr (.inr (va_up f e0 (some kb)))))))) = wm5 at hI f0 fk1 fb fk2 fkx hF f1
          refine lv_aload_n hx hb d_TM_giveAsked_33 rfl (lv_at hl 1 rfl) ?_
          refine lv_dup hx hb d_TM_giveAsked_34 rfl ?_
          refine mw_get K hI gf_TM_15_cTM f0 rfl d_TM_giveAsked_35 ?_
          refine lv_iconst (v := nI 1) hx hb d_TM_giveAsked_38 (by decide) ?_
          refine lv_iadd hx hb d_TM_giveAsked_39 ?_
          refine mw_ti (nI_add _ _) ?_
          refine mw_put K hI gp_TM_15_cTM (Or.inl ⟨_, rfl, rfl⟩) f0 rfl rfl (by simp) d_TM_giveAsked_40 (fun H locs hI => ?_)
          have hI : mw_I D mk_cl w s.heap (mw_up wm5 a (.inr (cTM, [.ref bd, .ref ba, .int (nI (bg mi)), .int (nI (ks mi)), .int (nI (vs mi)), .int (nI (en mi)), .ref ka, .ref ak, .int (nI rch), .int (nI ((tb_n (tb mi) (en mi)) + 1)), .int (nI 0)]))) H _ := hI
          have fk1 : (mw_up wm5 a (.inr (cTM, [.ref bd, .ref ba, .int (nI (bg mi)), .int (nI (ks mi)), .int (nI (vs mi)), .int (nI (en mi)), .ref ka, .ref ak, .int (nI rch), .int (nI ((tb_n (tb mi) (en mi)) + 1)), .int (nI 0)]))) ak = some (.inr (cBY, [.int (nI (ks mi)), .ref ax])) := by rw [mw_up_n _ _ (mw_neC fk1 f0 (by decide))]; exact fk1
          have fb : (mw_up wm5 a (.inr (cTM, [.ref bd, .ref ba, .int (nI (bg mi)), .int (nI (ks mi)), .int (nI (vs mi)), .int (nI (en mi)), .ref ka, .ref ak, .int (nI rch), .int (nI ((tb_n (tb mi) (en mi)) + 1)), .int (nI 0)]))) kb = some (.inr (cBY, [.int (nI (ks mi)), .ref kx])) := by rw [mw_up_n _ _ ((ne_a_kb).symm)]; exact fb
          have f1 : (mw_up wm5 a (.inr (cTM, [.ref bd, .ref ba, .int (nI (bg mi)), .int (nI (ks mi)), .int (nI (vs mi)), .int (nI (en mi)), .ref ka, .ref ak, .int (nI rch), .int (nI ((tb_n (tb mi) (en mi)) + 1)), .int (nI 0)]))) ka = some (.inl (dA tBY, en mi, .inr (.inr (.inr (.inr (va_up f e0 (some kb))))))) := by rw [mw_up_n _ _ ((mw_neA f0 f1).symm)]; exact f1
          have fk2 : (mw_up wm5 a (.inr (cTM, [.ref bd, .ref ba, .int (nI (bg mi)), .int (nI (ks mi)), .int (nI (vs mi)), .int (nI (en mi)), .ref ka, .ref ak, .int (nI rch), .int (nI ((tb_n (tb mi) (en mi)) + 1)), .int (nI 0)]))) ax = some (.inl (dA tJ, (ks mi + 7) / 8, .inr (.inl (gk)))) := by rw [mw_up_n _ _ ((mw_neA f0 fk2).symm)]; exact fk2
          have fkx : (mw_up wm5 a (.inr (cTM, [.ref bd, .ref ba, .int (nI (bg mi)), .int (nI (ks mi)), .int (nI (vs mi)), .int (nI (en mi)), .ref ka, .ref ak, .int (nI rch), .int (nI ((tb_n (tb mi) (en mi)) + 1)), .int (nI 0)]))) kx = some (.inl (dA tJ, (ks mi + 7) / 8, .inr (.inl (g')))) := by rw [mw_up_n _ _ ((ne_a_kx).symm)]; exact fkx
          have hF : ∀ (q : Nat) (y : va_E), w q = some y → q ≠ a → q ≠ ka → (mw_up wm5 a (.inr (cTM, [.ref bd, .ref ba, .int (nI (bg mi)), .int (nI (ks mi)), .int (nI (vs mi)), .int (nI (en mi)), .ref ka, .ref ak, .int (nI rch), .int (nI ((tb_n (tb mi) (en mi)) + 1)), .int (nI 0)]))) q = some y := fun q y h1 h2 h3 => by rw [mw_up_n _ _ (h2)]; exact hF q y h1 h2 h3
          have f0 : (mw_up wm5 a (.inr (cTM, [.ref bd, .ref ba, .int (nI (bg mi)), .int (nI (ks mi)), .int (nI (vs mi)), .int (nI (en mi)), .ref ka, .ref ak, .int (nI rch), .int (nI ((tb_n (tb mi) (en mi)) + 1)), .int (nI 0)]))) a = some (.inr (cTM, [.ref bd, .ref ba, .int (nI (bg mi)), .int (nI (ks mi)), .int (nI (vs mi)), .int (nI (en mi)), .ref ka, .ref ak, .int (nI rch), .int (nI ((tb_n (tb mi) (en mi)) + 1)), .int (nI 0)])) := mw_up_s _ _ _
          generalize (mw_up wm5 a (.inr (cTM, [.ref bd, .ref ba, .int (nI (bg mi)), .int (nI (ks mi)), .int (nI (vs mi)), .int (nI (en mi)), .ref ka, .ref ak, .int (nI rch), .int (nI ((tb_n (tb mi) (en mi)) + 1)), .int (nI 0)]))) = wm6 at hI fk1 fb f1 fk2 fkx hF f0
          refine lv_aload_n hx hb d_TM_giveAsked_43 rfl (lv_at hl 1 rfl) ?_
          refine lv_aload_n hx hb d_TM_giveAsked_44 rfl (lv_at hl 1 rfl) ?_
          refine mw_get K hI gf_TM_9_cTM f0 rfl d_TM_giveAsked_45 ?_
          refine lv_iload_n hx hb d_TM_giveAsked_48 rfl (lv_at hl 2 rfl) ?_
          refine lv_iconst (v := nI 1) hx hb d_TM_giveAsked_49 (by decide) ?_
          refine lv_iadd hx hb d_TM_giveAsked_50 ?_
          refine mw_ti (nI_add _ _) ?_
          refine va_mmax hx hb (by rw [hml]; exact hl.1.symm) hown (hts _ tw_500) (hts _ tw_501) (hts _ tw_36) (hts _ tw_502) (Nat.le_of_ble_eq_true rfl) (Nat.le_of_ble_eq_true rfl) (Nat.le_of_ble_eq_true rfl) (Nat.le_of_ble_eq_true rfl) d_TM_giveAsked_51 ?_
          obtain ⟨r2, hr2, hr3, hr4⟩ : ∃ r2, (if nI rch < nI (e0 + 1) then nI (e0 + 1) else nI rch) = nI r2 ∧ r2 ≤ en mi ∧ rch ≤ r2 ∧ e0 < r2 := by
            by_cases hc : rch < e0 + 1
            · exact ⟨e0 + 1, if_pos ((nI_ltI (by omega) (by omega)).mpr hc), by omega, by omega, by omega⟩
            · exact ⟨rch, if_neg (fun z => hc ((nI_ltI (by omega) (by omega)).mp z)), by omega, by omega, by omega⟩
          refine mw_ti (y := nI r2) (hr2) ?_
          refine mw_put K hI gp_TM_9_cTM (Or.inl ⟨_, rfl, rfl⟩) f0 rfl rfl (by simp) d_TM_giveAsked_54 (fun H locs hI => ?_)
          have hI : mw_I D mk_cl w s.heap (mw_up wm6 a (.inr (cTM, [.ref bd, .ref ba, .int (nI (bg mi)), .int (nI (ks mi)), .int (nI (vs mi)), .int (nI (en mi)), .ref ka, .ref ak, .int (nI r2), .int (nI ((tb_n (tb mi) (en mi)) + 1)), .int (nI 0)]))) H _ := hI
          have fk1 : (mw_up wm6 a (.inr (cTM, [.ref bd, .ref ba, .int (nI (bg mi)), .int (nI (ks mi)), .int (nI (vs mi)), .int (nI (en mi)), .ref ka, .ref ak, .int (nI r2), .int (nI ((tb_n (tb mi) (en mi)) + 1)), .int (nI 0)]))) ak = some (.inr (cBY, [.int (nI (ks mi)), .ref ax])) := by rw [mw_up_n _ _ (mw_neC fk1 f0 (by decide))]; exact fk1
          have fb : (mw_up wm6 a (.inr (cTM, [.ref bd, .ref ba, .int (nI (bg mi)), .int (nI (ks mi)), .int (nI (vs mi)), .int (nI (en mi)), .ref ka, .ref ak, .int (nI r2), .int (nI ((tb_n (tb mi) (en mi)) + 1)), .int (nI 0)]))) kb = some (.inr (cBY, [.int (nI (ks mi)), .ref kx])) := by rw [mw_up_n _ _ ((ne_a_kb).symm)]; exact fb
          have f1 : (mw_up wm6 a (.inr (cTM, [.ref bd, .ref ba, .int (nI (bg mi)), .int (nI (ks mi)), .int (nI (vs mi)), .int (nI (en mi)), .ref ka, .ref ak, .int (nI r2), .int (nI ((tb_n (tb mi) (en mi)) + 1)), .int (nI 0)]))) ka = some (.inl (dA tBY, en mi, .inr (.inr (.inr (.inr (va_up f e0 (some kb))))))) := by rw [mw_up_n _ _ ((mw_neA f0 f1).symm)]; exact f1
          have fk2 : (mw_up wm6 a (.inr (cTM, [.ref bd, .ref ba, .int (nI (bg mi)), .int (nI (ks mi)), .int (nI (vs mi)), .int (nI (en mi)), .ref ka, .ref ak, .int (nI r2), .int (nI ((tb_n (tb mi) (en mi)) + 1)), .int (nI 0)]))) ax = some (.inl (dA tJ, (ks mi + 7) / 8, .inr (.inl (gk)))) := by rw [mw_up_n _ _ ((mw_neA f0 fk2).symm)]; exact fk2
          have fkx : (mw_up wm6 a (.inr (cTM, [.ref bd, .ref ba, .int (nI (bg mi)), .int (nI (ks mi)), .int (nI (vs mi)), .int (nI (en mi)), .ref ka, .ref ak, .int (nI r2), .int (nI ((tb_n (tb mi) (en mi)) + 1)), .int (nI 0)]))) kx = some (.inl (dA tJ, (ks mi + 7) / 8, .inr (.inl (g')))) := by rw [mw_up_n _ _ ((ne_a_kx).symm)]; exact fkx
          have hF : ∀ (q : Nat) (y : va_E), w q = some y → q ≠ a → q ≠ ka → (mw_up wm6 a (.inr (cTM, [.ref bd, .ref ba, .int (nI (bg mi)), .int (nI (ks mi)), .int (nI (vs mi)), .int (nI (en mi)), .ref ka, .ref ak, .int (nI r2), .int (nI ((tb_n (tb mi) (en mi)) + 1)), .int (nI 0)]))) q = some y := fun q y h1 h2 h3 => by rw [mw_up_n _ _ (h2)]; exact hF q y h1 h2 h3
          have f0 : (mw_up wm6 a (.inr (cTM, [.ref bd, .ref ba, .int (nI (bg mi)), .int (nI (ks mi)), .int (nI (vs mi)), .int (nI (en mi)), .ref ka, .ref ak, .int (nI r2), .int (nI ((tb_n (tb mi) (en mi)) + 1)), .int (nI 0)]))) a = some (.inr (cTM, [.ref bd, .ref ba, .int (nI (bg mi)), .int (nI (ks mi)), .int (nI (vs mi)), .int (nI (en mi)), .ref ka, .ref ak, .int (nI r2), .int (nI ((tb_n (tb mi) (en mi)) + 1)), .int (nI 0)])) := mw_up_s _ _ _
          generalize (mw_up wm6 a (.inr (cTM, [.ref bd, .ref ba, .int (nI (bg mi)), .int (nI (ks mi)), .int (nI (vs mi)), .int (nI (en mi)), .ref ka, .ref ak, .int (nI r2), .int (nI ((tb_n (tb mi) (en mi)) + 1)), .int (nI 0)]))) = wm7 at hI fk1 fb f1 fk2 fkx hF f0
          have hs2 : ∀ e k, tb (M_tb mi (va_up (tb mi) e0 (some (aq mi)))) e = some k → e < r2 ∧ ∃ (kb' kx' : Nat) (g : Nat → Int64), va_up f e0 (some kb) e = some kb' ∧ va_up own kx (4, i, e0) kx' = (4, i, e) ∧ by_ok dA wm7 kb' kx' (ks mi) g ∧ by_l g (ks mi) k := by
            intro e k he
            have he' : va_up (tb mi) e0 (some (aq mi)) e = some k := he
            by_cases hee : e = e0
            · subst hee
              rw [va_up_self] at he'
              cases he'
              exact ⟨hr4.2, kb, kx, g', va_up_self _ _ _, va_up_self _ _ _, ⟨fb, fkx⟩, hkl⟩
            · rw [va_up_ne _ _ hee] at he'
              obtain ⟨g1, kb', kx', g, g2, g3, g4, g5⟩ := hs1 e k he'
              refine ⟨by omega, kb', kx', g, (va_up_ne _ _ hee).trans g2, (va_up_ne _ _ (mw_neN g4.2 hw_kx)).trans g3, ⟨hF _ _ g4.1 (mw_neC g4.1 f0_0 (by decide)) (mw_neA g4.1 f1_0), hF _ _ g4.2 (mw_neA f0_0 g4.2).symm (own_ne g3 oka (by simp))⟩, g5⟩
          have hn2 : ∀ e, e < en (M_tb mi (va_up (tb mi) e0 (some (aq mi)))) → tb (M_tb mi (va_up (tb mi) e0 (some (aq mi)))) e = none → va_up f e0 (some kb) e = none := by
            intro e he ht
            have ht' : va_up (tb mi) e0 (some (aq mi)) e = none := ht
            by_cases hee : e = e0
            · rw [hee, va_up_self] at ht'; cases ht'
            · rw [va_up_ne _ _ hee] at ht' ⊢; exact hn1 e he ht'
          have hl9 : lst (fun e => decide (tb (M_tb mi (va_up (tb mi) e0 (some (aq mi)))) e = some (aq (M_tb mi (va_up (tb mi) e0 (some (aq mi)))))) && decide (nI e0 ≠ nI e)) (en (M_tb mi (va_up (tb mi) e0 (some (aq mi))))) = none := by
            refine lst_none (fun e he => ?_)
            by_cases hee : e = e0
            · subst hee; simp
            · have : tb (M_tb mi (va_up (tb mi) e0 (some (aq mi)))) e ≠ some (aq (M_tb mi (va_up (tb mi) e0 (some (aq mi))))) := by
                show va_up (tb mi) e0 (some (aq mi)) e ≠ _
                rw [va_up_ne _ _ hee]; exact hno e
              rw [decide_eq_false this]; rfl
          refine lv_aload_n hx hb d_TM_giveAsked_57 rfl (lv_at hl 1 rfl) ?_
          refine lv_iload_n hx hb d_TM_giveAsked_58 rfl (lv_at hl 2 rfl) ?_
          refine mw_call (rest := []) K hSy hP0 hI (c_TM_entryWithAsked l D dA (m0 := M_tb mi (va_up (tb mi) e0 (some (aq mi)))) f0 (⟨fk1, fk2⟩ : by_ok dA wm7 ak ax (ks mi) gk) hbl b2 b6 f1 hr3 hn2 (fun e k he => by obtain ⟨g1, kb, kx, g, g2, g3, g4, g5⟩ := hs2 e k he; exact ⟨g1, kb, kx, g, g2, g4, g5⟩) (nI e0)) (mx_invV hx hown (hts _ tw_453) (hts _ tw_455) (hts _ tw_3) (hts _ tw_456) (by decide) (b := a) (mw_rc K hI f0 rfl) (g := F0 m 59 ls [.int (nI e0), .ref a]) rfl (argsL := [.int (nI e0)]) (rest := []) np_TM_entryWithAsked rfl (by rw [hb]; exact d_TM_giveAsked_59)) hl.1 d_TM_giveAsked_59 ⟨Nat.le_of_ble_eq_true rfl, Nat.le_of_ble_eq_true rfl⟩ (Or.inl ⟨_, _, List.mem_cons_self⟩) (mk_ws tw_456 hts) (fun a9 U9 h9 => Ts_warm hts _ tw_33 a9 U9 h9) ⟨Nat.le_of_ble_eq_true rfl, Nat.le_of_ble_eq_true rfl⟩ (fun v w' H locs hq hI => ?_) (fun k x w' H locs hq hI hX => ?_)
          · obtain ⟨hq7, hq8⟩ := hq
            cases hq8
            rw [hq7] at hI
            rw [hl9]
            refine W.eq (g2 := F0 m 62 ls [.int (-1)]) rfl ?_
            refine lv_iconst (v := (-1)) hx hb d_TM_giveAsked_62 (by decide) ?_
            refine lv_icmp_eq (tgt := 76) hx hb d_TM_giveAsked_63 (by decide) (fun c63 => ?_) (fun c63 => ?_)
            ·
              refine mw_vret K hI hr hlk ⟨rfl, va_up own kx (4, i, e0), ?_, ?_⟩ d_TM_giveAsked_76
              · refine hA.map (i := i) ?_ (fun q' y hy hz => ?_) (fun q' y hy => va_up_ne _ _ (mw_neN hy hw_kx))
                · rw [ea]
                  refine ⟨(va_up_ne _ _ (mw_neN f0_0 hw_kx)).trans om, Or.inr (Or.inl ⟨hk1, ka, ak, ax, r2, gk, va_up f e0 (some kb), ?_, (va_up_ne _ _ (mw_neN f1_0 hw_kx)).trans oka, (va_up_ne _ _ (mw_neN fk.2 hw_kx)).trans oax, ⟨fk1, fk2⟩, hbl, f1, hr3, hn2, hs2⟩)⟩
                  have hn9 := tb_n_up (tb mi) (aq mi) ht0 he0
                  rw [f0, ← hn9]; rfl
                · refine hF q' y hy (fun e => ?_) (fun e => ?_)
                  · subst e
                    rcases hz with hz | ⟨fs, hz⟩
                    · exact hz (by rw [om]; exact Or.inl rfl)
                    · rw [hz] at hy; exact absurd (hy.symm.trans f0_0) (by intro z; injection z with z; injection z with z; injection z with z; exact absurd z (by decide))
                  · subst e
                    rcases hz with hz | ⟨fs, hz⟩
                    · exact hz (by rw [oka]; exact Or.inr (Or.inl rfl))
                    · rw [hz] at hy; exact absurd (hy.symm.trans f1_0) (by simp)
              · intro q' y hy
                refine ⟨va_up_ne _ _ (mw_neN hy hw_kx), ?_⟩
                by_cases e1 : q' = a
                · subst e1; exact ⟨_, f0, fun z => absurd z (by rw [om]; simp)⟩
                · by_cases e2 : q' = ka
                  · subst e2; exact ⟨_, f1, fun z => absurd z (by rw [oka]; simp)⟩
                  · exact ⟨y, hF q' y hy e1 e2, fun _ => rfl⟩
            ·
              exact absurd rfl c63
          · exact absurd hq.2 (by simp)
        · exact absurd hq.1 (by simp)
      · exact absurd hq.1 (by simp)
    · rw [hk1] at k2; cases k2
  · rw [hk1] at k0; cases k0
end
section
theorem tw_462 : Cond.privateMethod y_EM_placeOfEntry ∈ Ts := mw_in (i := 462) (by decide +kernel) (by decide +kernel)
/-! ### a private method called on an object of a class below -/
section
variable {p : Program} {l : Launch} {e : Env} {R : Room} {s : State} {m : MethodId} {args : Array Value} {below : List Frame} {meth : Method} {c : Code} {H : Heap}
theorem mx_invP (hexec : p.tables.exec = Jvm.exec) {own C : String} {index : Nat} {y y2 x2 : MethodName} {bytes : ByteArray} {maxL : Nat} {ret : Option FieldType}
    (hown : s.vm.findClass own = some m.cls) (hlink : (Cond.methodLink own index y).before args s = true) (hinst : (Cond.instanceMethod y).before args s = true) (hpriv : (Cond.privateMethod y).before args s = true) (hsel : (Cond.selects C x2 y2).before args s = true) (hc2 : y2.cls = y.cls)
    (hcode : (Cond.code y bytes maxL ret).before args s = true) (hy : y.cls ≠ "java/lang/invoke/MethodHandle" ∧ y.cls ≠ "java/lang/invoke/VarHandle")
    {b : Addr} (hb : ∃ cellB : Cell, H[b]? = some cellB ∧ cellB.vm.isStatics = false ∧ s.vm.findClass C = some cellB.cls)
    {g : JFrame} (hg : g.method = m) {argsL rest : List Value} (hlen : (parseMethodDescriptor y.desc).map (fun d => d.parameters.length) = some argsL.length)
    (hstack : g.stack = argsL.reverse ++ .ref b :: rest) (hdg : decode c.code g.pc = .ok (.invokevirtual index, 3)) : mx_Inv p l e R s m args below meth c H g y (Value.ref b :: argsL).toArray rest := by
  intro T locs cells slots hT X
  obtain ⟨cellB, hcell, hobj, hcls⟩ := hb
  rw [← hT] at hcell
  obtain ⟨mk, methM, hnamed, hmethM, hstM, habM⟩ := Cond.instanceMethod_spec hinst
  obtain ⟨methM', cM, hmethM', -, -, -, -, -, -, hsigM⟩ := Cond.code_spec hnamed hcode
  cases hmethM.symm.trans hmethM'
  obtain ⟨c2, r2, m2, q1, q2, q3, q4, kP, hkP, hkPi⟩ := Cond.selects_spec hsel
  have e1 := findClass_of_methodNamed hnamed
  have e2 := findClass_of_methodNamed q3
  rw [hc2] at e2
  have e3 : m2.cls = mk.cls := Option.some.inj (e2.symm.trans e1)
  rw [e3] at hkP
  have hselP : selectMethod e.platform s.vm cellB.cls mk = .method mk := selectMethod_private hmethM (Cond.privateMethod_at hpriv mk methM hnamed hmethM)
  have hl : argsL.length = methM.sig.parameters.length := by rw [hsigM] at hlen; exact (Option.some.inj hlen).symm
  obtain ⟨vm₁, X₁, hstep₁⟩ := X.invokevirtual hexec hown hlink hnamed hmethM hstM hkP hkPi hy (a := b) (cell := cellB) hcell
    (fun z h => by rw [h] at hobj; cases hobj) hselP hmethM habM hkP hkPi (g := g) hg (argsL := argsL) (rest := rest) hl hstack hdg
  exact ⟨vm₁, mk, X₁.warmed, X₁, hnamed, fun target h => hstep₁ _ fun acts => by rw [doInvoke_state]; exact h⟩
end
/-! ### what each call answers, and the state afterwards -/
def rV (r : Int32 ⊕ Nat) : mw_R := match r with
  | .inl v => .inl (some (.int v))
  | .inr k => .inr k
/-- the entry of the key at q on the desk -/
def ent (S : as_S) (i q : Nat) : Option Nat := if kd (mm S i) = 0 then (if bw_n (dk S) q 4 < en (mm S i) then some (bw_n (dk S) q 4) else none) else fnd (mm S i) (kyL (dk S) q (ks (mm S i)))
/-- the state when a key was looked up -/
def lk (S : as_S) (i q : Nat) : as_S := if kd (mm S i) = 1 then S_mm S i (M_aq (mm S i) (kyL (dk S) q (ks (mm S i)))) else S
def plc (m : as_M) (e : Nat) : Nat := bg m + e * up8 (vs m)
def cpy (f : Nat → Nat) (i : Nat) (d : Nat → Nat) (j k : Nat) : Nat → Nat := fun x => if i ≤ x ∧ x < i + k then d (j + (x - i)) else f x
def sp_find (S : as_S) (i : Nat) (k : Int32) : as_S × (Int32 ⊕ Nat) :=
  if inD k (ks (mm S i)) 512 then (lk S i k.toNatClampNeg, .inl (match ent S i k.toNatClampNeg with | none => -1 | some e => nI (plc (mm S i) e))) else (S, .inr 2)
def freeE (m : as_M) : Option Nat := lst (fun e => (tb m e).isNone) (en m)
/-- the value is written, the entry is known -/
def wrE (S : as_S) (i e v : Nat) : as_S := S_ar S (cpy (ar S) (plc (mm S i) e) (dk S) v (vs (mm S i)))
/-- the key gets the entry e -/
def gvE (S : as_S) (i e : Nat) : as_S := S_mm S i (M_tb (mm S i) (va_up (tb (mm S i)) e (some (aq (mm S i)))))
/-- the entry for a key that isn't there -/
def sp_miss (S : as_S) (i : Nat) (f : Int32) : as_S × Int32 :=
  if kd (mm S i) = 0 then (S, -7) else if f = nI 2 then (S, -2) else match freeE (mm S i) with
    | none => (S, -7)
    | some e => (gvE S i e, nI e)
def sp_upd (S : as_S) (i : Nat) (k v f : Int32) : as_S × (Int32 ⊕ Nat) :=
  if inD k (ks (mm S i)) 512 ∧ inD v (vs (mm S i)) 512 then
    if 0 ≤ f.toInt ∧ f.toInt ≤ 2 then match ent S i k.toNatClampNeg with
      | some e => if f = nI 1 then (lk S i k.toNatClampNeg, .inl (-17)) else (wrE (lk S i k.toNatClampNeg) i e v.toNatClampNeg, .inl (nI 0))
      | none => if (sp_miss (lk S i k.toNatClampNeg) i f).2 < nI 0 then ((sp_miss (lk S i k.toNatClampNeg) i f).1, .inl (sp_miss (lk S i k.toNatClampNeg) i f).2) else (wrE (sp_miss (lk S i k.toNatClampNeg) i f).1 i (sp_miss (lk S i k.toNatClampNeg) i f).2.toNatClampNeg v.toNatClampNeg, .inl (nI 0))
    else (S, .inl (-22))
  else (S, .inr 2)
def sp_free (S : as_S) (i : Nat) (k : Int32) : as_S × (Int32 ⊕ Nat) :=
  if inD k (ks (mm S i)) 512 then match ent S i k.toNatClampNeg with
    | none => (lk S i k.toNatClampNeg, .inl (-2))
    | some e => (S_mm (lk S i k.toNatClampNeg) i (M_tb (mm (lk S i k.toNatClampNeg) i) (va_up (tb (mm (lk S i k.toNatClampNeg) i)) e none)), .inl (nI 0))
  else (S, .inr 2)
/-- the first entry with a key, from s on -/
def nxE (m : as_M) (s : Nat) : Option Nat := lst (fun e => decide (s ≤ e) && (tb m e).isSome) (en m)
def nxK (S : as_S) (i s : Nat) (to : Nat) : as_S × (Int32 ⊕ Nat) := match nxE (mm S i) s with
  | none => (S, .inl (-1))
  | some e => (S_dk S (cpy (dk S) to (fun j => ((tb (mm S i) e).getD []).getD j 0) 0 (ks (mm S i))), .inl (nI e))
def sp_next (S : as_S) (i : Nat) (k to : Int32) : as_S × (Int32 ⊕ Nat) :=
  if inD to (ks (mm S i)) 512 ∧ (k = -1 ∨ inD k (ks (mm S i)) 512) then
    if k = -1 then nxK S i 0 to.toNatClampNeg else nxK (lk S i k.toNatClampNeg) i (match ent S i k.toNatClampNeg with | none => 0 | some e => e + 1) to.toNatClampNeg
  else (S, .inr 2)
def nup (f : Nat → Nat) (p v : Nat) : Nat → Nat := fun x => if x = p then v else f x
/-- k bytes are written into a ring at b of n bytes, from the count h on -/
def rng (f : Nat → Nat) (b n h : Nat) (v : Nat → Nat) : Nat → Nat → Nat
  | 0 => f
  | k + 1 => nup (rng f b n h v k) (b + (h + k) % n) (v k)
/-- the bytes of a record -/
def rcB (d : Nat → Nat) (z r at_ : Nat) : Nat → Nat := fun j => if j < 4 then z / 2 ^ (8 * j) % 256 else if j < 8 then r / 2 ^ (8 * (j - 4)) % 256 else if j < 8 + z then d (at_ + (j - 8)) else 0
def sp_put (S : as_S) (i : Nat) (a z : Int32) : as_S × (Int32 ⊕ Nat) :=
  if 1 ≤ z.toInt ∧ z.toInt ≤ 256 then
    if inD a z.toNatClampNeg 512 then
      if bk (mm S i) = true then (S, .inl (-22))
      else if en (mm S i) < hd (mm S i) - tl (mm S i) + up8 (8 + z.toNatClampNeg) then (S, .inl (-11))
      else (S_mm (S_ar S (rng (ar S) (bg (mm S i)) (en (mm S i)) (hd (mm S i)) (rcB (dk S) z.toNatClampNeg (rc (mm S i)) a.toNatClampNeg) (up8 (8 + z.toNatClampNeg)))) i (M_rg (mm S i) (hd (mm S i) + up8 (8 + z.toNatClampNeg)) (tl (mm S i)) (rc (mm S i) + 1) (bk (mm S i))), .inl (nI 0))
    else (S, .inr 2)
  else (S, .inl (-22))
/-- the size that stands at TAIL -/
def szR (S : as_S) (i : Nat) : Nat := bw_n (ar S) (bg (mm S i) + tl (mm S i) % en (mm S i)) 4
def sp_take (S : as_S) (i : Nat) (a : Int32) : as_S × (Int32 ⊕ Nat) :=
  if bk (mm S i) = true then (S, .inl (-22))
  else if hd (mm S i) = tl (mm S i) then (S, .inl (-2))
  else if 1 ≤ szR S i ∧ szR S i ≤ 256 ∧ up8 (8 + szR S i) ≤ hd (mm S i) - tl (mm S i) then
    if inD a (szR S i) 512 then (S_mm (S_dk S (cpy (dk S) a.toNatClampNeg (fun j => ar S (bg (mm S i) + (tl (mm S i) + 8 + j) % en (mm S i))) 0 (szR S i))) i (M_rg (mm S i) (hd (mm S i)) (tl (mm S i) + up8 (8 + szR S i)) (rc (mm S i)) (bk (mm S i))), .inl (nI (szR S i)))
    else (S, .inr 2)
  else (S_mm S i (M_rg (mm S i) (hd (mm S i)) (tl (mm S i)) (rc (mm S i)) true), .inl (-22))
def useN (m : as_M) : Nat := if kd m = 0 then en m else if kd m = 1 then tb_n (tb m) (en m) else hd m - tl m
/-- an answer of the class, and its state afterwards -/
def PC (dA : Nat → ClassId) (w : mw_W) (own : as_W) (x bd xd ba xa ra : Nat) (mp : Nat → Nat) (sr : as_S × (Int32 ⊕ Nat)) : mw_R → mw_W → Prop := fun r w' => r = rV sr.2 ∧ ∃ (own' : as_W) (gd' ga' : Nat → Int64), rc_A dA w' own' x bd xd ba xa ra mp gd' ga' sr.1 ∧ Fr w own w' own'
/-- a key was looked up: what holds stays -/
theorem S_mm_self (S : as_S) (i : Nat) (m : as_M) : mm (S_mm S i m) i = m := va_up_self _ _ _
theorem S_mm_ne (S : as_S) {i j : Nat} (m : as_M) (h : j ≠ i) : mm (S_mm S i m) j = mm S j := va_up_ne _ _ h
theorem wf_S.ofM {t : Nat} {S : as_S} (h : wf_S t S) {i : Nat} {m' : as_M} (hm : wf_M t m') : wf_S t (S_mm S i m') := by
  obtain ⟨h1, h2, h3, h4, h5, h6⟩ := h
  refine ⟨h1, h2, h3, h4, h5, fun j hj => ?_⟩
  by_cases e : j = i
  · subst e; rw [S_mm_self]; exact hm
  · rw [S_mm_ne _ _ e]; exact h6 j hj
theorem wf_S.ofL {t : Nat} {S : as_S} (h : wf_S t S) {i q : Nat} (hi : i < nm S) : wf_S t (lk S i q) := by
  show wf_S t (if kd (mm S i) = 1 then S_mm S i (M_aq (mm S i) (kyL (dk S) q (ks (mm S i)))) else S)
  by_cases k1 : kd (mm S i) = 1
  · rw [if_pos k1]
    refine h.ofM ?_
    obtain ⟨h0, ⟨k0, h9⟩ | ⟨k0, h9⟩ | ⟨k0, h9⟩⟩ := h.2.2.2.2.2 i hi
    · rw [k1] at k0; cases k0
    · obtain ⟨b1, b2, b3, b4, b5, b6, b7, b8, b9⟩ := h9
      exact ⟨h0, Or.inr (Or.inl ⟨k0, b1, b2, b3, b4, b5, b6, b7, kyL_len _ _ _, b9⟩)⟩
    · rw [k1] at k0; cases k0
  · rw [if_neg k1]; exact h
theorem lk_1 {S : as_S} {i : Nat} (q : Nat) (h : kd (mm S i) = 1) : lk S i q = S_mm S i (M_aq (mm S i) (kyL (dk S) q (ks (mm S i)))) := if_pos h
theorem lk_0 {S : as_S} {i : Nat} (q : Nat) (h : kd (mm S i) = 0) : lk S i q = S := if_neg (by rw [h]; decide)
theorem ent_1 {S : as_S} {i : Nat} (q : Nat) (h : kd (mm S i) = 1) : ent S i q = fnd (mm S i) (kyL (dk S) q (ks (mm S i))) := if_neg (by rw [h]; decide)
theorem ent_0 {S : as_S} {i : Nat} (q : Nat) (h : kd (mm S i) = 0) : ent S i q = if bw_n (dk S) q 4 < en (mm S i) then some (bw_n (dk S) q 4) else none := if_pos h
end
section
/-! ### arrays and tables: the entry, its place -/
theorem d_AM_entryOf_0 : decode b_AM_entryOf 0 = .ok (.aload_n 0, 1) := by decide +kernel
theorem d_AM_entryOf_1 : decode b_AM_entryOf 1 = .ok (.getfield 15, 3) := by decide +kernel
theorem d_AM_entryOf_4 : decode b_AM_entryOf 4 = .ok (.iload_n 1, 1) := by decide +kernel
theorem d_AM_entryOf_5 : decode b_AM_entryOf 5 = .ok (.iconst 4, 1) := by decide +kernel
theorem d_AM_entryOf_6 : decode b_AM_entryOf 6 = .ok (.invokevirtual 19, 3) := by decide +kernel
theorem d_AM_entryOf_9 : decode b_AM_entryOf 9 = .ok (.lstore_n 2, 1) := by decide +kernel
theorem d_AM_entryOf_10 : decode b_AM_entryOf 10 = .ok (.lload_n 2, 1) := by decide +kernel
theorem d_AM_entryOf_11 : decode b_AM_entryOf 11 = .ok (.aload_n 0, 1) := by decide +kernel
theorem d_AM_entryOf_12 : decode b_AM_entryOf 12 = .ok (.getfield 9, 3) := by decide +kernel
theorem d_AM_entryOf_15 : decode b_AM_entryOf 15 = .ok (.i2l, 1) := by decide +kernel
theorem d_AM_entryOf_16 : decode b_AM_entryOf 16 = .ok (.lcmp, 1) := by decide +kernel
theorem d_AM_entryOf_17 : decode b_AM_entryOf 17 = .ok (.ifCond .ge 8, 3) := by decide +kernel
theorem d_AM_entryOf_20 : decode b_AM_entryOf 20 = .ok (.lload_n 2, 1) := by decide +kernel
theorem d_AM_entryOf_21 : decode b_AM_entryOf 21 = .ok (.l2i, 1) := by decide +kernel
theorem d_AM_entryOf_22 : decode b_AM_entryOf 22 = .ok (.goto 4, 3) := by decide +kernel
theorem d_AM_entryOf_25 : decode b_AM_entryOf 25 = .ok (.iconst (-1), 1) := by decide +kernel
theorem d_AM_entryOf_26 : decode b_AM_entryOf 26 = .ok (.ireturn, 1) := by decide +kernel
theorem d_AM_entryForMissing_0 : decode b_AM_entryForMissing 0 = .ok (.bipush (-7), 2) := by decide +kernel
theorem d_AM_entryForMissing_2 : decode b_AM_entryForMissing 2 = .ok (.ireturn, 1) := by decide +kernel
theorem d_EM_placeOfEntry_0 : decode b_EM_placeOfEntry 0 = .ok (.aload_n 0, 1) := by decide +kernel
theorem d_EM_placeOfEntry_1 : decode b_EM_placeOfEntry 1 = .ok (.getfield 52, 3) := by decide +kernel
theorem d_EM_placeOfEntry_4 : decode b_EM_placeOfEntry 4 = .ok (.iload_n 1, 1) := by decide +kernel
theorem d_EM_placeOfEntry_5 : decode b_EM_placeOfEntry 5 = .ok (.aload_n 0, 1) := by decide +kernel
theorem d_EM_placeOfEntry_6 : decode b_EM_placeOfEntry 6 = .ok (.getfield 15, 3) := by decide +kernel
theorem d_EM_placeOfEntry_9 : decode b_EM_placeOfEntry 9 = .ok (.invokestatic 55, 3) := by decide +kernel
theorem d_EM_placeOfEntry_12 : decode b_EM_placeOfEntry 12 = .ok (.imul, 1) := by decide +kernel
theorem d_EM_placeOfEntry_13 : decode b_EM_placeOfEntry 13 = .ok (.iadd, 1) := by decide +kernel
theorem d_EM_placeOfEntry_14 : decode b_EM_placeOfEntry 14 = .ok (.ireturn, 1) := by decide +kernel
theorem d_EM_placeOf_0 : decode b_EM_placeOf 0 = .ok (.aload_n 0, 1) := by decide +kernel
theorem d_EM_placeOf_1 : decode b_EM_placeOf 1 = .ok (.getfield 21, 3) := by decide +kernel
theorem d_EM_placeOf_4 : decode b_EM_placeOf 4 = .ok (.iload_n 1, 1) := by decide +kernel
theorem d_EM_placeOf_5 : decode b_EM_placeOf 5 = .ok (.aload_n 0, 1) := by decide +kernel
theorem d_EM_placeOf_6 : decode b_EM_placeOf 6 = .ok (.getfield 9, 3) := by decide +kernel
theorem d_EM_placeOf_9 : decode b_EM_placeOf 9 = .ok (.invokevirtual 25, 3) := by decide +kernel
theorem d_EM_placeOf_12 : decode b_EM_placeOf 12 = .ok (.aload_n 0, 1) := by decide +kernel
theorem d_EM_placeOf_13 : decode b_EM_placeOf 13 = .ok (.iload_n 1, 1) := by decide +kernel
theorem d_EM_placeOf_14 : decode b_EM_placeOf 14 = .ok (.invokevirtual 31, 3) := by decide +kernel
theorem d_EM_placeOf_17 : decode b_EM_placeOf 17 = .ok (.istore_n 2, 1) := by decide +kernel
theorem d_EM_placeOf_18 : decode b_EM_placeOf 18 = .ok (.iload_n 2, 1) := by decide +kernel
theorem d_EM_placeOf_19 : decode b_EM_placeOf 19 = .ok (.iconst (-1), 1) := by decide +kernel
theorem d_EM_placeOf_20 : decode b_EM_placeOf 20 = .ok (.if_icmp .ne 7, 3) := by decide +kernel
theorem d_EM_placeOf_23 : decode b_EM_placeOf 23 = .ok (.iconst (-1), 1) := by decide +kernel
theorem d_EM_placeOf_24 : decode b_EM_placeOf 24 = .ok (.goto 8, 3) := by decide +kernel
theorem d_EM_placeOf_27 : decode b_EM_placeOf 27 = .ok (.aload_n 0, 1) := by decide +kernel
theorem d_EM_placeOf_28 : decode b_EM_placeOf 28 = .ok (.iload_n 2, 1) := by decide +kernel
theorem d_EM_placeOf_29 : decode b_EM_placeOf 29 = .ok (.invokevirtual 35, 3) := by decide +kernel
theorem d_EM_placeOf_32 : decode b_EM_placeOf 32 = .ok (.ireturn, 1) := by decide +kernel
theorem d_EM_write_0 : decode b_EM_write 0 = .ok (.aload_n 0, 1) := by decide +kernel
theorem d_EM_write_1 : decode b_EM_write 1 = .ok (.getfield 21, 3) := by decide +kernel
theorem d_EM_write_4 : decode b_EM_write 4 = .ok (.iload_n 1, 1) := by decide +kernel
theorem d_EM_write_5 : decode b_EM_write 5 = .ok (.aload_n 0, 1) := by decide +kernel
theorem d_EM_write_6 : decode b_EM_write 6 = .ok (.getfield 9, 3) := by decide +kernel
theorem d_EM_write_9 : decode b_EM_write 9 = .ok (.invokevirtual 25, 3) := by decide +kernel
theorem d_EM_write_12 : decode b_EM_write 12 = .ok (.aload_n 0, 1) := by decide +kernel
theorem d_EM_write_13 : decode b_EM_write 13 = .ok (.getfield 21, 3) := by decide +kernel
theorem d_EM_write_16 : decode b_EM_write 16 = .ok (.iload_n 2, 1) := by decide +kernel
theorem d_EM_write_17 : decode b_EM_write 17 = .ok (.aload_n 0, 1) := by decide +kernel
theorem d_EM_write_18 : decode b_EM_write 18 = .ok (.getfield 15, 3) := by decide +kernel
theorem d_EM_write_21 : decode b_EM_write 21 = .ok (.invokevirtual 25, 3) := by decide +kernel
theorem d_EM_write_24 : decode b_EM_write 24 = .ok (.iload_n 3, 1) := by decide +kernel
theorem d_EM_write_25 : decode b_EM_write 25 = .ok (.i2l, 1) := by decide +kernel
theorem d_EM_write_26 : decode b_EM_write 26 = .ok (.iconst 0, 1) := by decide +kernel
theorem d_EM_write_27 : decode b_EM_write 27 = .ok (.iconst 2, 1) := by decide +kernel
theorem d_EM_write_28 : decode b_EM_write 28 = .ok (.invokestatic 38, 3) := by decide +kernel
theorem d_EM_write_31 : decode b_EM_write 31 = .ok (.ifCond .ne 6, 3) := by decide +kernel
theorem d_EM_write_34 : decode b_EM_write 34 = .ok (.bipush (-22), 2) := by decide +kernel
theorem d_EM_write_36 : decode b_EM_write 36 = .ok (.ireturn, 1) := by decide +kernel
theorem d_EM_write_37 : decode b_EM_write 37 = .ok (.aload_n 0, 1) := by decide +kernel
theorem d_EM_write_38 : decode b_EM_write 38 = .ok (.iload_n 1, 1) := by decide +kernel
theorem d_EM_write_39 : decode b_EM_write 39 = .ok (.invokevirtual 31, 3) := by decide +kernel
theorem d_EM_write_42 : decode b_EM_write 42 = .ok (.istore 4, 2) := by decide +kernel
theorem d_EM_write_44 : decode b_EM_write 44 = .ok (.iload 4, 2) := by decide +kernel
theorem d_EM_write_46 : decode b_EM_write 46 = .ok (.iconst (-1), 1) := by decide +kernel
theorem d_EM_write_47 : decode b_EM_write 47 = .ok (.if_icmp .eq 11, 3) := by decide +kernel
theorem d_EM_write_50 : decode b_EM_write 50 = .ok (.iload_n 3, 1) := by decide +kernel
theorem d_EM_write_51 : decode b_EM_write 51 = .ok (.iconst 1, 1) := by decide +kernel
theorem d_EM_write_52 : decode b_EM_write 52 = .ok (.if_icmp .ne 6, 3) := by decide +kernel
theorem d_EM_write_55 : decode b_EM_write 55 = .ok (.bipush (-17), 2) := by decide +kernel
theorem d_EM_write_57 : decode b_EM_write 57 = .ok (.ireturn, 1) := by decide +kernel
theorem d_EM_write_58 : decode b_EM_write 58 = .ok (.iload 4, 2) := by decide +kernel
theorem d_EM_write_60 : decode b_EM_write 60 = .ok (.iconst (-1), 1) := by decide +kernel
theorem d_EM_write_61 : decode b_EM_write 61 = .ok (.if_icmp .ne 10, 3) := by decide +kernel
theorem d_EM_write_64 : decode b_EM_write 64 = .ok (.aload_n 0, 1) := by decide +kernel
theorem d_EM_write_65 : decode b_EM_write 65 = .ok (.iload_n 3, 1) := by decide +kernel
theorem d_EM_write_66 : decode b_EM_write 66 = .ok (.invokevirtual 42, 3) := by decide +kernel
theorem d_EM_write_69 : decode b_EM_write 69 = .ok (.istore 4, 2) := by decide +kernel
theorem d_EM_write_71 : decode b_EM_write 71 = .ok (.iload 4, 2) := by decide +kernel
theorem d_EM_write_73 : decode b_EM_write 73 = .ok (.ifCond .ge 6, 3) := by decide +kernel
theorem d_EM_write_76 : decode b_EM_write 76 = .ok (.iload 4, 2) := by decide +kernel
theorem d_EM_write_78 : decode b_EM_write 78 = .ok (.ireturn, 1) := by decide +kernel
theorem d_EM_write_79 : decode b_EM_write 79 = .ok (.aload_n 0, 1) := by decide +kernel
theorem d_EM_write_80 : decode b_EM_write 80 = .ok (.getfield 45, 3) := by decide +kernel
theorem d_EM_write_83 : decode b_EM_write 83 = .ok (.aload_n 0, 1) := by decide +kernel
theorem d_EM_write_84 : decode b_EM_write 84 = .ok (.iload 4, 2) := by decide +kernel
theorem d_EM_write_86 : decode b_EM_write 86 = .ok (.invokevirtual 35, 3) := by decide +kernel
theorem d_EM_write_89 : decode b_EM_write 89 = .ok (.aload_n 0, 1) := by decide +kernel
theorem d_EM_write_90 : decode b_EM_write 90 = .ok (.getfield 21, 3) := by decide +kernel
theorem d_EM_write_93 : decode b_EM_write 93 = .ok (.iload_n 2, 1) := by decide +kernel
theorem d_EM_write_94 : decode b_EM_write 94 = .ok (.aload_n 0, 1) := by decide +kernel
theorem d_EM_write_95 : decode b_EM_write 95 = .ok (.getfield 15, 3) := by decide +kernel
theorem d_EM_write_98 : decode b_EM_write 98 = .ok (.invokevirtual 48, 3) := by decide +kernel
theorem d_EM_write_101 : decode b_EM_write 101 = .ok (.iconst 0, 1) := by decide +kernel
theorem d_EM_write_102 : decode b_EM_write 102 = .ok (.ireturn, 1) := by decide +kernel
theorem d_AM_inUse_0 : decode b_AM_inUse 0 = .ok (.aload_n 0, 1) := by decide +kernel
theorem d_AM_inUse_1 : decode b_AM_inUse 1 = .ok (.getfield 9, 3) := by decide +kernel
theorem d_AM_inUse_4 : decode b_AM_inUse 4 = .ok (.ireturn, 1) := by decide +kernel
theorem d_TM_inUse_0 : decode b_TM_inUse 0 = .ok (.aload_n 0, 1) := by decide +kernel
theorem d_TM_inUse_1 : decode b_TM_inUse 1 = .ok (.getfield 15, 3) := by decide +kernel
theorem d_TM_inUse_4 : decode b_TM_inUse 4 = .ok (.ireturn, 1) := by decide +kernel
theorem d_RM_inUse_0 : decode b_RM_inUse 0 = .ok (.aload_n 0, 1) := by decide +kernel
theorem d_RM_inUse_1 : decode b_RM_inUse 1 = .ok (.getfield 9, 3) := by decide +kernel
theorem d_RM_inUse_4 : decode b_RM_inUse 4 = .ok (.aload_n 0, 1) := by decide +kernel
theorem d_RM_inUse_5 : decode b_RM_inUse 5 = .ok (.getfield 15, 3) := by decide +kernel
theorem d_RM_inUse_8 : decode b_RM_inUse 8 = .ok (.lsub, 1) := by decide +kernel
theorem d_RM_inUse_9 : decode b_RM_inUse 9 = .ok (.l2i, 1) := by decide +kernel
theorem d_RM_inUse_10 : decode b_RM_inUse 10 = .ok (.ireturn, 1) := by decide +kernel
theorem d_AN_clashes_0 : decode b_AN_clashes 0 = .ok (.iconst 0, 1) := by decide +kernel
theorem d_AN_clashes_1 : decode b_AN_clashes 1 = .ok (.ireturn, 1) := by decide +kernel
theorem d_TM_clashes_0 : decode b_TM_clashes 0 = .ok (.aload_n 0, 1) := by decide +kernel
theorem d_TM_clashes_1 : decode b_TM_clashes 1 = .ok (.getfield 18, 3) := by decide +kernel
theorem d_TM_clashes_4 : decode b_TM_clashes 4 = .ok (.ireturn, 1) := by decide +kernel
theorem up8_ge (n : Nat) : n ≤ up8 n ∧ up8 n ≤ n + 7 ∧ up8 n % 8 = 0 := by unfold up8; omega
/-- the sizes of an array or a table -/
theorem wf_E {t : Nat} {m : as_M} (h : wf_M t m) (hk : kd m = 0 ∨ kd m = 1) : 1 ≤ ks m ∧ ks m ≤ 64 ∧ 1 ≤ vs m ∧ vs m ≤ 256 ∧ 1 ≤ en m ∧ en m ≤ 4096 ∧ bg m + en m * up8 (vs m) ≤ 65536 ∧ (kd m = 0 → ks m = 4) := by
  obtain ⟨-, ⟨k0, h⟩ | ⟨k0, h⟩ | ⟨k0, h⟩⟩ := h
  · exact ⟨by omega, by omega, by omega, by omega, by omega, by omega, by omega, fun _ => by omega⟩
  · obtain ⟨b1, b2, b3, b4, b5, b6, b7, -⟩ := h
    exact ⟨b1, b2, b3, b4, b5, b6, b7, fun z => by omega⟩
  · exact absurd hk (by omega)
theorem rc_AM {dA : Nat → ClassId} {w : mw_W} {own : as_W} {bd ba i a : Nat} {m : as_M} (h : rc_M dA w own bd ba i a m) (hk : kd m = 0) (h4 : kd m = 0 → ks m = 4) : w a = some (.inr (cAM, [.ref bd, .ref ba, .int (nI (bg m)), .int (nI (ks m)), .int (nI (vs m)), .int (nI (en m))])) := by
  obtain ⟨-, ⟨k0, h⟩ | ⟨k0, h⟩ | ⟨k0, h⟩⟩ := h
  · rw [h4 hk]; exact h
  · rw [hk] at k0; cases k0
  · rw [hk] at k0; cases k0
theorem rc_TM {dA : Nat → ClassId} {w : mw_W} {own : as_W} {bd ba i a : Nat} {m : as_M} (h : rc_M dA w own bd ba i a m) (hk : kd m = 1) : ∃ (ka ak rch : Nat) (wk : Int32), w a = some (.inr (cTM, [.ref bd, .ref ba, .int (nI (bg m)), .int (nI (ks m)), .int (nI (vs m)), .int (nI (en m)), .ref ka, .ref ak, .int (nI rch), .int wk, .int (nI 0)])) := by
  obtain ⟨-, ⟨k0, h⟩ | ⟨k0, ka, ak, ax, rch, gk, f, h, -⟩ | ⟨k0, h⟩⟩ := h
  · rw [hk] at k0; cases k0
  · exact ⟨ka, ak, rch, _, h⟩
  · rw [hk] at k0; cases k0
theorem rc_RM {dA : Nat → ClassId} {w : mw_W} {own : as_W} {bd ba i a : Nat} {m : as_M} (h : rc_M dA w own bd ba i a m) (hk : kd m = 2) : own a = (7, i, 0) ∧ w a = some (.inr (cRM, [.ref bd, .ref ba, .int (nI (bg m)), .int (nI (en m)), .long (lN (hd m)), .long (lN (tl m)), .int (nI (rc m)), .int (nI (if bk m = true then 1 else 0))])) := by
  obtain ⟨o, ⟨k0, h⟩ | ⟨k0, h⟩ | ⟨k0, h⟩⟩ := h
  · rw [hk] at k0; cases k0
  · rw [hk] at k0; cases k0
  · exact ⟨o, h⟩
theorem plc_lt {t : Nat} {m : as_M} (h : wf_M t m) (hk : kd m = 0 ∨ kd m = 1) {e : Nat} (he : e < en m) : plc m e + vs m ≤ 65536 ∧ e * up8 (vs m) ≤ 65536 := by
  obtain ⟨-, -, h3, h4, h5, h6, h7, -⟩ := wf_E h hk
  have h8 : (e + 1) * up8 (vs m) ≤ en m * up8 (vs m) := Nat.mul_le_mul_right _ he
  rw [Nat.add_mul, Nat.one_mul] at h8
  have h9 := (up8_ge (vs m)).1
  unfold plc
  omega
theorem lk_nm (S : as_S) (i q : Nat) : nm (lk S i q) = nm S ∧ dk (lk S i q) = dk S ∧ ar (lk S i q) = ar S ∧ gv (lk S i q) = gv S ∧ ∀ j, (mm (lk S i q) j).1 = (mm S j).1 ∧ tb (mm (lk S i q) j) = tb (mm S j) := by
  unfold lk
  by_cases h : kd (mm S i) = 1
  · rw [if_pos h]
    refine ⟨rfl, rfl, rfl, rfl, fun j => ?_⟩
    by_cases e : j = i
    · subst e; rw [S_mm_self]; exact ⟨rfl, rfl⟩
    · rw [S_mm_ne _ _ e]; exact ⟨rfl, rfl⟩
  · rw [if_neg h]; exact ⟨rfl, rfl, rfl, rfl, fun _ => ⟨rfl, rfl⟩⟩
theorem plc_1 {m m' : as_M} (h : m.1 = m'.1) (e : Nat) : plc m e = plc m' e := by show m.1.2.2.2.2 + e * up8 m.1.2.2.1 = m'.1.2.2.2.2 + e * up8 m'.1.2.2.1; rw [h]
theorem lN_tiL {n : Nat} (h : n < 2 ^ 63) : (lN n).toInt = (n : Int) := lg_ofNat_toInt (by omega)
theorem lN_leL {a b : Nat} (ha : a < 2 ^ 63) (hb : b < 2 ^ 63) : lN a ≤ lN b ↔ a ≤ b := by rw [Int64.le_iff_toInt_le, lN_tiL ha, lN_tiL hb]; omega
theorem lN_ltL {a b : Nat} (ha : a < 2 ^ 63) (hb : b < 2 ^ 63) : lN a < lN b ↔ a < b := by rw [Int64.lt_iff_toInt_lt, lN_tiL ha, lN_tiL hb]; omega
theorem lN_eqL {a b : Nat} (ha : a < 2 ^ 63) (hb : b < 2 ^ 63) : lN a = lN b ↔ a = b := by rw [← Int64.toInt_inj, lN_tiL ha, lN_tiL hb]; omega
theorem ent_lt {S : as_S} {i q e : Nat} (h : ent S i q = some e) : e < en (mm S i) := by
  unfold ent at h
  by_cases k : kd (mm S i) = 0
  · rw [if_pos k] at h
    split at h
    · cases h; assumption
    · cases h
  · rw [if_neg k] at h; exact (lst_is h).1
theorem within_i (f : Int32) {a b : Nat} (ha : a < 2 ^ 31) (hb : b < 2 ^ 31) : (if (nI a).toInt64 ≤ f.toInt64 ∧ f.toInt64 ≤ (nI b).toInt64 then (1 : Int32) else 0) = if (a : Int) ≤ f.toInt ∧ f.toInt ≤ b then 1 else 0 := by
  simp only [Int64.le_iff_toInt_le, Int32.toInt_toInt64, nI_toInt ha, nI_toInt hb]
theorem if10 {P : Prop} [Decidable P] : ((if P then (1 : Int32) else 0) = 0 ↔ ¬ P) ∧ (¬ (if P then (1 : Int32) else 0) = 0 ↔ P) := by
  by_cases h : P
  · simp [h]
  · simp [h]
theorem oI_neg {r : Option Nat} (h : ∀ e, r = some e → e < 2 ^ 30) : oI r = -1 ↔ r = none := by
  cases r with
  | none => exact ⟨fun _ => rfl, fun _ => rfl⟩
  | some e => exact ⟨fun z => absurd z.symm (neg_ne (h e rfl)), fun z => by cases z⟩
set_option maxRecDepth 100000 in
set_option maxHeartbeats 4000000 in
theorem c_AM_entryOf (l : Launch) (D : va_G) (dA : Nat → ClassId) {w : mw_W} {own : as_W} {x bd xd ba xa ra : Nat} {mp : Nat → Nat} {gd ga : Nat → Int64} {S : as_S} {t : Nat} (hA : rc_A dA w own x bd xd ba xa ra mp gd ga S) (hW : wf_S t S) {i : Nat} (hi : i < nm S) (hk : kd (mm S i) = 0) {q : Nat} (hq0 : q + ks (mm S i) ≤ 512) : CT l D dA y_AM_entryOf (Cond.code y_AM_entryOf b_AM_entryOf 4 (some .int) :: Ts) 3 80 0 0 [.ref (mp i), .int (nI q)] w (fun r w' => r = .inl (some (.int (oI (ent S i q)))) ∧ rc_A dA w' own x bd xd ba xa ra mp gd ga (lk S i q) ∧ Fr w own w' own) := by
  refine mw_meth (by decide) mk_tb (Nat.le_of_ble_eq_true rfl) ?_
  intro p e s m below meth c K hr hlk hce hnm hP0 hSy ls hl
  have hl : lv_has ls 4 [(0, .ref (mp i)), (1, .int (nI q))] := hl
  obtain ⟨hx, hb, hml, hown, hts, hK, hTb⟩ := id K
  have hI := mw_I.start hP0
  obtain ⟨⟨o1, o2, o3, o4, fx, fd, fa, fr, hdk, har⟩, hM⟩ := id hA
  have hwf := hW.2.2.2.2.2 i hi
  obtain ⟨b1, b2, b3, b4, b5, b6, b7, b8⟩ := wf_E hwf (Or.inl hk)
  have b9 := b8 hk
  have f0 := rc_AM (hA.2 i hi) hk b8
  have en0 := ent_0 (i := i) q hk
  rw [lk_0 q hk]
  generalize em : mm S i = mi at *
  refine lv_aload_n hx hb d_AM_entryOf_0 rfl (lv_at hl 0 rfl) ?_
  refine mw_get K hI gf_AM_15_cAM f0 rfl d_AM_entryOf_1 ?_
  refine lv_iload_n hx hb d_AM_entryOf_4 rfl (lv_at hl 1 rfl) ?_
  refine lv_iconst (v := nI 4) hx hb d_AM_entryOf_5 (by decide) ?_
  refine mw_call (rest := []) K hSy hP0 hI (c_BY_number l D dA fd (by decide) (i := q) (k := 4) (by decide) (by omega)) (mx_invV hx hown (hts _ tw_445) (hts _ tw_380) (hts _ tw_381) (hts _ tw_382) (by decide) (b := bd) (mw_rc K hI fd.1 rfl) (g := F0 m 6 ls [.int (nI 4), .int (nI q), .ref bd]) rfl (argsL := [.int (nI q), .int (nI 4)]) (rest := []) np_BY_number rfl (by rw [hb]; exact d_AM_entryOf_6)) hl.1 d_AM_entryOf_6 ⟨Nat.le_of_ble_eq_true rfl, Nat.le_of_ble_eq_true rfl⟩ (Or.inl ⟨_, _, List.mem_cons_self⟩) (mk_ws tw_382 hts) (fun a9 U9 h9 => Ts_warm hts _ tw_22 a9 U9 h9) ⟨Nat.le_of_ble_eq_true rfl, Nat.le_of_ble_eq_true rfl⟩ (fun v w' H locs hq hI => ?_) (fun k x w' H locs hq hI hX => ?_)
  · obtain ⟨hq5, hq6⟩ := hq
    cases hq5
    rw [hq6] at hI
    refine W.eq (g2 := F0 m 9 ls [.long (lN (bw_n (bw_b gd) q 4))]) rfl ?_
    have ec : bw_n (bw_b gd) q 4 = bw_n (dk S) q 4 := bw_n_congr 4 _ (fun j h1 h2 => hdk j (by omega))
    refine mw_tl (y := lN (bw_n (dk S) q 4)) ((by rw [ec])) ?_
    have hlt := bw_n_lt hW.2.2.2.1 4 q
    refine lv_lstore_n (lv' := [(2, .long (lN (bw_n (dk S) q 4))), (0, .ref (mp i)), (1, .int (nI q))]) hx hb d_AM_entryOf_9 rfl hl (by decide) rfl (fun ls hl => ?_)
    refine lv_lload_n hx hb d_AM_entryOf_10 rfl (lv_at hl 0 rfl) ?_
    refine lv_aload_n hx hb d_AM_entryOf_11 rfl (lv_at hl 1 rfl) ?_
    refine mw_get K hI gf_AM_9_cAM f0 rfl d_AM_entryOf_12 ?_
    refine lv_i2l hx hb d_AM_entryOf_15 rfl ?_
    refine mw_tl (nI_l (by omega)) ?_
    refine W.lcmp hx hb d_AM_entryOf_16 ?_
    refine lv_if_ge (tgt := 25) hx hb d_AM_entryOf_17 (by decide) (fun c17 => ?_) (fun c17 => ?_)
    ·
      rw [lg_cmp_ge, lN_leL (by omega) (by omega)] at c17
      refine lv_iconst (v := (-1)) hx hb d_AM_entryOf_25 (by decide) ?_
      refine mw_iret K hI hr hlk ⟨?_, hA, Fr.rf w own⟩ d_AM_entryOf_26
      rw [en0, if_neg (by omega)]; rfl
    ·
      rw [lg_cmp_ge, lN_leL (by omega) (by omega)] at c17
      refine lv_lload_n hx hb d_AM_entryOf_20 rfl (lv_at hl 0 rfl) ?_
      refine lv_l2i hx hb d_AM_entryOf_21 rfl ?_
      refine mw_ti (lN_i _) ?_
      refine lv_goto (tgt := 26) hx hb d_AM_entryOf_22 (by decide) ?_
      refine mw_iret K hI hr hlk ⟨?_, hA, Fr.rf w own⟩ d_AM_entryOf_26
      rw [en0, if_pos (by omega)]; rfl
  · exact absurd hq.1 (by simp)
theorem c_TM_entryOf2 (l : Launch) (D : va_G) (dA : Nat → ClassId) {w : mw_W} {own : as_W} {x bd xd ba xa ra : Nat} {mp : Nat → Nat} {gd ga : Nat → Int64} {S : as_S} {t : Nat} (hA : rc_A dA w own x bd xd ba xa ra mp gd ga S) (hW : wf_S t S) {i : Nat} (hi : i < nm S) (hk : kd (mm S i) = 1) {q : Nat} (hq0 : q + ks (mm S i) ≤ 512) : CT l D dA y_TM_entryOf (Cond.code y_TM_entryOf b_TM_entryOf 2 (some .int) :: Ts) 3 80 0 0 [.ref (mp i), .int (nI q)] w (fun r w' => r = .inl (some (.int (oI (ent S i q)))) ∧ rc_A dA w' own x bd xd ba xa ra mp gd ga (lk S i q) ∧ Fr w own w' own) := by
  have h := c_TM_entryOf l D dA hA hW hi hk hq0
  rw [← ent_1 q hk, ← lk_1 q hk] at h
  exact h
set_option maxRecDepth 100000 in
set_option maxHeartbeats 4000000 in
theorem c_EM_placeOfEntry_AM (l : Launch) (D : va_G) (dA : Nat → ClassId) {w : mw_W} {own : as_W} {x bd xd ba xa ra : Nat} {mp : Nat → Nat} {gd ga : Nat → Int64} {S : as_S} {t : Nat} (hA : rc_A dA w own x bd xd ba xa ra mp gd ga S) (hW : wf_S t S) {i : Nat} (hi : i < nm S) (hk : kd (mm S i) = 0) {e0 : Nat} (he : e0 < en (mm S i)) : CT l D dA y_EM_placeOfEntry (Cond.code y_EM_placeOfEntry b_EM_placeOfEntry 2 (some .int) :: Ts) 1 20 0 0 [.ref (mp i), .int (nI e0)] w (fun r w' => r = .inl (some (.int (nI (plc (mm S i) e0)))) ∧ w' = w) := by
  refine mw_meth (by decide) mk_tb (Nat.le_of_ble_eq_true rfl) ?_
  intro p e s m below meth c K hr hlk hce hnm hP0 hSy ls hl
  have hl : lv_has ls 2 [(0, .ref (mp i)), (1, .int (nI e0))] := hl
  obtain ⟨hx, hb, hml, hown, hts, hK, hTb⟩ := id K
  have hI := mw_I.start hP0
  have hwf := hW.2.2.2.2.2 i hi
  obtain ⟨b1, b2, b3, b4, b5, b6, b7, b8⟩ := wf_E hwf (Or.inl hk)
  have f0 := rc_AM (hA.2 i hi) hk (wf_E hwf (Or.inl hk)).2.2.2.2.2.2.2
  generalize em : mm S i = mi at *
  refine lv_aload_n hx hb d_EM_placeOfEntry_0 rfl (lv_at hl 0 rfl) ?_
  refine mw_get K hI gf_EM_52_cAM f0 rfl d_EM_placeOfEntry_1 ?_
  refine lv_iload_n hx hb d_EM_placeOfEntry_4 rfl (lv_at hl 1 rfl) ?_
  refine lv_aload_n hx hb d_EM_placeOfEntry_5 rfl (lv_at hl 0 rfl) ?_
  refine mw_get K hI gf_EM_15_cAM f0 rfl d_EM_placeOfEntry_6 ?_
  refine mp_call (rest := [.int (nI e0), .int (nI (bg mi))]) hb hml (c_MS_filledUp l (n := vs mi) (by omega)) (mx_invSN hx hown (hts _ tw_465) (hts _ tw_52) (hts _ tw_21) (hts _ tw_53) (by decide) (g := F0 m 9 ls [.int (nI (vs mi)), .int (nI e0), .int (nI (bg mi))]) rfl (argsL := [.int (nI (vs mi))]) (rest := [.int (nI e0), .int (nI (bg mi))]) np_MS_filledUp rfl (by rw [hb]; exact d_EM_placeOfEntry_9)) hl.1 d_EM_placeOfEntry_9 ⟨Nat.le_of_ble_eq_true rfl, Nat.le_of_ble_eq_true rfl⟩ (Or.inl ⟨_, _, List.mem_cons_self⟩) (mk_ws tw_53 hts) (fun a9 U9 h9 => Ts_warm hts _ tw_21 a9 U9 h9) (by first | exact ⟨Nat.le_of_ble_eq_true rfl, Nat.le_of_ble_eq_true rfl⟩ | assumption) (fun v hv => ?_)
  subst hv
  refine W.eq (g2 := F0 m 12 ls [.int (nI (up8 (vs mi))), .int (nI e0), .int (nI (bg mi))]) rfl ?_
  refine lv_imul hx hb d_EM_placeOfEntry_12 ?_
  refine mw_ti (pk_mul _ _) ?_
  refine lv_iadd hx hb d_EM_placeOfEntry_13 ?_
  refine mw_ti (nI_add _ _) ?_
  exact mw_iret K hI hr hlk ⟨rfl, rfl⟩ d_EM_placeOfEntry_14
set_option maxRecDepth 100000 in
set_option maxHeartbeats 4000000 in
theorem c_EM_placeOfEntry_TM (l : Launch) (D : va_G) (dA : Nat → ClassId) {w : mw_W} {own : as_W} {x bd xd ba xa ra : Nat} {mp : Nat → Nat} {gd ga : Nat → Int64} {S : as_S} {t : Nat} (hA : rc_A dA w own x bd xd ba xa ra mp gd ga S) (hW : wf_S t S) {i : Nat} (hi : i < nm S) (hk : kd (mm S i) = 1) {e0 : Nat} (he : e0 < en (mm S i)) : CT l D dA y_EM_placeOfEntry (Cond.code y_EM_placeOfEntry b_EM_placeOfEntry 2 (some .int) :: Ts) 1 20 0 0 [.ref (mp i), .int (nI e0)] w (fun r w' => r = .inl (some (.int (nI (plc (mm S i) e0)))) ∧ w' = w) := by
  refine mw_meth (by decide) mk_tb (Nat.le_of_ble_eq_true rfl) ?_
  intro p e s m below meth c K hr hlk hce hnm hP0 hSy ls hl
  have hl : lv_has ls 2 [(0, .ref (mp i)), (1, .int (nI e0))] := hl
  obtain ⟨hx, hb, hml, hown, hts, hK, hTb⟩ := id K
  have hI := mw_I.start hP0
  have hwf := hW.2.2.2.2.2 i hi
  obtain ⟨b1, b2, b3, b4, b5, b6, b7, b8⟩ := wf_E hwf (Or.inr hk)
  obtain ⟨ka, ak, rch, wk, f0⟩ := rc_TM (hA.2 i hi) hk
  generalize em : mm S i = mi at *
  refine lv_aload_n hx hb d_EM_placeOfEntry_0 rfl (lv_at hl 0 rfl) ?_
  refine mw_get K hI gf_EM_52_cTM f0 rfl d_EM_placeOfEntry_1 ?_
  refine lv_iload_n hx hb d_EM_placeOfEntry_4 rfl (lv_at hl 1 rfl) ?_
  refine lv_aload_n hx hb d_EM_placeOfEntry_5 rfl (lv_at hl 0 rfl) ?_
  refine mw_get K hI gf_EM_15_cTM f0 rfl d_EM_placeOfEntry_6 ?_
  refine mp_call (rest := [.int (nI e0), .int (nI (bg mi))]) hb hml (c_MS_filledUp l (n := vs mi) (by omega)) (mx_invSN hx hown (hts _ tw_465) (hts _ tw_52) (hts _ tw_21) (hts _ tw_53) (by decide) (g := F0 m 9 ls [.int (nI (vs mi)), .int (nI e0), .int (nI (bg mi))]) rfl (argsL := [.int (nI (vs mi))]) (rest := [.int (nI e0), .int (nI (bg mi))]) np_MS_filledUp rfl (by rw [hb]; exact d_EM_placeOfEntry_9)) hl.1 d_EM_placeOfEntry_9 ⟨Nat.le_of_ble_eq_true rfl, Nat.le_of_ble_eq_true rfl⟩ (Or.inl ⟨_, _, List.mem_cons_self⟩) (mk_ws tw_53 hts) (fun a9 U9 h9 => Ts_warm hts _ tw_21 a9 U9 h9) (by first | exact ⟨Nat.le_of_ble_eq_true rfl, Nat.le_of_ble_eq_true rfl⟩ | assumption) (fun v hv => ?_)
  subst hv
  refine W.eq (g2 := F0 m 12 ls [.int (nI (up8 (vs mi))), .int (nI e0), .int (nI (bg mi))]) rfl ?_
  refine lv_imul hx hb d_EM_placeOfEntry_12 ?_
  refine mw_ti (pk_mul _ _) ?_
  refine lv_iadd hx hb d_EM_placeOfEntry_13 ?_
  refine mw_ti (nI_add _ _) ?_
  exact mw_iret K hI hr hlk ⟨rfl, rfl⟩ d_EM_placeOfEntry_14
end
section
/-! ### arrays and tables: find, update -/
set_option maxRecDepth 100000 in
set_option maxHeartbeats 4000000 in
theorem c_EM_placeOf_AM (l : Launch) (D : va_G) (dA : Nat → ClassId) (hL : mw_L l) {w : mw_W} {own : as_W} {x bd xd ba xa ra : Nat} {mp : Nat → Nat} {gd ga : Nat → Int64} {S : as_S} {t : Nat} (hA : rc_A dA w own x bd xd ba xa ra mp gd ga S) (hW : wf_S t S) {i : Nat} (hi : i < nm S) (hk : kd (mm S i) = 0) (k : Int32) : CT l D dA y_EM_placeOf (Cond.code y_EM_placeOf b_EM_placeOf 3 (some .int) :: Ts) 7 110 1 6 [.ref (mp i), .int k] w (PC dA w own x bd xd ba xa ra mp (sp_find S i k)) := by
  refine mw_meth (by decide) mk_tb (Nat.le_of_ble_eq_true rfl) ?_
  intro p e s m below meth c K hr hlk hce hnm hP0 hSy ls hl
  have hl : lv_has ls 3 [(0, .ref (mp i)), (1, .int k)] := hl
  obtain ⟨hx, hb, hml, hown, hts, hK, hTb⟩ := id K
  have hI := mw_I.start hP0
  obtain ⟨⟨o1, o2, o3, o4, fx, fd, fa, fr, hdk, har⟩, hM⟩ := id hA
  have hwf := hW.2.2.2.2.2 i hi
  obtain ⟨b1, b2, b3, b4, b5, b6, b7, b8⟩ := wf_E hwf (Or.inl hk)
  have f0 := rc_AM (hA.2 i hi) hk (wf_E hwf (Or.inl hk)).2.2.2.2.2.2.2
  obtain ⟨mi, em⟩ : ∃ mi, mi = mm S i := ⟨_, rfl⟩
  rw [← em] at f0
  refine lv_aload_n hx hb d_EM_placeOf_0 rfl (lv_at hl 0 rfl) ?_
  refine mw_get K hI gf_EM_21_cAM f0 rfl d_EM_placeOf_1 ?_
  refine lv_iload_n hx hb d_EM_placeOf_4 rfl (lv_at hl 1 rfl) ?_
  refine lv_aload_n hx hb d_EM_placeOf_5 rfl (lv_at hl 0 rfl) ?_
  refine mw_get K hI gf_EM_9_cAM f0 rfl d_EM_placeOf_6 ?_
  refine mw_call (rest := []) K hSy hP0 hI (c_BY_demand l D dA hL fd (by decide) k (k := ks mi) (by rw [em]; omega)) (mx_invV hx hown (hts _ tw_438) (hts _ tw_373) (hts _ tw_374) (hts _ tw_375) (by decide) (b := bd) (mw_rc K hI fd.1 rfl) (g := F0 m 9 ls [.int (nI (ks mi)), .int k, .ref bd]) rfl (argsL := [.int k, .int (nI (ks mi))]) (rest := []) np_BY_demand rfl (by rw [hb]; exact d_EM_placeOf_9)) hl.1 d_EM_placeOf_9 ⟨Nat.le_of_ble_eq_true rfl, Nat.le_of_ble_eq_true rfl⟩ (Or.inl ⟨_, _, List.mem_cons_self⟩) (mk_ws tw_375 hts) (fun a9 U9 h9 => Ts_warm hts _ tw_22 a9 U9 h9) ⟨Nat.le_of_ble_eq_true rfl, Nat.le_of_ble_eq_true rfl⟩ (fun v w' H locs hq hI => ?_) (fun k x w' H locs hq hI hX => ?_)
  · obtain ⟨hq1, ⟨hq2, hq3, hq4⟩ | ⟨-, hq4⟩⟩ := hq
    · cases hq4
      rw [hq1] at hI
      rw [em] at hq3
      obtain ⟨e1, e2⟩ := inD_nI ⟨hq2, hq3⟩ (by decide)
      have hsp : sp_find S i k = _ := if_pos ⟨hq2, hq3⟩
      have hin2 : inD k (ks (mm S i)) 512 := ⟨hq2, hq3⟩
      refine W.eq (g2 := F0 m 12 ls []) rfl ?_
      rw [e1] at hl
      refine lv_aload_n hx hb d_EM_placeOf_12 rfl (lv_at hl 0 rfl) ?_
      refine lv_iload_n hx hb d_EM_placeOf_13 rfl (lv_at hl 1 rfl) ?_
      refine mw_call (rest := []) K hSy hP0 hI (c_AM_entryOf l D dA hA hW hi hk (q := k.toNatClampNeg) e2) (mx_invU (y := y_AM_entryOf) hx hown (hts _ tw_439) (hts _ tw_441) (va_Decl.abs (va_Nw.of rfl (hts _ tw_440))) (by decide) (hts _ tw_442) (hts _ tw_443) (b := (mp i)) (mw_rc K hI f0 rfl) (g := F0 m 14 ls [.int (nI k.toNatClampNeg), .ref (mp i)]) rfl (argsL := [.int (nI k.toNatClampNeg)]) (rest := []) np_EM_entryOf rfl (by rw [hb]; exact d_EM_placeOf_14)) hl.1 d_EM_placeOf_14 ⟨Nat.le_of_ble_eq_true rfl, Nat.le_of_ble_eq_true rfl⟩ (Or.inl ⟨_, _, List.mem_cons_self⟩) (mk_ws tw_444 hts) (fun a9 U9 h9 => Ts_warm hts _ tw_32 a9 U9 h9) ⟨Nat.le_of_ble_eq_true rfl, Nat.le_of_ble_eq_true rfl⟩ (fun v w' H locs hq hI => ?_) (fun k x w' H locs hq hI hX => ?_)
      · obtain ⟨hq5, hA2, hF2⟩ := hq
        cases hq5
        refine W.eq (g2 := F0 m 17 ls [.int (oI (ent S i k.toNatClampNeg))]) rfl ?_
        obtain ⟨n1, n2, n3, n4, n5⟩ := lk_nm S i k.toNatClampNeg
        have hi2 : i < nm (lk S i k.toNatClampNeg) := by rw [n1]; exact hi
        have hW2 := hW.ofL (q := k.toNatClampNeg) hi
        have hwf2 := hW2.2.2.2.2.2 i hi2
        have hk2 : kd (mm (lk S i k.toNatClampNeg) i) = 0 := by show (mm (lk S i k.toNatClampNeg) i).1.1 = _; rw [(n5 i).1]; exact hk
        have f02 := rc_AM (hA2.2 i hi2) hk2 (wf_E hwf2 (Or.inl hk2)).2.2.2.2.2.2.2
        have hlt : ∀ e, ent S i k.toNatClampNeg = some e → e < en (mm S i) := fun e he => ent_lt he
        cases he : ent S i k.toNatClampNeg with
        | none =>
          refine mw_ti (y := (-1)) (rfl) ?_
          refine lv_istore_n (lv' := [(2, .int (-1)), (0, .ref (mp i)), (1, .int (nI k.toNatClampNeg))]) hx hb d_EM_placeOf_17 rfl hl (by decide) rfl (fun ls hl => ?_)
          refine lv_iload_n hx hb d_EM_placeOf_18 rfl (lv_at hl 0 rfl) ?_
          refine lv_iconst (v := (-1)) hx hb d_EM_placeOf_19 (by decide) ?_
          refine lv_icmp_ne (tgt := 27) hx hb d_EM_placeOf_20 (by decide) (fun c20 => ?_) (fun c20 => ?_)
          ·
            exact absurd rfl c20
          ·
            refine lv_iconst (v := (-1)) hx hb d_EM_placeOf_23 (by decide) ?_
            refine lv_goto (tgt := 32) hx hb d_EM_placeOf_24 (by decide) ?_
            refine mw_iret K hI hr hlk ?_ d_EM_placeOf_32
            rw [hsp, he]
            exact ⟨rfl, own, gd, ga, hA2, hF2⟩
        | some e0 =>
          have hlt := hlt e0 he
          refine mw_ti (y := nI e0) (rfl) ?_
          refine lv_istore_n (lv' := [(2, .int (nI e0)), (0, .ref (mp i)), (1, .int (nI k.toNatClampNeg))]) hx hb d_EM_placeOf_17 rfl hl (by decide) rfl (fun ls hl => ?_)
          refine lv_iload_n hx hb d_EM_placeOf_18 rfl (lv_at hl 0 rfl) ?_
          refine lv_iconst (v := (-1)) hx hb d_EM_placeOf_19 (by decide) ?_
          refine lv_icmp_ne (tgt := 27) hx hb d_EM_placeOf_20 (by decide) (fun c20 => ?_) (fun c20 => ?_)
          ·
            refine lv_aload_n hx hb d_EM_placeOf_27 rfl (lv_at hl 1 rfl) ?_
            refine lv_iload_n hx hb d_EM_placeOf_28 rfl (lv_at hl 0 rfl) ?_
            refine mw_call (rest := []) K hSy hP0 hI (c_EM_placeOfEntry_AM l D dA hA2 hW2 hi2 hk2 (e0 := e0) (by show e0 < (mm (lk S i k.toNatClampNeg) i).1.2.2.2.1; rw [(n5 i).1]; exact hlt)) (mx_invP hx hown (hts _ tw_461) (hts _ tw_463) (hts _ tw_462) (hts _ tw_435) rfl (hts _ tw_464) (by decide) (b := (mp i)) (mw_rc K hI f02 rfl) (g := F0 m 29 ls [.int (nI e0), .ref (mp i)]) rfl (argsL := [.int (nI e0)]) (rest := []) np_EM_placeOfEntry rfl (by rw [hb]; exact d_EM_placeOf_29)) hl.1 d_EM_placeOf_29 ⟨Nat.le_of_ble_eq_true rfl, Nat.le_of_ble_eq_true rfl⟩ (Or.inl ⟨_, _, List.mem_cons_self⟩) (mk_ws tw_464 hts) (fun a9 U9 h9 => Ts_warm hts _ tw_31 a9 U9 h9) ⟨Nat.le_of_ble_eq_true rfl, Nat.le_of_ble_eq_true rfl⟩ (fun v w' H locs hq hI => ?_) (fun k x w' H locs hq hI hX => ?_)
            · obtain ⟨hq7, hq8⟩ := hq
              cases hq7
              rw [hq8] at hI
              refine W.eq (g2 := F0 m 32 ls [.int (nI (plc (mm (lk S i k.toNatClampNeg) i) e0))]) rfl ?_
              refine mw_ti (y := nI (plc (mm S i) e0)) ((by rw [plc_1 (n5 i).1])) ?_
              refine mw_iret K hI hr hlk ?_ d_EM_placeOf_32
              rw [hsp, he]
              exact ⟨rfl, own, gd, ga, hA2, hF2⟩
            · exact absurd hq.1 (by simp)
          ·
            exact absurd c20.symm (neg_ne (by omega))
      · exact absurd hq.1 (by simp)
    · cases hq4
  · obtain ⟨hq1, ⟨-, -, hq4⟩ | ⟨hq2, hq4⟩⟩ := hq
    · cases hq4
    · cases hq4
      rw [hq1] at hI
      rw [em] at hq2
      refine mw_on hI hce hlk hX ?_
      unfold sp_find
      rw [if_neg hq2]
      exact ⟨rfl, own, gd, ga, hA, Fr.rf w own⟩
set_option maxRecDepth 100000 in
set_option maxHeartbeats 4000000 in
theorem c_EM_placeOf_TM (l : Launch) (D : va_G) (dA : Nat → ClassId) (hL : mw_L l) {w : mw_W} {own : as_W} {x bd xd ba xa ra : Nat} {mp : Nat → Nat} {gd ga : Nat → Int64} {S : as_S} {t : Nat} (hA : rc_A dA w own x bd xd ba xa ra mp gd ga S) (hW : wf_S t S) {i : Nat} (hi : i < nm S) (hk : kd (mm S i) = 1) (k : Int32) : CT l D dA y_EM_placeOf (Cond.code y_EM_placeOf b_EM_placeOf 3 (some .int) :: Ts) 7 110 1 6 [.ref (mp i), .int k] w (PC dA w own x bd xd ba xa ra mp (sp_find S i k)) := by
  refine mw_meth (by decide) mk_tb (Nat.le_of_ble_eq_true rfl) ?_
  intro p e s m below meth c K hr hlk hce hnm hP0 hSy ls hl
  have hl : lv_has ls 3 [(0, .ref (mp i)), (1, .int k)] := hl
  obtain ⟨hx, hb, hml, hown, hts, hK, hTb⟩ := id K
  have hI := mw_I.start hP0
  obtain ⟨⟨o1, o2, o3, o4, fx, fd, fa, fr, hdk, har⟩, hM⟩ := id hA
  have hwf := hW.2.2.2.2.2 i hi
  obtain ⟨b1, b2, b3, b4, b5, b6, b7, b8⟩ := wf_E hwf (Or.inr hk)
  obtain ⟨ka, ak, rch, wk, f0⟩ := rc_TM (hA.2 i hi) hk
  obtain ⟨mi, em⟩ : ∃ mi, mi = mm S i := ⟨_, rfl⟩
  rw [← em] at f0
  refine lv_aload_n hx hb d_EM_placeOf_0 rfl (lv_at hl 0 rfl) ?_
  refine mw_get K hI gf_EM_21_cTM f0 rfl d_EM_placeOf_1 ?_
  refine lv_iload_n hx hb d_EM_placeOf_4 rfl (lv_at hl 1 rfl) ?_
  refine lv_aload_n hx hb d_EM_placeOf_5 rfl (lv_at hl 0 rfl) ?_
  refine mw_get K hI gf_EM_9_cTM f0 rfl d_EM_placeOf_6 ?_
  refine mw_call (rest := []) K hSy hP0 hI (c_BY_demand l D dA hL fd (by decide) k (k := ks mi) (by rw [em]; omega)) (mx_invV hx hown (hts _ tw_438) (hts _ tw_373) (hts _ tw_374) (hts _ tw_375) (by decide) (b := bd) (mw_rc K hI fd.1 rfl) (g := F0 m 9 ls [.int (nI (ks mi)), .int k, .ref bd]) rfl (argsL := [.int k, .int (nI (ks mi))]) (rest := []) np_BY_demand rfl (by rw [hb]; exact d_EM_placeOf_9)) hl.1 d_EM_placeOf_9 ⟨Nat.le_of_ble_eq_true rfl, Nat.le_of_ble_eq_true rfl⟩ (Or.inl ⟨_, _, List.mem_cons_self⟩) (mk_ws tw_375 hts) (fun a9 U9 h9 => Ts_warm hts _ tw_22 a9 U9 h9) ⟨Nat.le_of_ble_eq_true rfl, Nat.le_of_ble_eq_true rfl⟩ (fun v w' H locs hq hI => ?_) (fun k x w' H locs hq hI hX => ?_)
  · obtain ⟨hq1, ⟨hq2, hq3, hq4⟩ | ⟨-, hq4⟩⟩ := hq
    · cases hq4
      rw [hq1] at hI
      rw [em] at hq3
      obtain ⟨e1, e2⟩ := inD_nI ⟨hq2, hq3⟩ (by decide)
      have hsp : sp_find S i k = _ := if_pos ⟨hq2, hq3⟩
      have hin2 : inD k (ks (mm S i)) 512 := ⟨hq2, hq3⟩
      refine W.eq (g2 := F0 m 12 ls []) rfl ?_
      rw [e1] at hl
      refine lv_aload_n hx hb d_EM_placeOf_12 rfl (lv_at hl 0 rfl) ?_
      refine lv_iload_n hx hb d_EM_placeOf_13 rfl (lv_at hl 1 rfl) ?_
      refine mw_call (rest := []) K hSy hP0 hI (c_TM_entryOf2 l D dA hA hW hi hk (q := k.toNatClampNeg) e2) (mx_invU (y := y_TM_entryOf) hx hown (hts _ tw_439) (hts _ tw_441) (va_Decl.abs (va_Nw.of rfl (hts _ tw_440))) (by decide) (hts _ tw_446) (hts _ tw_447) (b := (mp i)) (mw_rc K hI f0 rfl) (g := F0 m 14 ls [.int (nI k.toNatClampNeg), .ref (mp i)]) rfl (argsL := [.int (nI k.toNatClampNeg)]) (rest := []) np_EM_entryOf rfl (by rw [hb]; exact d_EM_placeOf_14)) hl.1 d_EM_placeOf_14 ⟨Nat.le_of_ble_eq_true rfl, Nat.le_of_ble_eq_true rfl⟩ (Or.inl ⟨_, _, List.mem_cons_self⟩) (mk_ws tw_448 hts) (fun a9 U9 h9 => Ts_warm hts _ tw_33 a9 U9 h9) ⟨Nat.le_of_ble_eq_true rfl, Nat.le_of_ble_eq_true rfl⟩ (fun v w' H locs hq hI => ?_) (fun k x w' H locs hq hI hX => ?_)
      · obtain ⟨hq5, hA2, hF2⟩ := hq
        cases hq5
        refine W.eq (g2 := F0 m 17 ls [.int (oI (ent S i k.toNatClampNeg))]) rfl ?_
        obtain ⟨n1, n2, n3, n4, n5⟩ := lk_nm S i k.toNatClampNeg
        have hi2 : i < nm (lk S i k.toNatClampNeg) := by rw [n1]; exact hi
        have hW2 := hW.ofL (q := k.toNatClampNeg) hi
        have hwf2 := hW2.2.2.2.2.2 i hi2
        have hk2 : kd (mm (lk S i k.toNatClampNeg) i) = 1 := by show (mm (lk S i k.toNatClampNeg) i).1.1 = _; rw [(n5 i).1]; exact hk
        obtain ⟨ka2, ak2, rch2, wk2, f02⟩ := rc_TM (hA2.2 i hi2) hk2
        have hlt : ∀ e, ent S i k.toNatClampNeg = some e → e < en (mm S i) := fun e he => ent_lt he
        cases he : ent S i k.toNatClampNeg with
        | none =>
          refine mw_ti (y := (-1)) (rfl) ?_
          refine lv_istore_n (lv' := [(2, .int (-1)), (0, .ref (mp i)), (1, .int (nI k.toNatClampNeg))]) hx hb d_EM_placeOf_17 rfl hl (by decide) rfl (fun ls hl => ?_)
          refine lv_iload_n hx hb d_EM_placeOf_18 rfl (lv_at hl 0 rfl) ?_
          refine lv_iconst (v := (-1)) hx hb d_EM_placeOf_19 (by decide) ?_
          refine lv_icmp_ne (tgt := 27) hx hb d_EM_placeOf_20 (by decide) (fun c20 => ?_) (fun c20 => ?_)
          ·
            exact absurd rfl c20
          ·
            refine lv_iconst (v := (-1)) hx hb d_EM_placeOf_23 (by decide) ?_
            refine lv_goto (tgt := 32) hx hb d_EM_placeOf_24 (by decide) ?_
            refine mw_iret K hI hr hlk ?_ d_EM_placeOf_32
            rw [hsp, he]
            exact ⟨rfl, own, gd, ga, hA2, hF2⟩
        | some e0 =>
          have hlt := hlt e0 he
          refine mw_ti (y := nI e0) (rfl) ?_
          refine lv_istore_n (lv' := [(2, .int (nI e0)), (0, .ref (mp i)), (1, .int (nI k.toNatClampNeg))]) hx hb d_EM_placeOf_17 rfl hl (by decide) rfl (fun ls hl => ?_)
          refine lv_iload_n hx hb d_EM_placeOf_18 rfl (lv_at hl 0 rfl) ?_
          refine lv_iconst (v := (-1)) hx hb d_EM_placeOf_19 (by decide) ?_
          refine lv_icmp_ne (tgt := 27) hx hb d_EM_placeOf_20 (by decide) (fun c20 => ?_) (fun c20 => ?_)
          ·
            refine lv_aload_n hx hb d_EM_placeOf_27 rfl (lv_at hl 1 rfl) ?_
            refine lv_iload_n hx hb d_EM_placeOf_28 rfl (lv_at hl 0 rfl) ?_
            refine mw_call (rest := []) K hSy hP0 hI (c_EM_placeOfEntry_TM l D dA hA2 hW2 hi2 hk2 (e0 := e0) (by show e0 < (mm (lk S i k.toNatClampNeg) i).1.2.2.2.1; rw [(n5 i).1]; exact hlt)) (mx_invP hx hown (hts _ tw_461) (hts _ tw_463) (hts _ tw_462) (hts _ tw_467) rfl (hts _ tw_464) (by decide) (b := (mp i)) (mw_rc K hI f02 rfl) (g := F0 m 29 ls [.int (nI e0), .ref (mp i)]) rfl (argsL := [.int (nI e0)]) (rest := []) np_EM_placeOfEntry rfl (by rw [hb]; exact d_EM_placeOf_29)) hl.1 d_EM_placeOf_29 ⟨Nat.le_of_ble_eq_true rfl, Nat.le_of_ble_eq_true rfl⟩ (Or.inl ⟨_, _, List.mem_cons_self⟩) (mk_ws tw_464 hts) (fun a9 U9 h9 => Ts_warm hts _ tw_31 a9 U9 h9) ⟨Nat.le_of_ble_eq_true rfl, Nat.le_of_ble_eq_true rfl⟩ (fun v w' H locs hq hI => ?_) (fun k x w' H locs hq hI hX => ?_)
            · obtain ⟨hq7, hq8⟩ := hq
              cases hq7
              rw [hq8] at hI
              refine W.eq (g2 := F0 m 32 ls [.int (nI (plc (mm (lk S i k.toNatClampNeg) i) e0))]) rfl ?_
              refine mw_ti (y := nI (plc (mm S i) e0)) ((by rw [plc_1 (n5 i).1])) ?_
              refine mw_iret K hI hr hlk ?_ d_EM_placeOf_32
              rw [hsp, he]
              exact ⟨rfl, own, gd, ga, hA2, hF2⟩
            · exact absurd hq.1 (by simp)
          ·
            exact absurd c20.symm (neg_ne (by omega))
      · exact absurd hq.1 (by simp)
    · cases hq4
  · obtain ⟨hq1, ⟨-, -, hq4⟩ | ⟨hq2, hq4⟩⟩ := hq
    · cases hq4
    · cases hq4
      rw [hq1] at hI
      rw [em] at hq2
      refine mw_on hI hce hlk hX ?_
      unfold sp_find
      rw [if_neg hq2]
      exact ⟨rfl, own, gd, ga, hA, Fr.rf w own⟩
end
section
/-! ### arrays and tables: update -/
theorem lst_nn {P : Nat → Bool} {n : Nat} (h : lst P n = none) : ∀ e, e < n → P e = false := lst_is.lst_no h
theorem fnd_no {t : Nat} {m : as_M} (hw : wf_M t m) (hk : kd m = 1) {k : List Nat} (h : fnd m k = none) : ∀ e, tb m e ≠ some k := by
  intro e he
  obtain ⟨-, ⟨k0, -⟩ | ⟨-, b1, b2, b3, b4, b5, b6, b7, b8, b9, b10⟩ | ⟨k0, -⟩⟩ := hw
  · omega
  · have := lst_nn h e (b9 e k he).1
    rw [he] at this
    simp at this
  · omega
theorem wf_S.ofG {t : Nat} {S : as_S} (h : wf_S t S) {i e : Nat} (hi : i < nm S) (hk : kd (mm S i) = 1) (hno : fnd (mm S i) (aq (mm S i)) = none) (he : e < en (mm S i)) : wf_S t (gvE S i e) := by
  have hno2 := fnd_no (h.2.2.2.2.2 i hi) hk hno
  refine h.ofM ?_
  obtain ⟨h0, ⟨k0, -⟩ | ⟨k0, b1, b2, b3, b4, b5, b6, b7, b8, b9, b10⟩ | ⟨k0, -⟩⟩ := h.2.2.2.2.2 i hi
  · omega
  · refine ⟨h0, Or.inr (Or.inl ⟨k0, b1, b2, b3, b4, b5, b6, b7, b8, fun e1 k1 h1 => ?_, fun e1 e2 k1 h1 h2 => ?_⟩)⟩
    · have h1 : va_up (tb (mm S i)) e (some (aq (mm S i))) e1 = some k1 := h1
      by_cases q : e1 = e
      · subst q; rw [va_up_self] at h1; cases h1; exact ⟨he, b8⟩
      · rw [va_up_ne _ _ q] at h1; exact b9 e1 k1 h1
    · have h1 : va_up (tb (mm S i)) e (some (aq (mm S i))) e1 = some k1 := h1
      have h2 : va_up (tb (mm S i)) e (some (aq (mm S i))) e2 = some k1 := h2
      by_cases q : e1 = e
      · by_cases q2 : e2 = e
        · omega
        · subst q; rw [va_up_self] at h1; cases h1; rw [va_up_ne _ _ q2] at h2; exact absurd h2 (hno2 e2)
      · by_cases q2 : e2 = e
        · subst q2; rw [va_up_self] at h2; cases h2; rw [va_up_ne _ _ q] at h1; exact absurd h1 (hno2 e1)
        · rw [va_up_ne _ _ q] at h1; rw [va_up_ne _ _ q2] at h2; exact b10 e1 e2 k1 h1 h2
  · omega
theorem sp_miss_ge {S : as_S} {i : Nat} {f : Int32} (h : ¬ (sp_miss S i f).2 < nI 0) : kd (mm S i) ≠ 0 ∧ ∃ e, freeE (mm S i) = some e ∧ sp_miss S i f = (gvE S i e, nI e) := by
  unfold sp_miss at h ⊢
  by_cases h0 : kd (mm S i) = 0
  · rw [if_pos h0] at h; exact absurd (show (-7 : Int32) < nI 0 by decide) h
  · rw [if_neg h0] at h ⊢
    by_cases h2 : f = nI 2
    · rw [if_pos h2] at h; exact absurd (show (-2 : Int32) < nI 0 by decide) h
    · rw [if_neg h2] at h ⊢
      cases hf : freeE (mm S i) with
      | none => rw [hf] at h; exact absurd (show (-7 : Int32) < nI 0 by decide) h
      | some e => exact ⟨h0, e, rfl, rfl⟩
theorem fnd_lk {S : as_S} {i q : Nat} (h : ent S i q = none) : kd (mm (lk S i q) i) = 1 → fnd (mm (lk S i q) i) (aq (mm (lk S i q) i)) = none := fun hk2 => by
  have hk : kd (mm S i) = 1 := by
    have := (lk_nm S i q).2.2.2.2 i
    show (mm S i).1.1 = 1
    rw [← this.1]; exact hk2
  rw [ent_1 q hk] at h
  rw [lk_1 q hk, S_mm_self]
  exact h
set_option maxRecDepth 100000 in
set_option maxHeartbeats 4000000 in
theorem c_AM_entryForMissing (l : Launch) (D : va_G) (dA : Nat → ClassId) {w : mw_W} {own : as_W} {x bd xd ba xa ra : Nat} {mp : Nat → Nat} {gd ga : Nat → Int64} {S : as_S} {t : Nat} (hA : rc_A dA w own x bd xd ba xa ra mp gd ga S) (hW : wf_S t S) {i : Nat} (hi : i < nm S) (hk : kd (mm S i) = 0) (f : Int32) (hno : kd (mm S i) = 1 → fnd (mm S i) (aq (mm S i)) = none) : CT l D dA y_AM_entryForMissing (Cond.code y_AM_entryForMissing b_AM_entryForMissing 2 (some .int) :: Ts) 4 110 2 10 [.ref (mp i), .int f] w (fun r w' => r = .inl (some (.int (sp_miss S i f).2)) ∧ ∃ own', rc_A dA w' own' x bd xd ba xa ra mp gd ga (sp_miss S i f).1 ∧ Fr w own w' own') := by
  refine mw_meth (by decide) mk_tb (Nat.le_of_ble_eq_true rfl) ?_
  intro p e s m below meth c K hr hlk hce hnm hP0 hSy ls hl
  have hl : lv_has ls 2 [(0, .ref (mp i)), (1, .int f)] := hl
  obtain ⟨hx, hb, hml, hown, hts, hK, hTb⟩ := id K
  have hI := mw_I.start hP0
  have hsp : sp_miss S i f = (S, -7) := if_pos hk
  rw [hsp]
  refine W.widen (k := 2) (n := 10) (by decide) (by decide) ?_
  refine lv_bipush (v := (-7)) hx hb d_AM_entryForMissing_0 (by decide) ?_
  exact mw_iret K hI hr hlk ⟨rfl, own, hA, Fr.rf w own⟩ d_AM_entryForMissing_2
set_option maxRecDepth 100000 in
set_option maxHeartbeats 4000000 in
theorem c_TM_entryForMissing (l : Launch) (D : va_G) (dA : Nat → ClassId) {w : mw_W} {own : as_W} {x bd xd ba xa ra : Nat} {mp : Nat → Nat} {gd ga : Nat → Int64} {S : as_S} {t : Nat} (hA : rc_A dA w own x bd xd ba xa ra mp gd ga S) (hW : wf_S t S) {i : Nat} (hi : i < nm S) (hk : kd (mm S i) = 1) (f : Int32) (hno : kd (mm S i) = 1 → fnd (mm S i) (aq (mm S i)) = none) : CT l D dA y_TM_entryForMissing (Cond.code y_TM_entryForMissing b_TM_entryForMissing 3 (some .int) :: Ts) 4 110 2 10 [.ref (mp i), .int f] w (fun r w' => r = .inl (some (.int (sp_miss S i f).2)) ∧ ∃ own', rc_A dA w' own' x bd xd ba xa ra mp gd ga (sp_miss S i f).1 ∧ Fr w own w' own') := by
  refine mw_meth (by decide) mk_tb (Nat.le_of_ble_eq_true rfl) ?_
  intro p e s m below meth c K hr hlk hce hnm hP0 hSy ls hl
  have hl : lv_has ls 3 [(0, .ref (mp i)), (1, .int f)] := hl
  obtain ⟨hx, hb, hml, hown, hts, hK, hTb⟩ := id K
  have hI := mw_I.start hP0
  have hwf := hW.2.2.2.2.2 i hi
  obtain ⟨b1, b2, b3, b4, b5, b6, b7, b8⟩ := wf_E hwf (Or.inr hk)
  have hno2 := fnd_no hwf hk (hno hk)
  have hsp : sp_miss S i f = if f = nI 2 then (S, -2) else match freeE (mm S i) with | none => (S, -7) | some e => (gvE S i e, nI e) := if_neg (by rw [hk]; decide)
  obtain ⟨om, ⟨k0, -⟩ | ⟨k0, ka, ak, ax, rch, gk, ff, f0, oka, oax, fk, hbl, f1, hr1, hn1, hs1⟩ | ⟨k0, -⟩⟩ := hA.2 i hi
  · rw [hk] at k0; cases k0
  · obtain ⟨mi, em⟩ : ∃ mi, mi = mm S i := ⟨_, rfl⟩
    rw [← em] at f0
    refine lv_iload_n hx hb d_TM_entryForMissing_0 rfl (lv_at hl 1 rfl) ?_
    refine lv_iconst (v := nI 2) hx hb d_TM_entryForMissing_1 (by decide) ?_
    refine lv_icmp_ne (tgt := 8) hx hb d_TM_entryForMissing_2 (by decide) (fun c2 => ?_) (fun c2 => ?_)
    ·
      rw [if_neg c2] at hsp
      refine lv_aload_n hx hb d_TM_entryForMissing_8 rfl (lv_at hl 0 rfl) ?_
      rw [em] at f0
      have hiff : ∀ e, e < en (mm S i) → (tb (mm S i) e = none ↔ ff e = none) := by
        refine fun e he => ⟨hn1 e he, fun z => ?_⟩
        cases ht : tb (mm S i) e with
        | none => rfl
        | some k => obtain ⟨-, kb, kx, g, g2, -⟩ := hs1 e k ht; rw [z] at g2; cases g2
      refine mw_call (rest := []) K hSy hP0 hI (c_TM_leastFree l D dA (m0 := mm S i) f0 b6 f1 hiff) (mx_invV hx hown (hts _ tw_492) (hts _ tw_494) (hts _ tw_4) (hts _ tw_495) (by decide) (b := (mp i)) (mw_rc K hI f0 rfl) (g := F0 m 9 ls [.ref (mp i)]) rfl (argsL := []) (rest := []) np_TM_leastFree rfl (by rw [hb]; exact d_TM_entryForMissing_9)) hl.1 d_TM_entryForMissing_9 ⟨Nat.le_of_ble_eq_true rfl, Nat.le_of_ble_eq_true rfl⟩ (Or.inl ⟨_, _, List.mem_cons_self⟩) (mk_ws tw_495 hts) (fun a9 U9 h9 => Ts_warm hts _ tw_33 a9 U9 h9) ⟨Nat.le_of_ble_eq_true rfl, Nat.le_of_ble_eq_true rfl⟩ (fun v w' H locs hq hI => ?_) (fun k x w' H locs hq hI hX => ?_)
      · obtain ⟨hq1, hq2⟩ := hq
        cases hq2
        rw [hq1] at hI
        refine W.eq (g2 := F0 m 12 ls [.int (oI (lst (fun e => (tb (mm S i) e).isNone) (en (mm S i))))]) rfl ?_
        cases he : lst (fun e => (tb (mm S i) e).isNone) (en (mm S i)) with
        | none =>
          refine mw_ti (y := (-1)) (rfl) ?_
          refine lv_istore_n (lv' := [(2, .int (-1)), (0, .ref (mp i)), (1, .int f)]) hx hb d_TM_entryForMissing_12 rfl hl (by decide) rfl (fun ls hl => ?_)
          refine lv_iload_n hx hb d_TM_entryForMissing_13 rfl (lv_at hl 0 rfl) ?_
          refine lv_iconst (v := (-1)) hx hb d_TM_entryForMissing_14 (by decide) ?_
          refine lv_icmp_ne (tgt := 21) hx hb d_TM_entryForMissing_15 (by decide) (fun c15 => ?_) (fun c15 => ?_)
          ·
            exact absurd rfl c15
          ·
            refine lv_bipush (v := (-7)) hx hb d_TM_entryForMissing_18 (by decide) ?_
            refine W.widen (k := 2) (n := 10) (by decide) (by decide) ?_
            refine mw_iret K hI hr hlk ?_ d_TM_entryForMissing_20
            have he2 : freeE (mm S i) = none := he
            rw [hsp, he2]
            exact ⟨rfl, own, hA, Fr.rf w own⟩
        | some e0 =>
          obtain ⟨hlt, hnn, -⟩ := lst_is he
          have htn : tb (mm S i) e0 = none := by
            cases ht : tb (mm S i) e0 with
            | none => rfl
            | some k => rw [ht] at hnn; cases hnn
          refine mw_ti (y := nI e0) (rfl) ?_
          refine lv_istore_n (lv' := [(2, .int (nI e0)), (0, .ref (mp i)), (1, .int f)]) hx hb d_TM_entryForMissing_12 rfl hl (by decide) rfl (fun ls hl => ?_)
          refine lv_iload_n hx hb d_TM_entryForMissing_13 rfl (lv_at hl 0 rfl) ?_
          refine lv_iconst (v := (-1)) hx hb d_TM_entryForMissing_14 (by decide) ?_
          refine lv_icmp_ne (tgt := 21) hx hb d_TM_entryForMissing_15 (by decide) (fun c15 => ?_) (fun c15 => ?_)
          ·
            refine lv_aload_n hx hb d_TM_entryForMissing_21 rfl (lv_at hl 1 rfl) ?_
            refine lv_iload_n hx hb d_TM_entryForMissing_22 rfl (lv_at hl 0 rfl) ?_
            refine mw_call (rest := []) K hSy hP0 hI (c_TM_giveAsked l D dA hA hW hi hk hlt htn hno2) (mx_invV hx hown (hts _ tw_496) (hts _ tw_498) (hts _ tw_5) (hts _ tw_499) (by decide) (b := (mp i)) (mw_rc K hI f0 rfl) (g := F0 m 23 ls [.int (nI e0), .ref (mp i)]) rfl (argsL := [.int (nI e0)]) (rest := []) np_TM_giveAsked rfl (by rw [hb]; exact d_TM_entryForMissing_23)) hl.1 d_TM_entryForMissing_23 ⟨Nat.le_of_ble_eq_true rfl, Nat.le_of_ble_eq_true rfl⟩ (Or.inl ⟨_, _, List.mem_cons_self⟩) (mk_ws tw_499 hts) (fun a9 U9 h9 => Ts_warm hts _ tw_33 a9 U9 h9) ⟨Nat.le_of_ble_eq_true rfl, Nat.le_of_ble_eq_true rfl⟩ (fun v w' H locs hq hI => ?_) (fun k x w' H locs hq hI hX => ?_)
            · obtain ⟨hq5, own2, hA2, hF2⟩ := hq
              cases hq5
              refine W.eq (g2 := F0 m 26 ls []) rfl ?_
              refine lv_iload_n hx hb d_TM_entryForMissing_26 rfl (lv_at hl 0 rfl) ?_
              refine mw_iret K hI hr hlk ?_ d_TM_entryForMissing_27
              have he2 : freeE (mm S i) = some e0 := he
              rw [hsp, he2]
              exact ⟨rfl, own2, hA2, hF2⟩
            · exact absurd hq.1 (by simp)
          ·
            exact absurd c15.symm (neg_ne (by omega))
      · exact absurd hq.2 (by simp)
    ·
      rw [if_pos c2] at hsp
      refine lv_bipush (v := (-2)) hx hb d_TM_entryForMissing_5 (by decide) ?_
      rw [hsp]
      refine W.widen (k := 2) (n := 10) (by decide) (by decide) ?_
      exact mw_iret K hI hr hlk ⟨rfl, own, hA, Fr.rf w own⟩ d_TM_entryForMissing_7
  · rw [hk] at k0; cases k0
set_option maxRecDepth 100000 in
set_option maxHeartbeats 4000000 in
theorem c_EM_write_AM (l : Launch) (D : va_G) (dA : Nat → ClassId) (hL : mw_L l) {w : mw_W} {own : as_W} {x bd xd ba xa ra : Nat} {mp : Nat → Nat} {gd ga : Nat → Int64} {S : as_S} {t : Nat} (hA : rc_A dA w own x bd xd ba xa ra mp gd ga S) (hW : wf_S t S) {i : Nat} (hi : i < nm S) (hk : kd (mm S i) = 0) (k v f : Int32) : CT l D dA y_EM_write (Cond.code y_EM_write b_EM_write 5 (some .int) :: Ts) 7 160 4 22 [.ref (mp i), .int k, .int v, .int f] w (PC dA w own x bd xd ba xa ra mp (sp_upd S i k v f)) := by
  refine mw_meth (by decide) mk_tb (Nat.le_of_ble_eq_true rfl) ?_
  intro p e s m below meth c K hr hlk hce hnm hP0 hSy ls hl
  have hl : lv_has ls 5 [(0, .ref (mp i)), (1, .int k), (2, .int v), (3, .int f)] := hl
  obtain ⟨hx, hb, hml, hown, hts, hK, hTb⟩ := id K
  have hI := mw_I.start hP0
  obtain ⟨⟨o1, o2, o3, o4, fx, fd, fa, fr, hdk, har⟩, hM⟩ := id hA
  have hwf := hW.2.2.2.2.2 i hi
  obtain ⟨b1, b2, b3, b4, b5, b6, b7, b8⟩ := wf_E hwf (Or.inl hk)
  have f0 := rc_AM (hA.2 i hi) hk (wf_E hwf (Or.inl hk)).2.2.2.2.2.2.2
  have fin : ∀ {S3 : as_S} {own3 : as_W} {w3 : mw_W} {e0 : Nat}, rc_A dA w3 own3 x bd xd ba xa ra mp gd ga S3 → wf_S t S3 → i < nm S3 → (mm S3 i).1 = (mm S i).1 → e0 < en (mm S i) → v.toNatClampNeg + vs (mm S i) ≤ 512 → Fr w own w3 own3 → sp_upd S i k v f = (wrE S3 i e0 v.toNatClampNeg, .inl (nI 0)) → ∀ (H : Heap) (locs : List Loc), mw_I D mk_cl w s.heap w3 H locs → ∀ ls : Array Slot, lv_has ls 5 [(4, .int (nI e0)), (0, .ref (mp i)), (2, .int (nI v.toNatClampNeg))] → W p l e { frames := 7, cells := 4, slots := 22, locals := 160 } s m ([.ref (mp i), .int k, .int v, .int f] : List Value).toArray below meth c H locs 4 22 (mx_Q below (mw_Qc D mk_cl w s.heap.size (PC dA w own x bd xd ba xa ra mp (sp_upd S i k v f))) ([.ref (mp i), .int k, .int v, .int f] : List Value).toArray s 4 22 (mw_A w s.heap.size)) (F0 m 79 ls []) := by
    intro S3 own3 w3 e0 hA3 hW3 hi3 h31 he0 hv0 hF3 hsp H locs hI ls hl
    have hA := hA3
    have hW := hW3
    have hwf := hW3.2.2.2.2.2 i hi3
    have h1a : kd (mm S3 i) = kd (mm S i) := by show (mm S3 i).1.1 = (mm S i).1.1; rw [h31]
    have h1b : vs (mm S3 i) = vs (mm S i) := by show (mm S3 i).1.2.2.1 = (mm S i).1.2.2.1; rw [h31]
    have h1c : en (mm S3 i) = en (mm S i) := by show (mm S3 i).1.2.2.2.1 = (mm S i).1.2.2.2.1; rw [h31]
    have hi := hi3
    rw [← h1a] at hk
    have hpl := plc_lt hwf (Or.inl hk) (e := e0) (by omega)
    have f0 := rc_AM (hA.2 i hi) hk (wf_E hwf (Or.inl hk)).2.2.2.2.2.2.2
    obtain ⟨⟨o1, o2, o3, o4, fx, fd, fa, fr, hdk, har⟩, hM⟩ := id hA3
    obtain ⟨mi, em⟩ : ∃ mi, mi = mm S3 i := ⟨_, rfl⟩
    rw [← em] at f0 h1a h1b h1c hpl
    refine lv_aload_n hx hb d_EM_write_79 rfl (lv_at hl 1 rfl) ?_
    refine mw_get K hI gf_EM_45_cAM f0 rfl d_EM_write_80 ?_
    refine lv_aload_n hx hb d_EM_write_83 rfl (lv_at hl 1 rfl) ?_
    refine lv_iload hx hb d_EM_write_84 (lv_at hl 0 rfl) ?_
    refine mw_call (rest := [.ref ba]) K hSy hP0 hI (c_EM_placeOfEntry_AM l D dA hA3 hW3 hi3 hk (e0 := e0) (by rw [← em]; omega)) (mx_invP hx hown (hts _ tw_461) (hts _ tw_463) (hts _ tw_462) (hts _ tw_435) rfl (hts _ tw_464) (by decide) (b := (mp i)) (mw_rc K hI f0 rfl) (g := F0 m 86 ls [.int (nI e0), .ref (mp i), .ref ba]) rfl (argsL := [.int (nI e0)]) (rest := [.ref ba]) np_EM_placeOfEntry rfl (by rw [hb]; exact d_EM_write_86)) hl.1 d_EM_write_86 ⟨Nat.le_of_ble_eq_true rfl, Nat.le_of_ble_eq_true rfl⟩ (Or.inl ⟨_, _, List.mem_cons_self⟩) (mk_ws tw_464 hts) (fun a9 U9 h9 => Ts_warm hts _ tw_31 a9 U9 h9) ⟨Nat.le_of_ble_eq_true rfl, Nat.le_of_ble_eq_true rfl⟩ (fun v w' H locs hq hI => ?_) (fun k x w' H locs hq hI hX => ?_)
    · obtain ⟨hq7, hq8⟩ := hq
      cases hq7
      rw [hq8] at hI
      rw [← em]
      refine W.eq (g2 := F0 m 89 ls [.int (nI (plc mi e0)), .ref ba]) rfl ?_
      refine lv_aload_n hx hb d_EM_write_89 rfl (lv_at hl 1 rfl) ?_
      refine mw_get K hI gf_EM_21_cAM f0 rfl d_EM_write_90 ?_
      refine lv_iload_n hx hb d_EM_write_93 rfl (lv_at hl 2 rfl) ?_
      refine lv_aload_n hx hb d_EM_write_94 rfl (lv_at hl 1 rfl) ?_
      refine mw_get K hI gf_EM_15_cAM f0 rfl d_EM_write_95 ?_
      refine mw_call (rest := []) K hSy hP0 hI (c_BY_copy l D dA fa (by decide) fd (by decide) (own_ne o2 o3 (by decide)) (i := plc mi e0) (i2 := v.toNatClampNeg) (k := vs mi) (by omega) (by omega)) (mx_invV hx hown (hts _ tw_503) (hts _ tw_450) (hts _ tw_451) (hts _ tw_452) (by decide) (b := ba) (mw_rc K hI fa.1 rfl) (g := F0 m 98 ls [.int (nI (vs mi)), .int (nI v.toNatClampNeg), .ref bd, .int (nI (plc mi e0)), .ref ba]) rfl (argsL := [.int (nI (plc mi e0)), .ref bd, .int (nI v.toNatClampNeg), .int (nI (vs mi))]) (rest := []) np_BY_copy rfl (by rw [hb]; exact d_EM_write_98)) hl.1 d_EM_write_98 ⟨Nat.le_of_ble_eq_true rfl, Nat.le_of_ble_eq_true rfl⟩ (Or.inl ⟨_, _, List.mem_cons_self⟩) (mk_ws tw_452 hts) (fun a9 U9 h9 => Ts_warm hts _ tw_22 a9 U9 h9) ⟨Nat.le_of_ble_eq_true rfl, Nat.le_of_ble_eq_true rfl⟩ (fun v w' H locs hq hI => ?_) (fun k x w' H locs hq hI hX => ?_)
      · obtain ⟨hq1, g', hq5, hq6⟩ := hq
        cases hq1
        rw [hq5] at hI
        refine W.eq (g2 := F0 m 101 ls []) rfl ?_
        refine lv_iconst (v := nI 0) hx hb d_EM_write_101 (by decide) ?_
        refine mw_iret K hI hr hlk ?_ d_EM_write_102
        rw [hsp]
        refine ⟨rfl, own3, gd, g', ?_, hF3.trans (Fr.up fa.2 (by rw [o3]; decide))⟩
        refine hA3.area g' _ (fun j hj => ?_)
        rw [hq6 j, ← em]
        unfold cpy
        split
        · exact hdk _ (by omega)
        · exact har j hj
      · exact absurd hq.1 (by simp)
    · exact absurd hq.1 (by simp)
  obtain ⟨mi, em⟩ : ∃ mi, mi = mm S i := ⟨_, rfl⟩
  rw [← em] at f0
  refine lv_aload_n hx hb d_EM_write_0 rfl (lv_at hl 0 rfl) ?_
  refine mw_get K hI gf_EM_21_cAM f0 rfl d_EM_write_1 ?_
  refine lv_iload_n hx hb d_EM_write_4 rfl (lv_at hl 1 rfl) ?_
  refine lv_aload_n hx hb d_EM_write_5 rfl (lv_at hl 0 rfl) ?_
  refine mw_get K hI gf_EM_9_cAM f0 rfl d_EM_write_6 ?_
  refine mw_call (rest := []) K hSy hP0 hI (c_BY_demand l D dA hL fd (by decide) k (k := ks mi) (by rw [em]; omega)) (mx_invV hx hown (hts _ tw_438) (hts _ tw_373) (hts _ tw_374) (hts _ tw_375) (by decide) (b := bd) (mw_rc K hI fd.1 rfl) (g := F0 m 9 ls [.int (nI (ks mi)), .int k, .ref bd]) rfl (argsL := [.int k, .int (nI (ks mi))]) (rest := []) np_BY_demand rfl (by rw [hb]; exact d_EM_write_9)) hl.1 d_EM_write_9 ⟨Nat.le_of_ble_eq_true rfl, Nat.le_of_ble_eq_true rfl⟩ (Or.inl ⟨_, _, List.mem_cons_self⟩) (mk_ws tw_375 hts) (fun a9 U9 h9 => Ts_warm hts _ tw_22 a9 U9 h9) ⟨Nat.le_of_ble_eq_true rfl, Nat.le_of_ble_eq_true rfl⟩ (fun v w' H locs hq hI => ?_) (fun k x w' H locs hq hI hX => ?_)
  · obtain ⟨hq1, ⟨hq2, hq3, hq4⟩ | ⟨-, hq4⟩⟩ := hq
    · cases hq4
      rw [hq1] at hI
      rw [em] at hq3
      obtain ⟨e1, e2⟩ := inD_nI ⟨hq2, hq3⟩ (by decide)
      have hin1 : inD k (ks (mm S i)) 512 := ⟨hq2, hq3⟩
      refine W.eq (g2 := F0 m 12 ls []) rfl ?_
      rw [e1] at hl
      refine lv_aload_n hx hb d_EM_write_12 rfl (lv_at hl 0 rfl) ?_
      refine mw_get K hI gf_EM_21_cAM f0 rfl d_EM_write_13 ?_
      refine lv_iload_n hx hb d_EM_write_16 rfl (lv_at hl 2 rfl) ?_
      refine lv_aload_n hx hb d_EM_write_17 rfl (lv_at hl 0 rfl) ?_
      refine mw_get K hI gf_EM_15_cAM f0 rfl d_EM_write_18 ?_
      refine mw_call (rest := []) K hSy hP0 hI (c_BY_demand l D dA hL fd (by decide) v (k := vs mi) (by rw [em]; omega)) (mx_invV hx hown (hts _ tw_438) (hts _ tw_373) (hts _ tw_374) (hts _ tw_375) (by decide) (b := bd) (mw_rc K hI fd.1 rfl) (g := F0 m 21 ls [.int (nI (vs mi)), .int v, .ref bd]) rfl (argsL := [.int v, .int (nI (vs mi))]) (rest := []) np_BY_demand rfl (by rw [hb]; exact d_EM_write_21)) hl.1 d_EM_write_21 ⟨Nat.le_of_ble_eq_true rfl, Nat.le_of_ble_eq_true rfl⟩ (Or.inl ⟨_, _, List.mem_cons_self⟩) (mk_ws tw_375 hts) (fun a9 U9 h9 => Ts_warm hts _ tw_22 a9 U9 h9) ⟨Nat.le_of_ble_eq_true rfl, Nat.le_of_ble_eq_true rfl⟩ (fun v w' H locs hq hI => ?_) (fun k x w' H locs hq hI hX => ?_)
      · obtain ⟨hq1, ⟨hq2, hq3, hq4⟩ | ⟨-, hq4⟩⟩ := hq
        · cases hq4
          rw [hq1] at hI
          rw [em] at hq3
          obtain ⟨e3, e4⟩ := inD_nI ⟨hq2, hq3⟩ (by decide)
          have hin2 : inD v (vs (mm S i)) 512 := ⟨hq2, hq3⟩
          refine W.eq (g2 := F0 m 24 ls []) rfl ?_
          rw [e3] at hl
          refine lv_iload_n hx hb d_EM_write_24 rfl (lv_at hl 3 rfl) ?_
          refine lv_i2l hx hb d_EM_write_25 rfl ?_
          refine lv_iconst (v := nI 0) hx hb d_EM_write_26 (by decide) ?_
          refine lv_iconst (v := nI 2) hx hb d_EM_write_27 (by decide) ?_
          refine mp_call (rest := []) hb hml (c_MS_within l f.toInt64 (nI 0) (nI 2)) (mx_invSN hx hown (hts _ tw_482) (hts _ tw_183) (hts _ tw_21) (hts _ tw_184) (by decide) (g := F0 m 28 ls [.int (nI 2), .int (nI 0), .long (f.toInt64)]) rfl (argsL := [.long (f.toInt64), .int (nI 0), .int (nI 2)]) (rest := []) np_MS_within rfl (by rw [hb]; exact d_EM_write_28)) hl.1 d_EM_write_28 ⟨Nat.le_of_ble_eq_true rfl, Nat.le_of_ble_eq_true rfl⟩ (Or.inl ⟨_, _, List.mem_cons_self⟩) (mk_ws tw_184 hts) (fun a9 U9 h9 => Ts_warm hts _ tw_21 a9 U9 h9) (by first | exact ⟨Nat.le_of_ble_eq_true rfl, Nat.le_of_ble_eq_true rfl⟩ | assumption) (fun v hv => ?_)
          subst hv
          refine W.eq (g2 := F0 m 31 ls [.int (if (nI 0).toInt64 ≤ f.toInt64 ∧ f.toInt64 ≤ (nI 2).toInt64 then 1 else 0)]) rfl ?_
          rw [within_i f (a := 0) (b := 2) (by decide) (by decide)]
          refine lv_if_ne (tgt := 37) hx hb d_EM_write_31 (by decide) (fun c31 => ?_) (fun c31 => ?_)
          ·
            rw [if10.2] at c31
            have hsp : sp_upd S i k v f = _ := (if_pos ⟨hin1, hin2⟩).trans (if_pos c31)
            refine lv_aload_n hx hb d_EM_write_37 rfl (lv_at hl 0 rfl) ?_
            refine lv_iload_n hx hb d_EM_write_38 rfl (lv_at hl 1 rfl) ?_
            refine mw_call (rest := []) K hSy hP0 hI (c_AM_entryOf l D dA hA hW hi hk (q := k.toNatClampNeg) e2) (mx_invU (y := y_AM_entryOf) hx hown (hts _ tw_439) (hts _ tw_441) (va_Decl.abs (va_Nw.of rfl (hts _ tw_440))) (by decide) (hts _ tw_442) (hts _ tw_443) (b := (mp i)) (mw_rc K hI f0 rfl) (g := F0 m 39 ls [.int (nI k.toNatClampNeg), .ref (mp i)]) rfl (argsL := [.int (nI k.toNatClampNeg)]) (rest := []) np_EM_entryOf rfl (by rw [hb]; exact d_EM_write_39)) hl.1 d_EM_write_39 ⟨Nat.le_of_ble_eq_true rfl, Nat.le_of_ble_eq_true rfl⟩ (Or.inl ⟨_, _, List.mem_cons_self⟩) (mk_ws tw_444 hts) (fun a9 U9 h9 => Ts_warm hts _ tw_32 a9 U9 h9) ⟨Nat.le_of_ble_eq_true rfl, Nat.le_of_ble_eq_true rfl⟩ (fun v w' H locs hq hI => ?_) (fun k x w' H locs hq hI hX => ?_)
            · obtain ⟨hq5, hA2, hF2⟩ := hq
              cases hq5
              refine W.eq (g2 := F0 m 42 ls [.int (oI (ent S i k.toNatClampNeg))]) rfl ?_
              obtain ⟨n1, n2, n3, n4, n5⟩ := lk_nm S i k.toNatClampNeg
              have hi2 : i < nm (lk S i k.toNatClampNeg) := by rw [n1]; exact hi
              have hW2 := hW.ofL (q := k.toNatClampNeg) hi
              have hk2 : kd (mm (lk S i k.toNatClampNeg) i) = 0 := by show (mm (lk S i k.toNatClampNeg) i).1.1 = _; rw [(n5 i).1]; exact hk
              cases he : ent S i k.toNatClampNeg with
              | some e0 =>
                have hlt := ent_lt he
                rw [he] at hsp
                refine mw_ti (y := nI e0) (rfl) ?_
                refine lv_istore (lv' := [(4, .int (nI e0)), (0, .ref (mp i)), (1, .int (nI k.toNatClampNeg)), (2, .int (nI v.toNatClampNeg)), (3, .int f)]) hx hb d_EM_write_42 hl (by decide) rfl (fun ls hl => ?_)
                refine lv_iload hx hb d_EM_write_44 (lv_at hl 0 rfl) ?_
                refine lv_iconst (v := (-1)) hx hb d_EM_write_46 (by decide) ?_
                refine lv_icmp_eq (tgt := 58) hx hb d_EM_write_47 (by decide) (fun c47 => ?_) (fun c47 => ?_)
                ·
                  exact absurd c47.symm (neg_ne (by omega))
                ·
                  refine lv_iload_n hx hb d_EM_write_50 rfl (lv_at hl 4 rfl) ?_
                  refine lv_iconst (v := nI 1) hx hb d_EM_write_51 (by decide) ?_
                  refine lv_icmp_ne (tgt := 58) hx hb d_EM_write_52 (by decide) (fun c52 => ?_) (fun c52 => ?_)
                  ·
                    have hsp := hsp.trans (if_neg c52)
                    refine lv_iload hx hb d_EM_write_58 (lv_at hl 0 rfl) ?_
                    refine lv_iconst (v := (-1)) hx hb d_EM_write_60 (by decide) ?_
                    refine lv_icmp_ne (tgt := 71) hx hb d_EM_write_61 (by decide) (fun c61 => ?_) (fun c61 => ?_)
                    ·
                      refine lv_iload hx hb d_EM_write_71 (lv_at hl 0 rfl) ?_
                      refine lv_if_ge (tgt := 79) hx hb d_EM_write_73 (by decide) (fun c73 => ?_) (fun c73 => ?_)
                      ·
                        refine W.widen (k := 4) (n := 22) (by decide) (by decide) ?_
                        exact fin hA2 hW2 hi2 (n5 i).1 hlt e4 hF2 hsp H locs hI ls (lv_sub hl [0, 1, 3] rfl)
                      ·
                        exact absurd (nI_pos' (by omega)) c73
                    ·
                      exact absurd c61.symm (neg_ne (by omega))
                  ·
                    have hsp := hsp.trans (if_pos c52)
                    refine lv_bipush (v := (-17)) hx hb d_EM_write_55 (by decide) ?_
                    refine W.widen (k := 4) (n := 22) (by decide) (by decide) ?_
                    refine mw_iret K hI hr hlk ?_ d_EM_write_57
                    rw [hsp]
                    exact ⟨rfl, own, gd, ga, hA2, hF2⟩
              | none =>
                rw [he] at hsp
                refine mw_ti (y := (-1)) (rfl) ?_
                refine lv_istore (lv' := [(4, .int (-1)), (0, .ref (mp i)), (1, .int (nI k.toNatClampNeg)), (2, .int (nI v.toNatClampNeg)), (3, .int f)]) hx hb d_EM_write_42 hl (by decide) rfl (fun ls hl => ?_)
                refine lv_iload hx hb d_EM_write_44 (lv_at hl 0 rfl) ?_
                refine lv_iconst (v := (-1)) hx hb d_EM_write_46 (by decide) ?_
                refine lv_icmp_eq (tgt := 58) hx hb d_EM_write_47 (by decide) (fun c47 => ?_) (fun c47 => ?_)
                ·
                  refine lv_iload hx hb d_EM_write_58 (lv_at hl 0 rfl) ?_
                  refine lv_iconst (v := (-1)) hx hb d_EM_write_60 (by decide) ?_
                  refine lv_icmp_ne (tgt := 71) hx hb d_EM_write_61 (by decide) (fun c61 => ?_) (fun c61 => ?_)
                  ·
                    exact absurd rfl c61
                  ·
                    have f02 := rc_AM (hA2.2 i hi2) hk2 (wf_E (hW2.2.2.2.2.2 i hi2) (Or.inl hk2)).2.2.2.2.2.2.2
                    refine lv_aload_n hx hb d_EM_write_64 rfl (lv_at hl 1 rfl) ?_
                    refine lv_iload_n hx hb d_EM_write_65 rfl (lv_at hl 4 rfl) ?_
                    refine mw_call (rest := []) K hSy hP0 hI (c_AM_entryForMissing l D dA hA2 hW2 hi2 hk2 f (fnd_lk he)) (mx_invU (y := y_AM_entryForMissing) hx hown (hts _ tw_483) (hts _ tw_485) (va_Decl.abs (va_Nw.of rfl (hts _ tw_484))) (by decide) (hts _ tw_486) (hts _ tw_487) (b := (mp i)) (mw_rc K hI f02 rfl) (g := F0 m 66 ls [.int f, .ref (mp i)]) rfl (argsL := [.int f]) (rest := []) np_EM_entryForMissing rfl (by rw [hb]; exact d_EM_write_66)) hl.1 d_EM_write_66 ⟨Nat.le_of_ble_eq_true rfl, Nat.le_of_ble_eq_true rfl⟩ (Or.inl ⟨_, _, List.mem_cons_self⟩) (mk_ws tw_488 hts) (fun a9 U9 h9 => Ts_warm hts _ tw_32 a9 U9 h9) ⟨Nat.le_of_ble_eq_true rfl, Nat.le_of_ble_eq_true rfl⟩ (fun v w' H locs hq hI => ?_) (fun k x w' H locs hq hI hX => ?_)
                    · obtain ⟨hq5, own3, hA3, hF3⟩ := hq
                      cases hq5
                      refine W.eq (g2 := F0 m 69 ls [.int (sp_miss (lk S i k.toNatClampNeg) i f).2]) rfl ?_
                      refine lv_istore (lv' := [(4, .int (sp_miss (lk S i k.toNatClampNeg) i f).2), (0, .ref (mp i)), (1, .int (nI k.toNatClampNeg)), (2, .int (nI v.toNatClampNeg)), (3, .int f)]) hx hb d_EM_write_69 hl (by decide) rfl (fun ls hl => ?_)
                      refine lv_iload hx hb d_EM_write_71 (lv_at hl 0 rfl) ?_
                      refine lv_if_ge (tgt := 79) hx hb d_EM_write_73 (by decide) (fun c73 => ?_) (fun c73 => ?_)
                      ·
                        have hnn : ¬ (sp_miss (lk S i k.toNatClampNeg) i f).2 < nI 0 := by rw [Int32.le_iff_toInt_le] at c73; rw [nI_0, Int32.lt_iff_toInt_lt]; omega
                        have hsp := hsp.trans (if_neg hnn)
                        obtain ⟨hk0, e9, hfe, hms⟩ := sp_miss_ge hnn
                        rw [hms] at hsp hl hA3
                        obtain ⟨hlt9, -, -⟩ := lst_is hfe
                        have hlt8 : e9 < en (mm S i) := by
                          have h9 : e9 < (mm (lk S i k.toNatClampNeg) i).1.2.2.2.1 := hlt9
                          rw [(n5 i).1] at h9; exact h9
                        have hk1 : kd (mm (lk S i k.toNatClampNeg) i) = 1 := by
                          rcases ((Or.inl hk) : kd (mm S i) = 0 ∨ kd (mm S i) = 1) with z | z
                          · exact absurd (by show (mm (lk S i k.toNatClampNeg) i).1.1 = 0; rw [(n5 i).1]; exact z) hk0
                          · show (mm (lk S i k.toNatClampNeg) i).1.1 = 1
                            rw [(n5 i).1]; exact z
                        have hcl : (nI e9).toNatClampNeg = e9 := nI_clamp (by omega)
                        rw [hcl] at hsp
                        refine fin hA3 (hW2.ofG hi2 hk1 (fnd_lk he hk1) hlt9) hi2 ?_ hlt8 e4 (hF2.trans hF3) hsp H locs hI ls (lv_sub hl [0, 1, 3] rfl)
                        show (mm (gvE (lk S i k.toNatClampNeg) i e9) i).1 = _
                        unfold gvE
                        rw [S_mm_self]
                        exact (n5 i).1
                      ·
                        have hnn : (sp_miss (lk S i k.toNatClampNeg) i f).2 < nI 0 := by rw [Int32.le_iff_toInt_le] at c73; rw [nI_0, Int32.lt_iff_toInt_lt]; omega
                        have hsp := hsp.trans (if_pos hnn)
                        refine lv_iload hx hb d_EM_write_76 (lv_at hl 0 rfl) ?_
                        refine mw_iret K hI hr hlk ?_ d_EM_write_78
                        rw [hsp]
                        exact ⟨rfl, own3, gd, ga, hA3, hF2.trans hF3⟩
                    · exact absurd hq.1 (by simp)
                ·
                  exact absurd rfl c47
            · exact absurd hq.1 (by simp)
          ·
            rw [if10.1] at c31
            have hsp : sp_upd S i k v f = _ := (if_pos ⟨hin1, hin2⟩).trans (if_neg c31)
            refine lv_bipush (v := (-22)) hx hb d_EM_write_34 (by decide) ?_
            refine W.widen (k := 4) (n := 22) (by decide) (by decide) ?_
            refine mw_iret K hI hr hlk ?_ d_EM_write_36
            rw [hsp]
            exact ⟨rfl, own, gd, ga, hA, Fr.rf w own⟩
        · cases hq4
      · obtain ⟨hq1, ⟨-, -, hq4⟩ | ⟨hq2, hq4⟩⟩ := hq
        · cases hq4
        · cases hq4
          rw [hq1] at hI
          rw [em] at hq2
          refine WT.widen (k := 4) (n := 22) (by decide) (by decide) ?_
          refine mw_on hI hce hlk hX ?_
          unfold sp_upd
          rw [if_neg (fun z => hq2 z.2)]
          exact ⟨rfl, own, gd, ga, hA, Fr.rf w own⟩
    · cases hq4
  · obtain ⟨hq1, ⟨-, -, hq4⟩ | ⟨hq2, hq4⟩⟩ := hq
    · cases hq4
    · cases hq4
      rw [hq1] at hI
      rw [em] at hq2
      refine WT.widen (k := 4) (n := 22) (by decide) (by decide) ?_
      refine mw_on hI hce hlk hX ?_
      unfold sp_upd
      rw [if_neg (fun z => hq2 z.1)]
      exact ⟨rfl, own, gd, ga, hA, Fr.rf w own⟩
set_option maxRecDepth 100000 in
set_option maxHeartbeats 4000000 in
theorem c_EM_write_TM (l : Launch) (D : va_G) (dA : Nat → ClassId) (hL : mw_L l) {w : mw_W} {own : as_W} {x bd xd ba xa ra : Nat} {mp : Nat → Nat} {gd ga : Nat → Int64} {S : as_S} {t : Nat} (hA : rc_A dA w own x bd xd ba xa ra mp gd ga S) (hW : wf_S t S) {i : Nat} (hi : i < nm S) (hk : kd (mm S i) = 1) (k v f : Int32) : CT l D dA y_EM_write (Cond.code y_EM_write b_EM_write 5 (some .int) :: Ts) 7 160 4 22 [.ref (mp i), .int k, .int v, .int f] w (PC dA w own x bd xd ba xa ra mp (sp_upd S i k v f)) := by
  refine mw_meth (by decide) mk_tb (Nat.le_of_ble_eq_true rfl) ?_
  intro p e s m below meth c K hr hlk hce hnm hP0 hSy ls hl
  have hl : lv_has ls 5 [(0, .ref (mp i)), (1, .int k), (2, .int v), (3, .int f)] := hl
  obtain ⟨hx, hb, hml, hown, hts, hK, hTb⟩ := id K
  have hI := mw_I.start hP0
  obtain ⟨⟨o1, o2, o3, o4, fx, fd, fa, fr, hdk, har⟩, hM⟩ := id hA
  have hwf := hW.2.2.2.2.2 i hi
  obtain ⟨b1, b2, b3, b4, b5, b6, b7, b8⟩ := wf_E hwf (Or.inr hk)
  obtain ⟨ka, ak, rch, wk, f0⟩ := rc_TM (hA.2 i hi) hk
  have fin : ∀ {S3 : as_S} {own3 : as_W} {w3 : mw_W} {e0 : Nat}, rc_A dA w3 own3 x bd xd ba xa ra mp gd ga S3 → wf_S t S3 → i < nm S3 → (mm S3 i).1 = (mm S i).1 → e0 < en (mm S i) → v.toNatClampNeg + vs (mm S i) ≤ 512 → Fr w own w3 own3 → sp_upd S i k v f = (wrE S3 i e0 v.toNatClampNeg, .inl (nI 0)) → ∀ (H : Heap) (locs : List Loc), mw_I D mk_cl w s.heap w3 H locs → ∀ ls : Array Slot, lv_has ls 5 [(4, .int (nI e0)), (0, .ref (mp i)), (2, .int (nI v.toNatClampNeg))] → W p l e { frames := 7, cells := 4, slots := 22, locals := 160 } s m ([.ref (mp i), .int k, .int v, .int f] : List Value).toArray below meth c H locs 4 22 (mx_Q below (mw_Qc D mk_cl w s.heap.size (PC dA w own x bd xd ba xa ra mp (sp_upd S i k v f))) ([.ref (mp i), .int k, .int v, .int f] : List Value).toArray s 4 22 (mw_A w s.heap.size)) (F0 m 79 ls []) := by
    intro S3 own3 w3 e0 hA3 hW3 hi3 h31 he0 hv0 hF3 hsp H locs hI ls hl
    have hA := hA3
    have hW := hW3
    have hwf := hW3.2.2.2.2.2 i hi3
    have h1a : kd (mm S3 i) = kd (mm S i) := by show (mm S3 i).1.1 = (mm S i).1.1; rw [h31]
    have h1b : vs (mm S3 i) = vs (mm S i) := by show (mm S3 i).1.2.2.1 = (mm S i).1.2.2.1; rw [h31]
    have h1c : en (mm S3 i) = en (mm S i) := by show (mm S3 i).1.2.2.2.1 = (mm S i).1.2.2.2.1; rw [h31]
    have hi := hi3
    rw [← h1a] at hk
    have hpl := plc_lt hwf (Or.inr hk) (e := e0) (by omega)
    obtain ⟨ka, ak, rch, wk, f0⟩ := rc_TM (hA.2 i hi) hk
    obtain ⟨⟨o1, o2, o3, o4, fx, fd, fa, fr, hdk, har⟩, hM⟩ := id hA3
    obtain ⟨mi, em⟩ : ∃ mi, mi = mm S3 i := ⟨_, rfl⟩
    rw [← em] at f0 h1a h1b h1c hpl
    refine lv_aload_n hx hb d_EM_write_79 rfl (lv_at hl 1 rfl) ?_
    refine mw_get K hI gf_EM_45_cTM f0 rfl d_EM_write_80 ?_
    refine lv_aload_n hx hb d_EM_write_83 rfl (lv_at hl 1 rfl) ?_
    refine lv_iload hx hb d_EM_write_84 (lv_at hl 0 rfl) ?_
    refine mw_call (rest := [.ref ba]) K hSy hP0 hI (c_EM_placeOfEntry_TM l D dA hA3 hW3 hi3 hk (e0 := e0) (by rw [← em]; omega)) (mx_invP hx hown (hts _ tw_461) (hts _ tw_463) (hts _ tw_462) (hts _ tw_467) rfl (hts _ tw_464) (by decide) (b := (mp i)) (mw_rc K hI f0 rfl) (g := F0 m 86 ls [.int (nI e0), .ref (mp i), .ref ba]) rfl (argsL := [.int (nI e0)]) (rest := [.ref ba]) np_EM_placeOfEntry rfl (by rw [hb]; exact d_EM_write_86)) hl.1 d_EM_write_86 ⟨Nat.le_of_ble_eq_true rfl, Nat.le_of_ble_eq_true rfl⟩ (Or.inl ⟨_, _, List.mem_cons_self⟩) (mk_ws tw_464 hts) (fun a9 U9 h9 => Ts_warm hts _ tw_31 a9 U9 h9) ⟨Nat.le_of_ble_eq_true rfl, Nat.le_of_ble_eq_true rfl⟩ (fun v w' H locs hq hI => ?_) (fun k x w' H locs hq hI hX => ?_)
    · obtain ⟨hq7, hq8⟩ := hq
      cases hq7
      rw [hq8] at hI
      rw [← em]
      refine W.eq (g2 := F0 m 89 ls [.int (nI (plc mi e0)), .ref ba]) rfl ?_
      refine lv_aload_n hx hb d_EM_write_89 rfl (lv_at hl 1 rfl) ?_
      refine mw_get K hI gf_EM_21_cTM f0 rfl d_EM_write_90 ?_
      refine lv_iload_n hx hb d_EM_write_93 rfl (lv_at hl 2 rfl) ?_
      refine lv_aload_n hx hb d_EM_write_94 rfl (lv_at hl 1 rfl) ?_
      refine mw_get K hI gf_EM_15_cTM f0 rfl d_EM_write_95 ?_
      refine mw_call (rest := []) K hSy hP0 hI (c_BY_copy l D dA fa (by decide) fd (by decide) (own_ne o2 o3 (by decide)) (i := plc mi e0) (i2 := v.toNatClampNeg) (k := vs mi) (by omega) (by omega)) (mx_invV hx hown (hts _ tw_503) (hts _ tw_450) (hts _ tw_451) (hts _ tw_452) (by decide) (b := ba) (mw_rc K hI fa.1 rfl) (g := F0 m 98 ls [.int (nI (vs mi)), .int (nI v.toNatClampNeg), .ref bd, .int (nI (plc mi e0)), .ref ba]) rfl (argsL := [.int (nI (plc mi e0)), .ref bd, .int (nI v.toNatClampNeg), .int (nI (vs mi))]) (rest := []) np_BY_copy rfl (by rw [hb]; exact d_EM_write_98)) hl.1 d_EM_write_98 ⟨Nat.le_of_ble_eq_true rfl, Nat.le_of_ble_eq_true rfl⟩ (Or.inl ⟨_, _, List.mem_cons_self⟩) (mk_ws tw_452 hts) (fun a9 U9 h9 => Ts_warm hts _ tw_22 a9 U9 h9) ⟨Nat.le_of_ble_eq_true rfl, Nat.le_of_ble_eq_true rfl⟩ (fun v w' H locs hq hI => ?_) (fun k x w' H locs hq hI hX => ?_)
      · obtain ⟨hq1, g', hq5, hq6⟩ := hq
        cases hq1
        rw [hq5] at hI
        refine W.eq (g2 := F0 m 101 ls []) rfl ?_
        refine lv_iconst (v := nI 0) hx hb d_EM_write_101 (by decide) ?_
        refine mw_iret K hI hr hlk ?_ d_EM_write_102
        rw [hsp]
        refine ⟨rfl, own3, gd, g', ?_, hF3.trans (Fr.up fa.2 (by rw [o3]; decide))⟩
        refine hA3.area g' _ (fun j hj => ?_)
        rw [hq6 j, ← em]
        unfold cpy
        split
        · exact hdk _ (by omega)
        · exact har j hj
      · exact absurd hq.1 (by simp)
    · exact absurd hq.1 (by simp)
  obtain ⟨mi, em⟩ : ∃ mi, mi = mm S i := ⟨_, rfl⟩
  rw [← em] at f0
  refine lv_aload_n hx hb d_EM_write_0 rfl (lv_at hl 0 rfl) ?_
  refine mw_get K hI gf_EM_21_cTM f0 rfl d_EM_write_1 ?_
  refine lv_iload_n hx hb d_EM_write_4 rfl (lv_at hl 1 rfl) ?_
  refine lv_aload_n hx hb d_EM_write_5 rfl (lv_at hl 0 rfl) ?_
  refine mw_get K hI gf_EM_9_cTM f0 rfl d_EM_write_6 ?_
  refine mw_call (rest := []) K hSy hP0 hI (c_BY_demand l D dA hL fd (by decide) k (k := ks mi) (by rw [em]; omega)) (mx_invV hx hown (hts _ tw_438) (hts _ tw_373) (hts _ tw_374) (hts _ tw_375) (by decide) (b := bd) (mw_rc K hI fd.1 rfl) (g := F0 m 9 ls [.int (nI (ks mi)), .int k, .ref bd]) rfl (argsL := [.int k, .int (nI (ks mi))]) (rest := []) np_BY_demand rfl (by rw [hb]; exact d_EM_write_9)) hl.1 d_EM_write_9 ⟨Nat.le_of_ble_eq_true rfl, Nat.le_of_ble_eq_true rfl⟩ (Or.inl ⟨_, _, List.mem_cons_self⟩) (mk_ws tw_375 hts) (fun a9 U9 h9 => Ts_warm hts _ tw_22 a9 U9 h9) ⟨Nat.le_of_ble_eq_true rfl, Nat.le_of_ble_eq_true rfl⟩ (fun v w' H locs hq hI => ?_) (fun k x w' H locs hq hI hX => ?_)
  · obtain ⟨hq1, ⟨hq2, hq3, hq4⟩ | ⟨-, hq4⟩⟩ := hq
    · cases hq4
      rw [hq1] at hI
      rw [em] at hq3
      obtain ⟨e1, e2⟩ := inD_nI ⟨hq2, hq3⟩ (by decide)
      have hin1 : inD k (ks (mm S i)) 512 := ⟨hq2, hq3⟩
      refine W.eq (g2 := F0 m 12 ls []) rfl ?_
      rw [e1] at hl
      refine lv_aload_n hx hb d_EM_write_12 rfl (lv_at hl 0 rfl) ?_
      refine mw_get K hI gf_EM_21_cTM f0 rfl d_EM_write_13 ?_
      refine lv_iload_n hx hb d_EM_write_16 rfl (lv_at hl 2 rfl) ?_
      refine lv_aload_n hx hb d_EM_write_17 rfl (lv_at hl 0 rfl) ?_
      refine mw_get K hI gf_EM_15_cTM f0 rfl d_EM_write_18 ?_
      refine mw_call (rest := []) K hSy hP0 hI (c_BY_demand l D dA hL fd (by decide) v (k := vs mi) (by rw [em]; omega)) (mx_invV hx hown (hts _ tw_438) (hts _ tw_373) (hts _ tw_374) (hts _ tw_375) (by decide) (b := bd) (mw_rc K hI fd.1 rfl) (g := F0 m 21 ls [.int (nI (vs mi)), .int v, .ref bd]) rfl (argsL := [.int v, .int (nI (vs mi))]) (rest := []) np_BY_demand rfl (by rw [hb]; exact d_EM_write_21)) hl.1 d_EM_write_21 ⟨Nat.le_of_ble_eq_true rfl, Nat.le_of_ble_eq_true rfl⟩ (Or.inl ⟨_, _, List.mem_cons_self⟩) (mk_ws tw_375 hts) (fun a9 U9 h9 => Ts_warm hts _ tw_22 a9 U9 h9) ⟨Nat.le_of_ble_eq_true rfl, Nat.le_of_ble_eq_true rfl⟩ (fun v w' H locs hq hI => ?_) (fun k x w' H locs hq hI hX => ?_)
      · obtain ⟨hq1, ⟨hq2, hq3, hq4⟩ | ⟨-, hq4⟩⟩ := hq
        · cases hq4
          rw [hq1] at hI
          rw [em] at hq3
          obtain ⟨e3, e4⟩ := inD_nI ⟨hq2, hq3⟩ (by decide)
          have hin2 : inD v (vs (mm S i)) 512 := ⟨hq2, hq3⟩
          refine W.eq (g2 := F0 m 24 ls []) rfl ?_
          rw [e3] at hl
          refine lv_iload_n hx hb d_EM_write_24 rfl (lv_at hl 3 rfl) ?_
          refine lv_i2l hx hb d_EM_write_25 rfl ?_
          refine lv_iconst (v := nI 0) hx hb d_EM_write_26 (by decide) ?_
          refine lv_iconst (v := nI 2) hx hb d_EM_write_27 (by decide) ?_
          refine mp_call (rest := []) hb hml (c_MS_within l f.toInt64 (nI 0) (nI 2)) (mx_invSN hx hown (hts _ tw_482) (hts _ tw_183) (hts _ tw_21) (hts _ tw_184) (by decide) (g := F0 m 28 ls [.int (nI 2), .int (nI 0), .long (f.toInt64)]) rfl (argsL := [.long (f.toInt64), .int (nI 0), .int (nI 2)]) (rest := []) np_MS_within rfl (by rw [hb]; exact d_EM_write_28)) hl.1 d_EM_write_28 ⟨Nat.le_of_ble_eq_true rfl, Nat.le_of_ble_eq_true rfl⟩ (Or.inl ⟨_, _, List.mem_cons_self⟩) (mk_ws tw_184 hts) (fun a9 U9 h9 => Ts_warm hts _ tw_21 a9 U9 h9) (by first | exact ⟨Nat.le_of_ble_eq_true rfl, Nat.le_of_ble_eq_true rfl⟩ | assumption) (fun v hv => ?_)
          subst hv
          refine W.eq (g2 := F0 m 31 ls [.int (if (nI 0).toInt64 ≤ f.toInt64 ∧ f.toInt64 ≤ (nI 2).toInt64 then 1 else 0)]) rfl ?_
          rw [within_i f (a := 0) (b := 2) (by decide) (by decide)]
          refine lv_if_ne (tgt := 37) hx hb d_EM_write_31 (by decide) (fun c31 => ?_) (fun c31 => ?_)
          ·
            rw [if10.2] at c31
            have hsp : sp_upd S i k v f = _ := (if_pos ⟨hin1, hin2⟩).trans (if_pos c31)
            refine lv_aload_n hx hb d_EM_write_37 rfl (lv_at hl 0 rfl) ?_
            refine lv_iload_n hx hb d_EM_write_38 rfl (lv_at hl 1 rfl) ?_
            refine mw_call (rest := []) K hSy hP0 hI (c_TM_entryOf2 l D dA hA hW hi hk (q := k.toNatClampNeg) e2) (mx_invU (y := y_TM_entryOf) hx hown (hts _ tw_439) (hts _ tw_441) (va_Decl.abs (va_Nw.of rfl (hts _ tw_440))) (by decide) (hts _ tw_446) (hts _ tw_447) (b := (mp i)) (mw_rc K hI f0 rfl) (g := F0 m 39 ls [.int (nI k.toNatClampNeg), .ref (mp i)]) rfl (argsL := [.int (nI k.toNatClampNeg)]) (rest := []) np_EM_entryOf rfl (by rw [hb]; exact d_EM_write_39)) hl.1 d_EM_write_39 ⟨Nat.le_of_ble_eq_true rfl, Nat.le_of_ble_eq_true rfl⟩ (Or.inl ⟨_, _, List.mem_cons_self⟩) (mk_ws tw_448 hts) (fun a9 U9 h9 => Ts_warm hts _ tw_33 a9 U9 h9) ⟨Nat.le_of_ble_eq_true rfl, Nat.le_of_ble_eq_true rfl⟩ (fun v w' H locs hq hI => ?_) (fun k x w' H locs hq hI hX => ?_)
            · obtain ⟨hq5, hA2, hF2⟩ := hq
              cases hq5
              refine W.eq (g2 := F0 m 42 ls [.int (oI (ent S i k.toNatClampNeg))]) rfl ?_
              obtain ⟨n1, n2, n3, n4, n5⟩ := lk_nm S i k.toNatClampNeg
              have hi2 : i < nm (lk S i k.toNatClampNeg) := by rw [n1]; exact hi
              have hW2 := hW.ofL (q := k.toNatClampNeg) hi
              have hk2 : kd (mm (lk S i k.toNatClampNeg) i) = 1 := by show (mm (lk S i k.toNatClampNeg) i).1.1 = _; rw [(n5 i).1]; exact hk
              cases he : ent S i k.toNatClampNeg with
              | some e0 =>
                have hlt := ent_lt he
                rw [he] at hsp
                refine mw_ti (y := nI e0) (rfl) ?_
                refine lv_istore (lv' := [(4, .int (nI e0)), (0, .ref (mp i)), (1, .int (nI k.toNatClampNeg)), (2, .int (nI v.toNatClampNeg)), (3, .int f)]) hx hb d_EM_write_42 hl (by decide) rfl (fun ls hl => ?_)
                refine lv_iload hx hb d_EM_write_44 (lv_at hl 0 rfl) ?_
                refine lv_iconst (v := (-1)) hx hb d_EM_write_46 (by decide) ?_
                refine lv_icmp_eq (tgt := 58) hx hb d_EM_write_47 (by decide) (fun c47 => ?_) (fun c47 => ?_)
                ·
                  exact absurd c47.symm (neg_ne (by omega))
                ·
                  refine lv_iload_n hx hb d_EM_write_50 rfl (lv_at hl 4 rfl) ?_
                  refine lv_iconst (v := nI 1) hx hb d_EM_write_51 (by decide) ?_
                  refine lv_icmp_ne (tgt := 58) hx hb d_EM_write_52 (by decide) (fun c52 => ?_) (fun c52 => ?_)
                  ·
                    have hsp := hsp.trans (if_neg c52)
                    refine lv_iload hx hb d_EM_write_58 (lv_at hl 0 rfl) ?_
                    refine lv_iconst (v := (-1)) hx hb d_EM_write_60 (by decide) ?_
                    refine lv_icmp_ne (tgt := 71) hx hb d_EM_write_61 (by decide) (fun c61 => ?_) (fun c61 => ?_)
                    ·
                      refine lv_iload hx hb d_EM_write_71 (lv_at hl 0 rfl) ?_
                      refine lv_if_ge (tgt := 79) hx hb d_EM_write_73 (by decide) (fun c73 => ?_) (fun c73 => ?_)
                      ·
                        refine W.widen (k := 4) (n := 22) (by decide) (by decide) ?_
                        exact fin hA2 hW2 hi2 (n5 i).1 hlt e4 hF2 hsp H locs hI ls (lv_sub hl [0, 1, 3] rfl)
                      ·
                        exact absurd (nI_pos' (by omega)) c73
                    ·
                      exact absurd c61.symm (neg_ne (by omega))
                  ·
                    have hsp := hsp.trans (if_pos c52)
                    refine lv_bipush (v := (-17)) hx hb d_EM_write_55 (by decide) ?_
                    refine W.widen (k := 4) (n := 22) (by decide) (by decide) ?_
                    refine mw_iret K hI hr hlk ?_ d_EM_write_57
                    rw [hsp]
                    exact ⟨rfl, own, gd, ga, hA2, hF2⟩
              | none =>
                rw [he] at hsp
                refine mw_ti (y := (-1)) (rfl) ?_
                refine lv_istore (lv' := [(4, .int (-1)), (0, .ref (mp i)), (1, .int (nI k.toNatClampNeg)), (2, .int (nI v.toNatClampNeg)), (3, .int f)]) hx hb d_EM_write_42 hl (by decide) rfl (fun ls hl => ?_)
                refine lv_iload hx hb d_EM_write_44 (lv_at hl 0 rfl) ?_
                refine lv_iconst (v := (-1)) hx hb d_EM_write_46 (by decide) ?_
                refine lv_icmp_eq (tgt := 58) hx hb d_EM_write_47 (by decide) (fun c47 => ?_) (fun c47 => ?_)
                ·
                  refine lv_iload hx hb d_EM_write_58 (lv_at hl 0 rfl) ?_
                  refine lv_iconst (v := (-1)) hx hb d_EM_write_60 (by decide) ?_
                  refine lv_icmp_ne (tgt := 71) hx hb d_EM_write_61 (by decide) (fun c61 => ?_) (fun c61 => ?_)
                  ·
                    exact absurd rfl c61
                  ·
                    obtain ⟨ka2, ak2, rch2, wk2, f02⟩ := rc_TM (hA2.2 i hi2) hk2
                    refine lv_aload_n hx hb d_EM_write_64 rfl (lv_at hl 1 rfl) ?_
                    refine lv_iload_n hx hb d_EM_write_65 rfl (lv_at hl 4 rfl) ?_
                    refine mw_call (rest := []) K hSy hP0 hI (c_TM_entryForMissing l D dA hA2 hW2 hi2 hk2 f (fnd_lk he)) (mx_invU (y := y_TM_entryForMissing) hx hown (hts _ tw_483) (hts _ tw_485) (va_Decl.abs (va_Nw.of rfl (hts _ tw_484))) (by decide) (hts _ tw_489) (hts _ tw_490) (b := (mp i)) (mw_rc K hI f02 rfl) (g := F0 m 66 ls [.int f, .ref (mp i)]) rfl (argsL := [.int f]) (rest := []) np_EM_entryForMissing rfl (by rw [hb]; exact d_EM_write_66)) hl.1 d_EM_write_66 ⟨Nat.le_of_ble_eq_true rfl, Nat.le_of_ble_eq_true rfl⟩ (Or.inl ⟨_, _, List.mem_cons_self⟩) (mk_ws tw_491 hts) (fun a9 U9 h9 => Ts_warm hts _ tw_33 a9 U9 h9) ⟨Nat.le_of_ble_eq_true rfl, Nat.le_of_ble_eq_true rfl⟩ (fun v w' H locs hq hI => ?_) (fun k x w' H locs hq hI hX => ?_)
                    · obtain ⟨hq5, own3, hA3, hF3⟩ := hq
                      cases hq5
                      refine W.eq (g2 := F0 m 69 ls [.int (sp_miss (lk S i k.toNatClampNeg) i f).2]) rfl ?_
                      refine lv_istore (lv' := [(4, .int (sp_miss (lk S i k.toNatClampNeg) i f).2), (0, .ref (mp i)), (1, .int (nI k.toNatClampNeg)), (2, .int (nI v.toNatClampNeg)), (3, .int f)]) hx hb d_EM_write_69 hl (by decide) rfl (fun ls hl => ?_)
                      refine lv_iload hx hb d_EM_write_71 (lv_at hl 0 rfl) ?_
                      refine lv_if_ge (tgt := 79) hx hb d_EM_write_73 (by decide) (fun c73 => ?_) (fun c73 => ?_)
                      ·
                        have hnn : ¬ (sp_miss (lk S i k.toNatClampNeg) i f).2 < nI 0 := by rw [Int32.le_iff_toInt_le] at c73; rw [nI_0, Int32.lt_iff_toInt_lt]; omega
                        have hsp := hsp.trans (if_neg hnn)
                        obtain ⟨hk0, e9, hfe, hms⟩ := sp_miss_ge hnn
                        rw [hms] at hsp hl hA3
                        obtain ⟨hlt9, -, -⟩ := lst_is hfe
                        have hlt8 : e9 < en (mm S i) := by
                          have h9 : e9 < (mm (lk S i k.toNatClampNeg) i).1.2.2.2.1 := hlt9
                          rw [(n5 i).1] at h9; exact h9
                        have hk1 : kd (mm (lk S i k.toNatClampNeg) i) = 1 := by
                          rcases ((Or.inr hk) : kd (mm S i) = 0 ∨ kd (mm S i) = 1) with z | z
                          · exact absurd (by show (mm (lk S i k.toNatClampNeg) i).1.1 = 0; rw [(n5 i).1]; exact z) hk0
                          · show (mm (lk S i k.toNatClampNeg) i).1.1 = 1
                            rw [(n5 i).1]; exact z
                        have hcl : (nI e9).toNatClampNeg = e9 := nI_clamp (by omega)
                        rw [hcl] at hsp
                        refine fin hA3 (hW2.ofG hi2 hk1 (fnd_lk he hk1) hlt9) hi2 ?_ hlt8 e4 (hF2.trans hF3) hsp H locs hI ls (lv_sub hl [0, 1, 3] rfl)
                        show (mm (gvE (lk S i k.toNatClampNeg) i e9) i).1 = _
                        unfold gvE
                        rw [S_mm_self]
                        exact (n5 i).1
                      ·
                        have hnn : (sp_miss (lk S i k.toNatClampNeg) i f).2 < nI 0 := by rw [Int32.le_iff_toInt_le] at c73; rw [nI_0, Int32.lt_iff_toInt_lt]; omega
                        have hsp := hsp.trans (if_pos hnn)
                        refine lv_iload hx hb d_EM_write_76 (lv_at hl 0 rfl) ?_
                        refine mw_iret K hI hr hlk ?_ d_EM_write_78
                        rw [hsp]
                        exact ⟨rfl, own3, gd, ga, hA3, hF2.trans hF3⟩
                    · exact absurd hq.1 (by simp)
                ·
                  exact absurd rfl c47
            · exact absurd hq.1 (by simp)
          ·
            rw [if10.1] at c31
            have hsp : sp_upd S i k v f = _ := (if_pos ⟨hin1, hin2⟩).trans (if_neg c31)
            refine lv_bipush (v := (-22)) hx hb d_EM_write_34 (by decide) ?_
            refine W.widen (k := 4) (n := 22) (by decide) (by decide) ?_
            refine mw_iret K hI hr hlk ?_ d_EM_write_36
            rw [hsp]
            exact ⟨rfl, own, gd, ga, hA, Fr.rf w own⟩
        · cases hq4
      · obtain ⟨hq1, ⟨-, -, hq4⟩ | ⟨hq2, hq4⟩⟩ := hq
        · cases hq4
        · cases hq4
          rw [hq1] at hI
          rw [em] at hq2
          refine WT.widen (k := 4) (n := 22) (by decide) (by decide) ?_
          refine mw_on hI hce hlk hX ?_
          unfold sp_upd
          rw [if_neg (fun z => hq2 z.2)]
          exact ⟨rfl, own, gd, ga, hA, Fr.rf w own⟩
    · cases hq4
  · obtain ⟨hq1, ⟨-, -, hq4⟩ | ⟨hq2, hq4⟩⟩ := hq
    · cases hq4
    · cases hq4
      rw [hq1] at hI
      rw [em] at hq2
      refine WT.widen (k := 4) (n := 22) (by decide) (by decide) ?_
      refine mw_on hI hce hlk hX ?_
      unfold sp_upd
      rw [if_neg (fun z => hq2 z.1)]
      exact ⟨rfl, own, gd, ga, hA, Fr.rf w own⟩
end
section
/-! ### tables: remove, next; what a kind does not do -/
theorem d_TM_free_0 : decode b_TM_free 0 = .ok (.aload_n 0, 1) := by decide +kernel
theorem d_TM_free_1 : decode b_TM_free 1 = .ok (.getfield 34, 3) := by decide +kernel
theorem d_TM_free_4 : decode b_TM_free 4 = .ok (.iload_n 1, 1) := by decide +kernel
theorem d_TM_free_5 : decode b_TM_free 5 = .ok (.aload_n 0, 1) := by decide +kernel
theorem d_TM_free_6 : decode b_TM_free 6 = .ok (.getfield 37, 3) := by decide +kernel
theorem d_TM_free_9 : decode b_TM_free 9 = .ok (.invokevirtual 55, 3) := by decide +kernel
theorem d_TM_free_12 : decode b_TM_free 12 = .ok (.aload_n 0, 1) := by decide +kernel
theorem d_TM_free_13 : decode b_TM_free 13 = .ok (.iload_n 1, 1) := by decide +kernel
theorem d_TM_free_14 : decode b_TM_free 14 = .ok (.invokevirtual 59, 3) := by decide +kernel
theorem d_TM_free_17 : decode b_TM_free 17 = .ok (.istore_n 2, 1) := by decide +kernel
theorem d_TM_free_18 : decode b_TM_free 18 = .ok (.iload_n 2, 1) := by decide +kernel
theorem d_TM_free_19 : decode b_TM_free 19 = .ok (.iconst (-1), 1) := by decide +kernel
theorem d_TM_free_20 : decode b_TM_free 20 = .ok (.if_icmp .ne 6, 3) := by decide +kernel
theorem d_TM_free_23 : decode b_TM_free 23 = .ok (.bipush (-2), 2) := by decide +kernel
theorem d_TM_free_25 : decode b_TM_free 25 = .ok (.ireturn, 1) := by decide +kernel
theorem d_TM_free_26 : decode b_TM_free 26 = .ok (.aload_n 0, 1) := by decide +kernel
theorem d_TM_free_27 : decode b_TM_free 27 = .ok (.getfield 23, 3) := by decide +kernel
theorem d_TM_free_30 : decode b_TM_free 30 = .ok (.iload_n 2, 1) := by decide +kernel
theorem d_TM_free_31 : decode b_TM_free 31 = .ok (.aconst_null, 1) := by decide +kernel
theorem d_TM_free_32 : decode b_TM_free 32 = .ok (.aastore, 1) := by decide +kernel
theorem d_TM_free_33 : decode b_TM_free 33 = .ok (.aload_n 0, 1) := by decide +kernel
theorem d_TM_free_34 : decode b_TM_free 34 = .ok (.dup, 1) := by decide +kernel
theorem d_TM_free_35 : decode b_TM_free 35 = .ok (.getfield 15, 3) := by decide +kernel
theorem d_TM_free_38 : decode b_TM_free 38 = .ok (.iconst 1, 1) := by decide +kernel
theorem d_TM_free_39 : decode b_TM_free 39 = .ok (.isub, 1) := by decide +kernel
theorem d_TM_free_40 : decode b_TM_free 40 = .ok (.putfield 15, 3) := by decide +kernel
theorem d_TM_free_43 : decode b_TM_free 43 = .ok (.iconst 0, 1) := by decide +kernel
theorem d_TM_free_44 : decode b_TM_free 44 = .ok (.ireturn, 1) := by decide +kernel
theorem d_TM_keyAfter_0 : decode b_TM_keyAfter 0 = .ok (.aload_n 0, 1) := by decide +kernel
theorem d_TM_keyAfter_1 : decode b_TM_keyAfter 1 = .ok (.getfield 34, 3) := by decide +kernel
theorem d_TM_keyAfter_4 : decode b_TM_keyAfter 4 = .ok (.iload_n 2, 1) := by decide +kernel
theorem d_TM_keyAfter_5 : decode b_TM_keyAfter 5 = .ok (.aload_n 0, 1) := by decide +kernel
theorem d_TM_keyAfter_6 : decode b_TM_keyAfter 6 = .ok (.getfield 37, 3) := by decide +kernel
theorem d_TM_keyAfter_9 : decode b_TM_keyAfter 9 = .ok (.invokevirtual 55, 3) := by decide +kernel
theorem d_TM_keyAfter_12 : decode b_TM_keyAfter 12 = .ok (.iconst (-1), 1) := by decide +kernel
theorem d_TM_keyAfter_13 : decode b_TM_keyAfter 13 = .ok (.istore_n 3, 1) := by decide +kernel
theorem d_TM_keyAfter_14 : decode b_TM_keyAfter 14 = .ok (.iload_n 1, 1) := by decide +kernel
theorem d_TM_keyAfter_15 : decode b_TM_keyAfter 15 = .ok (.iconst (-1), 1) := by decide +kernel
theorem d_TM_keyAfter_16 : decode b_TM_keyAfter 16 = .ok (.if_icmp .eq 21, 3) := by decide +kernel
theorem d_TM_keyAfter_19 : decode b_TM_keyAfter 19 = .ok (.aload_n 0, 1) := by decide +kernel
theorem d_TM_keyAfter_20 : decode b_TM_keyAfter 20 = .ok (.getfield 34, 3) := by decide +kernel
theorem d_TM_keyAfter_23 : decode b_TM_keyAfter 23 = .ok (.iload_n 1, 1) := by decide +kernel
theorem d_TM_keyAfter_24 : decode b_TM_keyAfter 24 = .ok (.aload_n 0, 1) := by decide +kernel
theorem d_TM_keyAfter_25 : decode b_TM_keyAfter 25 = .ok (.getfield 37, 3) := by decide +kernel
theorem d_TM_keyAfter_28 : decode b_TM_keyAfter 28 = .ok (.invokevirtual 55, 3) := by decide +kernel
theorem d_TM_keyAfter_31 : decode b_TM_keyAfter 31 = .ok (.aload_n 0, 1) := by decide +kernel
theorem d_TM_keyAfter_32 : decode b_TM_keyAfter 32 = .ok (.iload_n 1, 1) := by decide +kernel
theorem d_TM_keyAfter_33 : decode b_TM_keyAfter 33 = .ok (.invokevirtual 59, 3) := by decide +kernel
theorem d_TM_keyAfter_36 : decode b_TM_keyAfter 36 = .ok (.istore_n 3, 1) := by decide +kernel
theorem d_TM_keyAfter_37 : decode b_TM_keyAfter 37 = .ok (.iload_n 3, 1) := by decide +kernel
theorem d_TM_keyAfter_38 : decode b_TM_keyAfter 38 = .ok (.iconst 1, 1) := by decide +kernel
theorem d_TM_keyAfter_39 : decode b_TM_keyAfter 39 = .ok (.iadd, 1) := by decide +kernel
theorem d_TM_keyAfter_40 : decode b_TM_keyAfter 40 = .ok (.istore 4, 2) := by decide +kernel
theorem d_TM_keyAfter_42 : decode b_TM_keyAfter 42 = .ok (.iload 4, 2) := by decide +kernel
theorem d_TM_keyAfter_44 : decode b_TM_keyAfter 44 = .ok (.aload_n 0, 1) := by decide +kernel
theorem d_TM_keyAfter_45 : decode b_TM_keyAfter 45 = .ok (.getfield 9, 3) := by decide +kernel
theorem d_TM_keyAfter_48 : decode b_TM_keyAfter 48 = .ok (.if_icmp .ge 41, 3) := by decide +kernel
theorem d_TM_keyAfter_51 : decode b_TM_keyAfter 51 = .ok (.aload_n 0, 1) := by decide +kernel
theorem d_TM_keyAfter_52 : decode b_TM_keyAfter 52 = .ok (.getfield 23, 3) := by decide +kernel
theorem d_TM_keyAfter_55 : decode b_TM_keyAfter 55 = .ok (.iload 4, 2) := by decide +kernel
theorem d_TM_keyAfter_57 : decode b_TM_keyAfter 57 = .ok (.aaload, 1) := by decide +kernel
theorem d_TM_keyAfter_58 : decode b_TM_keyAfter 58 = .ok (.astore 5, 2) := by decide +kernel
theorem d_TM_keyAfter_60 : decode b_TM_keyAfter 60 = .ok (.aload 5, 2) := by decide +kernel
theorem d_TM_keyAfter_62 : decode b_TM_keyAfter 62 = .ok (.ifnull 21, 3) := by decide +kernel
theorem d_TM_keyAfter_65 : decode b_TM_keyAfter 65 = .ok (.aload_n 0, 1) := by decide +kernel
theorem d_TM_keyAfter_66 : decode b_TM_keyAfter 66 = .ok (.getfield 34, 3) := by decide +kernel
theorem d_TM_keyAfter_69 : decode b_TM_keyAfter 69 = .ok (.iload_n 2, 1) := by decide +kernel
theorem d_TM_keyAfter_70 : decode b_TM_keyAfter 70 = .ok (.aload 5, 2) := by decide +kernel
theorem d_TM_keyAfter_72 : decode b_TM_keyAfter 72 = .ok (.iconst 0, 1) := by decide +kernel
theorem d_TM_keyAfter_73 : decode b_TM_keyAfter 73 = .ok (.aload_n 0, 1) := by decide +kernel
theorem d_TM_keyAfter_74 : decode b_TM_keyAfter 74 = .ok (.getfield 37, 3) := by decide +kernel
theorem d_TM_keyAfter_77 : decode b_TM_keyAfter 77 = .ok (.invokevirtual 40, 3) := by decide +kernel
theorem d_TM_keyAfter_80 : decode b_TM_keyAfter 80 = .ok (.iload 4, 2) := by decide +kernel
theorem d_TM_keyAfter_82 : decode b_TM_keyAfter 82 = .ok (.ireturn, 1) := by decide +kernel
theorem d_TM_keyAfter_83 : decode b_TM_keyAfter 83 = .ok (.iinc 4 1, 3) := by decide +kernel
theorem d_TM_keyAfter_86 : decode b_TM_keyAfter 86 = .ok (.goto (-44), 3) := by decide +kernel
theorem d_TM_keyAfter_89 : decode b_TM_keyAfter 89 = .ok (.iconst (-1), 1) := by decide +kernel
theorem d_TM_keyAfter_90 : decode b_TM_keyAfter 90 = .ok (.ireturn, 1) := by decide +kernel
theorem d_AN_placeOf_0 : decode b_AN_placeOf 0 = .ok (.bipush (-22), 2) := by decide +kernel
theorem d_AN_placeOf_2 : decode b_AN_placeOf 2 = .ok (.ireturn, 1) := by decide +kernel
theorem d_AN_write_0 : decode b_AN_write 0 = .ok (.bipush (-22), 2) := by decide +kernel
theorem d_AN_write_2 : decode b_AN_write 2 = .ok (.ireturn, 1) := by decide +kernel
theorem d_AN_free_0 : decode b_AN_free 0 = .ok (.bipush (-22), 2) := by decide +kernel
theorem d_AN_free_2 : decode b_AN_free 2 = .ok (.ireturn, 1) := by decide +kernel
theorem d_AN_putRecord_0 : decode b_AN_putRecord 0 = .ok (.bipush (-22), 2) := by decide +kernel
theorem d_AN_putRecord_2 : decode b_AN_putRecord 2 = .ok (.ireturn, 1) := by decide +kernel
theorem d_AN_takeRecord_0 : decode b_AN_takeRecord 0 = .ok (.bipush (-22), 2) := by decide +kernel
theorem d_AN_takeRecord_2 : decode b_AN_takeRecord 2 = .ok (.ireturn, 1) := by decide +kernel
theorem d_AN_keyAfter_0 : decode b_AN_keyAfter 0 = .ok (.bipush (-22), 2) := by decide +kernel
theorem d_AN_keyAfter_2 : decode b_AN_keyAfter 2 = .ok (.ireturn, 1) := by decide +kernel
theorem tb_n_l2 (t : Nat → Option (List Nat)) {e : Nat} (v : Option (List Nat)) : ∀ {n}, n ≤ e → tb_n (va_up t e v) n = tb_n t n
  | 0, _ => rfl
  | n + 1, h => by rw [tb_n, tb_n, tb_n_l2 t v (by omega), va_up_ne _ _ (by omega)]
theorem tb_n_dn (t : Nat → Option (List Nat)) {e : Nat} {k : List Nat} (he : t e = some k) : ∀ {n}, e < n → tb_n (va_up t e none) n + 1 = tb_n t n
  | 0, h => absurd h (by omega)
  | n + 1, h => by
    rw [tb_n, tb_n]
    by_cases q : e < n
    · have := tb_n_dn t he q
      rw [va_up_ne _ _ (by omega)]; omega
    · have e1 : e = n := by omega
      subst e1
      rw [va_up_self, he, tb_n_l2 t _ (Nat.le_refl e)]; rfl
theorem fnd_is {m : as_M} {k : List Nat} {e : Nat} (h : fnd m k = some e) : e < en m ∧ tb m e = some k := by
  obtain ⟨h1, h2, -⟩ := lst_is h
  exact ⟨h1, of_decide_eq_true h2⟩
set_option maxRecDepth 100000 in
set_option maxHeartbeats 4000000 in
theorem c_TM_free (l : Launch) (D : va_G) (dA : Nat → ClassId) (hL : mw_L l) {w : mw_W} {own : as_W} {x bd xd ba xa ra : Nat} {mp : Nat → Nat} {gd ga : Nat → Int64} {S : as_S} {t : Nat} (hA : rc_A dA w own x bd xd ba xa ra mp gd ga S) (hW : wf_S t S) {i : Nat} (hi : i < nm S) (hk : kd (mm S i) = 1) (k : Int32) : CT l D dA y_TM_free (Cond.code y_TM_free b_TM_free 3 (some .int) :: Ts) 7 110 1 6 [.ref (mp i), .int k] w (PC dA w own x bd xd ba xa ra mp (sp_free S i k)) := by
  refine mw_meth (by decide) mk_tb (Nat.le_of_ble_eq_true rfl) ?_
  intro p e s m below meth c K hr hlk hce hnm hP0 hSy ls hl
  have hl : lv_has ls 3 [(0, .ref (mp i)), (1, .int k)] := hl
  obtain ⟨hx, hb, hml, hown, hts, hK, hTb⟩ := id K
  have hI := mw_I.start hP0
  obtain ⟨⟨o1, o2, o3, o4, fx, fd, fa, fr, hdk, har⟩, hM⟩ := id hA
  have hwf := hW.2.2.2.2.2 i hi
  obtain ⟨b1, b2, b3, b4, b5, b6, b7, b8⟩ := wf_E hwf (Or.inr hk)
  obtain ⟨ka, ak, rch, wk, f0⟩ := rc_TM (hA.2 i hi) hk
  obtain ⟨mi, em⟩ : ∃ mi, mi = mm S i := ⟨_, rfl⟩
  rw [← em] at f0
  refine lv_aload_n hx hb d_TM_free_0 rfl (lv_at hl 0 rfl) ?_
  refine mw_get K hI gf_TM_34_cTM f0 rfl d_TM_free_1 ?_
  refine lv_iload_n hx hb d_TM_free_4 rfl (lv_at hl 1 rfl) ?_
  refine lv_aload_n hx hb d_TM_free_5 rfl (lv_at hl 0 rfl) ?_
  refine mw_get K hI gf_TM_37_cTM f0 rfl d_TM_free_6 ?_
  refine mw_call (rest := []) K hSy hP0 hI (c_BY_demand l D dA hL fd (by decide) k (k := ks mi) (by rw [em]; omega)) (mx_invV hx hown (hts _ tw_522) (hts _ tw_373) (hts _ tw_374) (hts _ tw_375) (by decide) (b := bd) (mw_rc K hI fd.1 rfl) (g := F0 m 9 ls [.int (nI (ks mi)), .int k, .ref bd]) rfl (argsL := [.int k, .int (nI (ks mi))]) (rest := []) np_BY_demand rfl (by rw [hb]; exact d_TM_free_9)) hl.1 d_TM_free_9 ⟨Nat.le_of_ble_eq_true rfl, Nat.le_of_ble_eq_true rfl⟩ (Or.inl ⟨_, _, List.mem_cons_self⟩) (mk_ws tw_375 hts) (fun a9 U9 h9 => Ts_warm hts _ tw_22 a9 U9 h9) ⟨Nat.le_of_ble_eq_true rfl, Nat.le_of_ble_eq_true rfl⟩ (fun v w' H locs hq hI => ?_) (fun k x w' H locs hq hI hX => ?_)
  · obtain ⟨hq1, ⟨hq2, hq3, hq4⟩ | ⟨-, hq4⟩⟩ := hq
    · cases hq4
      rw [hq1] at hI
      rw [em] at hq3
      obtain ⟨e1, e2⟩ := inD_nI ⟨hq2, hq3⟩ (by decide)
      have hsp : sp_free S i k = _ := if_pos ⟨hq2, hq3⟩
      refine W.eq (g2 := F0 m 12 ls []) rfl ?_
      rw [e1] at hl
      refine lv_aload_n hx hb d_TM_free_12 rfl (lv_at hl 0 rfl) ?_
      refine lv_iload_n hx hb d_TM_free_13 rfl (lv_at hl 1 rfl) ?_
      refine mw_call (rest := []) K hSy hP0 hI (c_TM_entryOf2 l D dA hA hW hi hk (q := k.toNatClampNeg) e2) (mx_invV hx hown (hts _ tw_523) (hts _ tw_447) (hts _ tw_804) (hts _ tw_448) (by decide) (b := (mp i)) (mw_rc K hI f0 rfl) (g := F0 m 14 ls [.int (nI k.toNatClampNeg), .ref (mp i)]) rfl (argsL := [.int (nI k.toNatClampNeg)]) (rest := []) np_TM_entryOf rfl (by rw [hb]; exact d_TM_free_14)) hl.1 d_TM_free_14 ⟨Nat.le_of_ble_eq_true rfl, Nat.le_of_ble_eq_true rfl⟩ (Or.inl ⟨_, _, List.mem_cons_self⟩) (mk_ws tw_448 hts) (fun a9 U9 h9 => Ts_warm hts _ tw_33 a9 U9 h9) ⟨Nat.le_of_ble_eq_true rfl, Nat.le_of_ble_eq_true rfl⟩ (fun v w' H locs hq hI => ?_) (fun k x w' H locs hq hI hX => ?_)
      · obtain ⟨hq5, hA2, hF2⟩ := hq
        cases hq5
        refine W.eq (g2 := F0 m 17 ls [.int (oI (ent S i k.toNatClampNeg))]) rfl ?_
        obtain ⟨n1, n2, n3, n4, n5⟩ := lk_nm S i k.toNatClampNeg
        have hi2 : i < nm (lk S i k.toNatClampNeg) := by rw [n1]; exact hi
        have hk2 : kd (mm (lk S i k.toNatClampNeg) i) = 1 := by show (mm (lk S i k.toNatClampNeg) i).1.1 = _; rw [(n5 i).1]; exact hk
        have hen2 : en (mm (lk S i k.toNatClampNeg) i) = en (mm S i) := by show (mm (lk S i k.toNatClampNeg) i).1.2.2.2.1 = _; rw [(n5 i).1]
        cases he : ent S i k.toNatClampNeg with
        | none =>
          rw [he] at hsp
          refine mw_ti (y := (-1)) (rfl) ?_
          refine lv_istore_n (lv' := [(2, .int (-1)), (0, .ref (mp i)), (1, .int (nI k.toNatClampNeg))]) hx hb d_TM_free_17 rfl hl (by decide) rfl (fun ls hl => ?_)
          refine lv_iload_n hx hb d_TM_free_18 rfl (lv_at hl 0 rfl) ?_
          refine lv_iconst (v := (-1)) hx hb d_TM_free_19 (by decide) ?_
          refine lv_icmp_ne (tgt := 26) hx hb d_TM_free_20 (by decide) (fun c20 => ?_) (fun c20 => ?_)
          ·
            exact absurd rfl c20
          ·
            refine lv_bipush (v := (-2)) hx hb d_TM_free_23 (by decide) ?_
            refine mw_iret K hI hr hlk ?_ d_TM_free_25
            rw [hsp]
            exact ⟨rfl, own, gd, ga, hA2, hF2⟩
        | some e0 =>
          have hlt := ent_lt he
          rw [he] at hsp
          have hke : ∃ ky, tb (mm (lk S i k.toNatClampNeg) i) e0 = some ky := by
            rw [ent_1 _ hk] at he
            exact ⟨_, (congrFun (n5 i).2 e0).trans (fnd_is he).2⟩
          generalize eS2 : lk S i k.toNatClampNeg = S2 at *
          obtain ⟨ky, hke⟩ := hke
          obtain ⟨om, ⟨k0, -⟩ | ⟨k0, ka, ak, ax, rch, gk, ff, f0, oka, oax, fk, hbl, f1, hr1, hn1, hs1⟩ | ⟨k0, -⟩⟩ := hA2.2 i hi2
          · rw [hk2] at k0; cases k0
          · obtain ⟨mi, em⟩ : ∃ mi, mi = mm S2 i := ⟨_, rfl⟩
            rw [← em] at f0 f1 hke hn1 hs1 fk hbl hr1 hk2 hen2
            have htd := tb_n_dn (tb mi) hke (n := en mi) (by omega)
            have htn := tb_n_le (tb mi) (en mi)
            have f0_0 := f0
            have f1_0 := f1
            generalize ea : mp i = a at *
            refine mw_ti (y := nI e0) (rfl) ?_
            refine lv_istore_n (lv' := [(2, .int (nI e0)), (0, .ref a), (1, .int (nI k.toNatClampNeg))]) hx hb d_TM_free_17 rfl hl (by decide) rfl (fun ls hl => ?_)
            refine lv_iload_n hx hb d_TM_free_18 rfl (lv_at hl 0 rfl) ?_
            refine lv_iconst (v := (-1)) hx hb d_TM_free_19 (by decide) ?_
            refine lv_icmp_ne (tgt := 26) hx hb d_TM_free_20 (by decide) (fun c20 => ?_) (fun c20 => ?_)
            ·
              refine lv_aload_n hx hb d_TM_free_26 rfl (lv_at hl 1 rfl) ?_
              refine mw_get K hI gf_TM_23_cTM f0 rfl d_TM_free_27 ?_
              refine lv_iload_n hx hb d_TM_free_30 rfl (lv_at hl 0 rfl) ?_
              refine lv_null hx hb d_TM_free_31 ?_
              refine mw_aastN K hI tBY f1 rfl e0 rfl (by first | assumption | omega) (by omega) d_TM_free_32 (fun H locs hI => ?_)
              have hI : mw_I D mk_cl w s.heap (mw_up w' ka (.inl (dA tBY, en mi, .inr (.inr (.inr (.inr (va_up ff e0 none))))))) H _ := hI
              have f0 : (mw_up w' ka (.inl (dA tBY, en mi, .inr (.inr (.inr (.inr (va_up ff e0 none))))))) a = some (.inr (cTM, [.ref bd, .ref ba, .int (nI (bg mi)), .int (nI (ks mi)), .int (nI (vs mi)), .int (nI (en mi)), .ref ka, .ref ak, .int (nI rch), .int (nI (tb_n (tb mi) (en mi))), .int (nI 0)])) := by rw [mw_up_n _ _ (mw_neA f0 f1)]; exact f0
              have f1 : (mw_up w' ka (.inl (dA tBY, en mi, .inr (.inr (.inr (.inr (va_up ff e0 none))))))) ka = some (.inl (dA tBY, en mi, .inr (.inr (.inr (.inr (va_up ff e0 none)))))) := mw_up_s _ _ _
              refine lv_aload_n hx hb d_TM_free_33 rfl (lv_at hl 1 rfl) ?_
              refine lv_dup hx hb d_TM_free_34 rfl ?_
              refine mw_get K hI gf_TM_15_cTM f0 rfl d_TM_free_35 ?_
              refine lv_iconst (v := nI 1) hx hb d_TM_free_38 (by decide) ?_
              refine lv_isub hx hb d_TM_free_39 ?_
              refine mw_ti (pk_sub (by omega)) ?_
              refine mw_put K hI gp_TM_15_cTM (Or.inl ⟨_, rfl, rfl⟩) f0 rfl rfl (by simp) d_TM_free_40 (fun H locs hI => ?_)
              have hI : mw_I D mk_cl w s.heap (mw_up (mw_up w' ka (.inl (dA tBY, en mi, .inr (.inr (.inr (.inr (va_up ff e0 none))))))) a (.inr (cTM, [.ref bd, .ref ba, .int (nI (bg mi)), .int (nI (ks mi)), .int (nI (vs mi)), .int (nI (en mi)), .ref ka, .ref ak, .int (nI rch), .int (nI ((tb_n (tb mi) (en mi)) - 1)), .int (nI 0)]))) H _ := hI
              have f1 : (mw_up (mw_up w' ka (.inl (dA tBY, en mi, .inr (.inr (.inr (.inr (va_up ff e0 none))))))) a (.inr (cTM, [.ref bd, .ref ba, .int (nI (bg mi)), .int (nI (ks mi)), .int (nI (vs mi)), .int (nI (en mi)), .ref ka, .ref ak, .int (nI rch), .int (nI ((tb_n (tb mi) (en mi)) - 1)), .int (nI 0)]))) ka = some (.inl (dA tBY, en mi, .inr (.inr (.inr (.inr (va_up ff e0 none)))))) := by rw [mw_up_n _ _ ((mw_neA f0 f1).symm)]; exact f1
              have f0 : (mw_up (mw_up w' ka (.inl (dA tBY, en mi, .inr (.inr (.inr (.inr (va_up ff e0 none))))))) a (.inr (cTM, [.ref bd, .ref ba, .int (nI (bg mi)), .int (nI (ks mi)), .int (nI (vs mi)), .int (nI (en mi)), .ref ka, .ref ak, .int (nI rch), .int (nI ((tb_n (tb mi) (en mi)) - 1)), .int (nI 0)]))) a = some (.inr (cTM, [.ref bd, .ref ba, .int (nI (bg mi)), .int (nI (ks mi)), .int (nI (vs mi)), .int (nI (en mi)), .ref ka, .ref ak, .int (nI rch), .int (nI ((tb_n (tb mi) (en mi)) - 1)), .int (nI 0)])) := mw_up_s _ _ _
              refine lv_iconst (v := nI 0) hx hb d_TM_free_43 (by decide) ?_
              refine mw_iret K hI hr hlk ?_ d_TM_free_44
              rw [hsp]
              have nea : ∀ {q' : Nat} {y : va_E}, w' q' = some y → (¬ roleI i (own q') ∨ ∃ fs, y = .inr (cBY, fs)) → q' ≠ a := fun {q' y} hy hz e => by
                subst e
                rcases hz with hz | ⟨fs, hz⟩
                · exact hz (by rw [om]; exact Or.inl rfl)
                · rw [hz] at hy; exact absurd (hy.symm.trans f0_0) (by intro z; injection z with z; injection z with z; injection z with z; exact absurd z (by decide))
              have neka : ∀ {q' : Nat} {y : va_E}, w' q' = some y → (¬ roleI i (own q') ∨ ∃ fs, y = .inr (cBY, fs)) → q' ≠ ka := fun {q' y} hy hz e => by
                subst e
                rcases hz with hz | ⟨fs, hz⟩
                · exact hz (by rw [oka]; exact Or.inr (Or.inl rfl))
                · rw [hz] at hy; exact absurd (hy.symm.trans f1_0) (by simp)
              refine ⟨rfl, own, gd, ga, ?_, ?_⟩
              · refine hA2.map (i := i) (own' := own) ?_ (fun q' y hy hz => by rw [mw_up_n _ _ (nea hy hz), mw_up_n _ _ (neka hy hz)]; exact hy) (fun _ _ _ => rfl)
                rw [ea, ← em]
                have kb9 : ∀ {b x n : Nat} {g : Nat → Int64}, by_ok dA w' b x n g → (own x).1 ≠ 7 → (own x).1 ≠ 5 → by_ok dA (mw_up (mw_up w' ka (.inl (dA tBY, en mi, .inr (.inr (.inr (.inr (va_up ff e0 none))))))) a (.inr (cTM, [.ref bd, .ref ba, .int (nI (bg mi)), .int (nI (ks mi)), .int (nI (vs mi)), .int (nI (en mi)), .ref ka, .ref ak, .int (nI rch), .int (nI ((tb_n (tb mi) (en mi)) - 1)), .int (nI 0)]))) b x n g := fun {b x n g} hb h7 h5 => by
                  refine ⟨?_, ?_⟩
                  · rw [mw_up_n _ _ (nea hb.1 (Or.inr ⟨_, rfl⟩)), mw_up_n _ _ (neka hb.1 (Or.inr ⟨_, rfl⟩))]; exact hb.1
                  · rw [mw_up_n _ _ (fun z => h7 (by rw [z, om])), mw_up_n _ _ (fun z => h5 (by rw [z, oka]))]; exact hb.2
                refine ⟨om, Or.inr (Or.inl ⟨hk2, ka, ak, ax, rch, gk, va_up ff e0 none, ?_, oka, oax, kb9 fk (by rw [oax]; simp) (by rw [oax]; simp), hbl, f1, hr1, fun e he ht => ?_, fun e k' he => ?_⟩)⟩
                · rw [f0]
                  have : tb_n (tb mi) (en mi) - 1 = tb_n (va_up (tb mi) e0 none) (en mi) := by omega
                  rw [this]; rfl
                · have ht' : va_up (tb mi) e0 none e = none := ht
                  by_cases hee : e = e0
                  · rw [hee, va_up_self]
                  · rw [va_up_ne _ _ hee] at ht' ⊢; exact hn1 e he ht'
                · have he' : va_up (tb mi) e0 none e = some k' := he
                  by_cases hee : e = e0
                  · rw [hee, va_up_self] at he'; cases he'
                  · rw [va_up_ne _ _ hee] at he'
                    obtain ⟨g1, kb', kx', g, g2, g3, g4, g5⟩ := hs1 e k' he'
                    exact ⟨g1, kb', kx', g, (va_up_ne _ _ hee).trans g2, g3, kb9 g4 (by rw [g3]; simp) (by rw [g3]; simp), g5⟩
              · refine hF2.trans ((Fr.up f1_0 (by rw [oka]; simp)).trans (Fr.up (y0 := .inr (cTM, [.ref bd, .ref ba, .int (nI (bg mi)), .int (nI (ks mi)), .int (nI (vs mi)), .int (nI (en mi)), .ref ka, .ref ak, .int (nI rch), .int (nI (tb_n (tb mi) (en mi))), .int (nI 0)])) ?_ (by rw [om]; simp)))
                rw [mw_up_n _ _ (mw_neA f0_0 f1_0)]; exact f0_0
            ·
              exact absurd c20.symm (neg_ne (by omega))
          · rw [hk2] at k0; cases k0
      · exact absurd hq.1 (by simp)
    · cases hq4
  · obtain ⟨hq1, ⟨-, -, hq4⟩ | ⟨hq2, hq4⟩⟩ := hq
    · cases hq4
    · cases hq4
      rw [hq1] at hI
      rw [em] at hq2
      refine mw_on hI hce hlk hX ?_
      unfold sp_free
      rw [if_neg hq2]
      exact ⟨rfl, own, gd, ga, hA, Fr.rf w own⟩
end
section
/-! ### tables: next; what a kind does not do; used -/
set_option maxRecDepth 100000 in
set_option maxHeartbeats 4000000 in
theorem c_AN_placeOf (l : Launch) (D : va_G) (dA : Nat → ClassId) {w : mw_W} (a : Nat) (k : Int32) : CT l D dA y_AN_placeOf (Cond.code y_AN_placeOf b_AN_placeOf 2 (some .int) :: Ts) 0 0 0 0 [.ref a, .int k] w (fun r w' => r = .inl (some (.int (-22))) ∧ w' = w) := by
  refine mw_meth (by decide) mk_tb (Nat.le_of_ble_eq_true rfl) ?_
  intro p e s m below meth c K hr hlk hce hnm hP0 hSy ls hl
  have hl : lv_has ls 2 [(0, .ref a), (1, .int k)] := hl
  obtain ⟨hx, hb, hml, hown, hts, hK, hTb⟩ := id K
  have hI := mw_I.start hP0
  refine lv_bipush (v := (-22)) hx hb d_AN_placeOf_0 (by decide) ?_
  exact mw_iret K hI hr hlk ⟨rfl, rfl⟩ d_AN_placeOf_2
set_option maxRecDepth 100000 in
set_option maxHeartbeats 4000000 in
theorem c_AN_write (l : Launch) (D : va_G) (dA : Nat → ClassId) {w : mw_W} (a : Nat) (k v f : Int32) : CT l D dA y_AN_write (Cond.code y_AN_write b_AN_write 4 (some .int) :: Ts) 0 0 0 0 [.ref a, .int k, .int v, .int f] w (fun r w' => r = .inl (some (.int (-22))) ∧ w' = w) := by
  refine mw_meth (by decide) mk_tb (Nat.le_of_ble_eq_true rfl) ?_
  intro p e s m below meth c K hr hlk hce hnm hP0 hSy ls hl
  have hl : lv_has ls 4 [(0, .ref a), (1, .int k), (2, .int v), (3, .int f)] := hl
  obtain ⟨hx, hb, hml, hown, hts, hK, hTb⟩ := id K
  have hI := mw_I.start hP0
  refine lv_bipush (v := (-22)) hx hb d_AN_write_0 (by decide) ?_
  exact mw_iret K hI hr hlk ⟨rfl, rfl⟩ d_AN_write_2
set_option maxRecDepth 100000 in
set_option maxHeartbeats 4000000 in
theorem c_AN_free (l : Launch) (D : va_G) (dA : Nat → ClassId) {w : mw_W} (a : Nat) (k : Int32) : CT l D dA y_AN_free (Cond.code y_AN_free b_AN_free 2 (some .int) :: Ts) 0 0 0 0 [.ref a, .int k] w (fun r w' => r = .inl (some (.int (-22))) ∧ w' = w) := by
  refine mw_meth (by decide) mk_tb (Nat.le_of_ble_eq_true rfl) ?_
  intro p e s m below meth c K hr hlk hce hnm hP0 hSy ls hl
  have hl : lv_has ls 2 [(0, .ref a), (1, .int k)] := hl
  obtain ⟨hx, hb, hml, hown, hts, hK, hTb⟩ := id K
  have hI := mw_I.start hP0
  refine lv_bipush (v := (-22)) hx hb d_AN_free_0 (by decide) ?_
  exact mw_iret K hI hr hlk ⟨rfl, rfl⟩ d_AN_free_2
set_option maxRecDepth 100000 in
set_option maxHeartbeats 4000000 in
theorem c_AN_takeRecord (l : Launch) (D : va_G) (dA : Nat → ClassId) {w : mw_W} (a : Nat) (k : Int32) : CT l D dA y_AN_takeRecord (Cond.code y_AN_takeRecord b_AN_takeRecord 2 (some .int) :: Ts) 0 0 0 0 [.ref a, .int k] w (fun r w' => r = .inl (some (.int (-22))) ∧ w' = w) := by
  refine mw_meth (by decide) mk_tb (Nat.le_of_ble_eq_true rfl) ?_
  intro p e s m below meth c K hr hlk hce hnm hP0 hSy ls hl
  have hl : lv_has ls 2 [(0, .ref a), (1, .int k)] := hl
  obtain ⟨hx, hb, hml, hown, hts, hK, hTb⟩ := id K
  have hI := mw_I.start hP0
  refine lv_bipush (v := (-22)) hx hb d_AN_takeRecord_0 (by decide) ?_
  exact mw_iret K hI hr hlk ⟨rfl, rfl⟩ d_AN_takeRecord_2
set_option maxRecDepth 100000 in
set_option maxHeartbeats 4000000 in
theorem c_AN_putRecord (l : Launch) (D : va_G) (dA : Nat → ClassId) {w : mw_W} (a : Nat) (k v : Int32) : CT l D dA y_AN_putRecord (Cond.code y_AN_putRecord b_AN_putRecord 3 (some .int) :: Ts) 0 0 0 0 [.ref a, .int k, .int v] w (fun r w' => r = .inl (some (.int (-22))) ∧ w' = w) := by
  refine mw_meth (by decide) mk_tb (Nat.le_of_ble_eq_true rfl) ?_
  intro p e s m below meth c K hr hlk hce hnm hP0 hSy ls hl
  have hl : lv_has ls 3 [(0, .ref a), (1, .int k), (2, .int v)] := hl
  obtain ⟨hx, hb, hml, hown, hts, hK, hTb⟩ := id K
  have hI := mw_I.start hP0
  refine lv_bipush (v := (-22)) hx hb d_AN_putRecord_0 (by decide) ?_
  exact mw_iret K hI hr hlk ⟨rfl, rfl⟩ d_AN_putRecord_2
set_option maxRecDepth 100000 in
set_option maxHeartbeats 4000000 in
theorem c_AN_keyAfter (l : Launch) (D : va_G) (dA : Nat → ClassId) {w : mw_W} (a : Nat) (k v : Int32) : CT l D dA y_AN_keyAfter (Cond.code y_AN_keyAfter b_AN_keyAfter 3 (some .int) :: Ts) 0 0 0 0 [.ref a, .int k, .int v] w (fun r w' => r = .inl (some (.int (-22))) ∧ w' = w) := by
  refine mw_meth (by decide) mk_tb (Nat.le_of_ble_eq_true rfl) ?_
  intro p e s m below meth c K hr hlk hce hnm hP0 hSy ls hl
  have hl : lv_has ls 3 [(0, .ref a), (1, .int k), (2, .int v)] := hl
  obtain ⟨hx, hb, hml, hown, hts, hK, hTb⟩ := id K
  have hI := mw_I.start hP0
  refine lv_bipush (v := (-22)) hx hb d_AN_keyAfter_0 (by decide) ?_
  exact mw_iret K hI hr hlk ⟨rfl, rfl⟩ d_AN_keyAfter_2
set_option maxRecDepth 100000 in
set_option maxHeartbeats 4000000 in
theorem c_AN_clashes (l : Launch) (D : va_G) (dA : Nat → ClassId) {w : mw_W} (a : Nat) : CT l D dA y_AN_clashes (Cond.code y_AN_clashes b_AN_clashes 1 (some .int) :: Ts) 0 0 0 0 [.ref a] w (fun r w' => r = .inl (some (.int (nI 0))) ∧ w' = w) := by
  refine mw_meth (by decide) mk_tb (Nat.le_of_ble_eq_true rfl) ?_
  intro p e s m below meth c K hr hlk hce hnm hP0 hSy ls hl
  have hl : lv_has ls 1 [(0, .ref a)] := hl
  obtain ⟨hx, hb, hml, hown, hts, hK, hTb⟩ := id K
  have hI := mw_I.start hP0
  refine lv_iconst (v := nI 0) hx hb d_AN_clashes_0 (by decide) ?_
  exact mw_iret K hI hr hlk ⟨rfl, rfl⟩ d_AN_clashes_1
set_option maxRecDepth 100000 in
set_option maxHeartbeats 4000000 in
theorem c_TM_clashes (l : Launch) (D : va_G) (dA : Nat → ClassId) {w : mw_W} {own : as_W} {x bd xd ba xa ra : Nat} {mp : Nat → Nat} {gd ga : Nat → Int64} {S : as_S} {t : Nat} (hA : rc_A dA w own x bd xd ba xa ra mp gd ga S) (hW : wf_S t S) {i : Nat} (hi : i < nm S) (hk : kd (mm S i) = 1) : CT l D dA y_TM_clashes (Cond.code y_TM_clashes b_TM_clashes 1 (some .int) :: Ts) 0 0 0 0 [.ref (mp i)] w (fun r w' => r = .inl (some (.int (nI 0))) ∧ w' = w) := by
  refine mw_meth (by decide) mk_tb (Nat.le_of_ble_eq_true rfl) ?_
  intro p e s m below meth c K hr hlk hce hnm hP0 hSy ls hl
  have hl : lv_has ls 1 [(0, .ref (mp i))] := hl
  obtain ⟨hx, hb, hml, hown, hts, hK, hTb⟩ := id K
  have hI := mw_I.start hP0
  obtain ⟨ka, ak, rch, wk, f0⟩ := rc_TM (hA.2 i hi) hk
  generalize mm S i = mi at *
  refine lv_aload_n hx hb d_TM_clashes_0 rfl (lv_at hl 0 rfl) ?_
  refine mw_get K hI gf_TM_18_cTM f0 rfl d_TM_clashes_1 ?_
  exact mw_iret K hI hr hlk ⟨rfl, rfl⟩ d_TM_clashes_4
set_option maxRecDepth 100000 in
set_option maxHeartbeats 4000000 in
theorem c_AM_inUse (l : Launch) (D : va_G) (dA : Nat → ClassId) {w : mw_W} {own : as_W} {x bd xd ba xa ra : Nat} {mp : Nat → Nat} {gd ga : Nat → Int64} {S : as_S} {t : Nat} (hA : rc_A dA w own x bd xd ba xa ra mp gd ga S) (hW : wf_S t S) {i : Nat} (hi : i < nm S) (hk : kd (mm S i) = 0) : CT l D dA y_AM_inUse (Cond.code y_AM_inUse b_AM_inUse 1 (some .int) :: Ts) 0 0 0 0 [.ref (mp i)] w (fun r w' => r = .inl (some (.int (nI (useN (mm S i))))) ∧ w' = w) := by
  refine mw_meth (by decide) mk_tb (Nat.le_of_ble_eq_true rfl) ?_
  intro p e s m below meth c K hr hlk hce hnm hP0 hSy ls hl
  have hl : lv_has ls 1 [(0, .ref (mp i))] := hl
  obtain ⟨hx, hb, hml, hown, hts, hK, hTb⟩ := id K
  have hI := mw_I.start hP0
  have hwf := hW.2.2.2.2.2 i hi
  have f0 := rc_AM (hA.2 i hi) hk (wf_E hwf (Or.inl hk)).2.2.2.2.2.2.2
  have hu : useN (mm S i) = en (mm S i) := if_pos hk
  rw [hu]
  generalize mm S i = mi at *
  refine lv_aload_n hx hb d_AM_inUse_0 rfl (lv_at hl 0 rfl) ?_
  refine mw_get K hI gf_AM_9_cAM f0 rfl d_AM_inUse_1 ?_
  exact mw_iret K hI hr hlk ⟨rfl, rfl⟩ d_AM_inUse_4
set_option maxRecDepth 100000 in
set_option maxHeartbeats 4000000 in
theorem c_TM_inUse (l : Launch) (D : va_G) (dA : Nat → ClassId) {w : mw_W} {own : as_W} {x bd xd ba xa ra : Nat} {mp : Nat → Nat} {gd ga : Nat → Int64} {S : as_S} {t : Nat} (hA : rc_A dA w own x bd xd ba xa ra mp gd ga S) (hW : wf_S t S) {i : Nat} (hi : i < nm S) (hk : kd (mm S i) = 1) : CT l D dA y_TM_inUse (Cond.code y_TM_inUse b_TM_inUse 1 (some .int) :: Ts) 0 0 0 0 [.ref (mp i)] w (fun r w' => r = .inl (some (.int (nI (useN (mm S i))))) ∧ w' = w) := by
  refine mw_meth (by decide) mk_tb (Nat.le_of_ble_eq_true rfl) ?_
  intro p e s m below meth c K hr hlk hce hnm hP0 hSy ls hl
  have hl : lv_has ls 1 [(0, .ref (mp i))] := hl
  obtain ⟨hx, hb, hml, hown, hts, hK, hTb⟩ := id K
  have hI := mw_I.start hP0
  have hu : useN (mm S i) = tb_n (tb (mm S i)) (en (mm S i)) := (if_neg (by rw [hk]; decide)).trans (if_pos hk)
  rw [hu]
  obtain ⟨om, ⟨k0, -⟩ | ⟨k0, ka, ak, ax, rch, gk, ff, f0, -⟩ | ⟨k0, -⟩⟩ := hA.2 i hi
  · rw [hk] at k0; cases k0
  · generalize mm S i = mi at *
    refine lv_aload_n hx hb d_TM_inUse_0 rfl (lv_at hl 0 rfl) ?_
    refine mw_get K hI gf_TM_15_cTM f0 rfl d_TM_inUse_1 ?_
    exact mw_iret K hI hr hlk ⟨rfl, rfl⟩ d_TM_inUse_4
  · rw [hk] at k0; cases k0
/-- the sizes of a ring -/
theorem wf_R {t : Nat} {m : as_M} (h : wf_M t m) (hk : kd m = 2) : bg m % 8 = 0 ∧ (∃ p, 6 ≤ p ∧ p ≤ 14 ∧ en m = 2 ^ p) ∧ bg m + en m ≤ 65536 ∧ tl m ≤ hd m ∧ hd m - tl m ≤ en m ∧ hd m % 8 = 0 ∧ tl m % 8 = 0 ∧ hd m ≤ 264 * t ∧ rc m ≤ t := by
  obtain ⟨h0, ⟨k0, h⟩ | ⟨k0, h⟩ | ⟨k0, -, -, h3, h4, h5, h6, h7, h8, h9, h10⟩⟩ := h
  · omega
  · omega
  · exact ⟨h0, h3, h4, h5, h6, h7, h8, h9, h10⟩
set_option maxRecDepth 100000 in
set_option maxHeartbeats 4000000 in
theorem c_RM_inUse (l : Launch) (D : va_G) (dA : Nat → ClassId) {w : mw_W} {own : as_W} {x bd xd ba xa ra : Nat} {mp : Nat → Nat} {gd ga : Nat → Int64} {S : as_S} {t : Nat} (hA : rc_A dA w own x bd xd ba xa ra mp gd ga S) (hW : wf_S t S) {i : Nat} (hi : i < nm S) (hk : kd (mm S i) = 2) : CT l D dA y_RM_inUse (Cond.code y_RM_inUse b_RM_inUse 1 (some .int) :: Ts) 0 0 0 0 [.ref (mp i)] w (fun r w' => r = .inl (some (.int (nI (useN (mm S i))))) ∧ w' = w) := by
  refine mw_meth (by decide) mk_tb (Nat.le_of_ble_eq_true rfl) ?_
  intro p e s m below meth c K hr hlk hce hnm hP0 hSy ls hl
  have hl : lv_has ls 1 [(0, .ref (mp i))] := hl
  obtain ⟨hx, hb, hml, hown, hts, hK, hTb⟩ := id K
  have hI := mw_I.start hP0
  have hu : useN (mm S i) = hd (mm S i) - tl (mm S i) := (if_neg (by rw [hk]; decide)).trans (if_neg (by rw [hk]; decide))
  rw [hu]
  obtain ⟨c1, c2, c3, c4, -⟩ := wf_R (hW.2.2.2.2.2 i hi) hk
  obtain ⟨om, f0⟩ := rc_RM (hA.2 i hi) hk
  generalize mm S i = mi at *
  refine lv_aload_n hx hb d_RM_inUse_0 rfl (lv_at hl 0 rfl) ?_
  refine mw_get K hI gf_RM_9_cRM f0 rfl d_RM_inUse_1 ?_
  refine lv_aload_n hx hb d_RM_inUse_4 rfl (lv_at hl 0 rfl) ?_
  refine mw_get K hI gf_RM_15_cRM f0 rfl d_RM_inUse_5 ?_
  refine lv_lsub hx hb d_RM_inUse_8 ?_
  refine mw_tl (lN_sub (by omega)) ?_
  refine lv_l2i hx hb d_RM_inUse_9 rfl ?_
  refine mw_ti (lN_i _) ?_
  exact mw_iret K hI hr hlk ⟨rfl, rfl⟩ d_RM_inUse_10
set_option maxRecDepth 100000 in
set_option maxHeartbeats 4000000 in
theorem c_TM_keyAfter (l : Launch) (D : va_G) (dA : Nat → ClassId) (hL : mw_L l) {w : mw_W} {own : as_W} {x bd xd ba xa ra : Nat} {mp : Nat → Nat} {gd ga : Nat → Int64} {S : as_S} {t : Nat} (hA : rc_A dA w own x bd xd ba xa ra mp gd ga S) (hW : wf_S t S) {i : Nat} (hi : i < nm S) (hk : kd (mm S i) = 1) (k to : Int32) : CT l D dA y_TM_keyAfter (Cond.code y_TM_keyAfter b_TM_keyAfter 6 (some .int) :: Ts) 7 120 2 12 [.ref (mp i), .int k, .int to] w (PC dA w own x bd xd ba xa ra mp (sp_next S i k to)) := by
  refine mw_meth (by decide) mk_tb (Nat.le_of_ble_eq_true rfl) ?_
  intro p e s m below meth c K hr hlk hce hnm hP0 hSy ls hl
  have hl : lv_has ls 6 [(0, .ref (mp i)), (1, .int k), (2, .int to)] := hl
  obtain ⟨hx, hb, hml, hown, hts, hK, hTb⟩ := id K
  have hI := mw_I.start hP0
  obtain ⟨⟨o1, o2, o3, o4, fx, fd, fa, fr, hdk, har⟩, hM⟩ := id hA
  have hwf := hW.2.2.2.2.2 i hi
  obtain ⟨b1, b2, b3, b4, b5, b6, b7, b8⟩ := wf_E hwf (Or.inr hk)
  have fin : ∀ {S2 : as_S} {w2 : mw_W} {s0 : Nat}, rc_A dA w2 own x bd xd ba xa ra mp gd ga S2 → i < nm S2 → (mm S2 i).1 = (mm S i).1 → (∀ e, e < s0 → True) → (s0 = 0 ∨ ∃ e ky, s0 = e + 1 ∧ tb (mm S2 i) e = some ky) → to.toNatClampNeg + ks (mm S i) ≤ 512 → Fr w own w2 own → sp_next S i k to = nxK S2 i s0 to.toNatClampNeg → ∀ (H : Heap) (locs : List Loc), mw_I D mk_cl w s.heap w2 H locs → ∀ ls : Array Slot, lv_has ls 6 [(4, .int (nI s0)), (0, .ref (mp i)), (2, .int (nI to.toNatClampNeg))] → W p l e { frames := 7, cells := 2, slots := 12, locals := 120 } s m ([.ref (mp i), .int k, .int to] : List Value).toArray below meth c H locs 2 12 (mx_Q below (mw_Qc D mk_cl w s.heap.size (PC dA w own x bd xd ba xa ra mp (sp_next S i k to))) ([.ref (mp i), .int k, .int to] : List Value).toArray s 2 12 (mw_A w s.heap.size)) (F0 m 42 ls []) := by
    intro S2 w2 s0 hA2 hi2 h21 _ hs0 hto hF2 hsp
    have h1a : kd (mm S2 i) = 1 := by show (mm S2 i).1.1 = 1; rw [h21]; exact hk
    have h1b : ks (mm S2 i) = ks (mm S i) := by show (mm S2 i).1.2.1 = (mm S i).1.2.1; rw [h21]
    have h1c : en (mm S2 i) = en (mm S i) := by show (mm S2 i).1.2.2.2.1 = (mm S i).1.2.2.2.1; rw [h21]
    obtain ⟨⟨o1, o2, o3, o4, fx, fd, fa, fr, hdk, har⟩, hM2⟩ := id hA2
    obtain ⟨om, ⟨k0, -⟩ | ⟨k0, ka, ak, ax, rch, gk, ff, f0, oka, oax, fk, hbl, f1, hr1, hn1, hs1⟩ | ⟨k0, -⟩⟩ := hM2 i hi2
    · rw [h1a] at k0; cases k0
    · have hs0r : s0 ≤ rch := by
        rcases hs0 with h | ⟨e, ky, h, h2⟩
        · omega
        · have := (hs1 e ky h2).1; omega
      obtain ⟨mi, em⟩ : ∃ mi, mi = mm S2 i := ⟨_, rfl⟩
      have hsp : sp_next S i k to = (match nxE mi s0 with | none => (S2, .inl (-1)) | some e => (S_dk S2 (cpy (dk S2) to.toNatClampNeg (fun j => ((tb mi e).getD []).getD j 0) 0 (ks mi)), .inl (nI e))) := by rw [em]; exact hsp
      rw [← em] at f0 f1 hn1 hs1 fk hbl hr1 h1a h1b h1c
      have hloop : ∀ (q j : Nat), j + q = rch → s0 ≤ j → (∀ e, e < j → (decide (s0 ≤ e) && (tb mi e).isSome) = false) → ∀ (H : Heap) (locs : List Loc), mw_I D mk_cl w s.heap w2 H locs → ∀ ls : Array Slot, lv_has ls 6 [(4, .int (nI j)), (0, .ref (mp i)), (2, .int (nI to.toNatClampNeg))] → W p l e { frames := 7, cells := 2, slots := 12, locals := 120 } s m ([.ref (mp i), .int k, .int to] : List Value).toArray below meth c H locs 2 12 (mx_Q below (mw_Qc D mk_cl w s.heap.size (PC dA w own x bd xd ba xa ra mp (sp_next S i k to))) ([.ref (mp i), .int k, .int to] : List Value).toArray s 2 12 (mw_A w s.heap.size)) (F0 m 42 ls []) := by
        intro q
        induction q with
        | zero =>
          intro j hj hsj hno H locs hI ls hl
          refine lv_iload hx hb d_TM_keyAfter_42 (lv_at hl 0 rfl) ?_
          refine lv_aload_n hx hb d_TM_keyAfter_44 rfl (lv_at hl 1 rfl) ?_
          refine mw_get K hI gf_TM_9_cTM f0 rfl d_TM_keyAfter_45 ?_
          refine lv_icmp_ge (tgt := 89) hx hb d_TM_keyAfter_48 (by decide) (fun c48 => ?_) (fun c48 => ?_)
          ·
            refine lv_iconst (v := (-1)) hx hb d_TM_keyAfter_89 (by decide) ?_
            refine mw_iret K hI hr hlk ?_ d_TM_keyAfter_90
            have hn : nxE mi s0 = none := lst_none (fun e he => by
              by_cases hej : e < j
              · exact hno e hej
              · cases ht : tb mi e with
                | none => simp
                | some ky => exact absurd (hs1 e ky ht).1 (by omega))
            rw [hsp, hn]
            exact ⟨rfl, own, gd, ga, hA2, hF2⟩
          ·
            exact absurd (nI_le (by omega) (by omega)) c48
        | succ q ih =>
          intro j hj hsj hno H locs hI ls hl
          refine lv_iload hx hb d_TM_keyAfter_42 (lv_at hl 0 rfl) ?_
          refine lv_aload_n hx hb d_TM_keyAfter_44 rfl (lv_at hl 1 rfl) ?_
          refine mw_get K hI gf_TM_9_cTM f0 rfl d_TM_keyAfter_45 ?_
          refine lv_icmp_ge (tgt := 89) hx hb d_TM_keyAfter_48 (by decide) (fun c48 => ?_) (fun c48 => ?_)
          ·
            exact absurd c48 (nI_ge (by omega) (by omega))
          ·
            refine lv_aload_n hx hb d_TM_keyAfter_51 rfl (lv_at hl 1 rfl) ?_
            refine mw_get K hI gf_TM_23_cTM f0 rfl d_TM_keyAfter_52 ?_
            refine lv_iload hx hb d_TM_keyAfter_55 (lv_at hl 0 rfl) ?_
            refine mw_aald K hI tBY f1 rfl j rfl (by first | assumption | omega) (by omega) d_TM_keyAfter_57 ?_
            cases ht : tb mi j with
            | none =>
              have hfj := hn1 j (by omega) ht
              refine mw_tv (y := .null) ((by rw [hfj]; rfl)) ?_
              refine lv_astoreN (lv' := [(5, .null), (4, .int (nI j)), (0, .ref (mp i)), (2, .int (nI to.toNatClampNeg))]) hx hb d_TM_keyAfter_58 hl (by decide) rfl (fun ls hl => ?_)
              refine lv_aloadN hx hb d_TM_keyAfter_60 (lv_at hl 0 rfl) ?_
              refine lv_ifnullN (tgt := 83) hx hb d_TM_keyAfter_62 (by decide) ?_
              refine lv_iinc (v := nI (j + 1)) (lv' := [(4, .int (nI (j + 1))), (5, .null), (0, .ref (mp i)), (2, .int (nI to.toNatClampNeg))]) hx hb d_TM_keyAfter_83 hl (k := 1) rfl (nI_add _ _) (by decide) rfl (fun ls hl => ?_)
              refine lv_goto (tgt := 42) hx hb d_TM_keyAfter_86 (by decide) ?_
              exact ih (j + 1) (by omega) (by omega) (lt_s hno (by rw [ht]; simp)) H locs hI ls (lv_sub hl [0, 2, 3] rfl)
            | some ky =>
              obtain ⟨hjr, kb, kx, g, hfj, okx, fb, hbl2⟩ := hs1 j ky ht
              refine mw_tv (y := .ref kb) ((by rw [hfj]; rfl)) ?_
              refine lv_astore (lv' := [(5, .ref kb), (4, .int (nI j)), (0, .ref (mp i)), (2, .int (nI to.toNatClampNeg))]) hx hb d_TM_keyAfter_58 hl (by decide) rfl (fun ls hl => ?_)
              refine lv_aload hx hb d_TM_keyAfter_60 (lv_at hl 0 rfl) ?_
              refine lv_ifnull hx hb d_TM_keyAfter_62 ?_
              refine lv_aload_n hx hb d_TM_keyAfter_65 rfl (lv_at hl 2 rfl) ?_
              refine mw_get K hI gf_TM_34_cTM f0 rfl d_TM_keyAfter_66 ?_
              refine lv_iload_n hx hb d_TM_keyAfter_69 rfl (lv_at hl 3 rfl) ?_
              refine lv_aload hx hb d_TM_keyAfter_70 (lv_at hl 0 rfl) ?_
              refine lv_iconst (v := nI 0) hx hb d_TM_keyAfter_72 (by decide) ?_
              refine lv_aload_n hx hb d_TM_keyAfter_73 rfl (lv_at hl 2 rfl) ?_
              refine mw_get K hI gf_TM_37_cTM f0 rfl d_TM_keyAfter_74 ?_
              refine mw_call (rest := []) K hSy hP0 hI (c_BY_copy l D dA fd (by decide) fb (by omega) (own_ne okx o2 (by simp)) (i := to.toNatClampNeg) (i2 := 0) (k := ks mi) (by omega) (by omega)) (mx_invV hx hown (hts _ tw_449) (hts _ tw_450) (hts _ tw_451) (hts _ tw_452) (by decide) (b := bd) (mw_rc K hI fd.1 rfl) (g := F0 m 77 ls [.int (nI (ks mi)), .int (nI 0), .ref kb, .int (nI to.toNatClampNeg), .ref bd]) rfl (argsL := [.int (nI to.toNatClampNeg), .ref kb, .int (nI 0), .int (nI (ks mi))]) (rest := []) np_BY_copy rfl (by rw [hb]; exact d_TM_keyAfter_77)) hl.1 d_TM_keyAfter_77 ⟨Nat.le_of_ble_eq_true rfl, Nat.le_of_ble_eq_true rfl⟩ (Or.inl ⟨_, _, List.mem_cons_self⟩) (mk_ws tw_452 hts) (fun a9 U9 h9 => Ts_warm hts _ tw_22 a9 U9 h9) ⟨Nat.le_of_ble_eq_true rfl, Nat.le_of_ble_eq_true rfl⟩ (fun v w' H locs hq hI => ?_) (fun k x w' H locs hq hI hX => ?_)
              · obtain ⟨hq1, g', hq5, hq6⟩ := hq
                cases hq1
                rw [hq5] at hI
                refine W.eq (g2 := F0 m 80 ls []) rfl ?_
                refine lv_iload hx hb d_TM_keyAfter_80 (lv_at hl 1 rfl) ?_
                refine mw_iret K hI hr hlk ?_ d_TM_keyAfter_82
                have hn : nxE mi s0 = some j := lst_some (by rw [ht]; simp; exact hsj) hno (by omega)
                rw [hsp, hn]
                refine ⟨rfl, own, g', ga, ?_, hF2.trans (Fr.up fd.2 (by rw [o2]; decide))⟩
                refine hA2.desk g' _ (fun j' hj' => ?_)
                rw [hq6 j']
                unfold cpy
                split
                · rw [ht]
                  show bw_b g (0 + (j' - to.toNatClampNeg)) = ky.getD (0 + (j' - to.toNatClampNeg)) 0
                  exact hbl2.2.1 _ (by omega)
                · exact hdk j' hj'
              · exact absurd hq.1 (by simp)
      intro H locs hI ls hl
      exact hloop (rch - s0) s0 (by omega) (Nat.le_refl _) (fun e he => by rw [decide_eq_false (by omega)]; rfl) H locs hI ls hl
    · rw [h1a] at k0; cases k0
  obtain ⟨ka, ak, rch, wk, f0⟩ := rc_TM (hA.2 i hi) hk
  obtain ⟨mi, em⟩ : ∃ mi, mi = mm S i := ⟨_, rfl⟩
  rw [← em] at f0
  refine lv_aload_n hx hb d_TM_keyAfter_0 rfl (lv_at hl 0 rfl) ?_
  refine mw_get K hI gf_TM_34_cTM f0 rfl d_TM_keyAfter_1 ?_
  refine lv_iload_n hx hb d_TM_keyAfter_4 rfl (lv_at hl 2 rfl) ?_
  refine lv_aload_n hx hb d_TM_keyAfter_5 rfl (lv_at hl 0 rfl) ?_
  refine mw_get K hI gf_TM_37_cTM f0 rfl d_TM_keyAfter_6 ?_
  refine mw_call (rest := []) K hSy hP0 hI (c_BY_demand l D dA hL fd (by decide) to (k := ks mi) (by rw [em]; omega)) (mx_invV hx hown (hts _ tw_522) (hts _ tw_373) (hts _ tw_374) (hts _ tw_375) (by decide) (b := bd) (mw_rc K hI fd.1 rfl) (g := F0 m 9 ls [.int (nI (ks mi)), .int to, .ref bd]) rfl (argsL := [.int to, .int (nI (ks mi))]) (rest := []) np_BY_demand rfl (by rw [hb]; exact d_TM_keyAfter_9)) hl.1 d_TM_keyAfter_9 ⟨Nat.le_of_ble_eq_true rfl, Nat.le_of_ble_eq_true rfl⟩ (Or.inl ⟨_, _, List.mem_cons_self⟩) (mk_ws tw_375 hts) (fun a9 U9 h9 => Ts_warm hts _ tw_22 a9 U9 h9) ⟨Nat.le_of_ble_eq_true rfl, Nat.le_of_ble_eq_true rfl⟩ (fun v w' H locs hq hI => ?_) (fun k x w' H locs hq hI hX => ?_)
  · obtain ⟨hq1, ⟨hq2, hq3, hq4⟩ | ⟨-, hq4⟩⟩ := hq
    · cases hq4
      rw [hq1] at hI
      rw [em] at hq3
      obtain ⟨e1, e2⟩ := inD_nI ⟨hq2, hq3⟩ (by decide)
      have hto : inD to (ks (mm S i)) 512 := ⟨hq2, hq3⟩
      refine W.eq (g2 := F0 m 12 ls []) rfl ?_
      rw [e1] at hl
      refine lv_iconst (v := (-1)) hx hb d_TM_keyAfter_12 (by decide) ?_
      refine lv_istore_n (lv' := [(3, .int (-1)), (0, .ref (mp i)), (1, .int k), (2, .int (nI to.toNatClampNeg))]) hx hb d_TM_keyAfter_13 rfl hl (by decide) rfl (fun ls hl => ?_)
      refine lv_iload_n hx hb d_TM_keyAfter_14 rfl (lv_at hl 2 rfl) ?_
      refine lv_iconst (v := (-1)) hx hb d_TM_keyAfter_15 (by decide) ?_
      refine lv_icmp_eq (tgt := 37) hx hb d_TM_keyAfter_16 (by decide) (fun c16 => ?_) (fun c16 => ?_)
      ·
        have hsp : sp_next S i k to = _ := (if_pos ⟨hto, Or.inl c16⟩).trans (if_pos c16)
        refine lv_iload_n hx hb d_TM_keyAfter_37 rfl (lv_at hl 0 rfl) ?_
        refine lv_iconst (v := nI 1) hx hb d_TM_keyAfter_38 (by decide) ?_
        refine lv_iadd hx hb d_TM_keyAfter_39 ?_
        refine mw_ti (y := nI 0) (by decide) ?_
        refine lv_istore (lv' := [(4, .int (nI 0)), (3, .int (-1)), (0, .ref (mp i)), (1, .int k), (2, .int (nI to.toNatClampNeg))]) hx hb d_TM_keyAfter_40 hl (by decide) rfl (fun ls hl => ?_)
        refine W.widen (k := 2) (n := 12) (by decide) (by decide) ?_
        exact fin (s0 := 0) hA hi rfl (fun _ _ => trivial) (Or.inl rfl) e2 (Fr.rf w own) hsp H locs hI ls (lv_sub hl [0, 2, 4] rfl)
      ·
        refine lv_aload_n hx hb d_TM_keyAfter_19 rfl (lv_at hl 1 rfl) ?_
        refine mw_get K hI gf_TM_34_cTM f0 rfl d_TM_keyAfter_20 ?_
        refine lv_iload_n hx hb d_TM_keyAfter_23 rfl (lv_at hl 2 rfl) ?_
        refine lv_aload_n hx hb d_TM_keyAfter_24 rfl (lv_at hl 1 rfl) ?_
        refine mw_get K hI gf_TM_37_cTM f0 rfl d_TM_keyAfter_25 ?_
        refine mw_call (rest := []) K hSy hP0 hI (c_BY_demand l D dA hL fd (by decide) k (k := ks mi) (by rw [em]; omega)) (mx_invV hx hown (hts _ tw_522) (hts _ tw_373) (hts _ tw_374) (hts _ tw_375) (by decide) (b := bd) (mw_rc K hI fd.1 rfl) (g := F0 m 28 ls [.int (nI (ks mi)), .int k, .ref bd]) rfl (argsL := [.int k, .int (nI (ks mi))]) (rest := []) np_BY_demand rfl (by rw [hb]; exact d_TM_keyAfter_28)) hl.1 d_TM_keyAfter_28 ⟨Nat.le_of_ble_eq_true rfl, Nat.le_of_ble_eq_true rfl⟩ (Or.inl ⟨_, _, List.mem_cons_self⟩) (mk_ws tw_375 hts) (fun a9 U9 h9 => Ts_warm hts _ tw_22 a9 U9 h9) ⟨Nat.le_of_ble_eq_true rfl, Nat.le_of_ble_eq_true rfl⟩ (fun v w' H locs hq hI => ?_) (fun k x w' H locs hq hI hX => ?_)
        · obtain ⟨hq1, ⟨hq2, hq3, hq4⟩ | ⟨-, hq4⟩⟩ := hq
          · cases hq4
            rw [hq1] at hI
            rw [em] at hq3
            obtain ⟨e3, e4⟩ := inD_nI ⟨hq2, hq3⟩ (by decide)
            have hsp : sp_next S i k to = _ := (if_pos ⟨hto, Or.inr ⟨hq2, hq3⟩⟩).trans (if_neg c16)
            refine W.eq (g2 := F0 m 31 ls []) rfl ?_
            rw [e3] at hl
            refine lv_aload_n hx hb d_TM_keyAfter_31 rfl (lv_at hl 1 rfl) ?_
            refine lv_iload_n hx hb d_TM_keyAfter_32 rfl (lv_at hl 2 rfl) ?_
            refine mw_call (rest := []) K hSy hP0 hI (c_TM_entryOf2 l D dA hA hW hi hk (q := k.toNatClampNeg) e4) (mx_invV hx hown (hts _ tw_523) (hts _ tw_447) (hts _ tw_804) (hts _ tw_448) (by decide) (b := (mp i)) (mw_rc K hI f0 rfl) (g := F0 m 33 ls [.int (nI k.toNatClampNeg), .ref (mp i)]) rfl (argsL := [.int (nI k.toNatClampNeg)]) (rest := []) np_TM_entryOf rfl (by rw [hb]; exact d_TM_keyAfter_33)) hl.1 d_TM_keyAfter_33 ⟨Nat.le_of_ble_eq_true rfl, Nat.le_of_ble_eq_true rfl⟩ (Or.inl ⟨_, _, List.mem_cons_self⟩) (mk_ws tw_448 hts) (fun a9 U9 h9 => Ts_warm hts _ tw_33 a9 U9 h9) ⟨Nat.le_of_ble_eq_true rfl, Nat.le_of_ble_eq_true rfl⟩ (fun v w' H locs hq hI => ?_) (fun k x w' H locs hq hI hX => ?_)
            · obtain ⟨hq5, hA2, hF2⟩ := hq
              cases hq5
              refine W.eq (g2 := F0 m 36 ls [.int (oI (ent S i k.toNatClampNeg))]) rfl ?_
              obtain ⟨n1, n2, n3, n4, n5⟩ := lk_nm S i k.toNatClampNeg
              have hi2 : i < nm (lk S i k.toNatClampNeg) := by rw [n1]; exact hi
              cases he : ent S i k.toNatClampNeg with
              | none =>
                rw [he] at hsp
                refine mw_ti (y := (-1)) (rfl) ?_
                refine lv_istore_n (lv' := [(3, .int (-1)), (0, .ref (mp i)), (1, .int (nI k.toNatClampNeg)), (2, .int (nI to.toNatClampNeg))]) hx hb d_TM_keyAfter_36 rfl hl (by decide) rfl (fun ls hl => ?_)
                refine lv_iload_n hx hb d_TM_keyAfter_37 rfl (lv_at hl 0 rfl) ?_
                refine lv_iconst (v := nI 1) hx hb d_TM_keyAfter_38 (by decide) ?_
                refine lv_iadd hx hb d_TM_keyAfter_39 ?_
                refine mw_ti (y := nI 0) (by decide) ?_
                refine lv_istore (lv' := [(4, .int (nI 0)), (3, .int (-1)), (0, .ref (mp i)), (1, .int (nI k.toNatClampNeg)), (2, .int (nI to.toNatClampNeg))]) hx hb d_TM_keyAfter_40 hl (by decide) rfl (fun ls hl => ?_)
                exact fin (s0 := 0) hA2 hi2 (n5 i).1 (fun _ _ => trivial) (Or.inl rfl) e2 hF2 hsp H locs hI ls (lv_sub hl [0, 2, 4] rfl)
              | some e0 =>
                have hlt := ent_lt he
                rw [he] at hsp
                have hke : ∃ ky, tb (mm (lk S i k.toNatClampNeg) i) e0 = some ky := by
                  rw [ent_1 _ hk] at he
                  exact ⟨_, (congrFun (n5 i).2 e0).trans (fnd_is he).2⟩
                obtain ⟨ky, hke⟩ := hke
                refine mw_ti (y := nI e0) (rfl) ?_
                refine lv_istore_n (lv' := [(3, .int (nI e0)), (0, .ref (mp i)), (1, .int (nI k.toNatClampNeg)), (2, .int (nI to.toNatClampNeg))]) hx hb d_TM_keyAfter_36 rfl hl (by decide) rfl (fun ls hl => ?_)
                refine lv_iload_n hx hb d_TM_keyAfter_37 rfl (lv_at hl 0 rfl) ?_
                refine lv_iconst (v := nI 1) hx hb d_TM_keyAfter_38 (by decide) ?_
                refine lv_iadd hx hb d_TM_keyAfter_39 ?_
                refine mw_ti (nI_add _ _) ?_
                refine lv_istore (lv' := [(4, .int (nI (e0 + 1))), (3, .int (nI e0)), (0, .ref (mp i)), (1, .int (nI k.toNatClampNeg)), (2, .int (nI to.toNatClampNeg))]) hx hb d_TM_keyAfter_40 hl (by decide) rfl (fun ls hl => ?_)
                exact fin (s0 := e0 + 1) hA2 hi2 (n5 i).1 (fun _ _ => trivial) (Or.inr ⟨e0, ky, rfl, hke⟩) e2 hF2 hsp H locs hI ls (lv_sub hl [0, 2, 4] rfl)
            · exact absurd hq.1 (by simp)
          · cases hq4
        · obtain ⟨hq1, ⟨-, -, hq4⟩ | ⟨hq2, hq4⟩⟩ := hq
          · cases hq4
          · cases hq4
            rw [hq1] at hI
            rw [em] at hq2
            refine mw_on hI hce hlk hX ?_
            unfold sp_next
            rw [if_neg (fun z => z.2.elim c16 hq2)]
            exact ⟨rfl, own, gd, ga, hA, Fr.rf w own⟩
    · cases hq4
  · obtain ⟨hq1, ⟨-, -, hq4⟩ | ⟨hq2, hq4⟩⟩ := hq
    · cases hq4
    · cases hq4
      rw [hq1] at hI
      rw [em] at hq2
      refine WT.widen (k := 2) (n := 12) (by decide) (by decide) ?_
      refine mw_on hI hce hlk hX ?_
      unfold sp_next
      rw [if_neg (fun z => hq2 z.1)]
      exact ⟨rfl, own, gd, ga, hA, Fr.rf w own⟩
end
section
/-! ### rings -/
theorem d_RM_placeOfCount_0 : decode b_RM_placeOfCount 0 = .ok (.aload_n 0, 1) := by decide +kernel
theorem d_RM_placeOfCount_1 : decode b_RM_placeOfCount 1 = .ok (.getfield 75, 3) := by decide +kernel
theorem d_RM_placeOfCount_4 : decode b_RM_placeOfCount 4 = .ok (.lload_n 1, 1) := by decide +kernel
theorem d_RM_placeOfCount_5 : decode b_RM_placeOfCount 5 = .ok (.aload_n 0, 1) := by decide +kernel
theorem d_RM_placeOfCount_6 : decode b_RM_placeOfCount 6 = .ok (.getfield 26, 3) := by decide +kernel
theorem d_RM_placeOfCount_9 : decode b_RM_placeOfCount 9 = .ok (.iconst 1, 1) := by decide +kernel
theorem d_RM_placeOfCount_10 : decode b_RM_placeOfCount 10 = .ok (.isub, 1) := by decide +kernel
theorem d_RM_placeOfCount_11 : decode b_RM_placeOfCount 11 = .ok (.i2l, 1) := by decide +kernel
theorem d_RM_placeOfCount_12 : decode b_RM_placeOfCount 12 = .ok (.land, 1) := by decide +kernel
theorem d_RM_placeOfCount_13 : decode b_RM_placeOfCount 13 = .ok (.l2i, 1) := by decide +kernel
theorem d_RM_placeOfCount_14 : decode b_RM_placeOfCount 14 = .ok (.iadd, 1) := by decide +kernel
theorem d_RM_placeOfCount_15 : decode b_RM_placeOfCount 15 = .ok (.ireturn, 1) := by decide +kernel
theorem d_RM_writeRecord_0 : decode b_RM_writeRecord 0 = .ok (.aload_n 0, 1) := by decide +kernel
theorem d_RM_writeRecord_1 : decode b_RM_writeRecord 1 = .ok (.aload_n 0, 1) := by decide +kernel
theorem d_RM_writeRecord_2 : decode b_RM_writeRecord 2 = .ok (.getfield 9, 3) := by decide +kernel
theorem d_RM_writeRecord_5 : decode b_RM_writeRecord 5 = .ok (.invokevirtual 54, 3) := by decide +kernel
theorem d_RM_writeRecord_8 : decode b_RM_writeRecord 8 = .ok (.istore 4, 2) := by decide +kernel
theorem d_RM_writeRecord_10 : decode b_RM_writeRecord 10 = .ok (.aload_n 0, 1) := by decide +kernel
theorem d_RM_writeRecord_11 : decode b_RM_writeRecord 11 = .ok (.getfield 51, 3) := by decide +kernel
theorem d_RM_writeRecord_14 : decode b_RM_writeRecord 14 = .ok (.iload 4, 2) := by decide +kernel
theorem d_RM_writeRecord_16 : decode b_RM_writeRecord 16 = .ok (.iconst 4, 1) := by decide +kernel
theorem d_RM_writeRecord_17 : decode b_RM_writeRecord 17 = .ok (.iload_n 2, 1) := by decide +kernel
theorem d_RM_writeRecord_18 : decode b_RM_writeRecord 18 = .ok (.i2l, 1) := by decide +kernel
theorem d_RM_writeRecord_19 : decode b_RM_writeRecord 19 = .ok (.invokevirtual 71, 3) := by decide +kernel
theorem d_RM_writeRecord_22 : decode b_RM_writeRecord 22 = .ok (.aload_n 0, 1) := by decide +kernel
theorem d_RM_writeRecord_23 : decode b_RM_writeRecord 23 = .ok (.getfield 51, 3) := by decide +kernel
theorem d_RM_writeRecord_26 : decode b_RM_writeRecord 26 = .ok (.iload 4, 2) := by decide +kernel
theorem d_RM_writeRecord_28 : decode b_RM_writeRecord 28 = .ok (.iconst 4, 1) := by decide +kernel
theorem d_RM_writeRecord_29 : decode b_RM_writeRecord 29 = .ok (.iadd, 1) := by decide +kernel
theorem d_RM_writeRecord_30 : decode b_RM_writeRecord 30 = .ok (.iconst 4, 1) := by decide +kernel
theorem d_RM_writeRecord_31 : decode b_RM_writeRecord 31 = .ok (.aload_n 0, 1) := by decide +kernel
theorem d_RM_writeRecord_32 : decode b_RM_writeRecord 32 = .ok (.getfield 18, 3) := by decide +kernel
theorem d_RM_writeRecord_35 : decode b_RM_writeRecord 35 = .ok (.i2l, 1) := by decide +kernel
theorem d_RM_writeRecord_36 : decode b_RM_writeRecord 36 = .ok (.invokevirtual 71, 3) := by decide +kernel
theorem d_RM_writeRecord_39 : decode b_RM_writeRecord 39 = .ok (.iconst 0, 1) := by decide +kernel
theorem d_RM_writeRecord_40 : decode b_RM_writeRecord 40 = .ok (.istore 5, 2) := by decide +kernel
theorem d_RM_writeRecord_42 : decode b_RM_writeRecord 42 = .ok (.iload 5, 2) := by decide +kernel
theorem d_RM_writeRecord_44 : decode b_RM_writeRecord 44 = .ok (.iload_n 3, 1) := by decide +kernel
theorem d_RM_writeRecord_45 : decode b_RM_writeRecord 45 = .ok (.bipush 8, 2) := by decide +kernel
theorem d_RM_writeRecord_47 : decode b_RM_writeRecord 47 = .ok (.isub, 1) := by decide +kernel
theorem d_RM_writeRecord_48 : decode b_RM_writeRecord 48 = .ok (.if_icmp .ge 58, 3) := by decide +kernel
theorem d_RM_writeRecord_51 : decode b_RM_writeRecord 51 = .ok (.iload 5, 2) := by decide +kernel
theorem d_RM_writeRecord_53 : decode b_RM_writeRecord 53 = .ok (.iload_n 2, 1) := by decide +kernel
theorem d_RM_writeRecord_54 : decode b_RM_writeRecord 54 = .ok (.if_icmp .ge 17, 3) := by decide +kernel
theorem d_RM_writeRecord_57 : decode b_RM_writeRecord 57 = .ok (.aload_n 0, 1) := by decide +kernel
theorem d_RM_writeRecord_58 : decode b_RM_writeRecord 58 = .ok (.getfield 33, 3) := by decide +kernel
theorem d_RM_writeRecord_61 : decode b_RM_writeRecord 61 = .ok (.iload_n 1, 1) := by decide +kernel
theorem d_RM_writeRecord_62 : decode b_RM_writeRecord 62 = .ok (.iload 5, 2) := by decide +kernel
theorem d_RM_writeRecord_64 : decode b_RM_writeRecord 64 = .ok (.iadd, 1) := by decide +kernel
theorem d_RM_writeRecord_65 : decode b_RM_writeRecord 65 = .ok (.invokevirtual 64, 3) := by decide +kernel
theorem d_RM_writeRecord_68 : decode b_RM_writeRecord 68 = .ok (.goto 4, 3) := by decide +kernel
theorem d_RM_writeRecord_71 : decode b_RM_writeRecord 71 = .ok (.iconst 0, 1) := by decide +kernel
theorem d_RM_writeRecord_72 : decode b_RM_writeRecord 72 = .ok (.istore 6, 2) := by decide +kernel
theorem d_RM_writeRecord_74 : decode b_RM_writeRecord 74 = .ok (.aload_n 0, 1) := by decide +kernel
theorem d_RM_writeRecord_75 : decode b_RM_writeRecord 75 = .ok (.getfield 51, 3) := by decide +kernel
theorem d_RM_writeRecord_78 : decode b_RM_writeRecord 78 = .ok (.aload_n 0, 1) := by decide +kernel
theorem d_RM_writeRecord_79 : decode b_RM_writeRecord 79 = .ok (.aload_n 0, 1) := by decide +kernel
theorem d_RM_writeRecord_80 : decode b_RM_writeRecord 80 = .ok (.getfield 9, 3) := by decide +kernel
theorem d_RM_writeRecord_83 : decode b_RM_writeRecord 83 = .ok (.ldc2_w 62, 3) := by decide +kernel
theorem d_RM_writeRecord_86 : decode b_RM_writeRecord 86 = .ok (.ladd, 1) := by decide +kernel
theorem d_RM_writeRecord_87 : decode b_RM_writeRecord 87 = .ok (.iload 5, 2) := by decide +kernel
theorem d_RM_writeRecord_89 : decode b_RM_writeRecord 89 = .ok (.i2l, 1) := by decide +kernel
theorem d_RM_writeRecord_90 : decode b_RM_writeRecord 90 = .ok (.ladd, 1) := by decide +kernel
theorem d_RM_writeRecord_91 : decode b_RM_writeRecord 91 = .ok (.invokevirtual 54, 3) := by decide +kernel
theorem d_RM_writeRecord_94 : decode b_RM_writeRecord 94 = .ok (.iload 6, 2) := by decide +kernel
theorem d_RM_writeRecord_96 : decode b_RM_writeRecord 96 = .ok (.i2l, 1) := by decide +kernel
theorem d_RM_writeRecord_97 : decode b_RM_writeRecord 97 = .ok (.invokevirtual 67, 3) := by decide +kernel
theorem d_RM_writeRecord_100 : decode b_RM_writeRecord 100 = .ok (.iinc 5 1, 3) := by decide +kernel
theorem d_RM_writeRecord_103 : decode b_RM_writeRecord 103 = .ok (.goto (-61), 3) := by decide +kernel
theorem d_RM_writeRecord_106 : decode b_RM_writeRecord 106 = .ok (.return_, 1) := by decide +kernel
theorem d_RM_putRecord_0 : decode b_RM_putRecord 0 = .ok (.iload_n 2, 1) := by decide +kernel
theorem d_RM_putRecord_1 : decode b_RM_putRecord 1 = .ok (.i2l, 1) := by decide +kernel
theorem d_RM_putRecord_2 : decode b_RM_putRecord 2 = .ok (.iconst 1, 1) := by decide +kernel
theorem d_RM_putRecord_3 : decode b_RM_putRecord 3 = .ok (.sipush 256, 3) := by decide +kernel
theorem d_RM_putRecord_6 : decode b_RM_putRecord 6 = .ok (.invokestatic 29, 3) := by decide +kernel
theorem d_RM_putRecord_9 : decode b_RM_putRecord 9 = .ok (.ifCond .ne 6, 3) := by decide +kernel
theorem d_RM_putRecord_12 : decode b_RM_putRecord 12 = .ok (.bipush (-22), 2) := by decide +kernel
theorem d_RM_putRecord_14 : decode b_RM_putRecord 14 = .ok (.ireturn, 1) := by decide +kernel
theorem d_RM_putRecord_15 : decode b_RM_putRecord 15 = .ok (.aload_n 0, 1) := by decide +kernel
theorem d_RM_putRecord_16 : decode b_RM_putRecord 16 = .ok (.getfield 33, 3) := by decide +kernel
theorem d_RM_putRecord_19 : decode b_RM_putRecord 19 = .ok (.iload_n 1, 1) := by decide +kernel
theorem d_RM_putRecord_20 : decode b_RM_putRecord 20 = .ok (.iload_n 2, 1) := by decide +kernel
theorem d_RM_putRecord_21 : decode b_RM_putRecord 21 = .ok (.invokevirtual 37, 3) := by decide +kernel
theorem d_RM_putRecord_24 : decode b_RM_putRecord 24 = .ok (.aload_n 0, 1) := by decide +kernel
theorem d_RM_putRecord_25 : decode b_RM_putRecord 25 = .ok (.getfield 22, 3) := by decide +kernel
theorem d_RM_putRecord_28 : decode b_RM_putRecord 28 = .ok (.ifCond .eq 6, 3) := by decide +kernel
theorem d_RM_putRecord_31 : decode b_RM_putRecord 31 = .ok (.bipush (-22), 2) := by decide +kernel
theorem d_RM_putRecord_33 : decode b_RM_putRecord 33 = .ok (.ireturn, 1) := by decide +kernel
theorem d_RM_putRecord_34 : decode b_RM_putRecord 34 = .ok (.iload_n 2, 1) := by decide +kernel
theorem d_RM_putRecord_35 : decode b_RM_putRecord 35 = .ok (.invokestatic 43, 3) := by decide +kernel
theorem d_RM_putRecord_38 : decode b_RM_putRecord 38 = .ok (.istore_n 3, 1) := by decide +kernel
theorem d_RM_putRecord_39 : decode b_RM_putRecord 39 = .ok (.aload_n 0, 1) := by decide +kernel
theorem d_RM_putRecord_40 : decode b_RM_putRecord 40 = .ok (.getfield 9, 3) := by decide +kernel
theorem d_RM_putRecord_43 : decode b_RM_putRecord 43 = .ok (.aload_n 0, 1) := by decide +kernel
theorem d_RM_putRecord_44 : decode b_RM_putRecord 44 = .ok (.getfield 15, 3) := by decide +kernel
theorem d_RM_putRecord_47 : decode b_RM_putRecord 47 = .ok (.lsub, 1) := by decide +kernel
theorem d_RM_putRecord_48 : decode b_RM_putRecord 48 = .ok (.iload_n 3, 1) := by decide +kernel
theorem d_RM_putRecord_49 : decode b_RM_putRecord 49 = .ok (.i2l, 1) := by decide +kernel
theorem d_RM_putRecord_50 : decode b_RM_putRecord 50 = .ok (.ladd, 1) := by decide +kernel
theorem d_RM_putRecord_51 : decode b_RM_putRecord 51 = .ok (.aload_n 0, 1) := by decide +kernel
theorem d_RM_putRecord_52 : decode b_RM_putRecord 52 = .ok (.getfield 26, 3) := by decide +kernel
theorem d_RM_putRecord_55 : decode b_RM_putRecord 55 = .ok (.i2l, 1) := by decide +kernel
theorem d_RM_putRecord_56 : decode b_RM_putRecord 56 = .ok (.lcmp, 1) := by decide +kernel
theorem d_RM_putRecord_57 : decode b_RM_putRecord 57 = .ok (.ifCond .le 6, 3) := by decide +kernel
theorem d_RM_putRecord_60 : decode b_RM_putRecord 60 = .ok (.bipush (-11), 2) := by decide +kernel
theorem d_RM_putRecord_62 : decode b_RM_putRecord 62 = .ok (.ireturn, 1) := by decide +kernel
theorem d_RM_putRecord_63 : decode b_RM_putRecord 63 = .ok (.aload_n 0, 1) := by decide +kernel
theorem d_RM_putRecord_64 : decode b_RM_putRecord 64 = .ok (.iload_n 1, 1) := by decide +kernel
theorem d_RM_putRecord_65 : decode b_RM_putRecord 65 = .ok (.iload_n 2, 1) := by decide +kernel
theorem d_RM_putRecord_66 : decode b_RM_putRecord 66 = .ok (.iload_n 3, 1) := by decide +kernel
theorem d_RM_putRecord_67 : decode b_RM_putRecord 67 = .ok (.invokevirtual 47, 3) := by decide +kernel
theorem d_RM_putRecord_70 : decode b_RM_putRecord 70 = .ok (.aload_n 0, 1) := by decide +kernel
theorem d_RM_putRecord_71 : decode b_RM_putRecord 71 = .ok (.dup, 1) := by decide +kernel
theorem d_RM_putRecord_72 : decode b_RM_putRecord 72 = .ok (.getfield 9, 3) := by decide +kernel
theorem d_RM_putRecord_75 : decode b_RM_putRecord 75 = .ok (.iload_n 3, 1) := by decide +kernel
theorem d_RM_putRecord_76 : decode b_RM_putRecord 76 = .ok (.i2l, 1) := by decide +kernel
theorem d_RM_putRecord_77 : decode b_RM_putRecord 77 = .ok (.ladd, 1) := by decide +kernel
theorem d_RM_putRecord_78 : decode b_RM_putRecord 78 = .ok (.putfield 9, 3) := by decide +kernel
theorem d_RM_putRecord_81 : decode b_RM_putRecord 81 = .ok (.aload_n 0, 1) := by decide +kernel
theorem d_RM_putRecord_82 : decode b_RM_putRecord 82 = .ok (.dup, 1) := by decide +kernel
theorem d_RM_putRecord_83 : decode b_RM_putRecord 83 = .ok (.getfield 18, 3) := by decide +kernel
theorem d_RM_putRecord_86 : decode b_RM_putRecord 86 = .ok (.iconst 1, 1) := by decide +kernel
theorem d_RM_putRecord_87 : decode b_RM_putRecord 87 = .ok (.iadd, 1) := by decide +kernel
theorem d_RM_putRecord_88 : decode b_RM_putRecord 88 = .ok (.putfield 18, 3) := by decide +kernel
theorem d_RM_putRecord_91 : decode b_RM_putRecord 91 = .ok (.iconst 0, 1) := by decide +kernel
theorem d_RM_putRecord_92 : decode b_RM_putRecord 92 = .ok (.ireturn, 1) := by decide +kernel
theorem d_RM_takeRecord_0 : decode b_RM_takeRecord 0 = .ok (.aload_n 0, 1) := by decide +kernel
theorem d_RM_takeRecord_1 : decode b_RM_takeRecord 1 = .ok (.getfield 22, 3) := by decide +kernel
theorem d_RM_takeRecord_4 : decode b_RM_takeRecord 4 = .ok (.ifCond .eq 6, 3) := by decide +kernel
theorem d_RM_takeRecord_7 : decode b_RM_takeRecord 7 = .ok (.bipush (-22), 2) := by decide +kernel
theorem d_RM_takeRecord_9 : decode b_RM_takeRecord 9 = .ok (.ireturn, 1) := by decide +kernel
theorem d_RM_takeRecord_10 : decode b_RM_takeRecord 10 = .ok (.aload_n 0, 1) := by decide +kernel
theorem d_RM_takeRecord_11 : decode b_RM_takeRecord 11 = .ok (.getfield 9, 3) := by decide +kernel
theorem d_RM_takeRecord_14 : decode b_RM_takeRecord 14 = .ok (.aload_n 0, 1) := by decide +kernel
theorem d_RM_takeRecord_15 : decode b_RM_takeRecord 15 = .ok (.getfield 15, 3) := by decide +kernel
theorem d_RM_takeRecord_18 : decode b_RM_takeRecord 18 = .ok (.lcmp, 1) := by decide +kernel
theorem d_RM_takeRecord_19 : decode b_RM_takeRecord 19 = .ok (.ifCond .ne 6, 3) := by decide +kernel
theorem d_RM_takeRecord_22 : decode b_RM_takeRecord 22 = .ok (.bipush (-2), 2) := by decide +kernel
theorem d_RM_takeRecord_24 : decode b_RM_takeRecord 24 = .ok (.ireturn, 1) := by decide +kernel
theorem d_RM_takeRecord_25 : decode b_RM_takeRecord 25 = .ok (.aload_n 0, 1) := by decide +kernel
theorem d_RM_takeRecord_26 : decode b_RM_takeRecord 26 = .ok (.getfield 51, 3) := by decide +kernel
theorem d_RM_takeRecord_29 : decode b_RM_takeRecord 29 = .ok (.aload_n 0, 1) := by decide +kernel
theorem d_RM_takeRecord_30 : decode b_RM_takeRecord 30 = .ok (.aload_n 0, 1) := by decide +kernel
theorem d_RM_takeRecord_31 : decode b_RM_takeRecord 31 = .ok (.getfield 15, 3) := by decide +kernel
theorem d_RM_takeRecord_34 : decode b_RM_takeRecord 34 = .ok (.invokevirtual 54, 3) := by decide +kernel
theorem d_RM_takeRecord_37 : decode b_RM_takeRecord 37 = .ok (.iconst 4, 1) := by decide +kernel
theorem d_RM_takeRecord_38 : decode b_RM_takeRecord 38 = .ok (.invokevirtual 58, 3) := by decide +kernel
theorem d_RM_takeRecord_41 : decode b_RM_takeRecord 41 = .ok (.lstore_n 2, 1) := by decide +kernel
theorem d_RM_takeRecord_42 : decode b_RM_takeRecord 42 = .ok (.lload_n 2, 1) := by decide +kernel
theorem d_RM_takeRecord_43 : decode b_RM_takeRecord 43 = .ok (.iconst 1, 1) := by decide +kernel
theorem d_RM_takeRecord_44 : decode b_RM_takeRecord 44 = .ok (.sipush 256, 3) := by decide +kernel
theorem d_RM_takeRecord_47 : decode b_RM_takeRecord 47 = .ok (.invokestatic 29, 3) := by decide +kernel
theorem d_RM_takeRecord_50 : decode b_RM_takeRecord 50 = .ok (.ifCond .eq 22, 3) := by decide +kernel
theorem d_RM_takeRecord_53 : decode b_RM_takeRecord 53 = .ok (.lload_n 2, 1) := by decide +kernel
theorem d_RM_takeRecord_54 : decode b_RM_takeRecord 54 = .ok (.l2i, 1) := by decide +kernel
theorem d_RM_takeRecord_55 : decode b_RM_takeRecord 55 = .ok (.invokestatic 43, 3) := by decide +kernel
theorem d_RM_takeRecord_58 : decode b_RM_takeRecord 58 = .ok (.i2l, 1) := by decide +kernel
theorem d_RM_takeRecord_59 : decode b_RM_takeRecord 59 = .ok (.aload_n 0, 1) := by decide +kernel
theorem d_RM_takeRecord_60 : decode b_RM_takeRecord 60 = .ok (.getfield 9, 3) := by decide +kernel
theorem d_RM_takeRecord_63 : decode b_RM_takeRecord 63 = .ok (.aload_n 0, 1) := by decide +kernel
theorem d_RM_takeRecord_64 : decode b_RM_takeRecord 64 = .ok (.getfield 15, 3) := by decide +kernel
theorem d_RM_takeRecord_67 : decode b_RM_takeRecord 67 = .ok (.lsub, 1) := by decide +kernel
theorem d_RM_takeRecord_68 : decode b_RM_takeRecord 68 = .ok (.lcmp, 1) := by decide +kernel
theorem d_RM_takeRecord_69 : decode b_RM_takeRecord 69 = .ok (.ifCond .le 11, 3) := by decide +kernel
theorem d_RM_takeRecord_72 : decode b_RM_takeRecord 72 = .ok (.aload_n 0, 1) := by decide +kernel
theorem d_RM_takeRecord_73 : decode b_RM_takeRecord 73 = .ok (.iconst 1, 1) := by decide +kernel
theorem d_RM_takeRecord_74 : decode b_RM_takeRecord 74 = .ok (.putfield 22, 3) := by decide +kernel
theorem d_RM_takeRecord_77 : decode b_RM_takeRecord 77 = .ok (.bipush (-22), 2) := by decide +kernel
theorem d_RM_takeRecord_79 : decode b_RM_takeRecord 79 = .ok (.ireturn, 1) := by decide +kernel
theorem d_RM_takeRecord_80 : decode b_RM_takeRecord 80 = .ok (.lload_n 2, 1) := by decide +kernel
theorem d_RM_takeRecord_81 : decode b_RM_takeRecord 81 = .ok (.l2i, 1) := by decide +kernel
theorem d_RM_takeRecord_82 : decode b_RM_takeRecord 82 = .ok (.istore 4, 2) := by decide +kernel
theorem d_RM_takeRecord_84 : decode b_RM_takeRecord 84 = .ok (.aload_n 0, 1) := by decide +kernel
theorem d_RM_takeRecord_85 : decode b_RM_takeRecord 85 = .ok (.getfield 33, 3) := by decide +kernel
theorem d_RM_takeRecord_88 : decode b_RM_takeRecord 88 = .ok (.iload_n 1, 1) := by decide +kernel
theorem d_RM_takeRecord_89 : decode b_RM_takeRecord 89 = .ok (.iload 4, 2) := by decide +kernel
theorem d_RM_takeRecord_91 : decode b_RM_takeRecord 91 = .ok (.invokevirtual 37, 3) := by decide +kernel
theorem d_RM_takeRecord_94 : decode b_RM_takeRecord 94 = .ok (.iconst 0, 1) := by decide +kernel
theorem d_RM_takeRecord_95 : decode b_RM_takeRecord 95 = .ok (.istore 5, 2) := by decide +kernel
theorem d_RM_takeRecord_97 : decode b_RM_takeRecord 97 = .ok (.iload 5, 2) := by decide +kernel
theorem d_RM_takeRecord_99 : decode b_RM_takeRecord 99 = .ok (.iload 4, 2) := by decide +kernel
theorem d_RM_takeRecord_101 : decode b_RM_takeRecord 101 = .ok (.if_icmp .ge 44, 3) := by decide +kernel
theorem d_RM_takeRecord_104 : decode b_RM_takeRecord 104 = .ok (.aload_n 0, 1) := by decide +kernel
theorem d_RM_takeRecord_105 : decode b_RM_takeRecord 105 = .ok (.getfield 33, 3) := by decide +kernel
theorem d_RM_takeRecord_108 : decode b_RM_takeRecord 108 = .ok (.iload_n 1, 1) := by decide +kernel
theorem d_RM_takeRecord_109 : decode b_RM_takeRecord 109 = .ok (.iload 5, 2) := by decide +kernel
theorem d_RM_takeRecord_111 : decode b_RM_takeRecord 111 = .ok (.iadd, 1) := by decide +kernel
theorem d_RM_takeRecord_112 : decode b_RM_takeRecord 112 = .ok (.aload_n 0, 1) := by decide +kernel
theorem d_RM_takeRecord_113 : decode b_RM_takeRecord 113 = .ok (.getfield 51, 3) := by decide +kernel
theorem d_RM_takeRecord_116 : decode b_RM_takeRecord 116 = .ok (.aload_n 0, 1) := by decide +kernel
theorem d_RM_takeRecord_117 : decode b_RM_takeRecord 117 = .ok (.aload_n 0, 1) := by decide +kernel
theorem d_RM_takeRecord_118 : decode b_RM_takeRecord 118 = .ok (.getfield 15, 3) := by decide +kernel
theorem d_RM_takeRecord_121 : decode b_RM_takeRecord 121 = .ok (.ldc2_w 62, 3) := by decide +kernel
theorem d_RM_takeRecord_124 : decode b_RM_takeRecord 124 = .ok (.ladd, 1) := by decide +kernel
theorem d_RM_takeRecord_125 : decode b_RM_takeRecord 125 = .ok (.iload 5, 2) := by decide +kernel
theorem d_RM_takeRecord_127 : decode b_RM_takeRecord 127 = .ok (.i2l, 1) := by decide +kernel
theorem d_RM_takeRecord_128 : decode b_RM_takeRecord 128 = .ok (.ladd, 1) := by decide +kernel
theorem d_RM_takeRecord_129 : decode b_RM_takeRecord 129 = .ok (.invokevirtual 54, 3) := by decide +kernel
theorem d_RM_takeRecord_132 : decode b_RM_takeRecord 132 = .ok (.invokevirtual 64, 3) := by decide +kernel
theorem d_RM_takeRecord_135 : decode b_RM_takeRecord 135 = .ok (.i2l, 1) := by decide +kernel
theorem d_RM_takeRecord_136 : decode b_RM_takeRecord 136 = .ok (.invokevirtual 67, 3) := by decide +kernel
theorem d_RM_takeRecord_139 : decode b_RM_takeRecord 139 = .ok (.iinc 5 1, 3) := by decide +kernel
theorem d_RM_takeRecord_142 : decode b_RM_takeRecord 142 = .ok (.goto (-45), 3) := by decide +kernel
theorem d_RM_takeRecord_145 : decode b_RM_takeRecord 145 = .ok (.aload_n 0, 1) := by decide +kernel
theorem d_RM_takeRecord_146 : decode b_RM_takeRecord 146 = .ok (.dup, 1) := by decide +kernel
theorem d_RM_takeRecord_147 : decode b_RM_takeRecord 147 = .ok (.getfield 15, 3) := by decide +kernel
theorem d_RM_takeRecord_150 : decode b_RM_takeRecord 150 = .ok (.iload 4, 2) := by decide +kernel
theorem d_RM_takeRecord_152 : decode b_RM_takeRecord 152 = .ok (.invokestatic 43, 3) := by decide +kernel
theorem d_RM_takeRecord_155 : decode b_RM_takeRecord 155 = .ok (.i2l, 1) := by decide +kernel
theorem d_RM_takeRecord_156 : decode b_RM_takeRecord 156 = .ok (.ladd, 1) := by decide +kernel
theorem d_RM_takeRecord_157 : decode b_RM_takeRecord 157 = .ok (.putfield 15, 3) := by decide +kernel
theorem d_RM_takeRecord_160 : decode b_RM_takeRecord 160 = .ok (.iload 4, 2) := by decide +kernel
theorem d_RM_takeRecord_162 : decode b_RM_takeRecord 162 = .ok (.ireturn, 1) := by decide +kernel
theorem uN_lN {n : Nat} (h : n < 2 ^ 64) : uN (lN n) = n := wb_tn h
theorem p2_8 {n : Nat} (h : ∃ p, 6 ≤ p ∧ p ≤ 14 ∧ n = 2 ^ p) : n % 8 = 0 ∧ 64 ≤ n ∧ n ≤ 16384 := by
  obtain ⟨p, h1, h2, rfl⟩ := h
  rcases (by omega : p = 6 ∨ p = 7 ∨ p = 8 ∨ p = 9 ∨ p = 10 ∨ p = 11 ∨ p = 12 ∨ p = 13 ∨ p = 14) with h | h | h | h | h | h | h | h | h <;> subst h <;> decide
theorem rng_lin {f : Nat → Nat} {b n h : Nat} {v : Nat → Nat} (hn : 0 < n) : ∀ {k : Nat}, h % n + k ≤ n → ∀ x, rng f b n h v k x = if b + h % n ≤ x ∧ x < b + h % n + k then v (x - (b + h % n)) else f x
  | 0, _, x => by rw [if_neg (by omega)]; rfl
  | k + 1, hk, x => by
    have hm : (h + k) % n = h % n + k := by rw [Nat.add_mod, Nat.mod_eq_of_lt (a := k) (by omega), Nat.mod_eq_of_lt (by omega)]
    show (if x = b + (h + k) % n then v k else rng f b n h v k x) = _
    rw [hm, rng_lin hn (by omega) x]
    by_cases e : x = b + (h % n + k)
    · rw [if_pos e, if_pos (by omega)]
      congr 1; omega
    · rw [if_neg e]
      by_cases e2 : b + h % n ≤ x ∧ x < b + h % n + k
      · rw [if_pos e2, if_pos (by omega)]
      · rw [if_neg e2, if_neg (by omega)]
theorem mod8 {h n : Nat} (h8 : h % 8 = 0) (n8 : n % 8 = 0) (hn : 0 < n) : h % n + 8 ≤ n := by
  have h1 := Nat.mod_lt h hn
  have h2 : h % n % 8 = 0 := by rw [Nat.mod_mod_of_dvd h (Nat.dvd_of_mod_eq_zero n8)]; exact h8
  omega
set_option maxRecDepth 100000 in
set_option maxHeartbeats 4000000 in
theorem c_RM_placeOfCount (l : Launch) (D : va_G) (dA : Nat → ClassId) {w : mw_W} {a bd ba b n cc : Nat} {v1 v2 : Int64} {v3 v4 : Int32} (f0 : w a = some (.inr (cRM, [.ref bd, .ref ba, .int (nI b), .int (nI n), .long v1, .long v2, .int v3, .int v4]))) (hp : ∃ p, 6 ≤ p ∧ p ≤ 14 ∧ n = 2 ^ p) (hc : cc < 2 ^ 30) : CT l D dA y_RM_placeOfCount (Cond.code y_RM_placeOfCount b_RM_placeOfCount 3 (some .int) :: Ts) 0 0 0 0 [.ref a, .long (lN cc)] w (fun r w' => r = .inl (some (.int (nI (b + cc % n)))) ∧ w' = w) := by
  refine mw_meth (by decide) mk_tb (Nat.le_of_ble_eq_true rfl) ?_
  intro p e s m below meth c K hr hlk hce hnm hP0 hSy ls hl
  have hl : lv_has ls 3 [(0, .ref a), (1, .long (lN cc))] := hl
  obtain ⟨hx, hb, hml, hown, hts, hK, hTb⟩ := id K
  have hI := mw_I.start hP0
  have hn := p2_8 hp
  obtain ⟨p2, hp6, hp14, hpn⟩ := hp
  refine lv_aload_n hx hb d_RM_placeOfCount_0 rfl (lv_at hl 0 rfl) ?_
  refine mw_get K hI gf_RM_75_cRM f0 rfl d_RM_placeOfCount_1 ?_
  refine lv_lload_n hx hb d_RM_placeOfCount_4 rfl (lv_at hl 1 rfl) ?_
  refine lv_aload_n hx hb d_RM_placeOfCount_5 rfl (lv_at hl 0 rfl) ?_
  refine mw_get K hI gf_RM_26_cRM f0 rfl d_RM_placeOfCount_6 ?_
  refine lv_iconst (v := nI 1) hx hb d_RM_placeOfCount_9 (by decide) ?_
  refine lv_isub hx hb d_RM_placeOfCount_10 ?_
  refine mw_ti (pk_sub (by omega)) ?_
  refine lv_i2l hx hb d_RM_placeOfCount_11 rfl ?_
  refine mw_tl (nI_l (by omega)) ?_
  refine lv_land hx hb d_RM_placeOfCount_12 ?_
  refine mw_tl (y := lN (cc % n)) ((by rw [hpn, wb_mask (by omega) (by omega)])) ?_
  refine lv_l2i hx hb d_RM_placeOfCount_13 rfl ?_
  refine mw_ti (lN_i _) ?_
  refine lv_iadd hx hb d_RM_placeOfCount_14 ?_
  refine mw_ti (nI_add _ _) ?_
  exact mw_iret K hI hr hlk ⟨rfl, rfl⟩ d_RM_placeOfCount_15
set_option maxRecDepth 100000 in
set_option maxHeartbeats 4000000 in
theorem c_RM_writeRecord (l : Launch) (D : va_G) (dA : Nat → ClassId) {w : mw_W} {own : as_W} {x bd xd ba xa ra : Nat} {mp : Nat → Nat} {gd ga : Nat → Int64} {S : as_S} {t : Nat} (hA : rc_A dA w own x bd xd ba xa ra mp gd ga S) (hW : wf_S t S) {i : Nat} (hi : i < nm S) (ht : t ≤ 512) (hk : kd (mm S i) = 2) {q z : Nat} (hz : 1 ≤ z ∧ z ≤ 256) (hq0 : q + z ≤ 512) : CT l D dA y_RM_writeRecord (Cond.code y_RM_writeRecord b_RM_writeRecord 7 none :: Ts) 3 100 0 0 [.ref (mp i), .int (nI q), .int (nI z), .int (nI (up8 (8 + z)))] w (fun r w' => r = .inl none ∧ ∃ g', w' = mw_up w xa (by_a dA 65536 g') ∧ ∀ j, j < 65536 → bw_b g' j = rng (ar S) (bg (mm S i)) (en (mm S i)) (hd (mm S i)) (rcB (dk S) z (rc (mm S i)) q) (up8 (8 + z)) j) := by
  refine mw_meth (by decide) mk_tb (Nat.le_of_ble_eq_true rfl) ?_
  intro p e s m below meth c K hr hlk hce hnm hP0 hSy ls hl
  have hl : lv_has ls 7 [(0, .ref (mp i)), (1, .int (nI q)), (2, .int (nI z)), (3, .int (nI (up8 (8 + z))))] := hl
  obtain ⟨hx, hb, hml, hown, hts, hK, hTb⟩ := id K
  have hI := mw_I.start hP0
  obtain ⟨⟨o1, o2, o3, o4, fx, fd, fa, fr, hdk, har⟩, hM⟩ := id hA
  obtain ⟨r1, r2, r3, r4, r5, r6, r7, r8, r9⟩ := wf_R (hW.2.2.2.2.2 i hi) hk
  obtain ⟨om, f0⟩ := rc_RM (hA.2 i hi) hk
  obtain ⟨mi, em⟩ : ∃ mi, mi = mm S i := ⟨_, rfl⟩
  rw [← em] at f0 r1 r2 r3 r4 r5 r6 r7 r8 r9
  have p8 := p2_8 r2
  have u8 := up8_ge (8 + z)
  have hm8 := mod8 r6 p8.1 (by omega)
  have hup : ∀ g1, (mw_up w xa (by_a dA 65536 g1)) (mp i) = some (.inr (cRM, [.ref bd, .ref ba, .int (nI (bg mi)), .int (nI (en mi)), .long (lN (hd mi)), .long (lN (tl mi)), .int (nI (rc mi)), .int (nI (if bk mi = true then 1 else 0))])) := fun g1 => (mw_up_n _ _ (mw_neA f0 fa.2)).trans f0
  have hdu : ∀ g1, by_ok dA (mw_up w xa (by_a dA 65536 g1)) bd xd 512 gd := fun g1 => fd.keep (mw_neA fd.1 fa.2) (own_ne o2 o3 (by decide))
  have hloop : ∀ (n9 j : Nat), j + n9 = up8 (8 + z) - 8 → ∀ (g1 : Nat → Int64), (∀ y, y < 65536 → bw_b g1 y = rng (ar S) (bg mi) (en mi) (hd mi) (rcB (dk S) z (rc mi) q) (8 + j) y) → ∀ (H : Heap) (locs : List Loc), mw_I D mk_cl w s.heap (mw_up w xa (by_a dA 65536 g1)) H locs → ∀ ls : Array Slot, lv_has ls 7 [(5, .int (nI j)), (0, .ref (mp i)), (1, .int (nI q)), (2, .int (nI z)), (3, .int (nI (up8 (8 + z))))] → W p l e { frames := 3, cells := 0, slots := 0, locals := 100 } s m ([.ref (mp i), .int (nI q), .int (nI z), .int (nI (up8 (8 + z)))] : List Value).toArray below meth c H locs 0 0 (mx_Q below (mw_Qc D mk_cl w s.heap.size (fun r w' => r = .inl none ∧ ∃ g', w' = mw_up w xa (by_a dA 65536 g') ∧ ∀ j, j < 65536 → bw_b g' j = rng (ar S) (bg (mm S i)) (en (mm S i)) (hd (mm S i)) (rcB (dk S) z (rc (mm S i)) q) (up8 (8 + z)) j)) ([.ref (mp i), .int (nI q), .int (nI z), .int (nI (up8 (8 + z)))] : List Value).toArray s 0 0 (mw_A w s.heap.size)) (F0 m 42 ls []) := by
    intro n9
    induction n9 with
    | zero =>
      intro j hj g1 hg H locs hI ls hl
      refine lv_iload hx hb d_RM_writeRecord_42 (lv_at hl 0 rfl) ?_
      refine lv_iload_n hx hb d_RM_writeRecord_44 rfl (lv_at hl 4 rfl) ?_
      refine lv_bipush (v := nI 8) hx hb d_RM_writeRecord_45 (by decide) ?_
      refine lv_isub hx hb d_RM_writeRecord_47 ?_
      refine mw_ti (pk_sub (by omega)) ?_
      refine lv_icmp_ge (tgt := 106) hx hb d_RM_writeRecord_48 (by decide) (fun c48 => ?_) (fun c48 => ?_)
      ·
        have e9 : 8 + j = up8 (8 + z) := by omega
        rw [e9] at hg
        exact mw_vret K hI hr hlk ⟨rfl, g1, rfl, by rw [← em]; exact hg⟩ d_RM_writeRecord_106
      ·
        exact absurd (nI_le (by omega) (by omega)) c48
    | succ n9 ih =>
      intro j hj g1 hg H locs hI ls hl
      have f1 := hup g1
      have fd1 := hdu g1
      have fa1 := fa.up g1
      have hpl : bg mi + (hd mi + 8 + j) % en mi < 65536 := by
        have := Nat.mod_lt (hd mi + 8 + j) (show 0 < en mi by omega)
        omega
      have rest : ∀ (b0 : Nat), b0 < 256 → rcB (dk S) z (rc mi) q (8 + j) = b0 → ∀ (H : Heap) (locs : List Loc), mw_I D mk_cl w s.heap (mw_up w xa (by_a dA 65536 g1)) H locs → ∀ ls : Array Slot, lv_has ls 7 [(5, .int (nI j)), (0, .ref (mp i)), (1, .int (nI q)), (2, .int (nI z)), (3, .int (nI (up8 (8 + z))))] → W p l e { frames := 3, cells := 0, slots := 0, locals := 100 } s m ([.ref (mp i), .int (nI q), .int (nI z), .int (nI (up8 (8 + z)))] : List Value).toArray below meth c H locs 0 0 (mx_Q below (mw_Qc D mk_cl w s.heap.size (fun r w' => r = .inl none ∧ ∃ g', w' = mw_up w xa (by_a dA 65536 g') ∧ ∀ j, j < 65536 → bw_b g' j = rng (ar S) (bg (mm S i)) (en (mm S i)) (hd (mm S i)) (rcB (dk S) z (rc (mm S i)) q) (up8 (8 + z)) j)) ([.ref (mp i), .int (nI q), .int (nI z), .int (nI (up8 (8 + z)))] : List Value).toArray s 0 0 (mw_A w s.heap.size)) (F0 m 72 ls [.int (nI b0)]) := by
        intro b0 hb0 hrb H locs hI ls hl
        refine lv_istore (lv' := [(6, .int (nI b0)), (5, .int (nI j)), (0, .ref (mp i)), (1, .int (nI q)), (2, .int (nI z)), (3, .int (nI (up8 (8 + z))))]) hx hb d_RM_writeRecord_72 hl (by decide) rfl (fun ls hl => ?_)
        refine lv_aload_n hx hb d_RM_writeRecord_74 rfl (lv_at hl 2 rfl) ?_
        refine mw_get K hI gf_RM_51_cRM f1 rfl d_RM_writeRecord_75 ?_
        refine lv_aload_n hx hb d_RM_writeRecord_78 rfl (lv_at hl 2 rfl) ?_
        refine lv_aload_n hx hb d_RM_writeRecord_79 rfl (lv_at hl 2 rfl) ?_
        refine mw_get K hI gf_RM_9_cRM f1 rfl d_RM_writeRecord_80 ?_
        refine lv_ldc2 (v := lN 8) hx hb hown (hts _ tw_555) d_RM_writeRecord_83 ?_
        refine lv_ladd hx hb d_RM_writeRecord_86 ?_
        refine mw_tl (lN_add _ _) ?_
        refine lv_iload hx hb d_RM_writeRecord_87 (lv_at hl 1 rfl) ?_
        refine lv_i2l hx hb d_RM_writeRecord_89 rfl ?_
        refine mw_tl (nI_l (by omega)) ?_
        refine lv_ladd hx hb d_RM_writeRecord_90 ?_
        refine mw_tl (lN_add _ _) ?_
        refine mw_call (rest := [.ref ba]) K hSy hP0 hI (c_RM_placeOfCount l D dA f1 r2 (cc := hd mi + 8 + j) (by omega)) (mx_invV hx hown (hts _ tw_549) (hts _ tw_551) (hts _ tw_7) (hts _ tw_552) (by decide) (b := (mp i)) (mw_rc K hI f1 rfl) (g := F0 m 91 ls [.long (lN (((hd mi) + 8) + j)), .ref (mp i), .ref ba]) rfl (argsL := [.long (lN (((hd mi) + 8) + j))]) (rest := [.ref ba]) np_RM_placeOfCount rfl (by rw [hb]; exact d_RM_writeRecord_91)) hl.1 d_RM_writeRecord_91 ⟨Nat.le_of_ble_eq_true rfl, Nat.le_of_ble_eq_true rfl⟩ (Or.inl ⟨_, _, List.mem_cons_self⟩) (mk_ws tw_552 hts) (fun a9 U9 h9 => Ts_warm hts _ tw_34 a9 U9 h9) ⟨Nat.le_of_ble_eq_true rfl, Nat.le_of_ble_eq_true rfl⟩ (fun v w' H locs hq hI => ?_) (fun k x w' H locs hq hI hX => ?_)
        · obtain ⟨hq1, hq2⟩ := hq
          cases hq1
          rw [hq2] at hI
          refine W.eq (g2 := F0 m 94 ls [.int (nI (bg mi + (hd mi + 8 + j) % en mi)), .ref ba]) rfl ?_
          refine lv_iload hx hb d_RM_writeRecord_94 (lv_at hl 0 rfl) ?_
          refine lv_i2l hx hb d_RM_writeRecord_96 rfl ?_
          refine mw_tl (nI_l (by omega)) ?_
          refine mw_call (rest := []) K hSy hP0 hI (c_BY_setByte l D dA fa1 (by decide) (i := bg mi + (hd mi + 8 + j) % en mi) hpl (lN b0)) (mx_invV hx hown (hts _ tw_556) (hts _ tw_402) (hts _ tw_403) (hts _ tw_404) (by decide) (b := ba) (mw_rc K hI fa1.1 rfl) (g := F0 m 97 ls [.long (lN b0), .int (nI (bg mi + (hd mi + 8 + j) % en mi)), .ref ba]) rfl (argsL := [.int (nI (bg mi + (hd mi + 8 + j) % en mi)), .long (lN b0)]) (rest := []) np_BY_setByte rfl (by rw [hb]; exact d_RM_writeRecord_97)) hl.1 d_RM_writeRecord_97 ⟨Nat.le_of_ble_eq_true rfl, Nat.le_of_ble_eq_true rfl⟩ (Or.inl ⟨_, _, List.mem_cons_self⟩) (mk_ws tw_404 hts) (fun a9 U9 h9 => Ts_warm hts _ tw_22 a9 U9 h9) ⟨Nat.le_of_ble_eq_true rfl, Nat.le_of_ble_eq_true rfl⟩ (fun v w' H locs hq hI => ?_) (fun k x w' H locs hq hI hX => ?_)
          · obtain ⟨hq1, hq2⟩ := hq
            cases hq1
            rw [hq2, mw_uu] at hI
            refine W.eq (g2 := F0 m 100 ls []) rfl ?_
            refine lv_iinc (v := nI (j + 1)) (lv' := [(5, .int (nI (j + 1))), (6, .int (nI b0)), (0, .ref (mp i)), (1, .int (nI q)), (2, .int (nI z)), (3, .int (nI (up8 (8 + z))))]) hx hb d_RM_writeRecord_100 hl (k := 1) rfl (nI_add _ _) (by decide) rfl (fun ls hl => ?_)
            refine lv_goto (tgt := 42) hx hb d_RM_writeRecord_103 (by decide) ?_
            refine ih (j + 1) (by omega) _ (fun y hy => ?_) H locs hI ls (lv_sub hl [0, 2, 3, 4, 5] rfl)
            rw [bw_sb, uN_lN (by omega), Nat.mod_eq_of_lt hb0]
            show _ = nup (rng (ar S) (bg mi) (en mi) (hd mi) (rcB (dk S) z (rc mi) q) (8 + j)) (bg mi + (hd mi + (8 + j)) % en mi) (rcB (dk S) z (rc mi) q (8 + j)) y
            unfold nup
            rw [hrb, ← Nat.add_assoc, hg y hy]
          · exact absurd hq.1 (by simp)
        · exact absurd hq.1 (by simp)
      refine lv_iload hx hb d_RM_writeRecord_42 (lv_at hl 0 rfl) ?_
      refine lv_iload_n hx hb d_RM_writeRecord_44 rfl (lv_at hl 4 rfl) ?_
      refine lv_bipush (v := nI 8) hx hb d_RM_writeRecord_45 (by decide) ?_
      refine lv_isub hx hb d_RM_writeRecord_47 ?_
      refine mw_ti (pk_sub (by omega)) ?_
      refine lv_icmp_ge (tgt := 106) hx hb d_RM_writeRecord_48 (by decide) (fun c48 => ?_) (fun c48 => ?_)
      ·
        exact absurd c48 (nI_ge (by omega) (by omega))
      ·
        refine lv_iload hx hb d_RM_writeRecord_51 (lv_at hl 0 rfl) ?_
        refine lv_iload_n hx hb d_RM_writeRecord_53 rfl (lv_at hl 3 rfl) ?_
        refine lv_icmp_ge (tgt := 71) hx hb d_RM_writeRecord_54 (by decide) (fun c54 => ?_) (fun c54 => ?_)
        ·
          have hge : z ≤ j := (nI_leI (by omega) (by omega)).mp c54
          refine lv_iconst (v := nI 0) hx hb d_RM_writeRecord_71 (by decide) ?_
          refine rest 0 (by decide) ?_ H locs hI ls hl
          unfold rcB
          rw [if_neg (by omega), if_neg (by omega), if_neg (by omega)]
        ·
          have hlt : j < z := Nat.lt_of_not_le (fun h => c54 ((nI_leI (by omega) (by omega)).mpr h))
          refine lv_aload_n hx hb d_RM_writeRecord_57 rfl (lv_at hl 1 rfl) ?_
          refine mw_get K hI gf_RM_33_cRM f1 rfl d_RM_writeRecord_58 ?_
          refine lv_iload_n hx hb d_RM_writeRecord_61 rfl (lv_at hl 2 rfl) ?_
          refine lv_iload hx hb d_RM_writeRecord_62 (lv_at hl 0 rfl) ?_
          refine lv_iadd hx hb d_RM_writeRecord_64 ?_
          refine mw_ti (nI_add _ _) ?_
          refine mw_call (rest := []) K hSy hP0 hI (c_BY_byteAt l D dA fd1 (by decide) (i := q + j) (by omega)) (mx_invV hx hown (hts _ tw_554) (hts _ tw_384) (hts _ tw_385) (hts _ tw_386) (by decide) (b := bd) (mw_rc K hI fd1.1 rfl) (g := F0 m 65 ls [.int (nI (q + j)), .ref bd]) rfl (argsL := [.int (nI (q + j))]) (rest := []) np_BY_byteAt rfl (by rw [hb]; exact d_RM_writeRecord_65)) hl.1 d_RM_writeRecord_65 ⟨Nat.le_of_ble_eq_true rfl, Nat.le_of_ble_eq_true rfl⟩ (Or.inl ⟨_, _, List.mem_cons_self⟩) (mk_ws tw_386 hts) (fun a9 U9 h9 => Ts_warm hts _ tw_22 a9 U9 h9) ⟨Nat.le_of_ble_eq_true rfl, Nat.le_of_ble_eq_true rfl⟩ (fun v w' H locs hq hI => ?_) (fun k x w' H locs hq hI hX => ?_)
          · obtain ⟨hq1, hq2⟩ := hq
            cases hq1
            rw [hq2] at hI
            refine W.eq (g2 := F0 m 68 ls [.int (nI (bw_b gd (q + j)))]) rfl ?_
            refine lv_goto (tgt := 72) hx hb d_RM_writeRecord_68 (by decide) ?_
            refine rest (bw_b gd (q + j)) (bw_lt _ _) ?_ H locs hI ls hl
            unfold rcB
            rw [if_neg (by omega), if_neg (by omega), if_pos (by omega), show 8 + j - 8 = j by omega]
            exact (hdk _ (by omega)).symm
          · exact absurd hq.1 (by simp)
  refine lv_aload_n hx hb d_RM_writeRecord_0 rfl (lv_at hl 0 rfl) ?_
  refine lv_aload_n hx hb d_RM_writeRecord_1 rfl (lv_at hl 0 rfl) ?_
  refine mw_get K hI gf_RM_9_cRM f0 rfl d_RM_writeRecord_2 ?_
  refine mw_call (rest := []) K hSy hP0 hI (c_RM_placeOfCount l D dA f0 r2 (cc := hd mi) (by omega)) (mx_invV hx hown (hts _ tw_549) (hts _ tw_551) (hts _ tw_7) (hts _ tw_552) (by decide) (b := (mp i)) (mw_rc K hI f0 rfl) (g := F0 m 5 ls [.long (lN (hd mi)), .ref (mp i)]) rfl (argsL := [.long (lN (hd mi))]) (rest := []) np_RM_placeOfCount rfl (by rw [hb]; exact d_RM_writeRecord_5)) hl.1 d_RM_writeRecord_5 ⟨Nat.le_of_ble_eq_true rfl, Nat.le_of_ble_eq_true rfl⟩ (Or.inl ⟨_, _, List.mem_cons_self⟩) (mk_ws tw_552 hts) (fun a9 U9 h9 => Ts_warm hts _ tw_34 a9 U9 h9) ⟨Nat.le_of_ble_eq_true rfl, Nat.le_of_ble_eq_true rfl⟩ (fun v w' H locs hq hI => ?_) (fun k x w' H locs hq hI hX => ?_)
  · obtain ⟨hq1, hq2⟩ := hq
    cases hq1
    rw [hq2] at hI
    refine W.eq (g2 := F0 m 8 ls [.int (nI (bg mi + hd mi % en mi))]) rfl ?_
    refine lv_istore (lv' := [(4, .int (nI (bg mi + hd mi % en mi))), (0, .ref (mp i)), (1, .int (nI q)), (2, .int (nI z)), (3, .int (nI (up8 (8 + z))))]) hx hb d_RM_writeRecord_8 hl (by decide) rfl (fun ls hl => ?_)
    refine lv_aload_n hx hb d_RM_writeRecord_10 rfl (lv_at hl 1 rfl) ?_
    refine mw_get K hI gf_RM_51_cRM f0 rfl d_RM_writeRecord_11 ?_
    refine lv_iload hx hb d_RM_writeRecord_14 (lv_at hl 0 rfl) ?_
    refine lv_iconst (v := nI 4) hx hb d_RM_writeRecord_16 (by decide) ?_
    refine lv_iload_n hx hb d_RM_writeRecord_17 rfl (lv_at hl 3 rfl) ?_
    refine lv_i2l hx hb d_RM_writeRecord_18 rfl ?_
    refine mw_tl (nI_l (by omega)) ?_
    refine mw_call (rest := []) K hSy hP0 hI (c_BY_setNumber l D dA fa (by decide) (i := bg mi + hd mi % en mi) (k := 4) (by decide) (by omega) (lN z)) (mx_invV hx hown (hts _ tw_553) (hts _ tw_398) (hts _ tw_399) (hts _ tw_400) (by decide) (b := ba) (mw_rc K hI fa.1 rfl) (g := F0 m 19 ls [.long (lN z), .int (nI 4), .int (nI (bg mi + hd mi % en mi)), .ref ba]) rfl (argsL := [.int (nI (bg mi + hd mi % en mi)), .int (nI 4), .long (lN z)]) (rest := []) np_BY_setNumber rfl (by rw [hb]; exact d_RM_writeRecord_19)) hl.1 d_RM_writeRecord_19 ⟨Nat.le_of_ble_eq_true rfl, Nat.le_of_ble_eq_true rfl⟩ (Or.inl ⟨_, _, List.mem_cons_self⟩) (mk_ws tw_400 hts) (fun a9 U9 h9 => Ts_warm hts _ tw_22 a9 U9 h9) ⟨Nat.le_of_ble_eq_true rfl, Nat.le_of_ble_eq_true rfl⟩ (fun v w' H locs hq hI => ?_) (fun k x w' H locs hq hI hX => ?_)
    · obtain ⟨hq1, g1, hq2, hg1⟩ := hq
      cases hq1
      rw [hq2] at hI
      refine W.eq (g2 := F0 m 22 ls []) rfl ?_
      have f1 := hup g1
      have fa1 := fa.up g1
      refine lv_aload_n hx hb d_RM_writeRecord_22 rfl (lv_at hl 1 rfl) ?_
      refine mw_get K hI gf_RM_51_cRM f1 rfl d_RM_writeRecord_23 ?_
      refine lv_iload hx hb d_RM_writeRecord_26 (lv_at hl 0 rfl) ?_
      refine lv_iconst (v := nI 4) hx hb d_RM_writeRecord_28 (by decide) ?_
      refine lv_iadd hx hb d_RM_writeRecord_29 ?_
      refine mw_ti (nI_add _ _) ?_
      refine lv_iconst (v := nI 4) hx hb d_RM_writeRecord_30 (by decide) ?_
      refine lv_aload_n hx hb d_RM_writeRecord_31 rfl (lv_at hl 1 rfl) ?_
      refine mw_get K hI gf_RM_18_cRM f1 rfl d_RM_writeRecord_32 ?_
      refine lv_i2l hx hb d_RM_writeRecord_35 rfl ?_
      refine mw_tl (nI_l (by omega)) ?_
      refine mw_call (rest := []) K hSy hP0 hI (c_BY_setNumber l D dA fa1 (by decide) (i := bg mi + hd mi % en mi + 4) (k := 4) (by decide) (by omega) (lN (rc mi))) (mx_invV hx hown (hts _ tw_553) (hts _ tw_398) (hts _ tw_399) (hts _ tw_400) (by decide) (b := ba) (mw_rc K hI fa1.1 rfl) (g := F0 m 36 ls [.long (lN (rc mi)), .int (nI 4), .int (nI ((bg mi + hd mi % en mi) + 4)), .ref ba]) rfl (argsL := [.int (nI ((bg mi + hd mi % en mi) + 4)), .int (nI 4), .long (lN (rc mi))]) (rest := []) np_BY_setNumber rfl (by rw [hb]; exact d_RM_writeRecord_36)) hl.1 d_RM_writeRecord_36 ⟨Nat.le_of_ble_eq_true rfl, Nat.le_of_ble_eq_true rfl⟩ (Or.inl ⟨_, _, List.mem_cons_self⟩) (mk_ws tw_400 hts) (fun a9 U9 h9 => Ts_warm hts _ tw_22 a9 U9 h9) ⟨Nat.le_of_ble_eq_true rfl, Nat.le_of_ble_eq_true rfl⟩ (fun v w' H locs hq hI => ?_) (fun k x w' H locs hq hI hX => ?_)
      · obtain ⟨hq1, g2, hq2, hg2⟩ := hq
        cases hq1
        rw [hq2, mw_uu] at hI
        refine W.eq (g2 := F0 m 39 ls []) rfl ?_
        refine lv_iconst (v := nI 0) hx hb d_RM_writeRecord_39 (by decide) ?_
        refine lv_istore (lv' := [(5, .int (nI 0)), (4, .int (nI (bg mi + hd mi % en mi))), (0, .ref (mp i)), (1, .int (nI q)), (2, .int (nI z)), (3, .int (nI (up8 (8 + z))))]) hx hb d_RM_writeRecord_40 hl (by decide) rfl (fun ls hl => ?_)
        refine hloop (up8 (8 + z) - 8) 0 (by omega) g2 (fun y hy => ?_) H locs hI ls (lv_sub hl [0, 2, 3, 4, 5] rfl)
        rw [rng_lin (by omega) (by omega) y, hg2 y, hg1 y]
        rw [uN_lN (by omega), uN_lN (by omega)]
        unfold rcB
        by_cases c1 : bg mi + hd mi % en mi + 4 ≤ y ∧ y < bg mi + hd mi % en mi + 4 + 4
        · rw [if_pos c1, if_pos (by omega), if_neg (by omega), if_pos (by omega)]
          rw [show y - (bg mi + hd mi % en mi + 4) = y - (bg mi + hd mi % en mi) - 4 by omega]
        · rw [if_neg c1]
          by_cases c2 : bg mi + hd mi % en mi ≤ y ∧ y < bg mi + hd mi % en mi + 4
          · rw [if_pos c2, if_pos (by omega), if_pos (by omega)]
          · rw [if_neg c2, if_neg (by omega)]; exact har y hy
      · exact absurd hq.1 (by simp)
    · exact absurd hq.1 (by simp)
  · exact absurd hq.1 (by simp)
set_option maxRecDepth 100000 in
set_option maxHeartbeats 4000000 in
theorem c_RM_putRecord (l : Launch) (D : va_G) (dA : Nat → ClassId) (hL : mw_L l) {w : mw_W} {own : as_W} {x bd xd ba xa ra : Nat} {mp : Nat → Nat} {gd ga : Nat → Int64} {S : as_S} {t : Nat} (hA : rc_A dA w own x bd xd ba xa ra mp gd ga S) (hW : wf_S t S) {i : Nat} (hi : i < nm S) (ht : t ≤ 512) (hk : kd (mm S i) = 2) (a z : Int32) : CT l D dA y_RM_putRecord (Cond.code y_RM_putRecord b_RM_putRecord 4 (some .int) :: Ts) 7 140 1 6 [.ref (mp i), .int a, .int z] w (PC dA w own x bd xd ba xa ra mp (sp_put S i a z)) := by
  refine mw_meth (by decide) mk_tb (Nat.le_of_ble_eq_true rfl) ?_
  intro p e s m below meth c K hr hlk hce hnm hP0 hSy ls hl
  have hl : lv_has ls 4 [(0, .ref (mp i)), (1, .int a), (2, .int z)] := hl
  obtain ⟨hx, hb, hml, hown, hts, hK, hTb⟩ := id K
  have hI := mw_I.start hP0
  obtain ⟨⟨o1, o2, o3, o4, fx, fd, fa, fr, hdk, har⟩, hM⟩ := id hA
  obtain ⟨r1, r2, r3, r4, r5, r6, r7, r8, r9⟩ := wf_R (hW.2.2.2.2.2 i hi) hk
  obtain ⟨om, f0⟩ := rc_RM (hA.2 i hi) hk
  obtain ⟨mi, em⟩ : ∃ mi, mi = mm S i := ⟨_, rfl⟩
  rw [← em] at f0 r1 r2 r3 r4 r5 r6 r7 r8 r9
  have p8 := p2_8 r2
  refine lv_iload_n hx hb d_RM_putRecord_0 rfl (lv_at hl 2 rfl) ?_
  refine lv_i2l hx hb d_RM_putRecord_1 rfl ?_
  refine lv_iconst (v := nI 1) hx hb d_RM_putRecord_2 (by decide) ?_
  refine lv_sipush (v := nI 256) hx hb d_RM_putRecord_3 (by decide) ?_
  refine mp_call (rest := []) hb hml (c_MS_within l z.toInt64 (nI 1) (nI 256)) (mx_invSN hx hown (hts _ tw_539) (hts _ tw_183) (hts _ tw_21) (hts _ tw_184) (by decide) (g := F0 m 6 ls [.int (nI 256), .int (nI 1), .long (z.toInt64)]) rfl (argsL := [.long (z.toInt64), .int (nI 1), .int (nI 256)]) (rest := []) np_MS_within rfl (by rw [hb]; exact d_RM_putRecord_6)) hl.1 d_RM_putRecord_6 ⟨Nat.le_of_ble_eq_true rfl, Nat.le_of_ble_eq_true rfl⟩ (Or.inl ⟨_, _, List.mem_cons_self⟩) (mk_ws tw_184 hts) (fun a9 U9 h9 => Ts_warm hts _ tw_21 a9 U9 h9) (by first | exact ⟨Nat.le_of_ble_eq_true rfl, Nat.le_of_ble_eq_true rfl⟩ | assumption) (fun v hv => ?_)
  subst hv
  refine W.eq (g2 := F0 m 9 ls [.int (if (nI 1).toInt64 ≤ z.toInt64 ∧ z.toInt64 ≤ (nI 256).toInt64 then 1 else 0)]) rfl ?_
  rw [within_i z (a := 1) (b := 256) (by decide) (by decide)]
  refine lv_if_ne (tgt := 15) hx hb d_RM_putRecord_9 (by decide) (fun c9 => ?_) (fun c9 => ?_)
  ·
    rw [if10.2] at c9
    have hsp : sp_put S i a z = _ := if_pos c9
    obtain ⟨zn, hzn, rfl⟩ := nI_of (x := z) (by rw [Int32.lt_iff_toInt_lt, Int32.toInt_zero]; omega)
    rw [nI_toInt hzn] at c9
    have hzc : (nI zn).toNatClampNeg = zn := nI_clamp hzn
    have hz1 : 1 ≤ zn ∧ zn ≤ 256 := by omega
    rw [hzc] at hsp
    have u8 := up8_ge (8 + zn)
    rw [← em] at hsp
    refine lv_aload_n hx hb d_RM_putRecord_15 rfl (lv_at hl 0 rfl) ?_
    refine mw_get K hI gf_RM_33_cRM f0 rfl d_RM_putRecord_16 ?_
    refine lv_iload_n hx hb d_RM_putRecord_19 rfl (lv_at hl 1 rfl) ?_
    refine lv_iload_n hx hb d_RM_putRecord_20 rfl (lv_at hl 2 rfl) ?_
    refine mw_call (rest := []) K hSy hP0 hI (c_BY_demand l D dA hL fd (by decide) a (k := zn) (by omega)) (mx_invV hx hown (hts _ tw_540) (hts _ tw_373) (hts _ tw_374) (hts _ tw_375) (by decide) (b := bd) (mw_rc K hI fd.1 rfl) (g := F0 m 21 ls [.int (nI zn), .int a, .ref bd]) rfl (argsL := [.int a, .int (nI zn)]) (rest := []) np_BY_demand rfl (by rw [hb]; exact d_RM_putRecord_21)) hl.1 d_RM_putRecord_21 ⟨Nat.le_of_ble_eq_true rfl, Nat.le_of_ble_eq_true rfl⟩ (Or.inl ⟨_, _, List.mem_cons_self⟩) (mk_ws tw_375 hts) (fun a9 U9 h9 => Ts_warm hts _ tw_22 a9 U9 h9) ⟨Nat.le_of_ble_eq_true rfl, Nat.le_of_ble_eq_true rfl⟩ (fun v w' H locs hq hI => ?_) (fun k x w' H locs hq hI hX => ?_)
    · obtain ⟨hq1, ⟨hq2, hq3, hq4⟩ | ⟨-, hq4⟩⟩ := hq
      · cases hq4
        rw [hq1] at hI
        obtain ⟨e1, e2⟩ := inD_nI ⟨hq2, hq3⟩ (by decide)
        have hsp := hsp.trans (if_pos ⟨hq2, hq3⟩)
        refine W.eq (g2 := F0 m 24 ls []) rfl ?_
        rw [e1] at hl
        refine lv_aload_n hx hb d_RM_putRecord_24 rfl (lv_at hl 0 rfl) ?_
        refine mw_get K hI gf_RM_22_cRM f0 rfl d_RM_putRecord_25 ?_
        refine lv_if_eq (tgt := 34) hx hb d_RM_putRecord_28 (by decide) (fun c28 => ?_) (fun c28 => ?_)
        ·
          have hb0 : ¬ bk mi = true := fun z => by rw [if_pos z] at c28; exact absurd c28 (by decide)
          have hsp := hsp.trans (if_neg hb0)
          refine lv_iload_n hx hb d_RM_putRecord_34 rfl (lv_at hl 2 rfl) ?_
          refine mp_call (rest := []) hb hml (c_RM_bytesOfRecord l (n := zn) (by omega)) (mx_invS hx hown (hts _ tw_541) (hts _ tw_542) (hts _ tw_34) (hts _ tw_543) (by decide) (g := F0 m 35 ls [.int (nI zn)]) rfl (argsL := [.int (nI zn)]) (rest := []) np_RM_bytesOfRecord rfl (by rw [hb]; exact d_RM_putRecord_35)) hl.1 d_RM_putRecord_35 ⟨Nat.le_of_ble_eq_true rfl, Nat.le_of_ble_eq_true rfl⟩ (Or.inl ⟨_, _, List.mem_cons_self⟩) (mk_ws tw_543 hts) (fun a9 U9 h9 => Ts_warm hts _ tw_34 a9 U9 h9) (by first | exact ⟨Nat.le_of_ble_eq_true rfl, Nat.le_of_ble_eq_true rfl⟩ | assumption) (fun v hv => ?_)
          subst hv
          refine W.eq (g2 := F0 m 38 ls [.int (nI (up8 (8 + zn)))]) rfl ?_
          refine lv_istore_n (lv' := [(3, .int (nI (up8 (8 + zn)))), (0, .ref (mp i)), (1, .int (nI a.toNatClampNeg)), (2, .int (nI zn))]) hx hb d_RM_putRecord_38 rfl hl (by decide) rfl (fun ls hl => ?_)
          refine lv_aload_n hx hb d_RM_putRecord_39 rfl (lv_at hl 1 rfl) ?_
          refine mw_get K hI gf_RM_9_cRM f0 rfl d_RM_putRecord_40 ?_
          refine lv_aload_n hx hb d_RM_putRecord_43 rfl (lv_at hl 1 rfl) ?_
          refine mw_get K hI gf_RM_15_cRM f0 rfl d_RM_putRecord_44 ?_
          refine lv_lsub hx hb d_RM_putRecord_47 ?_
          refine mw_tl (lN_sub (by omega)) ?_
          refine lv_iload_n hx hb d_RM_putRecord_48 rfl (lv_at hl 0 rfl) ?_
          refine lv_i2l hx hb d_RM_putRecord_49 rfl ?_
          refine mw_tl (nI_l (by omega)) ?_
          refine lv_ladd hx hb d_RM_putRecord_50 ?_
          refine mw_tl (lN_add _ _) ?_
          refine lv_aload_n hx hb d_RM_putRecord_51 rfl (lv_at hl 1 rfl) ?_
          refine mw_get K hI gf_RM_26_cRM f0 rfl d_RM_putRecord_52 ?_
          refine lv_i2l hx hb d_RM_putRecord_55 rfl ?_
          refine mw_tl (nI_l (by omega)) ?_
          refine W.lcmp hx hb d_RM_putRecord_56 ?_
          refine lv_if_le (tgt := 63) hx hb d_RM_putRecord_57 (by decide) (fun c57 => ?_) (fun c57 => ?_)
          ·
            rw [lg_cmp_le, lN_leL (by omega) (by omega)] at c57
            have hsp := hsp.trans (if_neg (by omega))
            refine lv_aload_n hx hb d_RM_putRecord_63 rfl (lv_at hl 1 rfl) ?_
            refine lv_iload_n hx hb d_RM_putRecord_64 rfl (lv_at hl 2 rfl) ?_
            refine lv_iload_n hx hb d_RM_putRecord_65 rfl (lv_at hl 3 rfl) ?_
            refine lv_iload_n hx hb d_RM_putRecord_66 rfl (lv_at hl 0 rfl) ?_
            refine mw_call (rest := []) K hSy hP0 hI (c_RM_writeRecord l D dA hA hW hi ht hk hz1 e2) (mx_invV hx hown (hts _ tw_545) (hts _ tw_547) (hts _ tw_6) (hts _ tw_548) (by decide) (b := (mp i)) (mw_rc K hI f0 rfl) (g := F0 m 67 ls [.int (nI (up8 (8 + zn))), .int (nI zn), .int (nI a.toNatClampNeg), .ref (mp i)]) rfl (argsL := [.int (nI a.toNatClampNeg), .int (nI zn), .int (nI (up8 (8 + zn)))]) (rest := []) np_RM_writeRecord rfl (by rw [hb]; exact d_RM_putRecord_67)) hl.1 d_RM_putRecord_67 ⟨Nat.le_of_ble_eq_true rfl, Nat.le_of_ble_eq_true rfl⟩ (Or.inl ⟨_, _, List.mem_cons_self⟩) (mk_ws tw_548 hts) (fun a9 U9 h9 => Ts_warm hts _ tw_34 a9 U9 h9) ⟨Nat.le_of_ble_eq_true rfl, Nat.le_of_ble_eq_true rfl⟩ (fun v w' H locs hq hI => ?_) (fun k x w' H locs hq hI hX => ?_)
            · obtain ⟨hq1, g', hq2, hg'⟩ := hq
              cases hq1
              rw [hq2] at hI
              refine W.eq (g2 := F0 m 70 ls []) rfl ?_
              have f1 : (mw_up w xa (by_a dA 65536 g')) (mp i) = some (.inr (cRM, [.ref bd, .ref ba, .int (nI (bg mi)), .int (nI (en mi)), .long (lN (hd mi)), .long (lN (tl mi)), .int (nI (rc mi)), .int (nI (if bk mi = true then 1 else 0))])) := (mw_up_n _ _ (mw_neA f0 fa.2)).trans f0
              have hA1 := hA.area g' _ hg'
              have f1_0 := f1
              generalize ew : mw_up w xa (by_a dA 65536 g') = w1 at *
              generalize ea : mp i = a1 at *
              refine lv_aload_n hx hb d_RM_putRecord_70 rfl (lv_at hl 1 rfl) ?_
              refine lv_dup hx hb d_RM_putRecord_71 rfl ?_
              refine mw_get K hI gf_RM_9_cRM f1 rfl d_RM_putRecord_72 ?_
              refine lv_iload_n hx hb d_RM_putRecord_75 rfl (lv_at hl 0 rfl) ?_
              refine lv_i2l hx hb d_RM_putRecord_76 rfl ?_
              refine mw_tl (nI_l (by omega)) ?_
              refine lv_ladd hx hb d_RM_putRecord_77 ?_
              refine mw_tl (lN_add _ _) ?_
              refine mw_put K hI gp_RM_9_cRM (Or.inl ⟨_, rfl, rfl⟩) f1 rfl rfl (by simp) d_RM_putRecord_78 (fun H locs hI => ?_)
              have hI : mw_I D mk_cl w s.heap (mw_up w1 a1 (.inr (cRM, [.ref bd, .ref ba, .int (nI (bg mi)), .int (nI (en mi)), .long (lN ((hd mi) + (up8 (8 + zn)))), .long (lN (tl mi)), .int (nI (rc mi)), .int (nI (if bk mi = true then 1 else 0))]))) H _ := hI
              have f1 : (mw_up w1 a1 (.inr (cRM, [.ref bd, .ref ba, .int (nI (bg mi)), .int (nI (en mi)), .long (lN ((hd mi) + (up8 (8 + zn)))), .long (lN (tl mi)), .int (nI (rc mi)), .int (nI (if bk mi = true then 1 else 0))]))) a1 = some (.inr (cRM, [.ref bd, .ref ba, .int (nI (bg mi)), .int (nI (en mi)), .long (lN ((hd mi) + (up8 (8 + zn)))), .long (lN (tl mi)), .int (nI (rc mi)), .int (nI (if bk mi = true then 1 else 0))])) := mw_up_s _ _ _
              refine lv_aload_n hx hb d_RM_putRecord_81 rfl (lv_at hl 1 rfl) ?_
              refine lv_dup hx hb d_RM_putRecord_82 rfl ?_
              refine mw_get K hI gf_RM_18_cRM f1 rfl d_RM_putRecord_83 ?_
              refine lv_iconst (v := nI 1) hx hb d_RM_putRecord_86 (by decide) ?_
              refine lv_iadd hx hb d_RM_putRecord_87 ?_
              refine mw_ti (nI_add _ _) ?_
              refine mw_put K hI gp_RM_18_cRM (Or.inl ⟨_, rfl, rfl⟩) f1 rfl rfl (by simp) d_RM_putRecord_88 (fun H locs hI => ?_)
              rw [mw_uu] at hI
              have hI : mw_I D mk_cl w s.heap (mw_up w1 a1 (.inr (cRM, [.ref bd, .ref ba, .int (nI (bg mi)), .int (nI (en mi)), .long (lN ((hd mi) + (up8 (8 + zn)))), .long (lN (tl mi)), .int (nI ((rc mi) + 1)), .int (nI (if bk mi = true then 1 else 0))]))) H _ := hI
              have f1 : (mw_up w1 a1 (.inr (cRM, [.ref bd, .ref ba, .int (nI (bg mi)), .int (nI (en mi)), .long (lN ((hd mi) + (up8 (8 + zn)))), .long (lN (tl mi)), .int (nI ((rc mi) + 1)), .int (nI (if bk mi = true then 1 else 0))]))) a1 = some (.inr (cRM, [.ref bd, .ref ba, .int (nI (bg mi)), .int (nI (en mi)), .long (lN ((hd mi) + (up8 (8 + zn)))), .long (lN (tl mi)), .int (nI ((rc mi) + 1)), .int (nI (if bk mi = true then 1 else 0))])) := mw_up_s _ _ _
              refine lv_iconst (v := nI 0) hx hb d_RM_putRecord_91 (by decide) ?_
              refine mw_iret K hI hr hlk ?_ d_RM_putRecord_92
              rw [hsp]
              refine ⟨rfl, own, gd, g', ?_, ?_⟩
              · rw [em] at *
                refine hA1.map (i := i) (own' := own) ?_ (fun q' y hy hz => ?_) (fun _ _ _ => rfl)
                · rw [ea]
                  exact ⟨om, Or.inr (Or.inr ⟨hk, f1⟩)⟩
                · rw [mw_up_n _ _ ?_]
                  · exact hy
                  · intro e
                    subst e
                    rcases hz with hz | ⟨fs, hz⟩
                    · exact hz (by rw [om]; exact Or.inl rfl)
                    · rw [hz] at hy; exact absurd (hy.symm.trans f1_0) (by intro z; injection z with z; injection z with z; injection z with z; exact absurd z (by decide))
              · refine Fr.trans ?_ (Fr.up f1_0 (by rw [om]; simp))
                rw [← ew]; exact Fr.up fa.2 (by rw [o3]; decide)
            · exact absurd hq.1 (by simp)
          ·
            rw [lg_cmp_le, lN_leL (by omega) (by omega)] at c57
            have hsp := hsp.trans (if_pos (by omega))
            refine lv_bipush (v := (-11)) hx hb d_RM_putRecord_60 (by decide) ?_
            refine mw_iret K hI hr hlk ?_ d_RM_putRecord_62
            rw [hsp]
            exact ⟨rfl, own, gd, ga, hA, Fr.rf w own⟩
        ·
          have hb0 : bk mi = true := by
            cases hbk : bk mi with
            | true => rfl
            | false => rw [hbk] at c28; exact absurd (by decide) c28
          have hsp := hsp.trans (if_pos hb0)
          refine lv_bipush (v := (-22)) hx hb d_RM_putRecord_31 (by decide) ?_
          refine mw_iret K hI hr hlk ?_ d_RM_putRecord_33
          rw [hsp]
          exact ⟨rfl, own, gd, ga, hA, Fr.rf w own⟩
      · cases hq4
    · obtain ⟨hq1, ⟨-, -, hq4⟩ | ⟨hq2, hq4⟩⟩ := hq
      · cases hq4
      · cases hq4
        rw [hq1] at hI
        refine mw_on hI hce hlk hX ?_
        have hsp := hsp.trans (if_neg hq2)
        rw [hsp]
        exact ⟨rfl, own, gd, ga, hA, Fr.rf w own⟩
  ·
    rw [if10.1] at c9
    have hsp : sp_put S i a z = _ := if_neg c9
    refine lv_bipush (v := (-22)) hx hb d_RM_putRecord_12 (by decide) ?_
    refine W.widen (k := 1) (n := 6) (by decide) (by decide) ?_
    refine mw_iret K hI hr hlk ?_ d_RM_putRecord_14
    rw [hsp]
    exact ⟨rfl, own, gd, ga, hA, Fr.rf w own⟩
end
section
/-! ### rings: take -/
theorem within_l {n a b : Nat} (hn : n < 2 ^ 63) (ha : a < 2 ^ 31) (hb : b < 2 ^ 31) : (if (nI a).toInt64 ≤ lN n ∧ lN n ≤ (nI b).toInt64 then (1 : Int32) else 0) = if a ≤ n ∧ n ≤ b then 1 else 0 := by
  simp only [nI_l ha, nI_l hb, lN_leL (show a < 2 ^ 63 by omega) hn, lN_leL hn (show b < 2 ^ 63 by omega)]
set_option maxRecDepth 100000 in
set_option maxHeartbeats 4000000 in
theorem c_RM_takeRecord (l : Launch) (D : va_G) (dA : Nat → ClassId) (hL : mw_L l) {w : mw_W} {own : as_W} {x bd xd ba xa ra : Nat} {mp : Nat → Nat} {gd ga : Nat → Int64} {S : as_S} {t : Nat} (hA : rc_A dA w own x bd xd ba xa ra mp gd ga S) (hW : wf_S t S) {i : Nat} (hi : i < nm S) (ht : t ≤ 512) (hk : kd (mm S i) = 2) (a : Int32) : CT l D dA y_RM_takeRecord (Cond.code y_RM_takeRecord b_RM_takeRecord 6 (some .int) :: Ts) 7 140 1 6 [.ref (mp i), .int a] w (PC dA w own x bd xd ba xa ra mp (sp_take S i a)) := by
  refine mw_meth (by decide) mk_tb (Nat.le_of_ble_eq_true rfl) ?_
  intro p e s m below meth c K hr hlk hce hnm hP0 hSy ls hl
  have hl : lv_has ls 6 [(0, .ref (mp i)), (1, .int a)] := hl
  obtain ⟨hx, hb, hml, hown, hts, hK, hTb⟩ := id K
  have hI := mw_I.start hP0
  obtain ⟨⟨o1, o2, o3, o4, fx, fd, fa, fr, hdk, har⟩, hM⟩ := id hA
  obtain ⟨r1, r2, r3, r4, r5, r6, r7, r8, r9⟩ := wf_R (hW.2.2.2.2.2 i hi) hk
  obtain ⟨om, f0⟩ := rc_RM (hA.2 i hi) hk
  obtain ⟨mi, em⟩ : ∃ mi, mi = mm S i := ⟨_, rfl⟩
  rw [← em] at f0 r1 r2 r3 r4 r5 r6 r7 r8 r9 hk
  have p8 := p2_8 r2
  have hm8 := mod8 r7 p8.1 (by omega)
  obtain ⟨z, ez⟩ : ∃ z, z = szR S i := ⟨_, rfl⟩
  have ez2 : z = bw_n (ar S) (bg mi + tl mi % en mi) 4 := by rw [ez, em]; rfl
  have hzlt : z < 2 ^ 32 := by rw [ez2]; exact bw_n_lt hW.2.2.2.2.1 4 _
  have hsp : sp_take S i a = if bk mi = true then (S, .inl (-22)) else if hd mi = tl mi then (S, .inl (-2)) else if 1 ≤ z ∧ z ≤ 256 ∧ up8 (8 + z) ≤ hd mi - tl mi then (if inD a z 512 then (S_mm (S_dk S (cpy (dk S) a.toNatClampNeg (fun j => ar S (bg mi + (tl mi + 8 + j) % en mi)) 0 z)) i (M_rg mi (hd mi) (tl mi + up8 (8 + z)) (rc mi) (bk mi)), .inl (nI z)) else (S, .inr 2)) else (S_mm S i (M_rg mi (hd mi) (tl mi) (rc mi) true), .inl (-22)) := by rw [em, ez]; rfl
  have f0_0 := f0
  have hA_0 := hA
  generalize ea : mp i = a1 at *
  have hup : ∀ g1, (mw_up w xd (by_a dA 512 g1)) a1 = some (.inr (cRM, [.ref bd, .ref ba, .int (nI (bg mi)), .int (nI (en mi)), .long (lN (hd mi)), .long (lN (tl mi)), .int (nI (rc mi)), .int (nI (if bk mi = true then 1 else 0))])) := fun g1 => (mw_up_n _ _ (mw_neA f0 fd.2)).trans f0
  have hau : ∀ g1, by_ok dA (mw_up w xd (by_a dA 512 g1)) ba xa 65536 ga := fun g1 => fa.keep (mw_neA fa.1 fd.2) (own_ne o3 o2 (by decide))
  have hbrk : ∀ (H : Heap) (locs : List Loc), mw_I D mk_cl w s.heap w H locs → ∀ ls : Array Slot, lv_has ls 6 [(0, .ref a1)] → ¬ bk mi = true → ¬ hd mi = tl mi → ¬ (1 ≤ z ∧ z ≤ 256 ∧ up8 (8 + z) ≤ hd mi - tl mi) → W p l e { frames := 7, cells := 1, slots := 6, locals := 140 } s m ([.ref a1, .int a] : List Value).toArray below meth c H locs 0 0 (mx_Q below (mw_Qc D mk_cl w s.heap.size (PC dA w own x bd xd ba xa ra mp (sp_take S i a))) ([.ref a1, .int a] : List Value).toArray s 1 6 (mw_A w s.heap.size)) (F0 m 72 ls []) := by
    intro H locs hI ls hl h1 h2 h3
    refine lv_aload_n hx hb d_RM_takeRecord_72 rfl (lv_at hl 0 rfl) ?_
    refine lv_iconst (v := nI 1) hx hb d_RM_takeRecord_73 (by decide) ?_
    refine mw_put K hI gp_RM_22_cRM (Or.inl ⟨_, rfl, rfl⟩) f0 (v := .int (nI 1)) (by decide) (by decide) (by simp) d_RM_takeRecord_74 (fun H locs hI => ?_)
    have hI : mw_I D mk_cl w s.heap (mw_up w a1 (.inr (cRM, [.ref bd, .ref ba, .int (nI (bg mi)), .int (nI (en mi)), .long (lN (hd mi)), .long (lN (tl mi)), .int (nI (rc mi)), .int (nI 1)]))) H _ := hI
    have f0 : (mw_up w a1 (.inr (cRM, [.ref bd, .ref ba, .int (nI (bg mi)), .int (nI (en mi)), .long (lN (hd mi)), .long (lN (tl mi)), .int (nI (rc mi)), .int (nI 1)]))) a1 = some (.inr (cRM, [.ref bd, .ref ba, .int (nI (bg mi)), .int (nI (en mi)), .long (lN (hd mi)), .long (lN (tl mi)), .int (nI (rc mi)), .int (nI 1)])) := mw_up_s _ _ _
    refine lv_bipush (v := (-22)) hx hb d_RM_takeRecord_77 (by decide) ?_
    refine W.widen (k := 1) (n := 6) (by decide) (by decide) ?_
    refine mw_iret K hI hr hlk ?_ d_RM_takeRecord_79
    rw [hsp, if_neg h1, if_neg h2, if_neg h3]
    refine ⟨rfl, own, gd, ga, ?_, Fr.up f0_0 (by rw [om]; simp)⟩
    refine hA_0.map (i := i) (own' := own) ?_ (fun q' y hy hz => ?_) (fun _ _ _ => rfl)
    · rw [ea]
      exact ⟨om, Or.inr (Or.inr ⟨hk, f0⟩)⟩
    · rw [mw_up_n _ _ ?_]
      · exact hy
      · intro e
        subst e
        rcases hz with hz | ⟨fs, hz⟩
        · exact hz (by rw [om]; exact Or.inl rfl)
        · rw [hz] at hy; exact absurd (hy.symm.trans f0_0) (by intro z; injection z with z; injection z with z; injection z with z; exact absurd z (by decide))
  refine lv_aload_n hx hb d_RM_takeRecord_0 rfl (lv_at hl 0 rfl) ?_
  refine mw_get K hI gf_RM_22_cRM f0 rfl d_RM_takeRecord_1 ?_
  refine lv_if_eq (tgt := 10) hx hb d_RM_takeRecord_4 (by decide) (fun c4 => ?_) (fun c4 => ?_)
  ·
    have hb0 : ¬ bk mi = true := fun z => by rw [if_pos z] at c4; exact absurd c4 (by decide)
    refine lv_aload_n hx hb d_RM_takeRecord_10 rfl (lv_at hl 0 rfl) ?_
    refine mw_get K hI gf_RM_9_cRM f0 rfl d_RM_takeRecord_11 ?_
    refine lv_aload_n hx hb d_RM_takeRecord_14 rfl (lv_at hl 0 rfl) ?_
    refine mw_get K hI gf_RM_15_cRM f0 rfl d_RM_takeRecord_15 ?_
    refine W.lcmp hx hb d_RM_takeRecord_18 ?_
    refine lv_if_ne (tgt := 25) hx hb d_RM_takeRecord_19 (by decide) (fun c19 => ?_) (fun c19 => ?_)
    ·
      have hne : ¬ hd mi = tl mi := fun z => by rw [z] at c19; exact c19 ((lg_cmp_eq _ _).mpr rfl)
      refine lv_aload_n hx hb d_RM_takeRecord_25 rfl (lv_at hl 0 rfl) ?_
      refine mw_get K hI gf_RM_51_cRM f0 rfl d_RM_takeRecord_26 ?_
      refine lv_aload_n hx hb d_RM_takeRecord_29 rfl (lv_at hl 0 rfl) ?_
      refine lv_aload_n hx hb d_RM_takeRecord_30 rfl (lv_at hl 0 rfl) ?_
      refine mw_get K hI gf_RM_15_cRM f0 rfl d_RM_takeRecord_31 ?_
      refine mw_call (rest := [.ref ba]) K hSy hP0 hI (c_RM_placeOfCount l D dA f0 r2 (cc := tl mi) (by omega)) (mx_invV hx hown (hts _ tw_549) (hts _ tw_551) (hts _ tw_7) (hts _ tw_552) (by decide) (b := a1) (mw_rc K hI f0 rfl) (g := F0 m 34 ls [.long (lN (tl mi)), .ref a1, .ref ba]) rfl (argsL := [.long (lN (tl mi))]) (rest := [.ref ba]) np_RM_placeOfCount rfl (by rw [hb]; exact d_RM_takeRecord_34)) hl.1 d_RM_takeRecord_34 ⟨Nat.le_of_ble_eq_true rfl, Nat.le_of_ble_eq_true rfl⟩ (Or.inl ⟨_, _, List.mem_cons_self⟩) (mk_ws tw_552 hts) (fun a9 U9 h9 => Ts_warm hts _ tw_34 a9 U9 h9) ⟨Nat.le_of_ble_eq_true rfl, Nat.le_of_ble_eq_true rfl⟩ (fun v w' H locs hq hI => ?_) (fun k x w' H locs hq hI hX => ?_)
      · obtain ⟨hq1, hq2⟩ := hq
        cases hq1
        rw [hq2] at hI
        refine W.eq (g2 := F0 m 37 ls [.int (nI (bg mi + tl mi % en mi)), .ref ba]) rfl ?_
        refine lv_iconst (v := nI 4) hx hb d_RM_takeRecord_37 (by decide) ?_
        refine mw_call (rest := []) K hSy hP0 hI (c_BY_number l D dA fa (by decide) (i := bg mi + tl mi % en mi) (k := 4) (by decide) (by omega)) (mx_invV hx hown (hts _ tw_573) (hts _ tw_380) (hts _ tw_381) (hts _ tw_382) (by decide) (b := ba) (mw_rc K hI fa.1 rfl) (g := F0 m 38 ls [.int (nI 4), .int (nI (bg mi + tl mi % en mi)), .ref ba]) rfl (argsL := [.int (nI (bg mi + tl mi % en mi)), .int (nI 4)]) (rest := []) np_BY_number rfl (by rw [hb]; exact d_RM_takeRecord_38)) hl.1 d_RM_takeRecord_38 ⟨Nat.le_of_ble_eq_true rfl, Nat.le_of_ble_eq_true rfl⟩ (Or.inl ⟨_, _, List.mem_cons_self⟩) (mk_ws tw_382 hts) (fun a9 U9 h9 => Ts_warm hts _ tw_22 a9 U9 h9) ⟨Nat.le_of_ble_eq_true rfl, Nat.le_of_ble_eq_true rfl⟩ (fun v w' H locs hq hI => ?_) (fun k x w' H locs hq hI hX => ?_)
        · obtain ⟨hq5, hq6⟩ := hq
          cases hq5
          rw [hq6] at hI
          refine W.eq (g2 := F0 m 41 ls [.long (lN (bw_n (bw_b ga) (bg mi + tl mi % en mi) 4))]) rfl ?_
          refine mw_tl (y := lN z) ((by rw [bw_n_congr 4 _ (fun j h1 h2 => har j (by omega)), ez2])) ?_
          refine lv_lstore_n (lv' := [(2, .long (lN z)), (0, .ref a1), (1, .int a)]) hx hb d_RM_takeRecord_41 rfl hl (by decide) rfl (fun ls hl => ?_)
          refine lv_lload_n hx hb d_RM_takeRecord_42 rfl (lv_at hl 0 rfl) ?_
          refine lv_iconst (v := nI 1) hx hb d_RM_takeRecord_43 (by decide) ?_
          refine lv_sipush (v := nI 256) hx hb d_RM_takeRecord_44 (by decide) ?_
          refine mp_call (rest := []) hb hml (c_MS_within l (lN z) (nI 1) (nI 256)) (mx_invSN hx hown (hts _ tw_539) (hts _ tw_183) (hts _ tw_21) (hts _ tw_184) (by decide) (g := F0 m 47 ls [.int (nI 256), .int (nI 1), .long (lN z)]) rfl (argsL := [.long (lN z), .int (nI 1), .int (nI 256)]) (rest := []) np_MS_within rfl (by rw [hb]; exact d_RM_takeRecord_47)) hl.1 d_RM_takeRecord_47 ⟨Nat.le_of_ble_eq_true rfl, Nat.le_of_ble_eq_true rfl⟩ (Or.inl ⟨_, _, List.mem_cons_self⟩) (mk_ws tw_184 hts) (fun a9 U9 h9 => Ts_warm hts _ tw_21 a9 U9 h9) (by first | exact ⟨Nat.le_of_ble_eq_true rfl, Nat.le_of_ble_eq_true rfl⟩ | assumption) (fun v hv => ?_)
          subst hv
          refine W.eq (g2 := F0 m 50 ls [.int (if (nI 1).toInt64 ≤ lN z ∧ lN z ≤ (nI 256).toInt64 then 1 else 0)]) rfl ?_
          rw [within_l (n := z) (a := 1) (b := 256) (by omega) (by decide) (by decide)]
          refine lv_if_eq (tgt := 72) hx hb d_RM_takeRecord_50 (by decide) (fun c50 => ?_) (fun c50 => ?_)
          ·
            rw [if10.1] at c50
            exact hbrk H locs hI ls (lv_sub hl [1] rfl) hb0 hne (fun q => c50 ⟨q.1, q.2.1⟩)
          ·
            rw [if10.2] at c50
            have u8 := up8_ge (8 + z)
            refine lv_lload_n hx hb d_RM_takeRecord_53 rfl (lv_at hl 0 rfl) ?_
            refine lv_l2i hx hb d_RM_takeRecord_54 rfl ?_
            refine mw_ti (lN_i _) ?_
            refine mp_call (rest := []) hb hml (c_RM_bytesOfRecord l (n := z) (by omega)) (mx_invS hx hown (hts _ tw_541) (hts _ tw_542) (hts _ tw_34) (hts _ tw_543) (by decide) (g := F0 m 55 ls [.int (nI z)]) rfl (argsL := [.int (nI z)]) (rest := []) np_RM_bytesOfRecord rfl (by rw [hb]; exact d_RM_takeRecord_55)) hl.1 d_RM_takeRecord_55 ⟨Nat.le_of_ble_eq_true rfl, Nat.le_of_ble_eq_true rfl⟩ (Or.inl ⟨_, _, List.mem_cons_self⟩) (mk_ws tw_543 hts) (fun a9 U9 h9 => Ts_warm hts _ tw_34 a9 U9 h9) (by first | exact ⟨Nat.le_of_ble_eq_true rfl, Nat.le_of_ble_eq_true rfl⟩ | assumption) (fun v hv => ?_)
            subst hv
            refine W.eq (g2 := F0 m 58 ls [.int (nI (up8 (8 + z)))]) rfl ?_
            refine lv_i2l hx hb d_RM_takeRecord_58 rfl ?_
            refine mw_tl (nI_l (by omega)) ?_
            refine lv_aload_n hx hb d_RM_takeRecord_59 rfl (lv_at hl 1 rfl) ?_
            refine mw_get K hI gf_RM_9_cRM f0 rfl d_RM_takeRecord_60 ?_
            refine lv_aload_n hx hb d_RM_takeRecord_63 rfl (lv_at hl 1 rfl) ?_
            refine mw_get K hI gf_RM_15_cRM f0 rfl d_RM_takeRecord_64 ?_
            refine lv_lsub hx hb d_RM_takeRecord_67 ?_
            refine mw_tl (lN_sub (by omega)) ?_
            refine W.lcmp hx hb d_RM_takeRecord_68 ?_
            refine lv_if_le (tgt := 80) hx hb d_RM_takeRecord_69 (by decide) (fun c69 => ?_) (fun c69 => ?_)
            ·
              rw [lg_cmp_le, lN_leL (by omega) (by omega)] at c69
              have hsp := ((hsp.trans (if_neg hb0)).trans (if_neg hne)).trans (if_pos ⟨c50.1, c50.2, c69⟩)
              refine lv_lload_n hx hb d_RM_takeRecord_80 rfl (lv_at hl 0 rfl) ?_
              refine lv_l2i hx hb d_RM_takeRecord_81 rfl ?_
              refine mw_ti (lN_i _) ?_
              refine lv_istore (lv' := [(4, .int (nI z)), (2, .long (lN z)), (0, .ref a1), (1, .int a)]) hx hb d_RM_takeRecord_82 hl (by decide) rfl (fun ls hl => ?_)
              refine lv_aload_n hx hb d_RM_takeRecord_84 rfl (lv_at hl 2 rfl) ?_
              refine mw_get K hI gf_RM_33_cRM f0 rfl d_RM_takeRecord_85 ?_
              refine lv_iload_n hx hb d_RM_takeRecord_88 rfl (lv_at hl 3 rfl) ?_
              refine lv_iload hx hb d_RM_takeRecord_89 (lv_at hl 0 rfl) ?_
              refine mw_call (rest := []) K hSy hP0 hI (c_BY_demand l D dA hL fd (by decide) a (k := z) (by omega)) (mx_invV hx hown (hts _ tw_540) (hts _ tw_373) (hts _ tw_374) (hts _ tw_375) (by decide) (b := bd) (mw_rc K hI fd.1 rfl) (g := F0 m 91 ls [.int (nI z), .int a, .ref bd]) rfl (argsL := [.int a, .int (nI z)]) (rest := []) np_BY_demand rfl (by rw [hb]; exact d_RM_takeRecord_91)) hl.1 d_RM_takeRecord_91 ⟨Nat.le_of_ble_eq_true rfl, Nat.le_of_ble_eq_true rfl⟩ (Or.inl ⟨_, _, List.mem_cons_self⟩) (mk_ws tw_375 hts) (fun a9 U9 h9 => Ts_warm hts _ tw_22 a9 U9 h9) ⟨Nat.le_of_ble_eq_true rfl, Nat.le_of_ble_eq_true rfl⟩ (fun v w' H locs hq hI => ?_) (fun k x w' H locs hq hI hX => ?_)
              · obtain ⟨hq1, ⟨hq2, hq3, hq4⟩ | ⟨-, hq4⟩⟩ := hq
                · cases hq4
                  rw [hq1] at hI
                  obtain ⟨e1, e2⟩ := inD_nI ⟨hq2, hq3⟩ (by decide)
                  have hsp := hsp.trans (if_pos ⟨hq2, hq3⟩)
                  refine W.eq (g2 := F0 m 94 ls []) rfl ?_
                  rw [e1] at hl
                  generalize a.toNatClampNeg = q at *
                  have hloop : ∀ (n9 j : Nat), j + n9 = z → ∀ (g1 : Nat → Int64), by_w gd g1 q j (fun j => bw_b ga (bg mi + (tl mi + 8 + j) % en mi)) → ∀ (H : Heap) (locs : List Loc), mw_I D mk_cl w s.heap (mw_up w xd (by_a dA 512 g1)) H locs → ∀ ls : Array Slot, lv_has ls 6 [(5, .int (nI j)), (0, .ref a1), (1, .int (nI q)), (4, .int (nI z))] → W p l e { frames := 7, cells := 1, slots := 6, locals := 140 } s m ([.ref a1, .int a] : List Value).toArray below meth c H locs 1 6 (mx_Q below (mw_Qc D mk_cl w s.heap.size (PC dA w own x bd xd ba xa ra mp (sp_take S i a))) ([.ref a1, .int a] : List Value).toArray s 1 6 (mw_A w s.heap.size)) (F0 m 97 ls []) := by
                    intro n9
                    induction n9 with
                    | zero =>
                      intro j hj g1 hg H locs hI ls hl
                      have f1 := hup g1
                      have f1_0 := f1
                      have hA1 := hA_0.desk g1 (cpy (dk S) q (fun j => ar S (bg mi + (tl mi + 8 + j) % en mi)) 0 z) (fun y hy => by
                        rw [hg y]
                        unfold cpy
                        have e9 : j = z := by omega
                        rw [e9]
                        split
                        · rw [Nat.zero_add]
                          refine har _ ?_
                          have := Nat.mod_lt (tl mi + 8 + (y - q)) (show 0 < en mi by omega)
                          omega
                        · exact hdk y hy)
                      generalize ew : mw_up w xd (by_a dA 512 g1) = w1 at *
                      refine lv_iload hx hb d_RM_takeRecord_97 (lv_at hl 0 rfl) ?_
                      refine lv_iload hx hb d_RM_takeRecord_99 (lv_at hl 3 rfl) ?_
                      refine lv_icmp_ge (tgt := 145) hx hb d_RM_takeRecord_101 (by decide) (fun c101 => ?_) (fun c101 => ?_)
                      ·
                        refine lv_aload_n hx hb d_RM_takeRecord_145 rfl (lv_at hl 1 rfl) ?_
                        refine lv_dup hx hb d_RM_takeRecord_146 rfl ?_
                        refine mw_get K hI gf_RM_15_cRM f1 rfl d_RM_takeRecord_147 ?_
                        refine lv_iload hx hb d_RM_takeRecord_150 (lv_at hl 3 rfl) ?_
                        refine mp_call (rest := [.long (lN (tl mi)), .ref a1]) hb hml (c_RM_bytesOfRecord l (n := z) (by omega)) (mx_invS hx hown (hts _ tw_541) (hts _ tw_542) (hts _ tw_34) (hts _ tw_543) (by decide) (g := F0 m 152 ls [.int (nI z), .long (lN (tl mi)), .ref a1]) rfl (argsL := [.int (nI z)]) (rest := [.long (lN (tl mi)), .ref a1]) np_RM_bytesOfRecord rfl (by rw [hb]; exact d_RM_takeRecord_152)) hl.1 d_RM_takeRecord_152 ⟨Nat.le_of_ble_eq_true rfl, Nat.le_of_ble_eq_true rfl⟩ (Or.inl ⟨_, _, List.mem_cons_self⟩) (mk_ws tw_543 hts) (fun a9 U9 h9 => Ts_warm hts _ tw_34 a9 U9 h9) (by first | exact ⟨Nat.le_of_ble_eq_true rfl, Nat.le_of_ble_eq_true rfl⟩ | assumption) (fun v hv => ?_)
                        subst hv
                        refine W.eq (g2 := F0 m 155 ls [.int (nI (up8 (8 + z))), .long (lN (tl mi)), .ref a1]) rfl ?_
                        refine lv_i2l hx hb d_RM_takeRecord_155 rfl ?_
                        refine mw_tl (nI_l (by omega)) ?_
                        refine lv_ladd hx hb d_RM_takeRecord_156 ?_
                        refine mw_tl (lN_add _ _) ?_
                        refine mw_put K hI gp_RM_15_cRM (Or.inl ⟨_, rfl, rfl⟩) f1 rfl rfl (by simp) d_RM_takeRecord_157 (fun H locs hI => ?_)
                        have hI : mw_I D mk_cl w s.heap (mw_up w1 a1 (.inr (cRM, [.ref bd, .ref ba, .int (nI (bg mi)), .int (nI (en mi)), .long (lN (hd mi)), .long (lN ((tl mi) + (up8 (8 + z)))), .int (nI (rc mi)), .int (nI (if bk mi = true then 1 else 0))]))) H _ := hI
                        have f1 : (mw_up w1 a1 (.inr (cRM, [.ref bd, .ref ba, .int (nI (bg mi)), .int (nI (en mi)), .long (lN (hd mi)), .long (lN ((tl mi) + (up8 (8 + z)))), .int (nI (rc mi)), .int (nI (if bk mi = true then 1 else 0))]))) a1 = some (.inr (cRM, [.ref bd, .ref ba, .int (nI (bg mi)), .int (nI (en mi)), .long (lN (hd mi)), .long (lN ((tl mi) + (up8 (8 + z)))), .int (nI (rc mi)), .int (nI (if bk mi = true then 1 else 0))])) := mw_up_s _ _ _
                        refine lv_iload hx hb d_RM_takeRecord_160 (lv_at hl 3 rfl) ?_
                        refine mw_iret K hI hr hlk ?_ d_RM_takeRecord_162
                        rw [hsp]
                        refine ⟨rfl, own, g1, ga, ?_, ?_⟩
                        · refine hA1.map (i := i) (own' := own) ?_ (fun q' y hy hz => ?_) (fun _ _ _ => rfl)
                          · rw [ea]
                            exact ⟨om, Or.inr (Or.inr ⟨hk, f1⟩)⟩
                          · rw [mw_up_n _ _ ?_]
                            · exact hy
                            · intro e
                              subst e
                              rcases hz with hz | ⟨fs, hz⟩
                              · exact hz (by rw [om]; exact Or.inl rfl)
                              · rw [hz] at hy; exact absurd (hy.symm.trans f1_0) (by intro z; injection z with z; injection z with z; injection z with z; exact absurd z (by decide))
                        · refine Fr.trans ?_ (Fr.up f1_0 (by rw [om]; simp))
                          rw [← ew]; exact Fr.up fd.2 (by rw [o2]; decide)
                      ·
                        exact absurd (nI_le (by omega) (by omega)) c101
                    | succ n9 ih =>
                      intro j hj g1 hg H locs hI ls hl
                      have f1 := hup g1
                      have fa1 := hau g1
                      have fd1 := fd.up g1
                      have hpl : bg mi + (tl mi + 8 + j) % en mi < 65536 := by
                        have := Nat.mod_lt (tl mi + 8 + j) (show 0 < en mi by omega)
                        omega
                      refine lv_iload hx hb d_RM_takeRecord_97 (lv_at hl 0 rfl) ?_
                      refine lv_iload hx hb d_RM_takeRecord_99 (lv_at hl 3 rfl) ?_
                      refine lv_icmp_ge (tgt := 145) hx hb d_RM_takeRecord_101 (by decide) (fun c101 => ?_) (fun c101 => ?_)
                      ·
                        exact absurd c101 (nI_ge (by omega) (by omega))
                      ·
                        refine lv_aload_n hx hb d_RM_takeRecord_104 rfl (lv_at hl 1 rfl) ?_
                        refine mw_get K hI gf_RM_33_cRM f1 rfl d_RM_takeRecord_105 ?_
                        refine lv_iload_n hx hb d_RM_takeRecord_108 rfl (lv_at hl 2 rfl) ?_
                        refine lv_iload hx hb d_RM_takeRecord_109 (lv_at hl 0 rfl) ?_
                        refine lv_iadd hx hb d_RM_takeRecord_111 ?_
                        refine mw_ti (nI_add _ _) ?_
                        refine lv_aload_n hx hb d_RM_takeRecord_112 rfl (lv_at hl 1 rfl) ?_
                        refine mw_get K hI gf_RM_51_cRM f1 rfl d_RM_takeRecord_113 ?_
                        refine lv_aload_n hx hb d_RM_takeRecord_116 rfl (lv_at hl 1 rfl) ?_
                        refine lv_aload_n hx hb d_RM_takeRecord_117 rfl (lv_at hl 1 rfl) ?_
                        refine mw_get K hI gf_RM_15_cRM f1 rfl d_RM_takeRecord_118 ?_
                        refine lv_ldc2 (v := lN 8) hx hb hown (hts _ tw_555) d_RM_takeRecord_121 ?_
                        refine lv_ladd hx hb d_RM_takeRecord_124 ?_
                        refine mw_tl (lN_add _ _) ?_
                        refine lv_iload hx hb d_RM_takeRecord_125 (lv_at hl 0 rfl) ?_
                        refine lv_i2l hx hb d_RM_takeRecord_127 rfl ?_
                        refine mw_tl (nI_l (by omega)) ?_
                        refine lv_ladd hx hb d_RM_takeRecord_128 ?_
                        refine mw_tl (lN_add _ _) ?_
                        refine mw_call (rest := [.ref ba, .int (nI (q + j)), .ref bd]) K hSy hP0 hI (c_RM_placeOfCount l D dA f1 r2 (cc := tl mi + 8 + j) (by omega)) (mx_invV hx hown (hts _ tw_549) (hts _ tw_551) (hts _ tw_7) (hts _ tw_552) (by decide) (b := a1) (mw_rc K hI f1 rfl) (g := F0 m 129 ls [.long (lN (((tl mi) + 8) + j)), .ref a1, .ref ba, .int (nI (q + j)), .ref bd]) rfl (argsL := [.long (lN (((tl mi) + 8) + j))]) (rest := [.ref ba, .int (nI (q + j)), .ref bd]) np_RM_placeOfCount rfl (by rw [hb]; exact d_RM_takeRecord_129)) hl.1 d_RM_takeRecord_129 ⟨Nat.le_of_ble_eq_true rfl, Nat.le_of_ble_eq_true rfl⟩ (Or.inl ⟨_, _, List.mem_cons_self⟩) (mk_ws tw_552 hts) (fun a9 U9 h9 => Ts_warm hts _ tw_34 a9 U9 h9) ⟨Nat.le_of_ble_eq_true rfl, Nat.le_of_ble_eq_true rfl⟩ (fun v w' H locs hq hI => ?_) (fun k x w' H locs hq hI hX => ?_)
                        · obtain ⟨hq1, hq2⟩ := hq
                          cases hq1
                          rw [hq2] at hI
                          refine W.eq (g2 := F0 m 132 ls [.int (nI (bg mi + (tl mi + 8 + j) % en mi)), .ref ba, .int (nI (q + j)), .ref bd]) rfl ?_
                          refine mw_call (rest := [.int (nI (q + j)), .ref bd]) K hSy hP0 hI (c_BY_byteAt l D dA fa1 (by decide) (i := bg mi + (tl mi + 8 + j) % en mi) hpl) (mx_invV hx hown (hts _ tw_554) (hts _ tw_384) (hts _ tw_385) (hts _ tw_386) (by decide) (b := ba) (mw_rc K hI fa1.1 rfl) (g := F0 m 132 ls [.int (nI (bg mi + (tl mi + 8 + j) % en mi)), .ref ba, .int (nI (q + j)), .ref bd]) rfl (argsL := [.int (nI (bg mi + (tl mi + 8 + j) % en mi))]) (rest := [.int (nI (q + j)), .ref bd]) np_BY_byteAt rfl (by rw [hb]; exact d_RM_takeRecord_132)) hl.1 d_RM_takeRecord_132 ⟨Nat.le_of_ble_eq_true rfl, Nat.le_of_ble_eq_true rfl⟩ (Or.inl ⟨_, _, List.mem_cons_self⟩) (mk_ws tw_386 hts) (fun a9 U9 h9 => Ts_warm hts _ tw_22 a9 U9 h9) ⟨Nat.le_of_ble_eq_true rfl, Nat.le_of_ble_eq_true rfl⟩ (fun v w' H locs hq hI => ?_) (fun k x w' H locs hq hI hX => ?_)
                          · obtain ⟨hq1, hq2⟩ := hq
                            cases hq1
                            rw [hq2] at hI
                            have hb9 := bw_lt ga (bg mi + (tl mi + 8 + j) % en mi)
                            refine W.eq (g2 := F0 m 135 ls [.int (nI (bw_b ga (bg mi + (tl mi + 8 + j) % en mi))), .int (nI (q + j)), .ref bd]) rfl ?_
                            refine lv_i2l hx hb d_RM_takeRecord_135 rfl ?_
                            refine mw_tl (nI_l (by omega)) ?_
                            refine mw_call (rest := []) K hSy hP0 hI (c_BY_setByte l D dA fd1 (by decide) (i := q + j) (by omega) (lN (bw_b ga (bg mi + (tl mi + 8 + j) % en mi)))) (mx_invV hx hown (hts _ tw_556) (hts _ tw_402) (hts _ tw_403) (hts _ tw_404) (by decide) (b := bd) (mw_rc K hI fd1.1 rfl) (g := F0 m 136 ls [.long (lN (bw_b ga (bg mi + (tl mi + 8 + j) % en mi))), .int (nI (q + j)), .ref bd]) rfl (argsL := [.int (nI (q + j)), .long (lN (bw_b ga (bg mi + (tl mi + 8 + j) % en mi)))]) (rest := []) np_BY_setByte rfl (by rw [hb]; exact d_RM_takeRecord_136)) hl.1 d_RM_takeRecord_136 ⟨Nat.le_of_ble_eq_true rfl, Nat.le_of_ble_eq_true rfl⟩ (Or.inl ⟨_, _, List.mem_cons_self⟩) (mk_ws tw_404 hts) (fun a9 U9 h9 => Ts_warm hts _ tw_22 a9 U9 h9) ⟨Nat.le_of_ble_eq_true rfl, Nat.le_of_ble_eq_true rfl⟩ (fun v w' H locs hq hI => ?_) (fun k x w' H locs hq hI hX => ?_)
                            · obtain ⟨hq1, hq2⟩ := hq
                              cases hq1
                              rw [hq2, mw_uu] at hI
                              refine W.eq (g2 := F0 m 139 ls []) rfl ?_
                              refine lv_iinc (v := nI (j + 1)) (lv' := [(5, .int (nI (j + 1))), (0, .ref a1), (1, .int (nI q)), (4, .int (nI z))]) hx hb d_RM_takeRecord_139 hl (k := 0) rfl (nI_add _ _) (by decide) rfl (fun ls hl => ?_)
                              refine lv_goto (tgt := 97) hx hb d_RM_takeRecord_142 (by decide) ?_
                              refine ih (j + 1) (by omega) _ (hg.s ?_) H locs hI ls (lv_sub hl [0, 1, 2, 3] rfl)
                              rw [uN_lN (by omega), Nat.mod_eq_of_lt hb9]
                            · exact absurd hq.1 (by simp)
                          · exact absurd hq.1 (by simp)
                        · exact absurd hq.1 (by simp)
                  have hI : mw_I D mk_cl w s.heap (mw_up w xd (by_a dA 512 gd)) H locs := by rw [← mw_self fd.2]; exact hI
                  refine lv_iconst (v := nI 0) hx hb d_RM_takeRecord_94 (by decide) ?_
                  refine lv_istore (lv' := [(5, .int (nI 0)), (4, .int (nI z)), (2, .long (lN z)), (0, .ref a1), (1, .int (nI q))]) hx hb d_RM_takeRecord_95 hl (by decide) rfl (fun ls hl => ?_)
                  exact hloop z 0 (by omega) gd (by_w.z gd q _) H locs hI ls (lv_sub hl [0, 3, 4, 1] rfl)
                · cases hq4
              · obtain ⟨hq1, ⟨-, -, hq4⟩ | ⟨hq2, hq4⟩⟩ := hq
                · cases hq4
                · cases hq4
                  rw [hq1] at hI
                  refine mw_on hI hce hlk hX ?_
                  have hsp := hsp.trans (if_neg hq2)
                  rw [hsp]
                  exact ⟨rfl, own, gd, ga, hA_0, Fr.rf w own⟩
            ·
              rw [lg_cmp_le, lN_leL (by omega) (by omega)] at c69
              exact hbrk H locs hI ls (lv_sub hl [1] rfl) hb0 hne (fun q => c69 q.2.2)
        · exact absurd hq.1 (by simp)
      · exact absurd hq.1 (by simp)
    ·
      have he : hd mi = tl mi := by
        have h9 : lg_cmp (lN (hd mi)) (lN (tl mi)) = 0 := c19
        exact (lN_eqL (by omega) (by omega)).mp ((lg_cmp_eq _ _).mp h9)
      have hsp := (hsp.trans (if_neg hb0)).trans (if_pos he)
      refine lv_bipush (v := (-2)) hx hb d_RM_takeRecord_22 (by decide) ?_
      refine W.widen (k := 1) (n := 6) (by decide) (by decide) ?_
      refine mw_iret K hI hr hlk ?_ d_RM_takeRecord_24
      rw [hsp]
      exact ⟨rfl, own, gd, ga, hA_0, Fr.rf w own⟩
  ·
    have hb0 : bk mi = true := by
      cases hbk : bk mi with
      | true => rfl
      | false => rw [hbk] at c4; exact absurd (by decide) c4
    have hsp := hsp.trans (if_pos hb0)
    refine lv_bipush (v := (-22)) hx hb d_RM_takeRecord_7 (by decide) ?_
    refine W.widen (k := 1) (n := 6) (by decide) (by decide) ?_
    refine mw_iret K hI hr hlk ?_ d_RM_takeRecord_9
    rw [hsp]
    exact ⟨rfl, own, gd, ga, hA_0, Fr.rf w own⟩
end
section
/-! ### MapStore: the calls that go to a map -/
theorem d_MS_used_0 : decode b_MS_used 0 = .ok (.aload_n 0, 1) := by decide +kernel
theorem d_MS_used_1 : decode b_MS_used 1 = .ok (.iload_n 1, 1) := by decide +kernel
theorem d_MS_used_2 : decode b_MS_used 2 = .ok (.invokevirtual 59, 3) := by decide +kernel
theorem d_MS_used_5 : decode b_MS_used 5 = .ok (.invokevirtual 66, 3) := by decide +kernel
theorem d_MS_used_8 : decode b_MS_used 8 = .ok (.ireturn, 1) := by decide +kernel
theorem d_MS_find_0 : decode b_MS_find 0 = .ok (.aload_n 0, 1) := by decide +kernel
theorem d_MS_find_1 : decode b_MS_find 1 = .ok (.iload_n 1, 1) := by decide +kernel
theorem d_MS_find_2 : decode b_MS_find 2 = .ok (.invokevirtual 59, 3) := by decide +kernel
theorem d_MS_find_5 : decode b_MS_find 5 = .ok (.iload_n 2, 1) := by decide +kernel
theorem d_MS_find_6 : decode b_MS_find 6 = .ok (.invokevirtual 85, 3) := by decide +kernel
theorem d_MS_find_9 : decode b_MS_find 9 = .ok (.ireturn, 1) := by decide +kernel
theorem d_MS_update_0 : decode b_MS_update 0 = .ok (.aload_n 0, 1) := by decide +kernel
theorem d_MS_update_1 : decode b_MS_update 1 = .ok (.iload_n 1, 1) := by decide +kernel
theorem d_MS_update_2 : decode b_MS_update 2 = .ok (.invokevirtual 59, 3) := by decide +kernel
theorem d_MS_update_5 : decode b_MS_update 5 = .ok (.iload_n 2, 1) := by decide +kernel
theorem d_MS_update_6 : decode b_MS_update 6 = .ok (.iload_n 3, 1) := by decide +kernel
theorem d_MS_update_7 : decode b_MS_update 7 = .ok (.iload 4, 2) := by decide +kernel
theorem d_MS_update_9 : decode b_MS_update 9 = .ok (.invokevirtual 88, 3) := by decide +kernel
theorem d_MS_update_12 : decode b_MS_update 12 = .ok (.ireturn, 1) := by decide +kernel
theorem d_MS_remove_0 : decode b_MS_remove 0 = .ok (.aload_n 0, 1) := by decide +kernel
theorem d_MS_remove_1 : decode b_MS_remove 1 = .ok (.iload_n 1, 1) := by decide +kernel
theorem d_MS_remove_2 : decode b_MS_remove 2 = .ok (.invokevirtual 59, 3) := by decide +kernel
theorem d_MS_remove_5 : decode b_MS_remove 5 = .ok (.iload_n 2, 1) := by decide +kernel
theorem d_MS_remove_6 : decode b_MS_remove 6 = .ok (.invokevirtual 92, 3) := by decide +kernel
theorem d_MS_remove_9 : decode b_MS_remove 9 = .ok (.ireturn, 1) := by decide +kernel
theorem d_MS_put_0 : decode b_MS_put 0 = .ok (.aload_n 0, 1) := by decide +kernel
theorem d_MS_put_1 : decode b_MS_put 1 = .ok (.iload_n 1, 1) := by decide +kernel
theorem d_MS_put_2 : decode b_MS_put 2 = .ok (.invokevirtual 59, 3) := by decide +kernel
theorem d_MS_put_5 : decode b_MS_put 5 = .ok (.iload_n 2, 1) := by decide +kernel
theorem d_MS_put_6 : decode b_MS_put 6 = .ok (.iload_n 3, 1) := by decide +kernel
theorem d_MS_put_7 : decode b_MS_put 7 = .ok (.invokevirtual 95, 3) := by decide +kernel
theorem d_MS_put_10 : decode b_MS_put 10 = .ok (.ireturn, 1) := by decide +kernel
theorem d_MS_take_0 : decode b_MS_take 0 = .ok (.aload_n 0, 1) := by decide +kernel
theorem d_MS_take_1 : decode b_MS_take 1 = .ok (.iload_n 1, 1) := by decide +kernel
theorem d_MS_take_2 : decode b_MS_take 2 = .ok (.invokevirtual 59, 3) := by decide +kernel
theorem d_MS_take_5 : decode b_MS_take 5 = .ok (.iload_n 2, 1) := by decide +kernel
theorem d_MS_take_6 : decode b_MS_take 6 = .ok (.invokevirtual 99, 3) := by decide +kernel
theorem d_MS_take_9 : decode b_MS_take 9 = .ok (.ireturn, 1) := by decide +kernel
theorem d_MS_next_0 : decode b_MS_next 0 = .ok (.aload_n 0, 1) := by decide +kernel
theorem d_MS_next_1 : decode b_MS_next 1 = .ok (.iload_n 1, 1) := by decide +kernel
theorem d_MS_next_2 : decode b_MS_next 2 = .ok (.invokevirtual 59, 3) := by decide +kernel
theorem d_MS_next_5 : decode b_MS_next 5 = .ok (.iload_n 2, 1) := by decide +kernel
theorem d_MS_next_6 : decode b_MS_next 6 = .ok (.iload_n 3, 1) := by decide +kernel
theorem d_MS_next_7 : decode b_MS_next 7 = .ok (.invokevirtual 102, 3) := by decide +kernel
theorem d_MS_next_10 : decode b_MS_next 10 = .ok (.ireturn, 1) := by decide +kernel
/-- an answer of the class, and its state afterwards -/
def PR (dA : Nat → ClassId) (w : mw_W) (own : as_W) (x : Nat) (sr : as_S × (Int32 ⊕ Nat)) : mw_R → mw_W → Prop := fun r w' => r = rV sr.2 ∧ ∃ own', RepC dA w' own' x sr.1 ∧ Fr w own w' own'
theorem PC.pr {dA : Nat → ClassId} {w : mw_W} {own : as_W} {x bd xd ba xa ra : Nat} {mp : Nat → Nat} {sr : as_S × (Int32 ⊕ Nat)} {r : mw_R} {w' : mw_W} (h : PC dA w own x bd xd ba xa ra mp sr r w') : PR dA w own x sr r w' := by
  obtain ⟨h1, own', gd', ga', h2, h3⟩ := h
  exact ⟨h1, own', ⟨bd, xd, ba, xa, ra, mp, gd', ga', h2⟩, h3⟩
theorem rV_ret {v : Option Value} {r : Int32 ⊕ Nat} (h : (.inl v : mw_R) = rV r) : ∃ u, v = some (.int u) := by
  cases r with
  | inl u => exact ⟨u, by injection h⟩
  | inr k => cases h
def sp_USED (S : as_S) (q : Int32) : as_S × (Int32 ⊕ Nat) := if inM S q then (S, .inl (nI (useN (mm S q.toNatClampNeg)))) else (S, .inr 2)
def sp_FIND (S : as_S) (q k : Int32) : as_S × (Int32 ⊕ Nat) := if inM S q then (if kd (mm S q.toNatClampNeg) = 2 then (S, .inl (-22)) else sp_find S q.toNatClampNeg k) else (S, .inr 2)
def sp_UPD (S : as_S) (q k v f : Int32) : as_S × (Int32 ⊕ Nat) := if inM S q then (if kd (mm S q.toNatClampNeg) = 2 then (S, .inl (-22)) else sp_upd S q.toNatClampNeg k v f) else (S, .inr 2)
def sp_REM (S : as_S) (q k : Int32) : as_S × (Int32 ⊕ Nat) := if inM S q then (if kd (mm S q.toNatClampNeg) = 1 then sp_free S q.toNatClampNeg k else (S, .inl (-22))) else (S, .inr 2)
def sp_PUT (S : as_S) (q a z : Int32) : as_S × (Int32 ⊕ Nat) := if inM S q then (if kd (mm S q.toNatClampNeg) = 2 then sp_put S q.toNatClampNeg a z else (S, .inl (-22))) else (S, .inr 2)
def sp_TAKE (S : as_S) (q a : Int32) : as_S × (Int32 ⊕ Nat) := if inM S q then (if kd (mm S q.toNatClampNeg) = 2 then sp_take S q.toNatClampNeg a else (S, .inl (-22))) else (S, .inr 2)
def sp_NEXT (S : as_S) (q k to : Int32) : as_S × (Int32 ⊕ Nat) := if inM S q then (if kd (mm S q.toNatClampNeg) = 1 then sp_next S q.toNatClampNeg k to else (S, .inl (-22))) else (S, .inr 2)
set_option maxRecDepth 100000 in
set_option maxHeartbeats 4000000 in
theorem c_MS_used (l : Launch) (D : va_G) (dA : Nat → ClassId) (hL : mw_L l) {w : mw_W} {own : as_W} {x t : Nat} {S : as_S} (hR : RepC dA w own x S) (hW : wf_S t S) (ht : t ≤ 512) (q : Int32) : CT l D dA y_MS_used (Cond.code y_MS_used b_MS_used 2 (some .int) :: Ts) 8 200 6 40 [.ref x, .int q] w (PR dA w own x (sp_USED S q)) := by
  refine mw_meth (by decide) mk_tb (Nat.le_of_ble_eq_true rfl) ?_
  intro p e s m below meth c K hr hlk hce hnm hP0 hSy ls hl
  have hl : lv_has ls 2 [(0, .ref x), (1, .int q)] := hl
  obtain ⟨hx, hb, hml, hown, hts, hK, hTb⟩ := id K
  have hI := mw_I.start hP0
  have hR0 := hR
  obtain ⟨bd, xd, ba, xa, ra, mp, gd, ga, hA⟩ := hR
  obtain ⟨⟨o1, o2, o3, o4, fx, fd, fa, fr, hdk, har⟩, hM⟩ := id hA
  refine lv_aload_n hx hb d_MS_used_0 rfl (lv_at hl 0 rfl) ?_
  refine lv_iload_n hx hb d_MS_used_1 rfl (lv_at hl 1 rfl) ?_
  refine mw_call (rest := []) K hSy hP0 hI (c_MS_mapOf l D dA hL hA hW.1 q) (mx_invV hx hown (hts _ tw_89) (hts _ tw_91) (hts _ tw_0) (hts _ tw_92) (by decide) (b := x) (mw_rc K hI fx rfl) (g := F0 m 2 ls [.int q, .ref x]) rfl (argsL := [.int q]) (rest := []) np_MS_mapOf rfl (by rw [hb]; exact d_MS_used_2)) hl.1 d_MS_used_2 ⟨Nat.le_of_ble_eq_true rfl, Nat.le_of_ble_eq_true rfl⟩ (Or.inl ⟨_, _, List.mem_cons_self⟩) (mk_ws tw_92 hts) (fun a9 U9 h9 => Ts_warm hts _ tw_21 a9 U9 h9) ⟨Nat.le_of_ble_eq_true rfl, Nat.le_of_ble_eq_true rfl⟩ (fun v w' H locs hq hI => ?_) (fun k x w' H locs hq hI hX => ?_)
  · obtain ⟨hq1, ⟨hin, hq4⟩ | ⟨-, hq4⟩⟩ := hq
    · cases hq4
      rw [hq1] at hI
      obtain ⟨e1, e2⟩ := inM_nI hin hW.1
      have hwf := hW.2.2.2.2.2 _ e2
      have hsp : sp_USED S q = _ := if_pos hin
      refine W.eq (g2 := F0 m 5 ls [.ref (mp q.toNatClampNeg)]) rfl ?_
      have hkk : kd (mm S q.toNatClampNeg) = 0 ∨ kd (mm S q.toNatClampNeg) = 1 ∨ kd (mm S q.toNatClampNeg) = 2 := by
        obtain ⟨-, ⟨k0, -⟩ | ⟨k0, -⟩ | ⟨k0, -⟩⟩ := hwf
        · exact Or.inl k0
        · exact Or.inr (Or.inl k0)
        · exact Or.inr (Or.inr k0)
      rcases hkk with hk | hk | hk
      · have f0 := rc_AM (hA.2 _ e2) hk (wf_E hwf (Or.inl hk)).2.2.2.2.2.2.2
        obtain ⟨mi, em⟩ : ∃ mi, mi = mm S q.toNatClampNeg := ⟨_, rfl⟩
        rw [← em] at f0
        refine mw_call (rest := []) K hSy hP0 hI (c_AM_inUse l D dA hA hW e2 hk) (mx_invU (y := y_AM_inUse) hx hown (hts _ tw_353) (hts _ tw_355) (va_Decl.abs (va_Nw.of rfl (hts _ tw_354))) (by decide) (hts _ tw_356) (hts _ tw_357) (b := (mp q.toNatClampNeg)) (mw_rc K hI f0 rfl) (g := F0 m 5 ls [.ref (mp q.toNatClampNeg)]) rfl (argsL := []) (rest := []) np_AN_inUse rfl (by rw [hb]; exact d_MS_used_5)) hl.1 d_MS_used_5 ⟨Nat.le_of_ble_eq_true rfl, Nat.le_of_ble_eq_true rfl⟩ (Or.inl ⟨_, _, List.mem_cons_self⟩) (mk_ws tw_358 hts) (fun a9 U9 h9 => Ts_warm hts _ tw_32 a9 U9 h9) ⟨Nat.le_of_ble_eq_true rfl, Nat.le_of_ble_eq_true rfl⟩ (fun v w' H locs hq hI => ?_) (fun k x w' H locs hq hI hX => ?_)
        · obtain ⟨hq5, hq6⟩ := hq
          cases hq5
          rw [hq6] at hI
          refine W.eq (g2 := F0 m 8 ls [.int (nI (useN (mm S q.toNatClampNeg)))]) rfl ?_
          refine W.widen (k := 6) (n := 40) (by decide) (by decide) ?_
          refine mw_iret K hI hr hlk ?_ d_MS_used_8
          rw [hsp]
          exact ⟨rfl, own, hR0, Fr.rf w own⟩
        · exact absurd hq.1 (by simp)
      · obtain ⟨ka, ak, rch, wk, f0⟩ := rc_TM (hA.2 _ e2) hk
        obtain ⟨mi, em⟩ : ∃ mi, mi = mm S q.toNatClampNeg := ⟨_, rfl⟩
        rw [← em] at f0
        refine mw_call (rest := []) K hSy hP0 hI (c_TM_inUse l D dA hA hW e2 hk) (mx_invU (y := y_TM_inUse) hx hown (hts _ tw_353) (hts _ tw_355) (va_Decl.abs (va_Nw.of rfl (hts _ tw_354))) (by decide) (hts _ tw_362) (hts _ tw_363) (b := (mp q.toNatClampNeg)) (mw_rc K hI f0 rfl) (g := F0 m 5 ls [.ref (mp q.toNatClampNeg)]) rfl (argsL := []) (rest := []) np_AN_inUse rfl (by rw [hb]; exact d_MS_used_5)) hl.1 d_MS_used_5 ⟨Nat.le_of_ble_eq_true rfl, Nat.le_of_ble_eq_true rfl⟩ (Or.inl ⟨_, _, List.mem_cons_self⟩) (mk_ws tw_364 hts) (fun a9 U9 h9 => Ts_warm hts _ tw_33 a9 U9 h9) ⟨Nat.le_of_ble_eq_true rfl, Nat.le_of_ble_eq_true rfl⟩ (fun v w' H locs hq hI => ?_) (fun k x w' H locs hq hI hX => ?_)
        · obtain ⟨hq5, hq6⟩ := hq
          cases hq5
          rw [hq6] at hI
          refine W.eq (g2 := F0 m 8 ls [.int (nI (useN (mm S q.toNatClampNeg)))]) rfl ?_
          refine W.widen (k := 6) (n := 40) (by decide) (by decide) ?_
          refine mw_iret K hI hr hlk ?_ d_MS_used_8
          rw [hsp]
          exact ⟨rfl, own, hR0, Fr.rf w own⟩
        · exact absurd hq.1 (by simp)
      · obtain ⟨om, f0⟩ := rc_RM (hA.2 _ e2) hk
        obtain ⟨mi, em⟩ : ∃ mi, mi = mm S q.toNatClampNeg := ⟨_, rfl⟩
        rw [← em] at f0
        refine mw_call (rest := []) K hSy hP0 hI (c_RM_inUse l D dA hA hW e2 hk) (mx_invU (y := y_RM_inUse) hx hown (hts _ tw_353) (hts _ tw_355) (va_Decl.abs (va_Nw.of rfl (hts _ tw_354))) (by decide) (hts _ tw_359) (hts _ tw_360) (b := (mp q.toNatClampNeg)) (mw_rc K hI f0 rfl) (g := F0 m 5 ls [.ref (mp q.toNatClampNeg)]) rfl (argsL := []) (rest := []) np_AN_inUse rfl (by rw [hb]; exact d_MS_used_5)) hl.1 d_MS_used_5 ⟨Nat.le_of_ble_eq_true rfl, Nat.le_of_ble_eq_true rfl⟩ (Or.inl ⟨_, _, List.mem_cons_self⟩) (mk_ws tw_361 hts) (fun a9 U9 h9 => Ts_warm hts _ tw_34 a9 U9 h9) ⟨Nat.le_of_ble_eq_true rfl, Nat.le_of_ble_eq_true rfl⟩ (fun v w' H locs hq hI => ?_) (fun k x w' H locs hq hI hX => ?_)
        · obtain ⟨hq5, hq6⟩ := hq
          cases hq5
          rw [hq6] at hI
          refine W.eq (g2 := F0 m 8 ls [.int (nI (useN (mm S q.toNatClampNeg)))]) rfl ?_
          refine W.widen (k := 6) (n := 40) (by decide) (by decide) ?_
          refine mw_iret K hI hr hlk ?_ d_MS_used_8
          rw [hsp]
          exact ⟨rfl, own, hR0, Fr.rf w own⟩
        · exact absurd hq.1 (by simp)
    · cases hq4
  · obtain ⟨hq1, ⟨-, hq4⟩ | ⟨hq2, hq4⟩⟩ := hq
    · cases hq4
    · cases hq4
      rw [hq1] at hI
      have hsp : sp_USED S q = _ := if_neg hq2
      refine WT.widen (k := 6) (n := 40) (by decide) (by decide) ?_
      refine mw_on hI hce hlk hX ?_
      rw [hsp]
      exact ⟨rfl, own, hR0, Fr.rf w own⟩
set_option maxRecDepth 100000 in
set_option maxHeartbeats 4000000 in
theorem c_MS_find (l : Launch) (D : va_G) (dA : Nat → ClassId) (hL : mw_L l) {w : mw_W} {own : as_W} {x t : Nat} {S : as_S} (hR : RepC dA w own x S) (hW : wf_S t S) (ht : t ≤ 512) (q k : Int32) : CT l D dA y_MS_find (Cond.code y_MS_find b_MS_find 3 (some .int) :: Ts) 8 200 6 40 [.ref x, .int q, .int k] w (PR dA w own x (sp_FIND S q k)) := by
  refine mw_meth (by decide) mk_tb (Nat.le_of_ble_eq_true rfl) ?_
  intro p e s m below meth c K hr hlk hce hnm hP0 hSy ls hl
  have hl : lv_has ls 3 [(0, .ref x), (1, .int q), (2, .int k)] := hl
  obtain ⟨hx, hb, hml, hown, hts, hK, hTb⟩ := id K
  have hI := mw_I.start hP0
  have hR0 := hR
  obtain ⟨bd, xd, ba, xa, ra, mp, gd, ga, hA⟩ := hR
  obtain ⟨⟨o1, o2, o3, o4, fx, fd, fa, fr, hdk, har⟩, hM⟩ := id hA
  refine lv_aload_n hx hb d_MS_find_0 rfl (lv_at hl 0 rfl) ?_
  refine lv_iload_n hx hb d_MS_find_1 rfl (lv_at hl 1 rfl) ?_
  refine mw_call (rest := []) K hSy hP0 hI (c_MS_mapOf l D dA hL hA hW.1 q) (mx_invV hx hown (hts _ tw_89) (hts _ tw_91) (hts _ tw_0) (hts _ tw_92) (by decide) (b := x) (mw_rc K hI fx rfl) (g := F0 m 2 ls [.int q, .ref x]) rfl (argsL := [.int q]) (rest := []) np_MS_mapOf rfl (by rw [hb]; exact d_MS_find_2)) hl.1 d_MS_find_2 ⟨Nat.le_of_ble_eq_true rfl, Nat.le_of_ble_eq_true rfl⟩ (Or.inl ⟨_, _, List.mem_cons_self⟩) (mk_ws tw_92 hts) (fun a9 U9 h9 => Ts_warm hts _ tw_21 a9 U9 h9) ⟨Nat.le_of_ble_eq_true rfl, Nat.le_of_ble_eq_true rfl⟩ (fun v w' H locs hq hI => ?_) (fun k x w' H locs hq hI hX => ?_)
  · obtain ⟨hq1, ⟨hin, hq4⟩ | ⟨-, hq4⟩⟩ := hq
    · cases hq4
      rw [hq1] at hI
      obtain ⟨e1, e2⟩ := inM_nI hin hW.1
      have hwf := hW.2.2.2.2.2 _ e2
      have hsp : sp_FIND S q k = _ := if_pos hin
      refine W.eq (g2 := F0 m 5 ls [.ref (mp q.toNatClampNeg)]) rfl ?_
      have hkk : kd (mm S q.toNatClampNeg) = 0 ∨ kd (mm S q.toNatClampNeg) = 1 ∨ kd (mm S q.toNatClampNeg) = 2 := by
        obtain ⟨-, ⟨k0, -⟩ | ⟨k0, -⟩ | ⟨k0, -⟩⟩ := hwf
        · exact Or.inl k0
        · exact Or.inr (Or.inl k0)
        · exact Or.inr (Or.inr k0)
      rcases hkk with hk | hk | hk
      · have f0 := rc_AM (hA.2 _ e2) hk (wf_E hwf (Or.inl hk)).2.2.2.2.2.2.2
        obtain ⟨mi, em⟩ : ∃ mi, mi = mm S q.toNatClampNeg := ⟨_, rfl⟩
        rw [← em] at f0
        have hsp := hsp.trans (if_neg (by rw [hk]; decide))
        refine lv_iload_n hx hb d_MS_find_5 rfl (lv_at hl 2 rfl) ?_
        refine mw_call (rest := []) K hSy hP0 hI (c_EM_placeOf_AM l D dA hL hA hW e2 hk k) (mx_invU (y := y_EM_placeOf) hx hown (hts _ tw_432) (hts _ tw_434) (va_Decl.of (hts _ tw_433) (hts _ tw_468)) (by decide) (hts _ tw_435) (hts _ tw_436) (b := (mp q.toNatClampNeg)) (mw_rc K hI f0 rfl) (g := F0 m 6 ls [.int k, .ref (mp q.toNatClampNeg)]) rfl (argsL := [.int k]) (rest := []) np_AN_placeOf rfl (by rw [hb]; exact d_MS_find_6)) hl.1 d_MS_find_6 ⟨Nat.le_of_ble_eq_true rfl, Nat.le_of_ble_eq_true rfl⟩ (Or.inl ⟨_, _, List.mem_cons_self⟩) (mk_ws tw_437 hts) (fun a9 U9 h9 => Ts_warm hts _ tw_31 a9 U9 h9) ⟨Nat.le_of_ble_eq_true rfl, Nat.le_of_ble_eq_true rfl⟩ (fun v w' H locs hq hI => ?_) (fun k x w' H locs hq hI hX => ?_)
        · have hq := hq.pr
          obtain ⟨u, hu⟩ := rV_ret hq.1
          cases hu
          refine W.eq (g2 := F0 m 9 ls [.int u]) rfl ?_
          refine W.widen (k := 6) (n := 40) (by decide) (by decide) ?_
          refine mw_iret K hI hr hlk ?_ d_MS_find_9
          rw [hsp]
          exact hq
        · have hq := hq.pr
          refine WT.widen (k := 6) (n := 40) (by decide) (by decide) ?_
          refine mw_on hI hce hlk hX ?_
          rw [hsp]
          exact hq
      · obtain ⟨ka, ak, rch, wk, f0⟩ := rc_TM (hA.2 _ e2) hk
        obtain ⟨mi, em⟩ : ∃ mi, mi = mm S q.toNatClampNeg := ⟨_, rfl⟩
        rw [← em] at f0
        have hsp := hsp.trans (if_neg (by rw [hk]; decide))
        refine lv_iload_n hx hb d_MS_find_5 rfl (lv_at hl 2 rfl) ?_
        refine mw_call (rest := []) K hSy hP0 hI (c_EM_placeOf_TM l D dA hL hA hW e2 hk k) (mx_invU (y := y_EM_placeOf) hx hown (hts _ tw_432) (hts _ tw_434) (va_Decl.of (hts _ tw_433) (hts _ tw_468)) (by decide) (hts _ tw_467) (hts _ tw_436) (b := (mp q.toNatClampNeg)) (mw_rc K hI f0 rfl) (g := F0 m 6 ls [.int k, .ref (mp q.toNatClampNeg)]) rfl (argsL := [.int k]) (rest := []) np_AN_placeOf rfl (by rw [hb]; exact d_MS_find_6)) hl.1 d_MS_find_6 ⟨Nat.le_of_ble_eq_true rfl, Nat.le_of_ble_eq_true rfl⟩ (Or.inl ⟨_, _, List.mem_cons_self⟩) (mk_ws tw_437 hts) (fun a9 U9 h9 => Ts_warm hts _ tw_31 a9 U9 h9) ⟨Nat.le_of_ble_eq_true rfl, Nat.le_of_ble_eq_true rfl⟩ (fun v w' H locs hq hI => ?_) (fun k x w' H locs hq hI hX => ?_)
        · have hq := hq.pr
          obtain ⟨u, hu⟩ := rV_ret hq.1
          cases hu
          refine W.eq (g2 := F0 m 9 ls [.int u]) rfl ?_
          refine W.widen (k := 6) (n := 40) (by decide) (by decide) ?_
          refine mw_iret K hI hr hlk ?_ d_MS_find_9
          rw [hsp]
          exact hq
        · have hq := hq.pr
          refine WT.widen (k := 6) (n := 40) (by decide) (by decide) ?_
          refine mw_on hI hce hlk hX ?_
          rw [hsp]
          exact hq
      · obtain ⟨om, f0⟩ := rc_RM (hA.2 _ e2) hk
        obtain ⟨mi, em⟩ : ∃ mi, mi = mm S q.toNatClampNeg := ⟨_, rfl⟩
        rw [← em] at f0
        have hsp := hsp.trans (if_pos (by rw [hk]))
        refine lv_iload_n hx hb d_MS_find_5 rfl (lv_at hl 2 rfl) ?_
        refine mw_call (rest := []) K hSy hP0 hI (c_AN_placeOf l D dA _ k) (mx_invU (y := y_AN_placeOf) hx hown (hts _ tw_432) (hts _ tw_434) (va_Decl.of (hts _ tw_433) (hts _ tw_468)) (by decide) (hts _ tw_466) (hts _ tw_433) (b := (mp q.toNatClampNeg)) (mw_rc K hI f0 rfl) (g := F0 m 6 ls [.int k, .ref (mp q.toNatClampNeg)]) rfl (argsL := [.int k]) (rest := []) np_AN_placeOf rfl (by rw [hb]; exact d_MS_find_6)) hl.1 d_MS_find_6 ⟨Nat.le_of_ble_eq_true rfl, Nat.le_of_ble_eq_true rfl⟩ (Or.inl ⟨_, _, List.mem_cons_self⟩) (mk_ws tw_468 hts) (fun a9 U9 h9 => Ts_warm hts _ tw_30 a9 U9 h9) ⟨Nat.le_of_ble_eq_true rfl, Nat.le_of_ble_eq_true rfl⟩ (fun v w' H locs hq hI => ?_) (fun k x w' H locs hq hI hX => ?_)
        · obtain ⟨hq5, hq6⟩ := hq
          cases hq5
          rw [hq6] at hI
          refine W.eq (g2 := F0 m 9 ls [.int ((-22))]) rfl ?_
          refine W.widen (k := 6) (n := 40) (by decide) (by decide) ?_
          refine mw_iret K hI hr hlk ?_ d_MS_find_9
          rw [hsp]
          exact ⟨rfl, own, hR0, Fr.rf w own⟩
        · exact absurd hq.1 (by simp)
    · cases hq4
  · obtain ⟨hq1, ⟨-, hq4⟩ | ⟨hq2, hq4⟩⟩ := hq
    · cases hq4
    · cases hq4
      rw [hq1] at hI
      have hsp : sp_FIND S q k = _ := if_neg hq2
      refine WT.widen (k := 6) (n := 40) (by decide) (by decide) ?_
      refine mw_on hI hce hlk hX ?_
      rw [hsp]
      exact ⟨rfl, own, hR0, Fr.rf w own⟩
set_option maxRecDepth 100000 in
set_option maxHeartbeats 4000000 in
theorem c_MS_update (l : Launch) (D : va_G) (dA : Nat → ClassId) (hL : mw_L l) {w : mw_W} {own : as_W} {x t : Nat} {S : as_S} (hR : RepC dA w own x S) (hW : wf_S t S) (ht : t ≤ 512) (q k v f : Int32) : CT l D dA y_MS_update (Cond.code y_MS_update b_MS_update 5 (some .int) :: Ts) 8 200 6 40 [.ref x, .int q, .int k, .int v, .int f] w (PR dA w own x (sp_UPD S q k v f)) := by
  refine mw_meth (by decide) mk_tb (Nat.le_of_ble_eq_true rfl) ?_
  intro p e s m below meth c K hr hlk hce hnm hP0 hSy ls hl
  have hl : lv_has ls 5 [(0, .ref x), (1, .int q), (2, .int k), (3, .int v), (4, .int f)] := hl
  obtain ⟨hx, hb, hml, hown, hts, hK, hTb⟩ := id K
  have hI := mw_I.start hP0
  have hR0 := hR
  obtain ⟨bd, xd, ba, xa, ra, mp, gd, ga, hA⟩ := hR
  obtain ⟨⟨o1, o2, o3, o4, fx, fd, fa, fr, hdk, har⟩, hM⟩ := id hA
  refine lv_aload_n hx hb d_MS_update_0 rfl (lv_at hl 0 rfl) ?_
  refine lv_iload_n hx hb d_MS_update_1 rfl (lv_at hl 1 rfl) ?_
  refine mw_call (rest := []) K hSy hP0 hI (c_MS_mapOf l D dA hL hA hW.1 q) (mx_invV hx hown (hts _ tw_89) (hts _ tw_91) (hts _ tw_0) (hts _ tw_92) (by decide) (b := x) (mw_rc K hI fx rfl) (g := F0 m 2 ls [.int q, .ref x]) rfl (argsL := [.int q]) (rest := []) np_MS_mapOf rfl (by rw [hb]; exact d_MS_update_2)) hl.1 d_MS_update_2 ⟨Nat.le_of_ble_eq_true rfl, Nat.le_of_ble_eq_true rfl⟩ (Or.inl ⟨_, _, List.mem_cons_self⟩) (mk_ws tw_92 hts) (fun a9 U9 h9 => Ts_warm hts _ tw_21 a9 U9 h9) ⟨Nat.le_of_ble_eq_true rfl, Nat.le_of_ble_eq_true rfl⟩ (fun v w' H locs hq hI => ?_) (fun k x w' H locs hq hI hX => ?_)
  · obtain ⟨hq1, ⟨hin, hq4⟩ | ⟨-, hq4⟩⟩ := hq
    · cases hq4
      rw [hq1] at hI
      obtain ⟨e1, e2⟩ := inM_nI hin hW.1
      have hwf := hW.2.2.2.2.2 _ e2
      have hsp : sp_UPD S q k v f = _ := if_pos hin
      refine W.eq (g2 := F0 m 5 ls [.ref (mp q.toNatClampNeg)]) rfl ?_
      have hkk : kd (mm S q.toNatClampNeg) = 0 ∨ kd (mm S q.toNatClampNeg) = 1 ∨ kd (mm S q.toNatClampNeg) = 2 := by
        obtain ⟨-, ⟨k0, -⟩ | ⟨k0, -⟩ | ⟨k0, -⟩⟩ := hwf
        · exact Or.inl k0
        · exact Or.inr (Or.inl k0)
        · exact Or.inr (Or.inr k0)
      rcases hkk with hk | hk | hk
      · have f0 := rc_AM (hA.2 _ e2) hk (wf_E hwf (Or.inl hk)).2.2.2.2.2.2.2
        obtain ⟨mi, em⟩ : ∃ mi, mi = mm S q.toNatClampNeg := ⟨_, rfl⟩
        rw [← em] at f0
        have hsp := hsp.trans (if_neg (by rw [hk]; decide))
        refine lv_iload_n hx hb d_MS_update_5 rfl (lv_at hl 2 rfl) ?_
        refine lv_iload_n hx hb d_MS_update_6 rfl (lv_at hl 3 rfl) ?_
        refine lv_iload hx hb d_MS_update_7 (lv_at hl 4 rfl) ?_
        refine mw_call (rest := []) K hSy hP0 hI (c_EM_write_AM l D dA hL hA hW e2 hk k v f) (mx_invU (y := y_EM_write) hx hown (hts _ tw_476) (hts _ tw_478) (va_Decl.of (hts _ tw_477) (hts _ tw_506)) (by decide) (hts _ tw_479) (hts _ tw_480) (b := (mp q.toNatClampNeg)) (mw_rc K hI f0 rfl) (g := F0 m 9 ls [.int f, .int v, .int k, .ref (mp q.toNatClampNeg)]) rfl (argsL := [.int k, .int v, .int f]) (rest := []) np_AN_write rfl (by rw [hb]; exact d_MS_update_9)) hl.1 d_MS_update_9 ⟨Nat.le_of_ble_eq_true rfl, Nat.le_of_ble_eq_true rfl⟩ (Or.inl ⟨_, _, List.mem_cons_self⟩) (mk_ws tw_481 hts) (fun a9 U9 h9 => Ts_warm hts _ tw_31 a9 U9 h9) ⟨Nat.le_of_ble_eq_true rfl, Nat.le_of_ble_eq_true rfl⟩ (fun v w' H locs hq hI => ?_) (fun k x w' H locs hq hI hX => ?_)
        · have hq := hq.pr
          obtain ⟨u, hu⟩ := rV_ret hq.1
          cases hu
          refine W.eq (g2 := F0 m 12 ls [.int u]) rfl ?_
          refine W.widen (k := 6) (n := 40) (by decide) (by decide) ?_
          refine mw_iret K hI hr hlk ?_ d_MS_update_12
          rw [hsp]
          exact hq
        · have hq := hq.pr
          refine WT.widen (k := 6) (n := 40) (by decide) (by decide) ?_
          refine mw_on hI hce hlk hX ?_
          rw [hsp]
          exact hq
      · obtain ⟨ka, ak, rch, wk, f0⟩ := rc_TM (hA.2 _ e2) hk
        obtain ⟨mi, em⟩ : ∃ mi, mi = mm S q.toNatClampNeg := ⟨_, rfl⟩
        rw [← em] at f0
        have hsp := hsp.trans (if_neg (by rw [hk]; decide))
        refine lv_iload_n hx hb d_MS_update_5 rfl (lv_at hl 2 rfl) ?_
        refine lv_iload_n hx hb d_MS_update_6 rfl (lv_at hl 3 rfl) ?_
        refine lv_iload hx hb d_MS_update_7 (lv_at hl 4 rfl) ?_
        refine mw_call (rest := []) K hSy hP0 hI (c_EM_write_TM l D dA hL hA hW e2 hk k v f) (mx_invU (y := y_EM_write) hx hown (hts _ tw_476) (hts _ tw_478) (va_Decl.of (hts _ tw_477) (hts _ tw_506)) (by decide) (hts _ tw_505) (hts _ tw_480) (b := (mp q.toNatClampNeg)) (mw_rc K hI f0 rfl) (g := F0 m 9 ls [.int f, .int v, .int k, .ref (mp q.toNatClampNeg)]) rfl (argsL := [.int k, .int v, .int f]) (rest := []) np_AN_write rfl (by rw [hb]; exact d_MS_update_9)) hl.1 d_MS_update_9 ⟨Nat.le_of_ble_eq_true rfl, Nat.le_of_ble_eq_true rfl⟩ (Or.inl ⟨_, _, List.mem_cons_self⟩) (mk_ws tw_481 hts) (fun a9 U9 h9 => Ts_warm hts _ tw_31 a9 U9 h9) ⟨Nat.le_of_ble_eq_true rfl, Nat.le_of_ble_eq_true rfl⟩ (fun v w' H locs hq hI => ?_) (fun k x w' H locs hq hI hX => ?_)
        · have hq := hq.pr
          obtain ⟨u, hu⟩ := rV_ret hq.1
          cases hu
          refine W.eq (g2 := F0 m 12 ls [.int u]) rfl ?_
          refine W.widen (k := 6) (n := 40) (by decide) (by decide) ?_
          refine mw_iret K hI hr hlk ?_ d_MS_update_12
          rw [hsp]
          exact hq
        · have hq := hq.pr
          refine WT.widen (k := 6) (n := 40) (by decide) (by decide) ?_
          refine mw_on hI hce hlk hX ?_
          rw [hsp]
          exact hq
      · obtain ⟨om, f0⟩ := rc_RM (hA.2 _ e2) hk
        obtain ⟨mi, em⟩ : ∃ mi, mi = mm S q.toNatClampNeg := ⟨_, rfl⟩
        rw [← em] at f0
        have hsp := hsp.trans (if_pos (by rw [hk]))
        refine lv_iload_n hx hb d_MS_update_5 rfl (lv_at hl 2 rfl) ?_
        refine lv_iload_n hx hb d_MS_update_6 rfl (lv_at hl 3 rfl) ?_
        refine lv_iload hx hb d_MS_update_7 (lv_at hl 4 rfl) ?_
        refine mw_call (rest := []) K hSy hP0 hI (c_AN_write l D dA _ k v f) (mx_invU (y := y_AN_write) hx hown (hts _ tw_476) (hts _ tw_478) (va_Decl.of (hts _ tw_477) (hts _ tw_506)) (by decide) (hts _ tw_504) (hts _ tw_477) (b := (mp q.toNatClampNeg)) (mw_rc K hI f0 rfl) (g := F0 m 9 ls [.int f, .int v, .int k, .ref (mp q.toNatClampNeg)]) rfl (argsL := [.int k, .int v, .int f]) (rest := []) np_AN_write rfl (by rw [hb]; exact d_MS_update_9)) hl.1 d_MS_update_9 ⟨Nat.le_of_ble_eq_true rfl, Nat.le_of_ble_eq_true rfl⟩ (Or.inl ⟨_, _, List.mem_cons_self⟩) (mk_ws tw_506 hts) (fun a9 U9 h9 => Ts_warm hts _ tw_30 a9 U9 h9) ⟨Nat.le_of_ble_eq_true rfl, Nat.le_of_ble_eq_true rfl⟩ (fun v w' H locs hq hI => ?_) (fun k x w' H locs hq hI hX => ?_)
        · obtain ⟨hq5, hq6⟩ := hq
          cases hq5
          rw [hq6] at hI
          refine W.eq (g2 := F0 m 12 ls [.int ((-22))]) rfl ?_
          refine W.widen (k := 6) (n := 40) (by decide) (by decide) ?_
          refine mw_iret K hI hr hlk ?_ d_MS_update_12
          rw [hsp]
          exact ⟨rfl, own, hR0, Fr.rf w own⟩
        · exact absurd hq.1 (by simp)
    · cases hq4
  · obtain ⟨hq1, ⟨-, hq4⟩ | ⟨hq2, hq4⟩⟩ := hq
    · cases hq4
    · cases hq4
      rw [hq1] at hI
      have hsp : sp_UPD S q k v f = _ := if_neg hq2
      refine WT.widen (k := 6) (n := 40) (by decide) (by decide) ?_
      refine mw_on hI hce hlk hX ?_
      rw [hsp]
      exact ⟨rfl, own, hR0, Fr.rf w own⟩
set_option maxRecDepth 100000 in
set_option maxHeartbeats 4000000 in
theorem c_MS_remove (l : Launch) (D : va_G) (dA : Nat → ClassId) (hL : mw_L l) {w : mw_W} {own : as_W} {x t : Nat} {S : as_S} (hR : RepC dA w own x S) (hW : wf_S t S) (ht : t ≤ 512) (q k : Int32) : CT l D dA y_MS_remove (Cond.code y_MS_remove b_MS_remove 3 (some .int) :: Ts) 8 200 6 40 [.ref x, .int q, .int k] w (PR dA w own x (sp_REM S q k)) := by
  refine mw_meth (by decide) mk_tb (Nat.le_of_ble_eq_true rfl) ?_
  intro p e s m below meth c K hr hlk hce hnm hP0 hSy ls hl
  have hl : lv_has ls 3 [(0, .ref x), (1, .int q), (2, .int k)] := hl
  obtain ⟨hx, hb, hml, hown, hts, hK, hTb⟩ := id K
  have hI := mw_I.start hP0
  have hR0 := hR
  obtain ⟨bd, xd, ba, xa, ra, mp, gd, ga, hA⟩ := hR
  obtain ⟨⟨o1, o2, o3, o4, fx, fd, fa, fr, hdk, har⟩, hM⟩ := id hA
  refine lv_aload_n hx hb d_MS_remove_0 rfl (lv_at hl 0 rfl) ?_
  refine lv_iload_n hx hb d_MS_remove_1 rfl (lv_at hl 1 rfl) ?_
  refine mw_call (rest := []) K hSy hP0 hI (c_MS_mapOf l D dA hL hA hW.1 q) (mx_invV hx hown (hts _ tw_89) (hts _ tw_91) (hts _ tw_0) (hts _ tw_92) (by decide) (b := x) (mw_rc K hI fx rfl) (g := F0 m 2 ls [.int q, .ref x]) rfl (argsL := [.int q]) (rest := []) np_MS_mapOf rfl (by rw [hb]; exact d_MS_remove_2)) hl.1 d_MS_remove_2 ⟨Nat.le_of_ble_eq_true rfl, Nat.le_of_ble_eq_true rfl⟩ (Or.inl ⟨_, _, List.mem_cons_self⟩) (mk_ws tw_92 hts) (fun a9 U9 h9 => Ts_warm hts _ tw_21 a9 U9 h9) ⟨Nat.le_of_ble_eq_true rfl, Nat.le_of_ble_eq_true rfl⟩ (fun v w' H locs hq hI => ?_) (fun k x w' H locs hq hI hX => ?_)
  · obtain ⟨hq1, ⟨hin, hq4⟩ | ⟨-, hq4⟩⟩ := hq
    · cases hq4
      rw [hq1] at hI
      obtain ⟨e1, e2⟩ := inM_nI hin hW.1
      have hwf := hW.2.2.2.2.2 _ e2
      have hsp : sp_REM S q k = _ := if_pos hin
      refine W.eq (g2 := F0 m 5 ls [.ref (mp q.toNatClampNeg)]) rfl ?_
      have hkk : kd (mm S q.toNatClampNeg) = 0 ∨ kd (mm S q.toNatClampNeg) = 1 ∨ kd (mm S q.toNatClampNeg) = 2 := by
        obtain ⟨-, ⟨k0, -⟩ | ⟨k0, -⟩ | ⟨k0, -⟩⟩ := hwf
        · exact Or.inl k0
        · exact Or.inr (Or.inl k0)
        · exact Or.inr (Or.inr k0)
      rcases hkk with hk | hk | hk
      · have f0 := rc_AM (hA.2 _ e2) hk (wf_E hwf (Or.inl hk)).2.2.2.2.2.2.2
        obtain ⟨mi, em⟩ : ∃ mi, mi = mm S q.toNatClampNeg := ⟨_, rfl⟩
        rw [← em] at f0
        have hsp := hsp.trans (if_neg (by rw [hk]; decide))
        refine lv_iload_n hx hb d_MS_remove_5 rfl (lv_at hl 2 rfl) ?_
        refine mw_call (rest := []) K hSy hP0 hI (c_AN_free l D dA _ k) (mx_invU (y := y_AN_free) hx hown (hts _ tw_514) (hts _ tw_516) (va_Decl.of (hts _ tw_515) (hts _ tw_524)) (by decide) (hts _ tw_517) (hts _ tw_515) (b := (mp q.toNatClampNeg)) (mw_rc K hI f0 rfl) (g := F0 m 6 ls [.int k, .ref (mp q.toNatClampNeg)]) rfl (argsL := [.int k]) (rest := []) np_AN_free rfl (by rw [hb]; exact d_MS_remove_6)) hl.1 d_MS_remove_6 ⟨Nat.le_of_ble_eq_true rfl, Nat.le_of_ble_eq_true rfl⟩ (Or.inl ⟨_, _, List.mem_cons_self⟩) (mk_ws tw_524 hts) (fun a9 U9 h9 => Ts_warm hts _ tw_30 a9 U9 h9) ⟨Nat.le_of_ble_eq_true rfl, Nat.le_of_ble_eq_true rfl⟩ (fun v w' H locs hq hI => ?_) (fun k x w' H locs hq hI hX => ?_)
        · obtain ⟨hq5, hq6⟩ := hq
          cases hq5
          rw [hq6] at hI
          refine W.eq (g2 := F0 m 9 ls [.int ((-22))]) rfl ?_
          refine W.widen (k := 6) (n := 40) (by decide) (by decide) ?_
          refine mw_iret K hI hr hlk ?_ d_MS_remove_9
          rw [hsp]
          exact ⟨rfl, own, hR0, Fr.rf w own⟩
        · exact absurd hq.1 (by simp)
      · obtain ⟨ka, ak, rch, wk, f0⟩ := rc_TM (hA.2 _ e2) hk
        obtain ⟨mi, em⟩ : ∃ mi, mi = mm S q.toNatClampNeg := ⟨_, rfl⟩
        rw [← em] at f0
        have hsp := hsp.trans (if_pos (by rw [hk]))
        refine lv_iload_n hx hb d_MS_remove_5 rfl (lv_at hl 2 rfl) ?_
        refine mw_call (rest := []) K hSy hP0 hI (c_TM_free l D dA hL hA hW e2 hk k) (mx_invU (y := y_TM_free) hx hown (hts _ tw_514) (hts _ tw_516) (va_Decl.of (hts _ tw_515) (hts _ tw_524)) (by decide) (hts _ tw_519) (hts _ tw_520) (b := (mp q.toNatClampNeg)) (mw_rc K hI f0 rfl) (g := F0 m 6 ls [.int k, .ref (mp q.toNatClampNeg)]) rfl (argsL := [.int k]) (rest := []) np_AN_free rfl (by rw [hb]; exact d_MS_remove_6)) hl.1 d_MS_remove_6 ⟨Nat.le_of_ble_eq_true rfl, Nat.le_of_ble_eq_true rfl⟩ (Or.inl ⟨_, _, List.mem_cons_self⟩) (mk_ws tw_521 hts) (fun a9 U9 h9 => Ts_warm hts _ tw_33 a9 U9 h9) ⟨Nat.le_of_ble_eq_true rfl, Nat.le_of_ble_eq_true rfl⟩ (fun v w' H locs hq hI => ?_) (fun k x w' H locs hq hI hX => ?_)
        · have hq := hq.pr
          obtain ⟨u, hu⟩ := rV_ret hq.1
          cases hu
          refine W.eq (g2 := F0 m 9 ls [.int u]) rfl ?_
          refine W.widen (k := 6) (n := 40) (by decide) (by decide) ?_
          refine mw_iret K hI hr hlk ?_ d_MS_remove_9
          rw [hsp]
          exact hq
        · have hq := hq.pr
          refine WT.widen (k := 6) (n := 40) (by decide) (by decide) ?_
          refine mw_on hI hce hlk hX ?_
          rw [hsp]
          exact hq
      · obtain ⟨om, f0⟩ := rc_RM (hA.2 _ e2) hk
        obtain ⟨mi, em⟩ : ∃ mi, mi = mm S q.toNatClampNeg := ⟨_, rfl⟩
        rw [← em] at f0
        have hsp := hsp.trans (if_neg (by rw [hk]; decide))
        refine lv_iload_n hx hb d_MS_remove_5 rfl (lv_at hl 2 rfl) ?_
        refine mw_call (rest := []) K hSy hP0 hI (c_AN_free l D dA _ k) (mx_invU (y := y_AN_free) hx hown (hts _ tw_514) (hts _ tw_516) (va_Decl.of (hts _ tw_515) (hts _ tw_524)) (by decide) (hts _ tw_518) (hts _ tw_515) (b := (mp q.toNatClampNeg)) (mw_rc K hI f0 rfl) (g := F0 m 6 ls [.int k, .ref (mp q.toNatClampNeg)]) rfl (argsL := [.int k]) (rest := []) np_AN_free rfl (by rw [hb]; exact d_MS_remove_6)) hl.1 d_MS_remove_6 ⟨Nat.le_of_ble_eq_true rfl, Nat.le_of_ble_eq_true rfl⟩ (Or.inl ⟨_, _, List.mem_cons_self⟩) (mk_ws tw_524 hts) (fun a9 U9 h9 => Ts_warm hts _ tw_30 a9 U9 h9) ⟨Nat.le_of_ble_eq_true rfl, Nat.le_of_ble_eq_true rfl⟩ (fun v w' H locs hq hI => ?_) (fun k x w' H locs hq hI hX => ?_)
        · obtain ⟨hq5, hq6⟩ := hq
          cases hq5
          rw [hq6] at hI
          refine W.eq (g2 := F0 m 9 ls [.int ((-22))]) rfl ?_
          refine W.widen (k := 6) (n := 40) (by decide) (by decide) ?_
          refine mw_iret K hI hr hlk ?_ d_MS_remove_9
          rw [hsp]
          exact ⟨rfl, own, hR0, Fr.rf w own⟩
        · exact absurd hq.1 (by simp)
    · cases hq4
  · obtain ⟨hq1, ⟨-, hq4⟩ | ⟨hq2, hq4⟩⟩ := hq
    · cases hq4
    · cases hq4
      rw [hq1] at hI
      have hsp : sp_REM S q k = _ := if_neg hq2
      refine WT.widen (k := 6) (n := 40) (by decide) (by decide) ?_
      refine mw_on hI hce hlk hX ?_
      rw [hsp]
      exact ⟨rfl, own, hR0, Fr.rf w own⟩
set_option maxRecDepth 100000 in
set_option maxHeartbeats 4000000 in
theorem c_MS_put (l : Launch) (D : va_G) (dA : Nat → ClassId) (hL : mw_L l) {w : mw_W} {own : as_W} {x t : Nat} {S : as_S} (hR : RepC dA w own x S) (hW : wf_S t S) (ht : t ≤ 512) (q a z : Int32) : CT l D dA y_MS_put (Cond.code y_MS_put b_MS_put 4 (some .int) :: Ts) 8 200 6 40 [.ref x, .int q, .int a, .int z] w (PR dA w own x (sp_PUT S q a z)) := by
  refine mw_meth (by decide) mk_tb (Nat.le_of_ble_eq_true rfl) ?_
  intro p e s m below meth c K hr hlk hce hnm hP0 hSy ls hl
  have hl : lv_has ls 4 [(0, .ref x), (1, .int q), (2, .int a), (3, .int z)] := hl
  obtain ⟨hx, hb, hml, hown, hts, hK, hTb⟩ := id K
  have hI := mw_I.start hP0
  have hR0 := hR
  obtain ⟨bd, xd, ba, xa, ra, mp, gd, ga, hA⟩ := hR
  obtain ⟨⟨o1, o2, o3, o4, fx, fd, fa, fr, hdk, har⟩, hM⟩ := id hA
  refine lv_aload_n hx hb d_MS_put_0 rfl (lv_at hl 0 rfl) ?_
  refine lv_iload_n hx hb d_MS_put_1 rfl (lv_at hl 1 rfl) ?_
  refine mw_call (rest := []) K hSy hP0 hI (c_MS_mapOf l D dA hL hA hW.1 q) (mx_invV hx hown (hts _ tw_89) (hts _ tw_91) (hts _ tw_0) (hts _ tw_92) (by decide) (b := x) (mw_rc K hI fx rfl) (g := F0 m 2 ls [.int q, .ref x]) rfl (argsL := [.int q]) (rest := []) np_MS_mapOf rfl (by rw [hb]; exact d_MS_put_2)) hl.1 d_MS_put_2 ⟨Nat.le_of_ble_eq_true rfl, Nat.le_of_ble_eq_true rfl⟩ (Or.inl ⟨_, _, List.mem_cons_self⟩) (mk_ws tw_92 hts) (fun a9 U9 h9 => Ts_warm hts _ tw_21 a9 U9 h9) ⟨Nat.le_of_ble_eq_true rfl, Nat.le_of_ble_eq_true rfl⟩ (fun v w' H locs hq hI => ?_) (fun k x w' H locs hq hI hX => ?_)
  · obtain ⟨hq1, ⟨hin, hq4⟩ | ⟨-, hq4⟩⟩ := hq
    · cases hq4
      rw [hq1] at hI
      obtain ⟨e1, e2⟩ := inM_nI hin hW.1
      have hwf := hW.2.2.2.2.2 _ e2
      have hsp : sp_PUT S q a z = _ := if_pos hin
      refine W.eq (g2 := F0 m 5 ls [.ref (mp q.toNatClampNeg)]) rfl ?_
      have hkk : kd (mm S q.toNatClampNeg) = 0 ∨ kd (mm S q.toNatClampNeg) = 1 ∨ kd (mm S q.toNatClampNeg) = 2 := by
        obtain ⟨-, ⟨k0, -⟩ | ⟨k0, -⟩ | ⟨k0, -⟩⟩ := hwf
        · exact Or.inl k0
        · exact Or.inr (Or.inl k0)
        · exact Or.inr (Or.inr k0)
      rcases hkk with hk | hk | hk
      · have f0 := rc_AM (hA.2 _ e2) hk (wf_E hwf (Or.inl hk)).2.2.2.2.2.2.2
        obtain ⟨mi, em⟩ : ∃ mi, mi = mm S q.toNatClampNeg := ⟨_, rfl⟩
        rw [← em] at f0
        have hsp := hsp.trans (if_neg (by rw [hk]; decide))
        refine lv_iload_n hx hb d_MS_put_5 rfl (lv_at hl 2 rfl) ?_
        refine lv_iload_n hx hb d_MS_put_6 rfl (lv_at hl 3 rfl) ?_
        refine mw_call (rest := []) K hSy hP0 hI (c_AN_putRecord l D dA _ a z) (mx_invU (y := y_AN_putRecord) hx hown (hts _ tw_532) (hts _ tw_534) (va_Decl.of (hts _ tw_533) (hts _ tw_558)) (by decide) (hts _ tw_535) (hts _ tw_533) (b := (mp q.toNatClampNeg)) (mw_rc K hI f0 rfl) (g := F0 m 7 ls [.int z, .int a, .ref (mp q.toNatClampNeg)]) rfl (argsL := [.int a, .int z]) (rest := []) np_AN_putRecord rfl (by rw [hb]; exact d_MS_put_7)) hl.1 d_MS_put_7 ⟨Nat.le_of_ble_eq_true rfl, Nat.le_of_ble_eq_true rfl⟩ (Or.inl ⟨_, _, List.mem_cons_self⟩) (mk_ws tw_558 hts) (fun a9 U9 h9 => Ts_warm hts _ tw_30 a9 U9 h9) ⟨Nat.le_of_ble_eq_true rfl, Nat.le_of_ble_eq_true rfl⟩ (fun v w' H locs hq hI => ?_) (fun k x w' H locs hq hI hX => ?_)
        · obtain ⟨hq5, hq6⟩ := hq
          cases hq5
          rw [hq6] at hI
          refine W.eq (g2 := F0 m 10 ls [.int ((-22))]) rfl ?_
          refine W.widen (k := 6) (n := 40) (by decide) (by decide) ?_
          refine mw_iret K hI hr hlk ?_ d_MS_put_10
          rw [hsp]
          exact ⟨rfl, own, hR0, Fr.rf w own⟩
        · exact absurd hq.1 (by simp)
      · obtain ⟨ka, ak, rch, wk, f0⟩ := rc_TM (hA.2 _ e2) hk
        obtain ⟨mi, em⟩ : ∃ mi, mi = mm S q.toNatClampNeg := ⟨_, rfl⟩
        rw [← em] at f0
        have hsp := hsp.trans (if_neg (by rw [hk]; decide))
        refine lv_iload_n hx hb d_MS_put_5 rfl (lv_at hl 2 rfl) ?_
        refine lv_iload_n hx hb d_MS_put_6 rfl (lv_at hl 3 rfl) ?_
        refine mw_call (rest := []) K hSy hP0 hI (c_AN_putRecord l D dA _ a z) (mx_invU (y := y_AN_putRecord) hx hown (hts _ tw_532) (hts _ tw_534) (va_Decl.of (hts _ tw_533) (hts _ tw_558)) (by decide) (hts _ tw_557) (hts _ tw_533) (b := (mp q.toNatClampNeg)) (mw_rc K hI f0 rfl) (g := F0 m 7 ls [.int z, .int a, .ref (mp q.toNatClampNeg)]) rfl (argsL := [.int a, .int z]) (rest := []) np_AN_putRecord rfl (by rw [hb]; exact d_MS_put_7)) hl.1 d_MS_put_7 ⟨Nat.le_of_ble_eq_true rfl, Nat.le_of_ble_eq_true rfl⟩ (Or.inl ⟨_, _, List.mem_cons_self⟩) (mk_ws tw_558 hts) (fun a9 U9 h9 => Ts_warm hts _ tw_30 a9 U9 h9) ⟨Nat.le_of_ble_eq_true rfl, Nat.le_of_ble_eq_true rfl⟩ (fun v w' H locs hq hI => ?_) (fun k x w' H locs hq hI hX => ?_)
        · obtain ⟨hq5, hq6⟩ := hq
          cases hq5
          rw [hq6] at hI
          refine W.eq (g2 := F0 m 10 ls [.int ((-22))]) rfl ?_
          refine W.widen (k := 6) (n := 40) (by decide) (by decide) ?_
          refine mw_iret K hI hr hlk ?_ d_MS_put_10
          rw [hsp]
          exact ⟨rfl, own, hR0, Fr.rf w own⟩
        · exact absurd hq.1 (by simp)
      · obtain ⟨om, f0⟩ := rc_RM (hA.2 _ e2) hk
        obtain ⟨mi, em⟩ : ∃ mi, mi = mm S q.toNatClampNeg := ⟨_, rfl⟩
        rw [← em] at f0
        have hsp := hsp.trans (if_pos (by rw [hk]))
        refine lv_iload_n hx hb d_MS_put_5 rfl (lv_at hl 2 rfl) ?_
        refine lv_iload_n hx hb d_MS_put_6 rfl (lv_at hl 3 rfl) ?_
        refine mw_call (rest := []) K hSy hP0 hI (c_RM_putRecord l D dA hL hA hW e2 ht hk a z) (mx_invU (y := y_RM_putRecord) hx hown (hts _ tw_532) (hts _ tw_534) (va_Decl.of (hts _ tw_533) (hts _ tw_558)) (by decide) (hts _ tw_536) (hts _ tw_537) (b := (mp q.toNatClampNeg)) (mw_rc K hI f0 rfl) (g := F0 m 7 ls [.int z, .int a, .ref (mp q.toNatClampNeg)]) rfl (argsL := [.int a, .int z]) (rest := []) np_AN_putRecord rfl (by rw [hb]; exact d_MS_put_7)) hl.1 d_MS_put_7 ⟨Nat.le_of_ble_eq_true rfl, Nat.le_of_ble_eq_true rfl⟩ (Or.inl ⟨_, _, List.mem_cons_self⟩) (mk_ws tw_538 hts) (fun a9 U9 h9 => Ts_warm hts _ tw_34 a9 U9 h9) ⟨Nat.le_of_ble_eq_true rfl, Nat.le_of_ble_eq_true rfl⟩ (fun v w' H locs hq hI => ?_) (fun k x w' H locs hq hI hX => ?_)
        · have hq := hq.pr
          obtain ⟨u, hu⟩ := rV_ret hq.1
          cases hu
          refine W.eq (g2 := F0 m 10 ls [.int u]) rfl ?_
          refine W.widen (k := 6) (n := 40) (by decide) (by decide) ?_
          refine mw_iret K hI hr hlk ?_ d_MS_put_10
          rw [hsp]
          exact hq
        · have hq := hq.pr
          refine WT.widen (k := 6) (n := 40) (by decide) (by decide) ?_
          refine mw_on hI hce hlk hX ?_
          rw [hsp]
          exact hq
    · cases hq4
  · obtain ⟨hq1, ⟨-, hq4⟩ | ⟨hq2, hq4⟩⟩ := hq
    · cases hq4
    · cases hq4
      rw [hq1] at hI
      have hsp : sp_PUT S q a z = _ := if_neg hq2
      refine WT.widen (k := 6) (n := 40) (by decide) (by decide) ?_
      refine mw_on hI hce hlk hX ?_
      rw [hsp]
      exact ⟨rfl, own, hR0, Fr.rf w own⟩
set_option maxRecDepth 100000 in
set_option maxHeartbeats 4000000 in
theorem c_MS_take (l : Launch) (D : va_G) (dA : Nat → ClassId) (hL : mw_L l) {w : mw_W} {own : as_W} {x t : Nat} {S : as_S} (hR : RepC dA w own x S) (hW : wf_S t S) (ht : t ≤ 512) (q a : Int32) : CT l D dA y_MS_take (Cond.code y_MS_take b_MS_take 3 (some .int) :: Ts) 8 200 6 40 [.ref x, .int q, .int a] w (PR dA w own x (sp_TAKE S q a)) := by
  refine mw_meth (by decide) mk_tb (Nat.le_of_ble_eq_true rfl) ?_
  intro p e s m below meth c K hr hlk hce hnm hP0 hSy ls hl
  have hl : lv_has ls 3 [(0, .ref x), (1, .int q), (2, .int a)] := hl
  obtain ⟨hx, hb, hml, hown, hts, hK, hTb⟩ := id K
  have hI := mw_I.start hP0
  have hR0 := hR
  obtain ⟨bd, xd, ba, xa, ra, mp, gd, ga, hA⟩ := hR
  obtain ⟨⟨o1, o2, o3, o4, fx, fd, fa, fr, hdk, har⟩, hM⟩ := id hA
  refine lv_aload_n hx hb d_MS_take_0 rfl (lv_at hl 0 rfl) ?_
  refine lv_iload_n hx hb d_MS_take_1 rfl (lv_at hl 1 rfl) ?_
  refine mw_call (rest := []) K hSy hP0 hI (c_MS_mapOf l D dA hL hA hW.1 q) (mx_invV hx hown (hts _ tw_89) (hts _ tw_91) (hts _ tw_0) (hts _ tw_92) (by decide) (b := x) (mw_rc K hI fx rfl) (g := F0 m 2 ls [.int q, .ref x]) rfl (argsL := [.int q]) (rest := []) np_MS_mapOf rfl (by rw [hb]; exact d_MS_take_2)) hl.1 d_MS_take_2 ⟨Nat.le_of_ble_eq_true rfl, Nat.le_of_ble_eq_true rfl⟩ (Or.inl ⟨_, _, List.mem_cons_self⟩) (mk_ws tw_92 hts) (fun a9 U9 h9 => Ts_warm hts _ tw_21 a9 U9 h9) ⟨Nat.le_of_ble_eq_true rfl, Nat.le_of_ble_eq_true rfl⟩ (fun v w' H locs hq hI => ?_) (fun k x w' H locs hq hI hX => ?_)
  · obtain ⟨hq1, ⟨hin, hq4⟩ | ⟨-, hq4⟩⟩ := hq
    · cases hq4
      rw [hq1] at hI
      obtain ⟨e1, e2⟩ := inM_nI hin hW.1
      have hwf := hW.2.2.2.2.2 _ e2
      have hsp : sp_TAKE S q a = _ := if_pos hin
      refine W.eq (g2 := F0 m 5 ls [.ref (mp q.toNatClampNeg)]) rfl ?_
      have hkk : kd (mm S q.toNatClampNeg) = 0 ∨ kd (mm S q.toNatClampNeg) = 1 ∨ kd (mm S q.toNatClampNeg) = 2 := by
        obtain ⟨-, ⟨k0, -⟩ | ⟨k0, -⟩ | ⟨k0, -⟩⟩ := hwf
        · exact Or.inl k0
        · exact Or.inr (Or.inl k0)
        · exact Or.inr (Or.inr k0)
      rcases hkk with hk | hk | hk
      · have f0 := rc_AM (hA.2 _ e2) hk (wf_E hwf (Or.inl hk)).2.2.2.2.2.2.2
        obtain ⟨mi, em⟩ : ∃ mi, mi = mm S q.toNatClampNeg := ⟨_, rfl⟩
        rw [← em] at f0
        have hsp := hsp.trans (if_neg (by rw [hk]; decide))
        refine lv_iload_n hx hb d_MS_take_5 rfl (lv_at hl 2 rfl) ?_
        refine mw_call (rest := []) K hSy hP0 hI (c_AN_takeRecord l D dA _ a) (mx_invU (y := y_AN_takeRecord) hx hown (hts _ tw_566) (hts _ tw_568) (va_Decl.of (hts _ tw_567) (hts _ tw_575)) (by decide) (hts _ tw_569) (hts _ tw_567) (b := (mp q.toNatClampNeg)) (mw_rc K hI f0 rfl) (g := F0 m 6 ls [.int a, .ref (mp q.toNatClampNeg)]) rfl (argsL := [.int a]) (rest := []) np_AN_takeRecord rfl (by rw [hb]; exact d_MS_take_6)) hl.1 d_MS_take_6 ⟨Nat.le_of_ble_eq_true rfl, Nat.le_of_ble_eq_true rfl⟩ (Or.inl ⟨_, _, List.mem_cons_self⟩) (mk_ws tw_575 hts) (fun a9 U9 h9 => Ts_warm hts _ tw_30 a9 U9 h9) ⟨Nat.le_of_ble_eq_true rfl, Nat.le_of_ble_eq_true rfl⟩ (fun v w' H locs hq hI => ?_) (fun k x w' H locs hq hI hX => ?_)
        · obtain ⟨hq5, hq6⟩ := hq
          cases hq5
          rw [hq6] at hI
          refine W.eq (g2 := F0 m 9 ls [.int ((-22))]) rfl ?_
          refine W.widen (k := 6) (n := 40) (by decide) (by decide) ?_
          refine mw_iret K hI hr hlk ?_ d_MS_take_9
          rw [hsp]
          exact ⟨rfl, own, hR0, Fr.rf w own⟩
        · exact absurd hq.1 (by simp)
      · obtain ⟨ka, ak, rch, wk, f0⟩ := rc_TM (hA.2 _ e2) hk
        obtain ⟨mi, em⟩ : ∃ mi, mi = mm S q.toNatClampNeg := ⟨_, rfl⟩
        rw [← em] at f0
        have hsp := hsp.trans (if_neg (by rw [hk]; decide))
        refine lv_iload_n hx hb d_MS_take_5 rfl (lv_at hl 2 rfl) ?_
        refine mw_call (rest := []) K hSy hP0 hI (c_AN_takeRecord l D dA _ a) (mx_invU (y := y_AN_takeRecord) hx hown (hts _ tw_566) (hts _ tw_568) (va_Decl.of (hts _ tw_567) (hts _ tw_575)) (by decide) (hts _ tw_574) (hts _ tw_567) (b := (mp q.toNatClampNeg)) (mw_rc K hI f0 rfl) (g := F0 m 6 ls [.int a, .ref (mp q.toNatClampNeg)]) rfl (argsL := [.int a]) (rest := []) np_AN_takeRecord rfl (by rw [hb]; exact d_MS_take_6)) hl.1 d_MS_take_6 ⟨Nat.le_of_ble_eq_true rfl, Nat.le_of_ble_eq_true rfl⟩ (Or.inl ⟨_, _, List.mem_cons_self⟩) (mk_ws tw_575 hts) (fun a9 U9 h9 => Ts_warm hts _ tw_30 a9 U9 h9) ⟨Nat.le_of_ble_eq_true rfl, Nat.le_of_ble_eq_true rfl⟩ (fun v w' H locs hq hI => ?_) (fun k x w' H locs hq hI hX => ?_)
        · obtain ⟨hq5, hq6⟩ := hq
          cases hq5
          rw [hq6] at hI
          refine W.eq (g2 := F0 m 9 ls [.int ((-22))]) rfl ?_
          refine W.widen (k := 6) (n := 40) (by decide) (by decide) ?_
          refine mw_iret K hI hr hlk ?_ d_MS_take_9
          rw [hsp]
          exact ⟨rfl, own, hR0, Fr.rf w own⟩
        · exact absurd hq.1 (by simp)
      · obtain ⟨om, f0⟩ := rc_RM (hA.2 _ e2) hk
        obtain ⟨mi, em⟩ : ∃ mi, mi = mm S q.toNatClampNeg := ⟨_, rfl⟩
        rw [← em] at f0
        have hsp := hsp.trans (if_pos (by rw [hk]))
        refine lv_iload_n hx hb d_MS_take_5 rfl (lv_at hl 2 rfl) ?_
        refine mw_call (rest := []) K hSy hP0 hI (c_RM_takeRecord l D dA hL hA hW e2 ht hk a) (mx_invU (y := y_RM_takeRecord) hx hown (hts _ tw_566) (hts _ tw_568) (va_Decl.of (hts _ tw_567) (hts _ tw_575)) (by decide) (hts _ tw_570) (hts _ tw_571) (b := (mp q.toNatClampNeg)) (mw_rc K hI f0 rfl) (g := F0 m 6 ls [.int a, .ref (mp q.toNatClampNeg)]) rfl (argsL := [.int a]) (rest := []) np_AN_takeRecord rfl (by rw [hb]; exact d_MS_take_6)) hl.1 d_MS_take_6 ⟨Nat.le_of_ble_eq_true rfl, Nat.le_of_ble_eq_true rfl⟩ (Or.inl ⟨_, _, List.mem_cons_self⟩) (mk_ws tw_572 hts) (fun a9 U9 h9 => Ts_warm hts _ tw_34 a9 U9 h9) ⟨Nat.le_of_ble_eq_true rfl, Nat.le_of_ble_eq_true rfl⟩ (fun v w' H locs hq hI => ?_) (fun k x w' H locs hq hI hX => ?_)
        · have hq := hq.pr
          obtain ⟨u, hu⟩ := rV_ret hq.1
          cases hu
          refine W.eq (g2 := F0 m 9 ls [.int u]) rfl ?_
          refine W.widen (k := 6) (n := 40) (by decide) (by decide) ?_
          refine mw_iret K hI hr hlk ?_ d_MS_take_9
          rw [hsp]
          exact hq
        · have hq := hq.pr
          refine WT.widen (k := 6) (n := 40) (by decide) (by decide) ?_
          refine mw_on hI hce hlk hX ?_
          rw [hsp]
          exact hq
    · cases hq4
  · obtain ⟨hq1, ⟨-, hq4⟩ | ⟨hq2, hq4⟩⟩ := hq
    · cases hq4
    · cases hq4
      rw [hq1] at hI
      have hsp : sp_TAKE S q a = _ := if_neg hq2
      refine WT.widen (k := 6) (n := 40) (by decide) (by decide) ?_
      refine mw_on hI hce hlk hX ?_
      rw [hsp]
      exact ⟨rfl, own, hR0, Fr.rf w own⟩
set_option maxRecDepth 100000 in
set_option maxHeartbeats 4000000 in
theorem c_MS_next (l : Launch) (D : va_G) (dA : Nat → ClassId) (hL : mw_L l) {w : mw_W} {own : as_W} {x t : Nat} {S : as_S} (hR : RepC dA w own x S) (hW : wf_S t S) (ht : t ≤ 512) (q k to : Int32) : CT l D dA y_MS_next (Cond.code y_MS_next b_MS_next 4 (some .int) :: Ts) 8 200 6 40 [.ref x, .int q, .int k, .int to] w (PR dA w own x (sp_NEXT S q k to)) := by
  refine mw_meth (by decide) mk_tb (Nat.le_of_ble_eq_true rfl) ?_
  intro p e s m below meth c K hr hlk hce hnm hP0 hSy ls hl
  have hl : lv_has ls 4 [(0, .ref x), (1, .int q), (2, .int k), (3, .int to)] := hl
  obtain ⟨hx, hb, hml, hown, hts, hK, hTb⟩ := id K
  have hI := mw_I.start hP0
  have hR0 := hR
  obtain ⟨bd, xd, ba, xa, ra, mp, gd, ga, hA⟩ := hR
  obtain ⟨⟨o1, o2, o3, o4, fx, fd, fa, fr, hdk, har⟩, hM⟩ := id hA
  refine lv_aload_n hx hb d_MS_next_0 rfl (lv_at hl 0 rfl) ?_
  refine lv_iload_n hx hb d_MS_next_1 rfl (lv_at hl 1 rfl) ?_
  refine mw_call (rest := []) K hSy hP0 hI (c_MS_mapOf l D dA hL hA hW.1 q) (mx_invV hx hown (hts _ tw_89) (hts _ tw_91) (hts _ tw_0) (hts _ tw_92) (by decide) (b := x) (mw_rc K hI fx rfl) (g := F0 m 2 ls [.int q, .ref x]) rfl (argsL := [.int q]) (rest := []) np_MS_mapOf rfl (by rw [hb]; exact d_MS_next_2)) hl.1 d_MS_next_2 ⟨Nat.le_of_ble_eq_true rfl, Nat.le_of_ble_eq_true rfl⟩ (Or.inl ⟨_, _, List.mem_cons_self⟩) (mk_ws tw_92 hts) (fun a9 U9 h9 => Ts_warm hts _ tw_21 a9 U9 h9) ⟨Nat.le_of_ble_eq_true rfl, Nat.le_of_ble_eq_true rfl⟩ (fun v w' H locs hq hI => ?_) (fun k x w' H locs hq hI hX => ?_)
  · obtain ⟨hq1, ⟨hin, hq4⟩ | ⟨-, hq4⟩⟩ := hq
    · cases hq4
      rw [hq1] at hI
      obtain ⟨e1, e2⟩ := inM_nI hin hW.1
      have hwf := hW.2.2.2.2.2 _ e2
      have hsp : sp_NEXT S q k to = _ := if_pos hin
      refine W.eq (g2 := F0 m 5 ls [.ref (mp q.toNatClampNeg)]) rfl ?_
      have hkk : kd (mm S q.toNatClampNeg) = 0 ∨ kd (mm S q.toNatClampNeg) = 1 ∨ kd (mm S q.toNatClampNeg) = 2 := by
        obtain ⟨-, ⟨k0, -⟩ | ⟨k0, -⟩ | ⟨k0, -⟩⟩ := hwf
        · exact Or.inl k0
        · exact Or.inr (Or.inl k0)
        · exact Or.inr (Or.inr k0)
      rcases hkk with hk | hk | hk
      · have f0 := rc_AM (hA.2 _ e2) hk (wf_E hwf (Or.inl hk)).2.2.2.2.2.2.2
        obtain ⟨mi, em⟩ : ∃ mi, mi = mm S q.toNatClampNeg := ⟨_, rfl⟩
        rw [← em] at f0
        have hsp := hsp.trans (if_neg (by rw [hk]; decide))
        refine lv_iload_n hx hb d_MS_next_5 rfl (lv_at hl 2 rfl) ?_
        refine lv_iload_n hx hb d_MS_next_6 rfl (lv_at hl 3 rfl) ?_
        refine mw_call (rest := []) K hSy hP0 hI (c_AN_keyAfter l D dA _ k to) (mx_invU (y := y_AN_keyAfter) hx hown (hts _ tw_583) (hts _ tw_585) (va_Decl.of (hts _ tw_584) (hts _ tw_591)) (by decide) (hts _ tw_586) (hts _ tw_584) (b := (mp q.toNatClampNeg)) (mw_rc K hI f0 rfl) (g := F0 m 7 ls [.int to, .int k, .ref (mp q.toNatClampNeg)]) rfl (argsL := [.int k, .int to]) (rest := []) np_AN_keyAfter rfl (by rw [hb]; exact d_MS_next_7)) hl.1 d_MS_next_7 ⟨Nat.le_of_ble_eq_true rfl, Nat.le_of_ble_eq_true rfl⟩ (Or.inl ⟨_, _, List.mem_cons_self⟩) (mk_ws tw_591 hts) (fun a9 U9 h9 => Ts_warm hts _ tw_30 a9 U9 h9) ⟨Nat.le_of_ble_eq_true rfl, Nat.le_of_ble_eq_true rfl⟩ (fun v w' H locs hq hI => ?_) (fun k x w' H locs hq hI hX => ?_)
        · obtain ⟨hq5, hq6⟩ := hq
          cases hq5
          rw [hq6] at hI
          refine W.eq (g2 := F0 m 10 ls [.int ((-22))]) rfl ?_
          refine W.widen (k := 6) (n := 40) (by decide) (by decide) ?_
          refine mw_iret K hI hr hlk ?_ d_MS_next_10
          rw [hsp]
          exact ⟨rfl, own, hR0, Fr.rf w own⟩
        · exact absurd hq.1 (by simp)
      · obtain ⟨ka, ak, rch, wk, f0⟩ := rc_TM (hA.2 _ e2) hk
        obtain ⟨mi, em⟩ : ∃ mi, mi = mm S q.toNatClampNeg := ⟨_, rfl⟩
        rw [← em] at f0
        have hsp := hsp.trans (if_pos (by rw [hk]))
        refine lv_iload_n hx hb d_MS_next_5 rfl (lv_at hl 2 rfl) ?_
        refine lv_iload_n hx hb d_MS_next_6 rfl (lv_at hl 3 rfl) ?_
        refine mw_call (rest := []) K hSy hP0 hI (c_TM_keyAfter l D dA hL hA hW e2 hk k to) (mx_invU (y := y_TM_keyAfter) hx hown (hts _ tw_583) (hts _ tw_585) (va_Decl.of (hts _ tw_584) (hts _ tw_591)) (by decide) (hts _ tw_588) (hts _ tw_589) (b := (mp q.toNatClampNeg)) (mw_rc K hI f0 rfl) (g := F0 m 7 ls [.int to, .int k, .ref (mp q.toNatClampNeg)]) rfl (argsL := [.int k, .int to]) (rest := []) np_AN_keyAfter rfl (by rw [hb]; exact d_MS_next_7)) hl.1 d_MS_next_7 ⟨Nat.le_of_ble_eq_true rfl, Nat.le_of_ble_eq_true rfl⟩ (Or.inl ⟨_, _, List.mem_cons_self⟩) (mk_ws tw_590 hts) (fun a9 U9 h9 => Ts_warm hts _ tw_33 a9 U9 h9) ⟨Nat.le_of_ble_eq_true rfl, Nat.le_of_ble_eq_true rfl⟩ (fun v w' H locs hq hI => ?_) (fun k x w' H locs hq hI hX => ?_)
        · have hq := hq.pr
          obtain ⟨u, hu⟩ := rV_ret hq.1
          cases hu
          refine W.eq (g2 := F0 m 10 ls [.int u]) rfl ?_
          refine W.widen (k := 6) (n := 40) (by decide) (by decide) ?_
          refine mw_iret K hI hr hlk ?_ d_MS_next_10
          rw [hsp]
          exact hq
        · have hq := hq.pr
          refine WT.widen (k := 6) (n := 40) (by decide) (by decide) ?_
          refine mw_on hI hce hlk hX ?_
          rw [hsp]
          exact hq
      · obtain ⟨om, f0⟩ := rc_RM (hA.2 _ e2) hk
        obtain ⟨mi, em⟩ : ∃ mi, mi = mm S q.toNatClampNeg := ⟨_, rfl⟩
        rw [← em] at f0
        have hsp := hsp.trans (if_neg (by rw [hk]; decide))
        refine lv_iload_n hx hb d_MS_next_5 rfl (lv_at hl 2 rfl) ?_
        refine lv_iload_n hx hb d_MS_next_6 rfl (lv_at hl 3 rfl) ?_
        refine mw_call (rest := []) K hSy hP0 hI (c_AN_keyAfter l D dA _ k to) (mx_invU (y := y_AN_keyAfter) hx hown (hts _ tw_583) (hts _ tw_585) (va_Decl.of (hts _ tw_584) (hts _ tw_591)) (by decide) (hts _ tw_587) (hts _ tw_584) (b := (mp q.toNatClampNeg)) (mw_rc K hI f0 rfl) (g := F0 m 7 ls [.int to, .int k, .ref (mp q.toNatClampNeg)]) rfl (argsL := [.int k, .int to]) (rest := []) np_AN_keyAfter rfl (by rw [hb]; exact d_MS_next_7)) hl.1 d_MS_next_7 ⟨Nat.le_of_ble_eq_true rfl, Nat.le_of_ble_eq_true rfl⟩ (Or.inl ⟨_, _, List.mem_cons_self⟩) (mk_ws tw_591 hts) (fun a9 U9 h9 => Ts_warm hts _ tw_30 a9 U9 h9) ⟨Nat.le_of_ble_eq_true rfl, Nat.le_of_ble_eq_true rfl⟩ (fun v w' H locs hq hI => ?_) (fun k x w' H locs hq hI hX => ?_)
        · obtain ⟨hq5, hq6⟩ := hq
          cases hq5
          rw [hq6] at hI
          refine W.eq (g2 := F0 m 10 ls [.int ((-22))]) rfl ?_
          refine W.widen (k := 6) (n := 40) (by decide) (by decide) ?_
          refine mw_iret K hI hr hlk ?_ d_MS_next_10
          rw [hsp]
          exact ⟨rfl, own, hR0, Fr.rf w own⟩
        · exact absurd hq.1 (by simp)
    · cases hq4
  · obtain ⟨hq1, ⟨-, hq4⟩ | ⟨hq2, hq4⟩⟩ := hq
    · cases hq4
    · cases hq4
      rw [hq1] at hI
      have hsp : sp_NEXT S q k to = _ := if_neg hq2
      refine WT.widen (k := 6) (n := 40) (by decide) (by decide) ?_
      refine mw_on hI hce hlk hX ?_
      rw [hsp]
      exact ⟨rfl, own, hR0, Fr.rf w own⟩
end
section
/-! ### Integer.bitCount -/
theorem d_IN_bitCount_0 : decode b_IN_bitCount 0 = .ok (.iload_n 0, 1) := by decide +kernel
theorem d_IN_bitCount_1 : decode b_IN_bitCount 1 = .ok (.iload_n 0, 1) := by decide +kernel
theorem d_IN_bitCount_2 : decode b_IN_bitCount 2 = .ok (.iconst 1, 1) := by decide +kernel
theorem d_IN_bitCount_3 : decode b_IN_bitCount 3 = .ok (.iushr, 1) := by decide +kernel
theorem d_IN_bitCount_4 : decode b_IN_bitCount 4 = .ok (.ldc_w 265, 3) := by decide +kernel
theorem d_IN_bitCount_7 : decode b_IN_bitCount 7 = .ok (.iand, 1) := by decide +kernel
theorem d_IN_bitCount_8 : decode b_IN_bitCount 8 = .ok (.isub, 1) := by decide +kernel
theorem d_IN_bitCount_9 : decode b_IN_bitCount 9 = .ok (.istore_n 0, 1) := by decide +kernel
theorem d_IN_bitCount_10 : decode b_IN_bitCount 10 = .ok (.iload_n 0, 1) := by decide +kernel
theorem d_IN_bitCount_11 : decode b_IN_bitCount 11 = .ok (.ldc_w 266, 3) := by decide +kernel
theorem d_IN_bitCount_14 : decode b_IN_bitCount 14 = .ok (.iand, 1) := by decide +kernel
theorem d_IN_bitCount_15 : decode b_IN_bitCount 15 = .ok (.iload_n 0, 1) := by decide +kernel
theorem d_IN_bitCount_16 : decode b_IN_bitCount 16 = .ok (.iconst 2, 1) := by decide +kernel
theorem d_IN_bitCount_17 : decode b_IN_bitCount 17 = .ok (.iushr, 1) := by decide +kernel
theorem d_IN_bitCount_18 : decode b_IN_bitCount 18 = .ok (.ldc_w 266, 3) := by decide +kernel
theorem d_IN_bitCount_21 : decode b_IN_bitCount 21 = .ok (.iand, 1) := by decide +kernel
theorem d_IN_bitCount_22 : decode b_IN_bitCount 22 = .ok (.iadd, 1) := by decide +kernel
theorem d_IN_bitCount_23 : decode b_IN_bitCount 23 = .ok (.istore_n 0, 1) := by decide +kernel
theorem d_IN_bitCount_24 : decode b_IN_bitCount 24 = .ok (.iload_n 0, 1) := by decide +kernel
theorem d_IN_bitCount_25 : decode b_IN_bitCount 25 = .ok (.iload_n 0, 1) := by decide +kernel
theorem d_IN_bitCount_26 : decode b_IN_bitCount 26 = .ok (.iconst 4, 1) := by decide +kernel
theorem d_IN_bitCount_27 : decode b_IN_bitCount 27 = .ok (.iushr, 1) := by decide +kernel
theorem d_IN_bitCount_28 : decode b_IN_bitCount 28 = .ok (.iadd, 1) := by decide +kernel
theorem d_IN_bitCount_29 : decode b_IN_bitCount 29 = .ok (.ldc_w 267, 3) := by decide +kernel
theorem d_IN_bitCount_32 : decode b_IN_bitCount 32 = .ok (.iand, 1) := by decide +kernel
theorem d_IN_bitCount_33 : decode b_IN_bitCount 33 = .ok (.istore_n 0, 1) := by decide +kernel
theorem d_IN_bitCount_34 : decode b_IN_bitCount 34 = .ok (.iload_n 0, 1) := by decide +kernel
theorem d_IN_bitCount_35 : decode b_IN_bitCount 35 = .ok (.iload_n 0, 1) := by decide +kernel
theorem d_IN_bitCount_36 : decode b_IN_bitCount 36 = .ok (.bipush 8, 2) := by decide +kernel
theorem d_IN_bitCount_38 : decode b_IN_bitCount 38 = .ok (.iushr, 1) := by decide +kernel
theorem d_IN_bitCount_39 : decode b_IN_bitCount 39 = .ok (.iadd, 1) := by decide +kernel
theorem d_IN_bitCount_40 : decode b_IN_bitCount 40 = .ok (.istore_n 0, 1) := by decide +kernel
theorem d_IN_bitCount_41 : decode b_IN_bitCount 41 = .ok (.iload_n 0, 1) := by decide +kernel
theorem d_IN_bitCount_42 : decode b_IN_bitCount 42 = .ok (.iload_n 0, 1) := by decide +kernel
theorem d_IN_bitCount_43 : decode b_IN_bitCount 43 = .ok (.bipush 16, 2) := by decide +kernel
theorem d_IN_bitCount_45 : decode b_IN_bitCount 45 = .ok (.iushr, 1) := by decide +kernel
theorem d_IN_bitCount_46 : decode b_IN_bitCount 46 = .ok (.iadd, 1) := by decide +kernel
theorem d_IN_bitCount_47 : decode b_IN_bitCount 47 = .ok (.istore_n 0, 1) := by decide +kernel
theorem d_IN_bitCount_48 : decode b_IN_bitCount 48 = .ok (.iload_n 0, 1) := by decide +kernel
theorem d_IN_bitCount_49 : decode b_IN_bitCount 49 = .ok (.bipush 63, 2) := by decide +kernel
theorem d_IN_bitCount_51 : decode b_IN_bitCount 51 = .ok (.iand, 1) := by decide +kernel
theorem d_IN_bitCount_52 : decode b_IN_bitCount 52 = .ok (.ireturn, 1) := by decide +kernel
def bcU (x : Int32) (k : Nat) : Int32 := (x.toUInt32 >>> ((nI k).toUInt32 &&& Int32.toUInt32 31)).toInt32
def bc1 (x : Int32) : Int32 := x - (bcU x 1 &&& 1431655765)
def bc2 (x : Int32) : Int32 := (bc1 x &&& 858993459) + (bcU (bc1 x) 2 &&& 858993459)
def bc3 (x : Int32) : Int32 := (bc2 x + bcU (bc2 x) 4) &&& 252645135
def bc4 (x : Int32) : Int32 := bc3 x + bcU (bc3 x) 8
def bc5 (x : Int32) : Int32 := bc4 x + bcU (bc4 x) 16
def bcA (x : Int32) : Int32 := bc5 x &&& nI 63
set_option maxRecDepth 100000 in
theorem c_IN_bitCount (l : Launch) (x : Int32) : mp_Ct l y_IN_bitCount (Cond.code y_IN_bitCount b_IN_bitCount 1 (some .int) :: Ts) 0 0 [.int x] (fun v => v = some (.int (bcA x))) := by
  refine mp_meth (by decide) (Nat.le_of_ble_eq_true rfl) ?_
  intro p e s m below meth c hx hb hml hown hts hr hlk ls hl
  have hl : lv_has ls 1 [(0, .int x)] := hl
  refine lv_iload_n hx hb d_IN_bitCount_0 rfl (lv_at hl 0 rfl) ?_
  refine lv_iload_n hx hb d_IN_bitCount_1 rfl (lv_at hl 0 rfl) ?_
  refine lv_iconst (v := nI 1) hx hb d_IN_bitCount_2 (by decide) ?_
  refine lv_iushr hx hb d_IN_bitCount_3 rfl ?_
  refine lv_ldcw (v := 1431655765) hx hb hown (hts _ tw_188) d_IN_bitCount_4 ?_
  refine lv_iand hx hb d_IN_bitCount_7 ?_
  refine lv_isub hx hb d_IN_bitCount_8 ?_
  refine lv_istore_n (lv' := [(0, .int (bc1 x))]) hx hb d_IN_bitCount_9 rfl hl (by decide) rfl (fun ls hl => ?_)
  refine lv_iload_n hx hb d_IN_bitCount_10 rfl (lv_at hl 0 rfl) ?_
  refine lv_ldcw (v := 858993459) hx hb hown (hts _ tw_189) d_IN_bitCount_11 ?_
  refine lv_iand hx hb d_IN_bitCount_14 ?_
  refine lv_iload_n hx hb d_IN_bitCount_15 rfl (lv_at hl 0 rfl) ?_
  refine lv_iconst (v := nI 2) hx hb d_IN_bitCount_16 (by decide) ?_
  refine lv_iushr hx hb d_IN_bitCount_17 rfl ?_
  refine lv_ldcw (v := 858993459) hx hb hown (hts _ tw_189) d_IN_bitCount_18 ?_
  refine lv_iand hx hb d_IN_bitCount_21 ?_
  refine lv_iadd hx hb d_IN_bitCount_22 ?_
  refine lv_istore_n (lv' := [(0, .int (bc2 x))]) hx hb d_IN_bitCount_23 rfl hl (by decide) rfl (fun ls hl => ?_)
  refine lv_iload_n hx hb d_IN_bitCount_24 rfl (lv_at hl 0 rfl) ?_
  refine lv_iload_n hx hb d_IN_bitCount_25 rfl (lv_at hl 0 rfl) ?_
  refine lv_iconst (v := nI 4) hx hb d_IN_bitCount_26 (by decide) ?_
  refine lv_iushr hx hb d_IN_bitCount_27 rfl ?_
  refine lv_iadd hx hb d_IN_bitCount_28 ?_
  refine lv_ldcw (v := 252645135) hx hb hown (hts _ tw_190) d_IN_bitCount_29 ?_
  refine lv_iand hx hb d_IN_bitCount_32 ?_
  refine lv_istore_n (lv' := [(0, .int (bc3 x))]) hx hb d_IN_bitCount_33 rfl hl (by decide) rfl (fun ls hl => ?_)
  refine lv_iload_n hx hb d_IN_bitCount_34 rfl (lv_at hl 0 rfl) ?_
  refine lv_iload_n hx hb d_IN_bitCount_35 rfl (lv_at hl 0 rfl) ?_
  refine lv_bipush (v := nI 8) hx hb d_IN_bitCount_36 (by decide) ?_
  refine lv_iushr hx hb d_IN_bitCount_38 rfl ?_
  refine lv_iadd hx hb d_IN_bitCount_39 ?_
  refine lv_istore_n (lv' := [(0, .int (bc4 x))]) hx hb d_IN_bitCount_40 rfl hl (by decide) rfl (fun ls hl => ?_)
  refine lv_iload_n hx hb d_IN_bitCount_41 rfl (lv_at hl 0 rfl) ?_
  refine lv_iload_n hx hb d_IN_bitCount_42 rfl (lv_at hl 0 rfl) ?_
  refine lv_bipush (v := nI 16) hx hb d_IN_bitCount_43 (by decide) ?_
  refine lv_iushr hx hb d_IN_bitCount_45 rfl ?_
  refine lv_iadd hx hb d_IN_bitCount_46 ?_
  refine lv_istore_n (lv' := [(0, .int (bc5 x))]) hx hb d_IN_bitCount_47 rfl hl (by decide) rfl (fun ls hl => ?_)
  refine lv_iload_n hx hb d_IN_bitCount_48 rfl (lv_at hl 0 rfl) ?_
  refine lv_bipush (v := nI 63) hx hb d_IN_bitCount_49 (by decide) ?_
  refine lv_iand hx hb d_IN_bitCount_51 ?_
  exact mp_iret hx hb hr hlk rfl d_IN_bitCount_52
def bcOk (n : Nat) : Bool := (bcA (nI n) == nI 1) == (n == 64 || n == 128 || n == 256 || n == 512 || n == 1024 || n == 2048 || n == 4096 || n == 8192 || n == 16384)
def bcAll : Nat → Nat → Bool
  | 0, _ => true
  | k + 1, n => bcOk n && bcAll k (n + 1)
theorem bcK0 : bcAll 1021 64 = true := by decide +kernel
theorem bcK1 : bcAll 1021 1085 = true := by decide +kernel
theorem bcK2 : bcAll 1021 2106 = true := by decide +kernel
theorem bcK3 : bcAll 1021 3127 = true := by decide +kernel
theorem bcK4 : bcAll 1021 4148 = true := by decide +kernel
theorem bcK5 : bcAll 1021 5169 = true := by decide +kernel
theorem bcK6 : bcAll 1021 6190 = true := by decide +kernel
theorem bcK7 : bcAll 1021 7211 = true := by decide +kernel
theorem bcK8 : bcAll 1021 8232 = true := by decide +kernel
theorem bcK9 : bcAll 1021 9253 = true := by decide +kernel
theorem bcK10 : bcAll 1021 10274 = true := by decide +kernel
theorem bcK11 : bcAll 1021 11295 = true := by decide +kernel
theorem bcK12 : bcAll 1021 12316 = true := by decide +kernel
theorem bcK13 : bcAll 1021 13337 = true := by decide +kernel
theorem bcK14 : bcAll 1021 14358 = true := by decide +kernel
theorem bcK15 : bcAll 1021 15379 = true := by decide +kernel
end
section
/-! ### MapStore: sizesFit, breaches -/
theorem d_MS_sizesFit_0 : decode b_MS_sizesFit 0 = .ok (.iload_n 0, 1) := by decide +kernel
theorem d_MS_sizesFit_1 : decode b_MS_sizesFit 1 = .ok (.tableswitch 138 0 2 #[27, 62, 103], 27) := by decide +kernel
theorem d_MS_sizesFit_28 : decode b_MS_sizesFit 28 = .ok (.iload_n 1, 1) := by decide +kernel
theorem d_MS_sizesFit_29 : decode b_MS_sizesFit 29 = .ok (.iconst 4, 1) := by decide +kernel
theorem d_MS_sizesFit_30 : decode b_MS_sizesFit 30 = .ok (.if_icmp .ne 31, 3) := by decide +kernel
theorem d_MS_sizesFit_33 : decode b_MS_sizesFit 33 = .ok (.iload_n 2, 1) := by decide +kernel
theorem d_MS_sizesFit_34 : decode b_MS_sizesFit 34 = .ok (.i2l, 1) := by decide +kernel
theorem d_MS_sizesFit_35 : decode b_MS_sizesFit 35 = .ok (.iconst 1, 1) := by decide +kernel
theorem d_MS_sizesFit_36 : decode b_MS_sizesFit 36 = .ok (.sipush 256, 3) := by decide +kernel
theorem d_MS_sizesFit_39 : decode b_MS_sizesFit 39 = .ok (.invokestatic 128, 3) := by decide +kernel
theorem d_MS_sizesFit_42 : decode b_MS_sizesFit 42 = .ok (.ifCond .eq 19, 3) := by decide +kernel
theorem d_MS_sizesFit_45 : decode b_MS_sizesFit 45 = .ok (.iload_n 3, 1) := by decide +kernel
theorem d_MS_sizesFit_46 : decode b_MS_sizesFit 46 = .ok (.i2l, 1) := by decide +kernel
theorem d_MS_sizesFit_47 : decode b_MS_sizesFit 47 = .ok (.iconst 1, 1) := by decide +kernel
theorem d_MS_sizesFit_48 : decode b_MS_sizesFit 48 = .ok (.sipush 4096, 3) := by decide +kernel
theorem d_MS_sizesFit_51 : decode b_MS_sizesFit 51 = .ok (.invokestatic 128, 3) := by decide +kernel
theorem d_MS_sizesFit_54 : decode b_MS_sizesFit 54 = .ok (.ifCond .eq 7, 3) := by decide +kernel
theorem d_MS_sizesFit_57 : decode b_MS_sizesFit 57 = .ok (.iconst 1, 1) := by decide +kernel
theorem d_MS_sizesFit_58 : decode b_MS_sizesFit 58 = .ok (.goto 4, 3) := by decide +kernel
theorem d_MS_sizesFit_61 : decode b_MS_sizesFit 61 = .ok (.iconst 0, 1) := by decide +kernel
theorem d_MS_sizesFit_62 : decode b_MS_sizesFit 62 = .ok (.ireturn, 1) := by decide +kernel
theorem d_MS_sizesFit_63 : decode b_MS_sizesFit 63 = .ok (.iload_n 1, 1) := by decide +kernel
theorem d_MS_sizesFit_64 : decode b_MS_sizesFit 64 = .ok (.i2l, 1) := by decide +kernel
theorem d_MS_sizesFit_65 : decode b_MS_sizesFit 65 = .ok (.iconst 1, 1) := by decide +kernel
theorem d_MS_sizesFit_66 : decode b_MS_sizesFit 66 = .ok (.bipush 64, 2) := by decide +kernel
theorem d_MS_sizesFit_68 : decode b_MS_sizesFit 68 = .ok (.invokestatic 128, 3) := by decide +kernel
theorem d_MS_sizesFit_71 : decode b_MS_sizesFit 71 = .ok (.ifCond .eq 31, 3) := by decide +kernel
theorem d_MS_sizesFit_74 : decode b_MS_sizesFit 74 = .ok (.iload_n 2, 1) := by decide +kernel
theorem d_MS_sizesFit_75 : decode b_MS_sizesFit 75 = .ok (.i2l, 1) := by decide +kernel
theorem d_MS_sizesFit_76 : decode b_MS_sizesFit 76 = .ok (.iconst 1, 1) := by decide +kernel
theorem d_MS_sizesFit_77 : decode b_MS_sizesFit 77 = .ok (.sipush 256, 3) := by decide +kernel
theorem d_MS_sizesFit_80 : decode b_MS_sizesFit 80 = .ok (.invokestatic 128, 3) := by decide +kernel
theorem d_MS_sizesFit_83 : decode b_MS_sizesFit 83 = .ok (.ifCond .eq 19, 3) := by decide +kernel
theorem d_MS_sizesFit_86 : decode b_MS_sizesFit 86 = .ok (.iload_n 3, 1) := by decide +kernel
theorem d_MS_sizesFit_87 : decode b_MS_sizesFit 87 = .ok (.i2l, 1) := by decide +kernel
theorem d_MS_sizesFit_88 : decode b_MS_sizesFit 88 = .ok (.iconst 1, 1) := by decide +kernel
theorem d_MS_sizesFit_89 : decode b_MS_sizesFit 89 = .ok (.sipush 4096, 3) := by decide +kernel
theorem d_MS_sizesFit_92 : decode b_MS_sizesFit 92 = .ok (.invokestatic 128, 3) := by decide +kernel
theorem d_MS_sizesFit_95 : decode b_MS_sizesFit 95 = .ok (.ifCond .eq 7, 3) := by decide +kernel
theorem d_MS_sizesFit_98 : decode b_MS_sizesFit 98 = .ok (.iconst 1, 1) := by decide +kernel
theorem d_MS_sizesFit_99 : decode b_MS_sizesFit 99 = .ok (.goto 4, 3) := by decide +kernel
theorem d_MS_sizesFit_102 : decode b_MS_sizesFit 102 = .ok (.iconst 0, 1) := by decide +kernel
theorem d_MS_sizesFit_103 : decode b_MS_sizesFit 103 = .ok (.ireturn, 1) := by decide +kernel
theorem d_MS_sizesFit_104 : decode b_MS_sizesFit 104 = .ok (.iload_n 1, 1) := by decide +kernel
theorem d_MS_sizesFit_105 : decode b_MS_sizesFit 105 = .ok (.ifCond .ne 32, 3) := by decide +kernel
theorem d_MS_sizesFit_108 : decode b_MS_sizesFit 108 = .ok (.iload_n 2, 1) := by decide +kernel
theorem d_MS_sizesFit_109 : decode b_MS_sizesFit 109 = .ok (.ifCond .ne 28, 3) := by decide +kernel
theorem d_MS_sizesFit_112 : decode b_MS_sizesFit 112 = .ok (.iload_n 3, 1) := by decide +kernel
theorem d_MS_sizesFit_113 : decode b_MS_sizesFit 113 = .ok (.i2l, 1) := by decide +kernel
theorem d_MS_sizesFit_114 : decode b_MS_sizesFit 114 = .ok (.bipush 64, 2) := by decide +kernel
theorem d_MS_sizesFit_116 : decode b_MS_sizesFit 116 = .ok (.sipush 16384, 3) := by decide +kernel
theorem d_MS_sizesFit_119 : decode b_MS_sizesFit 119 = .ok (.invokestatic 128, 3) := by decide +kernel
theorem d_MS_sizesFit_122 : decode b_MS_sizesFit 122 = .ok (.ifCond .eq 15, 3) := by decide +kernel
theorem d_MS_sizesFit_125 : decode b_MS_sizesFit 125 = .ok (.iload_n 3, 1) := by decide +kernel
theorem d_MS_sizesFit_126 : decode b_MS_sizesFit 126 = .ok (.invokestatic 132, 3) := by decide +kernel
theorem d_MS_sizesFit_129 : decode b_MS_sizesFit 129 = .ok (.iconst 1, 1) := by decide +kernel
theorem d_MS_sizesFit_130 : decode b_MS_sizesFit 130 = .ok (.if_icmp .ne 7, 3) := by decide +kernel
theorem d_MS_sizesFit_133 : decode b_MS_sizesFit 133 = .ok (.iconst 1, 1) := by decide +kernel
theorem d_MS_sizesFit_134 : decode b_MS_sizesFit 134 = .ok (.goto 4, 3) := by decide +kernel
theorem d_MS_sizesFit_137 : decode b_MS_sizesFit 137 = .ok (.iconst 0, 1) := by decide +kernel
theorem d_MS_sizesFit_138 : decode b_MS_sizesFit 138 = .ok (.ireturn, 1) := by decide +kernel
theorem d_MS_sizesFit_139 : decode b_MS_sizesFit 139 = .ok (.iconst 0, 1) := by decide +kernel
theorem d_MS_sizesFit_140 : decode b_MS_sizesFit 140 = .ok (.ireturn, 1) := by decide +kernel
theorem d_MS_breaches_0 : decode b_MS_breaches 0 = .ok (.iconst 0, 1) := by decide +kernel
theorem d_MS_breaches_1 : decode b_MS_breaches 1 = .ok (.istore_n 1, 1) := by decide +kernel
theorem d_MS_breaches_2 : decode b_MS_breaches 2 = .ok (.iconst 0, 1) := by decide +kernel
theorem d_MS_breaches_3 : decode b_MS_breaches 3 = .ok (.istore_n 2, 1) := by decide +kernel
theorem d_MS_breaches_4 : decode b_MS_breaches 4 = .ok (.iload_n 2, 1) := by decide +kernel
theorem d_MS_breaches_5 : decode b_MS_breaches 5 = .ok (.aload_n 0, 1) := by decide +kernel
theorem d_MS_breaches_6 : decode b_MS_breaches 6 = .ok (.getfield 28, 3) := by decide +kernel
theorem d_MS_breaches_9 : decode b_MS_breaches 9 = .ok (.if_icmp .ge 20, 3) := by decide +kernel
theorem d_MS_breaches_12 : decode b_MS_breaches 12 = .ok (.iload_n 1, 1) := by decide +kernel
theorem d_MS_breaches_13 : decode b_MS_breaches 13 = .ok (.aload_n 0, 1) := by decide +kernel
theorem d_MS_breaches_14 : decode b_MS_breaches 14 = .ok (.iload_n 2, 1) := by decide +kernel
theorem d_MS_breaches_15 : decode b_MS_breaches 15 = .ok (.invokevirtual 59, 3) := by decide +kernel
theorem d_MS_breaches_18 : decode b_MS_breaches 18 = .ok (.invokevirtual 105, 3) := by decide +kernel
theorem d_MS_breaches_21 : decode b_MS_breaches 21 = .ok (.iadd, 1) := by decide +kernel
theorem d_MS_breaches_22 : decode b_MS_breaches 22 = .ok (.istore_n 1, 1) := by decide +kernel
theorem d_MS_breaches_23 : decode b_MS_breaches 23 = .ok (.iinc 2 1, 3) := by decide +kernel
theorem d_MS_breaches_26 : decode b_MS_breaches 26 = .ok (.goto (-22), 3) := by decide +kernel
theorem d_MS_breaches_29 : decode b_MS_breaches 29 = .ok (.iload_n 1, 1) := by decide +kernel
theorem d_MS_breaches_30 : decode b_MS_breaches 30 = .ok (.ireturn, 1) := by decide +kernel
theorem bcAll_at : ∀ {k n : Nat}, bcAll k n = true → ∀ j, n ≤ j → j < n + k → bcOk j = true
  | 0, n, _, j, h1, h2 => absurd h2 (by omega)
  | k + 1, n, h, j, h1, h2 => by
    rw [bcAll, Bool.and_eq_true] at h
    by_cases e : j = n
    · rw [e]; exact h.1
    · exact bcAll_at h.2 j (by omega) (by omega)
theorem bcOk_all {n : Nat} (h1 : 64 ≤ n) (h2 : n ≤ 16384) : bcOk n = true := by
  rcases (by omega : n < 1085 ∨ (1085 ≤ n ∧ n < 2106) ∨ (2106 ≤ n ∧ n < 3127) ∨ (3127 ≤ n ∧ n < 4148) ∨ (4148 ≤ n ∧ n < 5169) ∨ (5169 ≤ n ∧ n < 6190) ∨ (6190 ≤ n ∧ n < 7211) ∨ (7211 ≤ n ∧ n < 8232) ∨ (8232 ≤ n ∧ n < 9253) ∨ (9253 ≤ n ∧ n < 10274) ∨ (10274 ≤ n ∧ n < 11295) ∨ (11295 ≤ n ∧ n < 12316) ∨ (12316 ≤ n ∧ n < 13337) ∨ (13337 ≤ n ∧ n < 14358) ∨ (14358 ≤ n ∧ n < 15379) ∨ 15379 ≤ n) with h | h | h | h | h | h | h | h | h | h | h | h | h | h | h | h
  · exact bcAll_at bcK0 n (by omega) (by omega)
  · exact bcAll_at bcK1 n (by omega) (by omega)
  · exact bcAll_at bcK2 n (by omega) (by omega)
  · exact bcAll_at bcK3 n (by omega) (by omega)
  · exact bcAll_at bcK4 n (by omega) (by omega)
  · exact bcAll_at bcK5 n (by omega) (by omega)
  · exact bcAll_at bcK6 n (by omega) (by omega)
  · exact bcAll_at bcK7 n (by omega) (by omega)
  · exact bcAll_at bcK8 n (by omega) (by omega)
  · exact bcAll_at bcK9 n (by omega) (by omega)
  · exact bcAll_at bcK10 n (by omega) (by omega)
  · exact bcAll_at bcK11 n (by omega) (by omega)
  · exact bcAll_at bcK12 n (by omega) (by omega)
  · exact bcAll_at bcK13 n (by omega) (by omega)
  · exact bcAll_at bcK14 n (by omega) (by omega)
  · exact bcAll_at bcK15 n (by omega) (by omega)
theorem p2_or {n : Nat} : (∃ p, 6 ≤ p ∧ p ≤ 14 ∧ n = 2 ^ p) ↔ (n = 64 ∨ n = 128 ∨ n = 256 ∨ n = 512 ∨ n = 1024 ∨ n = 2048 ∨ n = 4096 ∨ n = 8192 ∨ n = 16384) := by
  constructor
  · rintro ⟨p, h1, h2, rfl⟩
    rcases (by omega : p = 6 ∨ p = 7 ∨ p = 8 ∨ p = 9 ∨ p = 10 ∨ p = 11 ∨ p = 12 ∨ p = 13 ∨ p = 14) with h | h | h | h | h | h | h | h | h <;> subst h <;> decide
  · rintro (h | h | h | h | h | h | h | h | h)
    · exact ⟨6, by decide, by decide, h⟩
    · exact ⟨7, by decide, by decide, h⟩
    · exact ⟨8, by decide, by decide, h⟩
    · exact ⟨9, by decide, by decide, h⟩
    · exact ⟨10, by decide, by decide, h⟩
    · exact ⟨11, by decide, by decide, h⟩
    · exact ⟨12, by decide, by decide, h⟩
    · exact ⟨13, by decide, by decide, h⟩
    · exact ⟨14, by decide, by decide, h⟩
theorem bc_iff {n : Nat} (h1 : 64 ≤ n) (h2 : n ≤ 16384) : bcA (nI n) = nI 1 ↔ ∃ p, 6 ≤ p ∧ p ≤ 14 ∧ n = 2 ^ p := by
  have h := bcOk_all h1 h2
  unfold bcOk at h
  rw [p2_or]
  simp only [beq_iff_eq, Bool.beq_eq_decide_eq, decide_eq_true_eq] at h
  rw [Bool.eq_iff_iff] at h
  simp only [decide_eq_true_eq, Bool.or_eq_true, or_assoc] at h
  exact h
abbrev inB (z : Int32) (a b : Nat) : Prop := (a : Int) ≤ z.toInt ∧ z.toInt ≤ b
/-- a map may have these sizes -/
def fitS (k a v n : Int32) : Prop := (k = nI 0 ∧ a = nI 4 ∧ inB v 1 256 ∧ inB n 1 4096) ∨ (k = nI 1 ∧ inB a 1 64 ∧ inB v 1 256 ∧ inB n 1 4096) ∨ (k = nI 2 ∧ a = nI 0 ∧ v = nI 0 ∧ inB n 64 16384 ∧ ∃ p, 6 ≤ p ∧ p ≤ 14 ∧ n.toNatClampNeg = 2 ^ p)
theorem nI_ofI {k : Int32} {j : Nat} (hj : j < 2 ^ 31) (h : k.toInt = j) : k = nI j := Int32.toInt_inj.mp (by rw [h, nI_toInt hj])
theorem inB_nI {z : Int32} {a b : Nat} (h : inB z a b) (hb : b < 2 ^ 31) : z = nI z.toNatClampNeg ∧ a ≤ z.toNatClampNeg ∧ z.toNatClampNeg ≤ b := by
  obtain ⟨j, hj, rfl⟩ := nI_of (x := z) (by rw [Int32.lt_iff_toInt_lt, Int32.toInt_zero]; have := h.1; omega)
  rw [nI_clamp hj]
  have h1 := h.1
  have h2 := h.2
  rw [nI_toInt hj] at h1 h2
  exact ⟨rfl, by omega, by omega⟩
set_option maxRecDepth 100000 in
set_option maxHeartbeats 4000000 in
theorem c_MS_sizesFit (l : Launch) (k a v n : Int32) : mp_Ct l y_MS_sizesFit (Cond.code y_MS_sizesFit b_MS_sizesFit 4 (some .boolean) :: Ts) 1 40 [.int k, .int a, .int v, .int n] (fun u => ∃ r : Int32, u = some (.int r) ∧ ((r = 1 ∧ fitS k a v n) ∨ (r = 0 ∧ ¬ fitS k a v n))) := by
  refine mp_meth (by decide) (Nat.le_of_ble_eq_true rfl) ?_
  intro p e s m below meth c hx hb hml hown hts hr hlk ls hl
  have hl : lv_has ls 4 [(0, .int k), (1, .int a), (2, .int v), (3, .int n)] := hl
  have n01 : nI 0 ≠ nI 1 := by decide
  have n02 : nI 0 ≠ nI 2 := by decide
  have n12 : nI 1 ≠ nI 2 := by decide
  refine lv_iload_n hx hb d_MS_sizesFit_0 rfl (lv_at hl 0 rfl) ?_
  by_cases k0 : k = nI 0
  · subst k0
    refine lv_tableIn (off := 27) (tgt := 28) hx hb d_MS_sizesFit_1 (by decide) (by decide) rfl (by decide) ?_
    have hF : fitS (nI 0) a v n ↔ (a = nI 4 ∧ inB v 1 256 ∧ inB n 1 4096) := ⟨fun h => by rcases h with h | h | h; exact h.2; exact absurd h.1 n01; exact absurd h.1 n02, fun h => Or.inl ⟨rfl, h⟩⟩
    rw [hF]
    have no : ∀ ls : Array Slot, lv_has ls 4 [] → ¬ (a = nI 4 ∧ inB v 1 256 ∧ inB n 1 4096) → W p l e { frames := 1, cells := 0, slots := 0, locals := 40 } s m #[.int (nI 0), .int a, .int v, .int n] below meth c s.heap [] 0 0 (mx_Q below (fun _ st o t => ∃ v2, o = .returned v2 ∧ (∃ r : Int32, v2 = some (.int r) ∧ ((r = 1 ∧ (a = nI 4 ∧ inB v 1 256 ∧ inB n 1 4096)) ∨ (r = 0 ∧ ¬ (a = nI 4 ∧ inB v 1 256 ∧ inB n 1 4096)))) ∧ t.heap = st.heap) #[.int (nI 0), .int a, .int v, .int n] s 0 0 (fun _ => False)) (F0 m 61 ls []) := by
      intro ls hl hn
      refine lv_iconst (v := nI 0) hx hb d_MS_sizesFit_61 (by decide) ?_
      exact mp_zret hx hb hr hlk (Or.inl rfl) ⟨_, rfl, Or.inr ⟨rfl, hn⟩⟩ d_MS_sizesFit_62
    refine lv_iload_n hx hb d_MS_sizesFit_28 rfl (lv_at hl 1 rfl) ?_
    refine lv_iconst (v := nI 4) hx hb d_MS_sizesFit_29 (by decide) ?_
    refine lv_icmp_ne (tgt := 61) hx hb d_MS_sizesFit_30 (by decide) (fun c30 => ?_) (fun c30 => ?_)
    ·
      exact no ls (lv_sub hl [] rfl) (fun z => c30 z.1)
    ·
      have c30 : a = nI 4 := c30
      refine lv_iload_n hx hb d_MS_sizesFit_33 rfl (lv_at hl 2 rfl) ?_
      refine lv_i2l hx hb d_MS_sizesFit_34 rfl ?_
      refine lv_iconst (v := nI 1) hx hb d_MS_sizesFit_35 (by decide) ?_
      refine lv_sipush (v := nI 256) hx hb d_MS_sizesFit_36 (by decide) ?_
      refine mp_call (rest := []) hb hml (c_MS_within l v.toInt64 (nI 1) (nI 256)) (mx_invS hx hown (hts _ tw_182) (hts _ tw_183) (hts _ tw_21) (hts _ tw_184) (by decide) (g := F0 m 39 ls [.int (nI 256), .int (nI 1), .long (v.toInt64)]) rfl (argsL := [.long (v.toInt64), .int (nI 1), .int (nI 256)]) (rest := []) np_MS_within rfl (by rw [hb]; exact d_MS_sizesFit_39)) hl.1 d_MS_sizesFit_39 ⟨Nat.le_of_ble_eq_true rfl, Nat.le_of_ble_eq_true rfl⟩ (Or.inl ⟨_, _, List.mem_cons_self⟩) (mk_ws tw_184 hts) (fun a9 U9 h9 => Ts_warm hts _ tw_21 a9 U9 h9) (by first | exact ⟨Nat.le_of_ble_eq_true rfl, Nat.le_of_ble_eq_true rfl⟩ | assumption) (fun v hv => ?_)
      subst hv
      refine W.eq (g2 := F0 m 42 ls [.int (if (nI 1).toInt64 ≤ v.toInt64 ∧ v.toInt64 ≤ (nI 256).toInt64 then 1 else 0)]) rfl ?_
      rw [within_i v (a := 1) (b := 256) (by decide) (by decide)]
      refine lv_if_eq (tgt := 61) hx hb d_MS_sizesFit_42 (by decide) (fun c42 => ?_) (fun c42 => ?_)
      ·
        rw [if10.1] at c42
        exact no ls (lv_sub hl [] rfl) (fun z => c42 z.2.1)
      ·
        rw [if10.2] at c42
        refine lv_iload_n hx hb d_MS_sizesFit_45 rfl (lv_at hl 3 rfl) ?_
        refine lv_i2l hx hb d_MS_sizesFit_46 rfl ?_
        refine lv_iconst (v := nI 1) hx hb d_MS_sizesFit_47 (by decide) ?_
        refine lv_sipush (v := nI 4096) hx hb d_MS_sizesFit_48 (by decide) ?_
        refine mp_call (rest := []) hb hml (c_MS_within l n.toInt64 (nI 1) (nI 4096)) (mx_invS hx hown (hts _ tw_182) (hts _ tw_183) (hts _ tw_21) (hts _ tw_184) (by decide) (g := F0 m 51 ls [.int (nI 4096), .int (nI 1), .long (n.toInt64)]) rfl (argsL := [.long (n.toInt64), .int (nI 1), .int (nI 4096)]) (rest := []) np_MS_within rfl (by rw [hb]; exact d_MS_sizesFit_51)) hl.1 d_MS_sizesFit_51 ⟨Nat.le_of_ble_eq_true rfl, Nat.le_of_ble_eq_true rfl⟩ (Or.inl ⟨_, _, List.mem_cons_self⟩) (mk_ws tw_184 hts) (fun a9 U9 h9 => Ts_warm hts _ tw_21 a9 U9 h9) (by first | exact ⟨Nat.le_of_ble_eq_true rfl, Nat.le_of_ble_eq_true rfl⟩ | assumption) (fun v hv => ?_)
        subst hv
        refine W.eq (g2 := F0 m 54 ls [.int (if (nI 1).toInt64 ≤ n.toInt64 ∧ n.toInt64 ≤ (nI 4096).toInt64 then 1 else 0)]) rfl ?_
        rw [within_i n (a := 1) (b := 4096) (by decide) (by decide)]
        refine lv_if_eq (tgt := 61) hx hb d_MS_sizesFit_54 (by decide) (fun c54 => ?_) (fun c54 => ?_)
        ·
          rw [if10.1] at c54
          exact no ls (lv_sub hl [] rfl) (fun z => c54 z.2.2)
        ·
          rw [if10.2] at c54
          refine lv_iconst (v := nI 1) hx hb d_MS_sizesFit_57 (by decide) ?_
          refine lv_goto (tgt := 62) hx hb d_MS_sizesFit_58 (by decide) ?_
          exact mp_zret hx hb hr hlk (Or.inr rfl) ⟨_, rfl, Or.inl ⟨rfl, c30, c42, c54⟩⟩ d_MS_sizesFit_62
  · by_cases k1 : k = nI 1
    · subst k1
      refine lv_tableIn (off := 62) (tgt := 63) hx hb d_MS_sizesFit_1 (by decide) (by decide) rfl (by decide) ?_
      have hF : fitS (nI 1) a v n ↔ (inB a 1 64 ∧ inB v 1 256 ∧ inB n 1 4096) := ⟨fun h => by rcases h with h | h | h; exact absurd h.1 n01.symm; exact h.2; exact absurd h.1 n12, fun h => Or.inr (Or.inl ⟨rfl, h⟩)⟩
      rw [hF]
      have no : ∀ ls : Array Slot, lv_has ls 4 [] → ¬ (inB a 1 64 ∧ inB v 1 256 ∧ inB n 1 4096) → W p l e { frames := 1, cells := 0, slots := 0, locals := 40 } s m #[.int (nI 1), .int a, .int v, .int n] below meth c s.heap [] 0 0 (mx_Q below (fun _ st o t => ∃ v2, o = .returned v2 ∧ (∃ r : Int32, v2 = some (.int r) ∧ ((r = 1 ∧ (inB a 1 64 ∧ inB v 1 256 ∧ inB n 1 4096)) ∨ (r = 0 ∧ ¬ (inB a 1 64 ∧ inB v 1 256 ∧ inB n 1 4096)))) ∧ t.heap = st.heap) #[.int (nI 1), .int a, .int v, .int n] s 0 0 (fun _ => False)) (F0 m 102 ls []) := by
        intro ls hl hn
        refine lv_iconst (v := nI 0) hx hb d_MS_sizesFit_102 (by decide) ?_
        exact mp_zret hx hb hr hlk (Or.inl rfl) ⟨_, rfl, Or.inr ⟨rfl, hn⟩⟩ d_MS_sizesFit_103
      refine lv_iload_n hx hb d_MS_sizesFit_63 rfl (lv_at hl 1 rfl) ?_
      refine lv_i2l hx hb d_MS_sizesFit_64 rfl ?_
      refine lv_iconst (v := nI 1) hx hb d_MS_sizesFit_65 (by decide) ?_
      refine lv_bipush (v := nI 64) hx hb d_MS_sizesFit_66 (by decide) ?_
      refine mp_call (rest := []) hb hml (c_MS_within l a.toInt64 (nI 1) (nI 64)) (mx_invS hx hown (hts _ tw_182) (hts _ tw_183) (hts _ tw_21) (hts _ tw_184) (by decide) (g := F0 m 68 ls [.int (nI 64), .int (nI 1), .long (a.toInt64)]) rfl (argsL := [.long (a.toInt64), .int (nI 1), .int (nI 64)]) (rest := []) np_MS_within rfl (by rw [hb]; exact d_MS_sizesFit_68)) hl.1 d_MS_sizesFit_68 ⟨Nat.le_of_ble_eq_true rfl, Nat.le_of_ble_eq_true rfl⟩ (Or.inl ⟨_, _, List.mem_cons_self⟩) (mk_ws tw_184 hts) (fun a9 U9 h9 => Ts_warm hts _ tw_21 a9 U9 h9) (by first | exact ⟨Nat.le_of_ble_eq_true rfl, Nat.le_of_ble_eq_true rfl⟩ | assumption) (fun v hv => ?_)
      subst hv
      refine W.eq (g2 := F0 m 71 ls [.int (if (nI 1).toInt64 ≤ a.toInt64 ∧ a.toInt64 ≤ (nI 64).toInt64 then 1 else 0)]) rfl ?_
      rw [within_i a (a := 1) (b := 64) (by decide) (by decide)]
      refine lv_if_eq (tgt := 102) hx hb d_MS_sizesFit_71 (by decide) (fun c71 => ?_) (fun c71 => ?_)
      ·
        rw [if10.1] at c71
        exact no ls (lv_sub hl [] rfl) (fun z => c71 z.1)
      ·
        rw [if10.2] at c71
        refine lv_iload_n hx hb d_MS_sizesFit_74 rfl (lv_at hl 2 rfl) ?_
        refine lv_i2l hx hb d_MS_sizesFit_75 rfl ?_
        refine lv_iconst (v := nI 1) hx hb d_MS_sizesFit_76 (by decide) ?_
        refine lv_sipush (v := nI 256) hx hb d_MS_sizesFit_77 (by decide) ?_
        refine mp_call (rest := []) hb hml (c_MS_within l v.toInt64 (nI 1) (nI 256)) (mx_invS hx hown (hts _ tw_182) (hts _ tw_183) (hts _ tw_21) (hts _ tw_184) (by decide) (g := F0 m 80 ls [.int (nI 256), .int (nI 1), .long (v.toInt64)]) rfl (argsL := [.long (v.toInt64), .int (nI 1), .int (nI 256)]) (rest := []) np_MS_within rfl (by rw [hb]; exact d_MS_sizesFit_80)) hl.1 d_MS_sizesFit_80 ⟨Nat.le_of_ble_eq_true rfl, Nat.le_of_ble_eq_true rfl⟩ (Or.inl ⟨_, _, List.mem_cons_self⟩) (mk_ws tw_184 hts) (fun a9 U9 h9 => Ts_warm hts _ tw_21 a9 U9 h9) (by first | exact ⟨Nat.le_of_ble_eq_true rfl, Nat.le_of_ble_eq_true rfl⟩ | assumption) (fun v hv => ?_)
        subst hv
        refine W.eq (g2 := F0 m 83 ls [.int (if (nI 1).toInt64 ≤ v.toInt64 ∧ v.toInt64 ≤ (nI 256).toInt64 then 1 else 0)]) rfl ?_
        rw [within_i v (a := 1) (b := 256) (by decide) (by decide)]
        refine lv_if_eq (tgt := 102) hx hb d_MS_sizesFit_83 (by decide) (fun c83 => ?_) (fun c83 => ?_)
        ·
          rw [if10.1] at c83
          exact no ls (lv_sub hl [] rfl) (fun z => c83 z.2.1)
        ·
          rw [if10.2] at c83
          refine lv_iload_n hx hb d_MS_sizesFit_86 rfl (lv_at hl 3 rfl) ?_
          refine lv_i2l hx hb d_MS_sizesFit_87 rfl ?_
          refine lv_iconst (v := nI 1) hx hb d_MS_sizesFit_88 (by decide) ?_
          refine lv_sipush (v := nI 4096) hx hb d_MS_sizesFit_89 (by decide) ?_
          refine mp_call (rest := []) hb hml (c_MS_within l n.toInt64 (nI 1) (nI 4096)) (mx_invS hx hown (hts _ tw_182) (hts _ tw_183) (hts _ tw_21) (hts _ tw_184) (by decide) (g := F0 m 92 ls [.int (nI 4096), .int (nI 1), .long (n.toInt64)]) rfl (argsL := [.long (n.toInt64), .int (nI 1), .int (nI 4096)]) (rest := []) np_MS_within rfl (by rw [hb]; exact d_MS_sizesFit_92)) hl.1 d_MS_sizesFit_92 ⟨Nat.le_of_ble_eq_true rfl, Nat.le_of_ble_eq_true rfl⟩ (Or.inl ⟨_, _, List.mem_cons_self⟩) (mk_ws tw_184 hts) (fun a9 U9 h9 => Ts_warm hts _ tw_21 a9 U9 h9) (by first | exact ⟨Nat.le_of_ble_eq_true rfl, Nat.le_of_ble_eq_true rfl⟩ | assumption) (fun v hv => ?_)
          subst hv
          refine W.eq (g2 := F0 m 95 ls [.int (if (nI 1).toInt64 ≤ n.toInt64 ∧ n.toInt64 ≤ (nI 4096).toInt64 then 1 else 0)]) rfl ?_
          rw [within_i n (a := 1) (b := 4096) (by decide) (by decide)]
          refine lv_if_eq (tgt := 102) hx hb d_MS_sizesFit_95 (by decide) (fun c95 => ?_) (fun c95 => ?_)
          ·
            rw [if10.1] at c95
            exact no ls (lv_sub hl [] rfl) (fun z => c95 z.2.2)
          ·
            rw [if10.2] at c95
            refine lv_iconst (v := nI 1) hx hb d_MS_sizesFit_98 (by decide) ?_
            refine lv_goto (tgt := 103) hx hb d_MS_sizesFit_99 (by decide) ?_
            exact mp_zret hx hb hr hlk (Or.inr rfl) ⟨_, rfl, Or.inl ⟨rfl, c71, c83, c95⟩⟩ d_MS_sizesFit_103
    · by_cases k2 : k = nI 2
      · subst k2
        refine lv_tableIn (off := 103) (tgt := 104) hx hb d_MS_sizesFit_1 (by decide) (by decide) rfl (by decide) ?_
        have hF : fitS (nI 2) a v n ↔ (a = nI 0 ∧ v = nI 0 ∧ inB n 64 16384 ∧ ∃ p, 6 ≤ p ∧ p ≤ 14 ∧ n.toNatClampNeg = 2 ^ p) := ⟨fun h => by rcases h with h | h | h; exact absurd h.1 n02.symm; exact absurd h.1 n12.symm; exact h.2, fun h => Or.inr (Or.inr ⟨rfl, h⟩)⟩
        rw [hF]
        have no : ∀ ls : Array Slot, lv_has ls 4 [] → ¬ (a = nI 0 ∧ v = nI 0 ∧ inB n 64 16384 ∧ ∃ p, 6 ≤ p ∧ p ≤ 14 ∧ n.toNatClampNeg = 2 ^ p) → W p l e { frames := 1, cells := 0, slots := 0, locals := 40 } s m #[.int (nI 2), .int a, .int v, .int n] below meth c s.heap [] 0 0 (mx_Q below (fun _ st o t => ∃ v2, o = .returned v2 ∧ (∃ r : Int32, v2 = some (.int r) ∧ ((r = 1 ∧ (a = nI 0 ∧ v = nI 0 ∧ inB n 64 16384 ∧ ∃ p, 6 ≤ p ∧ p ≤ 14 ∧ n.toNatClampNeg = 2 ^ p)) ∨ (r = 0 ∧ ¬ (a = nI 0 ∧ v = nI 0 ∧ inB n 64 16384 ∧ ∃ p, 6 ≤ p ∧ p ≤ 14 ∧ n.toNatClampNeg = 2 ^ p)))) ∧ t.heap = st.heap) #[.int (nI 2), .int a, .int v, .int n] s 0 0 (fun _ => False)) (F0 m 137 ls []) := by
          intro ls hl hn
          refine lv_iconst (v := nI 0) hx hb d_MS_sizesFit_137 (by decide) ?_
          exact mp_zret hx hb hr hlk (Or.inl rfl) ⟨_, rfl, Or.inr ⟨rfl, hn⟩⟩ d_MS_sizesFit_138
        refine lv_iload_n hx hb d_MS_sizesFit_104 rfl (lv_at hl 1 rfl) ?_
        refine lv_if_ne (tgt := 137) hx hb d_MS_sizesFit_105 (by decide) (fun c105 => ?_) (fun c105 => ?_)
        ·
          exact no ls (lv_sub hl [] rfl) (fun z => c105 (z.1.trans nI_0))
        ·
          have c105 : a = nI 0 := by rw [nI_0]; exact c105
          refine lv_iload_n hx hb d_MS_sizesFit_108 rfl (lv_at hl 2 rfl) ?_
          refine lv_if_ne (tgt := 137) hx hb d_MS_sizesFit_109 (by decide) (fun c109 => ?_) (fun c109 => ?_)
          ·
            exact no ls (lv_sub hl [] rfl) (fun z => c109 (z.2.1.trans nI_0))
          ·
            have c109 : v = nI 0 := by rw [nI_0]; exact c109
            refine lv_iload_n hx hb d_MS_sizesFit_112 rfl (lv_at hl 3 rfl) ?_
            refine lv_i2l hx hb d_MS_sizesFit_113 rfl ?_
            refine lv_bipush (v := nI 64) hx hb d_MS_sizesFit_114 (by decide) ?_
            refine lv_sipush (v := nI 16384) hx hb d_MS_sizesFit_116 (by decide) ?_
            refine mp_call (rest := []) hb hml (c_MS_within l n.toInt64 (nI 64) (nI 16384)) (mx_invS hx hown (hts _ tw_182) (hts _ tw_183) (hts _ tw_21) (hts _ tw_184) (by decide) (g := F0 m 119 ls [.int (nI 16384), .int (nI 64), .long (n.toInt64)]) rfl (argsL := [.long (n.toInt64), .int (nI 64), .int (nI 16384)]) (rest := []) np_MS_within rfl (by rw [hb]; exact d_MS_sizesFit_119)) hl.1 d_MS_sizesFit_119 ⟨Nat.le_of_ble_eq_true rfl, Nat.le_of_ble_eq_true rfl⟩ (Or.inl ⟨_, _, List.mem_cons_self⟩) (mk_ws tw_184 hts) (fun a9 U9 h9 => Ts_warm hts _ tw_21 a9 U9 h9) (by first | exact ⟨Nat.le_of_ble_eq_true rfl, Nat.le_of_ble_eq_true rfl⟩ | assumption) (fun v hv => ?_)
            subst hv
            refine W.eq (g2 := F0 m 122 ls [.int (if (nI 64).toInt64 ≤ n.toInt64 ∧ n.toInt64 ≤ (nI 16384).toInt64 then 1 else 0)]) rfl ?_
            rw [within_i n (a := 64) (b := 16384) (by decide) (by decide)]
            refine lv_if_eq (tgt := 137) hx hb d_MS_sizesFit_122 (by decide) (fun c122 => ?_) (fun c122 => ?_)
            ·
              rw [if10.1] at c122
              exact no ls (lv_sub hl [] rfl) (fun z => c122 z.2.2.1)
            ·
              rw [if10.2] at c122
              obtain ⟨n1, n2, n3⟩ := inB_nI c122 (by decide)
              have hbi := bc_iff n2 n3
              rw [← n1] at hbi
              refine lv_iload_n hx hb d_MS_sizesFit_125 rfl (lv_at hl 3 rfl) ?_
              refine mp_call (rest := []) hb hml (c_IN_bitCount l n) (mx_invS hx hown (hts _ tw_185) (hts _ tw_186) (hts _ tw_24) (hts _ tw_187) (by decide) (g := F0 m 126 ls [.int n]) rfl (argsL := [.int n]) (rest := []) np_IN_bitCount rfl (by rw [hb]; exact d_MS_sizesFit_126)) hl.1 d_MS_sizesFit_126 ⟨Nat.le_of_ble_eq_true rfl, Nat.le_of_ble_eq_true rfl⟩ (Or.inl ⟨_, _, List.mem_cons_self⟩) (mk_ws tw_187 hts) (fun a9 U9 h9 => Ts_warm hts _ tw_24 a9 U9 h9) (by first | exact ⟨Nat.le_of_ble_eq_true rfl, Nat.le_of_ble_eq_true rfl⟩ | assumption) (fun v hv => ?_)
              subst hv
              refine W.eq (g2 := F0 m 129 ls [.int (bcA n)]) rfl ?_
              refine lv_iconst (v := nI 1) hx hb d_MS_sizesFit_129 (by decide) ?_
              refine lv_icmp_ne (tgt := 137) hx hb d_MS_sizesFit_130 (by decide) (fun c130 => ?_) (fun c130 => ?_)
              ·
                exact no ls (lv_sub hl [] rfl) (fun z => c130 (hbi.mpr z.2.2.2))
              ·
                have c130 : bcA n = nI 1 := c130
                refine lv_iconst (v := nI 1) hx hb d_MS_sizesFit_133 (by decide) ?_
                refine lv_goto (tgt := 138) hx hb d_MS_sizesFit_134 (by decide) ?_
                exact mp_zret hx hb hr hlk (Or.inr rfl) ⟨_, rfl, Or.inl ⟨rfl, c105, c109, c122, hbi.mp c130⟩⟩ d_MS_sizesFit_138
      · have hout : k.toInt < 0 ∨ 2 < k.toInt := by
          rcases (by omega : k.toInt < 0 ∨ k.toInt = 0 ∨ k.toInt = 1 ∨ k.toInt = 2 ∨ 2 < k.toInt) with h | h | h | h | h
          · exact Or.inl h
          · exact absurd (nI_ofI (j := 0) (by decide) h) k0
          · exact absurd (nI_ofI (j := 1) (by decide) h) k1
          · exact absurd (nI_ofI (j := 2) (by decide) h) k2
          · exact Or.inr h
        refine lv_tableOut (tgt := 139) hx hb d_MS_sizesFit_1 hout (by decide) ?_
        refine lv_iconst (v := nI 0) hx hb d_MS_sizesFit_139 (by decide) ?_
        exact mp_zret hx hb hr hlk (Or.inl rfl) ⟨_, rfl, Or.inr ⟨rfl, fun h => by rcases h with h | h | h; exact k0 h.1; exact k1 h.1; exact k2 h.1⟩⟩ d_MS_sizesFit_140
set_option maxRecDepth 100000 in
set_option maxHeartbeats 4000000 in
theorem c_MS_mapOf2 (l : Launch) (D : va_G) (dA : Nat → ClassId) {w : mw_W} {own : as_W} {x bd xd ba xa ra : Nat} {mp : Nat → Nat} {gd ga : Nat → Int64} {S : as_S} (hA : rc_A dA w own x bd xd ba xa ra mp gd ga S) (hn64 : nm S ≤ 64) {q : Nat} (hq0 : q < nm S) : CT l D dA y_MS_mapOf (Cond.code y_MS_mapOf b_MS_mapOf 3 (some (.object "MapStore$AnyMap")) :: Ts) 0 0 0 0 [.ref x, .int (nI q)] w (fun r w' => w' = w ∧ r = .inl (some (.ref (mp q)))) := by
  refine mw_meth (by decide) mk_tb (Nat.le_of_ble_eq_true rfl) ?_
  intro p e s m below meth c K hr hlk hce hnm hP0 hSy ls hl
  have hl : lv_has ls 3 [(0, .ref x), (1, .int (nI q))] := hl
  obtain ⟨hx, hb, hml, hown, hts, hK, hTb⟩ := id K
  have hI := mw_I.start hP0
  obtain ⟨⟨o1, o2, o3, o4, f0, fd, fa, fr, hdk, har⟩, hM⟩ := id hA
  refine lv_iload_n hx hb d_MS_mapOf_0 rfl (lv_at hl 1 rfl) ?_
  refine lv_if_lt (tgt := 12) hx hb d_MS_mapOf_1 (by decide) (fun c1 => ?_) (fun c1 => ?_)
  ·
    exact absurd c1 (nI_pos (by omega))
  ·
    refine lv_iload_n hx hb d_MS_mapOf_4 rfl (lv_at hl 1 rfl) ?_
    refine lv_aload_n hx hb d_MS_mapOf_5 rfl (lv_at hl 0 rfl) ?_
    refine mw_get K hI gf_MS_28_cMS f0 rfl d_MS_mapOf_6 ?_
    refine lv_icmp_lt (tgt := 16) hx hb d_MS_mapOf_9 (by decide) (fun c9 => ?_) (fun c9 => ?_)
    ·
      refine lv_aload_n hx hb d_MS_mapOf_16 rfl (lv_at hl 0 rfl) ?_
      refine mw_get K hI gf_MS_24_cMS f0 rfl d_MS_mapOf_17 ?_
      refine lv_iload_n hx hb d_MS_mapOf_20 rfl (lv_at hl 1 rfl) ?_
      refine mw_aald K hI tAN fr rfl q rfl (by first | assumption | omega) (by omega) d_MS_mapOf_21 ?_
      refine mw_tv (y := .ref (mp q)) ((by show va_rf (if q < nm S then some (mp q) else none) = _; rw [if_pos hq0]; rfl)) ?_
      refine lv_astore_n (lv' := [(2, .ref (mp q)), (0, .ref x), (1, .int (nI q))]) hx hb d_MS_mapOf_22 rfl hl (by decide) rfl (fun ls hl => ?_)
      refine lv_aload_n hx hb d_MS_mapOf_23 rfl (lv_at hl 0 rfl) ?_
      refine lv_ifnonnull (tgt := 37) hx hb d_MS_mapOf_24 (by decide) ?_
      refine lv_aload_n hx hb d_MS_mapOf_37 rfl (lv_at hl 0 rfl) ?_
      exact mw_aret K hI hr (Or.inl ⟨_, rfl⟩) hlk (Or.inr ⟨_, rfl⟩) ⟨rfl, rfl⟩ d_MS_mapOf_38
    ·
      exact absurd (nI_lt (by omega) (by omega)) c9
set_option maxRecDepth 100000 in
set_option maxHeartbeats 4000000 in
theorem c_MS_breaches (l : Launch) (D : va_G) (dA : Nat → ClassId) {w : mw_W} {own : as_W} {x t : Nat} {S : as_S} (hR : RepC dA w own x S) (hW : wf_S t S) : CT l D dA y_MS_breaches (Cond.code y_MS_breaches b_MS_breaches 3 (some .int) :: Ts) 1 40 0 0 [.ref x] w (fun r w' => w' = w ∧ r = .inl (some (.int (nI 0)))) := by
  refine mw_meth (by decide) mk_tb (Nat.le_of_ble_eq_true rfl) ?_
  intro p e s m below meth c K hr hlk hce hnm hP0 hSy ls hl
  have hl : lv_has ls 3 [(0, .ref x)] := hl
  obtain ⟨hx, hb, hml, hown, hts, hK, hTb⟩ := id K
  have hI := mw_I.start hP0
  obtain ⟨bd, xd, ba, xa, ra, mp, gd, ga, hA⟩ := hR
  obtain ⟨⟨o1, o2, o3, o4, f0, fd, fa, fr, hdk, har⟩, hM⟩ := id hA
  have h64 := hW.1
  have hloop : ∀ (n9 j : Nat), j + n9 = nm S → ∀ (H : Heap) (locs : List Loc), mw_I D mk_cl w s.heap w H locs → ∀ ls : Array Slot, lv_has ls 3 [(2, .int (nI j)), (1, .int (nI 0)), (0, .ref x)] → W p l e { frames := 1, cells := 0, slots := 0, locals := 40 } s m ([.ref x] : List Value).toArray below meth c H locs 0 0 (mx_Q below (mw_Qc D mk_cl w s.heap.size (fun r w' => w' = w ∧ r = .inl (some (.int (nI 0))))) ([.ref x] : List Value).toArray s 0 0 (mw_A w s.heap.size)) (F0 m 4 ls []) := by
    intro n9
    induction n9 with
    | zero =>
      intro j hj H locs hI ls hl
      refine lv_iload_n hx hb d_MS_breaches_4 rfl (lv_at hl 0 rfl) ?_
      refine lv_aload_n hx hb d_MS_breaches_5 rfl (lv_at hl 2 rfl) ?_
      refine mw_get K hI gf_MS_28_cMS f0 rfl d_MS_breaches_6 ?_
      refine lv_icmp_ge (tgt := 29) hx hb d_MS_breaches_9 (by decide) (fun c9 => ?_) (fun c9 => ?_)
      ·
        refine lv_iload_n hx hb d_MS_breaches_29 rfl (lv_at hl 1 rfl) ?_
        exact mw_iret K hI hr hlk ⟨rfl, rfl⟩ d_MS_breaches_30
      ·
        exact absurd (nI_le (by omega) (by omega)) c9
    | succ n9 ih =>
      intro j hj H locs hI ls hl
      refine lv_iload_n hx hb d_MS_breaches_4 rfl (lv_at hl 0 rfl) ?_
      refine lv_aload_n hx hb d_MS_breaches_5 rfl (lv_at hl 2 rfl) ?_
      refine mw_get K hI gf_MS_28_cMS f0 rfl d_MS_breaches_6 ?_
      refine lv_icmp_ge (tgt := 29) hx hb d_MS_breaches_9 (by decide) (fun c9 => ?_) (fun c9 => ?_)
      ·
        exact absurd c9 (nI_ge (by omega) (by omega))
      ·
        refine lv_iload_n hx hb d_MS_breaches_12 rfl (lv_at hl 1 rfl) ?_
        refine lv_aload_n hx hb d_MS_breaches_13 rfl (lv_at hl 2 rfl) ?_
        refine lv_iload_n hx hb d_MS_breaches_14 rfl (lv_at hl 0 rfl) ?_
        refine mw_call (rest := [.int (nI 0)]) K hSy hP0 hI (c_MS_mapOf2 l D dA hA h64 (q := j) (by omega)) (mx_invV hx hown (hts _ tw_89) (hts _ tw_91) (hts _ tw_0) (hts _ tw_92) (by decide) (b := x) (mw_rc K hI f0 rfl) (g := F0 m 15 ls [.int (nI j), .ref x, .int (nI 0)]) rfl (argsL := [.int (nI j)]) (rest := [.int (nI 0)]) np_MS_mapOf rfl (by rw [hb]; exact d_MS_breaches_15)) hl.1 d_MS_breaches_15 ⟨Nat.le_of_ble_eq_true rfl, Nat.le_of_ble_eq_true rfl⟩ (Or.inl ⟨_, _, List.mem_cons_self⟩) (mk_ws tw_92 hts) (fun a9 U9 h9 => Ts_warm hts _ tw_21 a9 U9 h9) ⟨Nat.le_of_ble_eq_true rfl, Nat.le_of_ble_eq_true rfl⟩ (fun v w' H locs hq hI => ?_) (fun k x w' H locs hq hI hX => ?_)
        · obtain ⟨hq1, hq2⟩ := hq
          cases hq2
          rw [hq1] at hI
          refine W.eq (g2 := F0 m 18 ls [.ref (mp j), .int (nI 0)]) rfl ?_
          have hji : j < nm S := by omega
          obtain ⟨om, ⟨k0, fm⟩ | ⟨k0, ka, ak, ax, rch, gk, ff, fm, h9⟩ | ⟨k0, fm⟩⟩ := hM j hji
          ·
            refine mw_call (rest := [.int (nI 0)]) K hSy hP0 hI (c_AN_clashes l D dA (mp j)) (mx_invU (y := y_AN_clashes) hx hown (hts _ tw_161) (hts _ tw_163) (va_Decl.of (hts _ tw_162) (hts _ tw_169)) (by decide) (hts _ tw_164) (hts _ tw_162) (b := (mp j)) (mw_rc K hI fm rfl) (g := F0 m 18 ls [.ref (mp j), .int (nI 0)]) rfl (argsL := []) (rest := [.int (nI 0)]) np_AN_clashes rfl (by rw [hb]; exact d_MS_breaches_18)) hl.1 d_MS_breaches_18 ⟨Nat.le_of_ble_eq_true rfl, Nat.le_of_ble_eq_true rfl⟩ (Or.inl ⟨_, _, List.mem_cons_self⟩) (mk_ws tw_169 hts) (fun a9 U9 h9 => Ts_warm hts _ tw_30 a9 U9 h9) ⟨Nat.le_of_ble_eq_true rfl, Nat.le_of_ble_eq_true rfl⟩ (fun v w' H locs hq hI => ?_) (fun k x w' H locs hq hI hX => ?_)
            · obtain ⟨hq1, hq2⟩ := hq
              cases hq1
              rw [hq2] at hI
              refine W.eq (g2 := F0 m 21 ls [.int (nI 0), .int (nI 0)]) rfl ?_
              refine lv_iadd hx hb d_MS_breaches_21 ?_
              refine mw_ti (nI_add _ _) ?_
              refine lv_istore_n (lv' := [(1, .int (nI (0 + 0))), (2, .int (nI j)), (0, .ref x)]) hx hb d_MS_breaches_22 rfl hl (by decide) rfl (fun ls hl => ?_)
              refine lv_iinc (v := nI (j + 1)) (lv' := [(2, .int (nI (j + 1))), (1, .int (nI (0 + 0))), (0, .ref x)]) hx hb d_MS_breaches_23 hl (k := 1) rfl (nI_add _ _) (by decide) rfl (fun ls hl => ?_)
              refine lv_goto (tgt := 4) hx hb d_MS_breaches_26 (by decide) ?_
              exact ih (j + 1) (by omega) H locs hI ls (lv_sub hl [0, 1, 2] rfl)
            · exact absurd hq.1 (by simp)
          ·
            refine mw_call (rest := [.int (nI 0)]) K hSy hP0 hI (c_TM_clashes l D dA hA hW hji k0) (mx_invU (y := y_TM_clashes) hx hown (hts _ tw_161) (hts _ tw_163) (va_Decl.of (hts _ tw_162) (hts _ tw_169)) (by decide) (hts _ tw_166) (hts _ tw_167) (b := (mp j)) (mw_rc K hI fm rfl) (g := F0 m 18 ls [.ref (mp j), .int (nI 0)]) rfl (argsL := []) (rest := [.int (nI 0)]) np_AN_clashes rfl (by rw [hb]; exact d_MS_breaches_18)) hl.1 d_MS_breaches_18 ⟨Nat.le_of_ble_eq_true rfl, Nat.le_of_ble_eq_true rfl⟩ (Or.inl ⟨_, _, List.mem_cons_self⟩) (mk_ws tw_168 hts) (fun a9 U9 h9 => Ts_warm hts _ tw_33 a9 U9 h9) ⟨Nat.le_of_ble_eq_true rfl, Nat.le_of_ble_eq_true rfl⟩ (fun v w' H locs hq hI => ?_) (fun k x w' H locs hq hI hX => ?_)
            · obtain ⟨hq1, hq2⟩ := hq
              cases hq1
              rw [hq2] at hI
              refine W.eq (g2 := F0 m 21 ls [.int (nI 0), .int (nI 0)]) rfl ?_
              refine lv_iadd hx hb d_MS_breaches_21 ?_
              refine mw_ti (nI_add _ _) ?_
              refine lv_istore_n (lv' := [(1, .int (nI (0 + 0))), (2, .int (nI j)), (0, .ref x)]) hx hb d_MS_breaches_22 rfl hl (by decide) rfl (fun ls hl => ?_)
              refine lv_iinc (v := nI (j + 1)) (lv' := [(2, .int (nI (j + 1))), (1, .int (nI (0 + 0))), (0, .ref x)]) hx hb d_MS_breaches_23 hl (k := 1) rfl (nI_add _ _) (by decide) rfl (fun ls hl => ?_)
              refine lv_goto (tgt := 4) hx hb d_MS_breaches_26 (by decide) ?_
              exact ih (j + 1) (by omega) H locs hI ls (lv_sub hl [0, 1, 2] rfl)
            · exact absurd hq.1 (by simp)
          ·
            refine mw_call (rest := [.int (nI 0)]) K hSy hP0 hI (c_AN_clashes l D dA (mp j)) (mx_invU (y := y_AN_clashes) hx hown (hts _ tw_161) (hts _ tw_163) (va_Decl.of (hts _ tw_162) (hts _ tw_169)) (by decide) (hts _ tw_165) (hts _ tw_162) (b := (mp j)) (mw_rc K hI fm rfl) (g := F0 m 18 ls [.ref (mp j), .int (nI 0)]) rfl (argsL := []) (rest := [.int (nI 0)]) np_AN_clashes rfl (by rw [hb]; exact d_MS_breaches_18)) hl.1 d_MS_breaches_18 ⟨Nat.le_of_ble_eq_true rfl, Nat.le_of_ble_eq_true rfl⟩ (Or.inl ⟨_, _, List.mem_cons_self⟩) (mk_ws tw_169 hts) (fun a9 U9 h9 => Ts_warm hts _ tw_30 a9 U9 h9) ⟨Nat.le_of_ble_eq_true rfl, Nat.le_of_ble_eq_true rfl⟩ (fun v w' H locs hq hI => ?_) (fun k x w' H locs hq hI hX => ?_)
            · obtain ⟨hq1, hq2⟩ := hq
              cases hq1
              rw [hq2] at hI
              refine W.eq (g2 := F0 m 21 ls [.int (nI 0), .int (nI 0)]) rfl ?_
              refine lv_iadd hx hb d_MS_breaches_21 ?_
              refine mw_ti (nI_add _ _) ?_
              refine lv_istore_n (lv' := [(1, .int (nI (0 + 0))), (2, .int (nI j)), (0, .ref x)]) hx hb d_MS_breaches_22 rfl hl (by decide) rfl (fun ls hl => ?_)
              refine lv_iinc (v := nI (j + 1)) (lv' := [(2, .int (nI (j + 1))), (1, .int (nI (0 + 0))), (0, .ref x)]) hx hb d_MS_breaches_23 hl (k := 1) rfl (nI_add _ _) (by decide) rfl (fun ls hl => ?_)
              refine lv_goto (tgt := 4) hx hb d_MS_breaches_26 (by decide) ?_
              exact ih (j + 1) (by omega) H locs hI ls (lv_sub hl [0, 1, 2] rfl)
            · exact absurd hq.1 (by simp)
        · exact absurd hq.2 (by simp)
  refine lv_iconst (v := nI 0) hx hb d_MS_breaches_0 (by decide) ?_
  refine lv_istore_n (lv' := [(1, .int (nI 0)), (0, .ref x)]) hx hb d_MS_breaches_1 rfl hl (by decide) rfl (fun ls hl => ?_)
  refine lv_iconst (v := nI 0) hx hb d_MS_breaches_2 (by decide) ?_
  refine lv_istore_n (lv' := [(2, .int (nI 0)), (1, .int (nI 0)), (0, .ref x)]) hx hb d_MS_breaches_3 rfl hl (by decide) rfl (fun ls hl => ?_)
  exact hloop (nm S) 0 (by omega) _ _ hI ls (lv_sub hl [0, 1, 2] rfl)
end
section
/-! ### MapStore: make -/
theorem d_MS_newMap_0 : decode b_MS_newMap 0 = .ok (.iload_n 1, 1) := by decide +kernel
theorem d_MS_newMap_1 : decode b_MS_newMap 1 = .ok (.lookupswitch 74 #[(0, 27), (1, 50)], 27) := by decide +kernel
theorem d_MS_newMap_28 : decode b_MS_newMap 28 = .ok (.new 113, 3) := by decide +kernel
theorem d_MS_newMap_31 : decode b_MS_newMap 31 = .ok (.dup, 1) := by decide +kernel
theorem d_MS_newMap_32 : decode b_MS_newMap 32 = .ok (.aload_n 0, 1) := by decide +kernel
theorem d_MS_newMap_33 : decode b_MS_newMap 33 = .ok (.getfield 14, 3) := by decide +kernel
theorem d_MS_newMap_36 : decode b_MS_newMap 36 = .ok (.aload_n 0, 1) := by decide +kernel
theorem d_MS_newMap_37 : decode b_MS_newMap 37 = .ok (.getfield 19, 3) := by decide +kernel
theorem d_MS_newMap_40 : decode b_MS_newMap 40 = .ok (.aload_n 0, 1) := by decide +kernel
theorem d_MS_newMap_41 : decode b_MS_newMap 41 = .ok (.getfield 32, 3) := by decide +kernel
theorem d_MS_newMap_44 : decode b_MS_newMap 44 = .ok (.iload_n 3, 1) := by decide +kernel
theorem d_MS_newMap_45 : decode b_MS_newMap 45 = .ok (.iload 4, 2) := by decide +kernel
theorem d_MS_newMap_47 : decode b_MS_newMap 47 = .ok (.invokespecial 115, 3) := by decide +kernel
theorem d_MS_newMap_50 : decode b_MS_newMap 50 = .ok (.areturn, 1) := by decide +kernel
theorem d_MS_newMap_51 : decode b_MS_newMap 51 = .ok (.new 118, 3) := by decide +kernel
theorem d_MS_newMap_54 : decode b_MS_newMap 54 = .ok (.dup, 1) := by decide +kernel
theorem d_MS_newMap_55 : decode b_MS_newMap 55 = .ok (.aload_n 0, 1) := by decide +kernel
theorem d_MS_newMap_56 : decode b_MS_newMap 56 = .ok (.getfield 14, 3) := by decide +kernel
theorem d_MS_newMap_59 : decode b_MS_newMap 59 = .ok (.aload_n 0, 1) := by decide +kernel
theorem d_MS_newMap_60 : decode b_MS_newMap 60 = .ok (.getfield 19, 3) := by decide +kernel
theorem d_MS_newMap_63 : decode b_MS_newMap 63 = .ok (.aload_n 0, 1) := by decide +kernel
theorem d_MS_newMap_64 : decode b_MS_newMap 64 = .ok (.getfield 32, 3) := by decide +kernel
theorem d_MS_newMap_67 : decode b_MS_newMap 67 = .ok (.iload_n 2, 1) := by decide +kernel
theorem d_MS_newMap_68 : decode b_MS_newMap 68 = .ok (.iload_n 3, 1) := by decide +kernel
theorem d_MS_newMap_69 : decode b_MS_newMap 69 = .ok (.iload 4, 2) := by decide +kernel
theorem d_MS_newMap_71 : decode b_MS_newMap 71 = .ok (.invokespecial 120, 3) := by decide +kernel
theorem d_MS_newMap_74 : decode b_MS_newMap 74 = .ok (.areturn, 1) := by decide +kernel
theorem d_MS_newMap_75 : decode b_MS_newMap 75 = .ok (.new 123, 3) := by decide +kernel
theorem d_MS_newMap_78 : decode b_MS_newMap 78 = .ok (.dup, 1) := by decide +kernel
theorem d_MS_newMap_79 : decode b_MS_newMap 79 = .ok (.aload_n 0, 1) := by decide +kernel
theorem d_MS_newMap_80 : decode b_MS_newMap 80 = .ok (.getfield 14, 3) := by decide +kernel
theorem d_MS_newMap_83 : decode b_MS_newMap 83 = .ok (.aload_n 0, 1) := by decide +kernel
theorem d_MS_newMap_84 : decode b_MS_newMap 84 = .ok (.getfield 19, 3) := by decide +kernel
theorem d_MS_newMap_87 : decode b_MS_newMap 87 = .ok (.aload_n 0, 1) := by decide +kernel
theorem d_MS_newMap_88 : decode b_MS_newMap 88 = .ok (.getfield 32, 3) := by decide +kernel
theorem d_MS_newMap_91 : decode b_MS_newMap 91 = .ok (.iload 4, 2) := by decide +kernel
theorem d_MS_newMap_93 : decode b_MS_newMap 93 = .ok (.invokespecial 125, 3) := by decide +kernel
theorem d_MS_newMap_96 : decode b_MS_newMap 96 = .ok (.areturn, 1) := by decide +kernel
theorem d_MS_make_0 : decode b_MS_make 0 = .ok (.iload_n 1, 1) := by decide +kernel
theorem d_MS_make_1 : decode b_MS_make 1 = .ok (.iload_n 2, 1) := by decide +kernel
theorem d_MS_make_2 : decode b_MS_make 2 = .ok (.iload_n 3, 1) := by decide +kernel
theorem d_MS_make_3 : decode b_MS_make 3 = .ok (.iload 4, 2) := by decide +kernel
theorem d_MS_make_5 : decode b_MS_make 5 = .ok (.invokestatic 35, 3) := by decide +kernel
theorem d_MS_make_8 : decode b_MS_make 8 = .ok (.ifCond .ne 13, 3) := by decide +kernel
theorem d_MS_make_11 : decode b_MS_make 11 = .ok (.new 39, 3) := by decide +kernel
theorem d_MS_make_14 : decode b_MS_make 14 = .ok (.dup, 1) := by decide +kernel
theorem d_MS_make_15 : decode b_MS_make 15 = .ok (.ldc 41, 2) := by decide +kernel
theorem d_MS_make_17 : decode b_MS_make 17 = .ok (.invokespecial 43, 3) := by decide +kernel
theorem d_MS_make_20 : decode b_MS_make 20 = .ok (.athrow, 1) := by decide +kernel
theorem d_MS_make_21 : decode b_MS_make 21 = .ok (.iload_n 1, 1) := by decide +kernel
theorem d_MS_make_22 : decode b_MS_make 22 = .ok (.iconst 2, 1) := by decide +kernel
theorem d_MS_make_23 : decode b_MS_make 23 = .ok (.if_icmp .ne 8, 3) := by decide +kernel
theorem d_MS_make_26 : decode b_MS_make 26 = .ok (.iload 4, 2) := by decide +kernel
theorem d_MS_make_28 : decode b_MS_make 28 = .ok (.goto 10, 3) := by decide +kernel
theorem d_MS_make_31 : decode b_MS_make 31 = .ok (.iload 4, 2) := by decide +kernel
theorem d_MS_make_33 : decode b_MS_make 33 = .ok (.iload_n 3, 1) := by decide +kernel
theorem d_MS_make_34 : decode b_MS_make 34 = .ok (.invokestatic 46, 3) := by decide +kernel
theorem d_MS_make_37 : decode b_MS_make 37 = .ok (.imul, 1) := by decide +kernel
theorem d_MS_make_38 : decode b_MS_make 38 = .ok (.istore 5, 2) := by decide +kernel
theorem d_MS_make_40 : decode b_MS_make 40 = .ok (.aload_n 0, 1) := by decide +kernel
theorem d_MS_make_41 : decode b_MS_make 41 = .ok (.getfield 28, 3) := by decide +kernel
theorem d_MS_make_44 : decode b_MS_make 44 = .ok (.bipush 64, 2) := by decide +kernel
theorem d_MS_make_46 : decode b_MS_make 46 = .ok (.if_icmp .ge 15, 3) := by decide +kernel
theorem d_MS_make_49 : decode b_MS_make 49 = .ok (.iload 5, 2) := by decide +kernel
theorem d_MS_make_51 : decode b_MS_make 51 = .ok (.ldc 18, 2) := by decide +kernel
theorem d_MS_make_53 : decode b_MS_make 53 = .ok (.aload_n 0, 1) := by decide +kernel
theorem d_MS_make_54 : decode b_MS_make 54 = .ok (.getfield 32, 3) := by decide +kernel
theorem d_MS_make_57 : decode b_MS_make 57 = .ok (.isub, 1) := by decide +kernel
theorem d_MS_make_58 : decode b_MS_make 58 = .ok (.if_icmp .le 13, 3) := by decide +kernel
theorem d_MS_make_61 : decode b_MS_make 61 = .ok (.new 50, 3) := by decide +kernel
theorem d_MS_make_64 : decode b_MS_make 64 = .ok (.dup, 1) := by decide +kernel
theorem d_MS_make_65 : decode b_MS_make 65 = .ok (.ldc 52, 2) := by decide +kernel
theorem d_MS_make_67 : decode b_MS_make 67 = .ok (.invokespecial 54, 3) := by decide +kernel
theorem d_MS_make_70 : decode b_MS_make 70 = .ok (.athrow, 1) := by decide +kernel
theorem d_MS_make_71 : decode b_MS_make 71 = .ok (.aload_n 0, 1) := by decide +kernel
theorem d_MS_make_72 : decode b_MS_make 72 = .ok (.getfield 24, 3) := by decide +kernel
theorem d_MS_make_75 : decode b_MS_make 75 = .ok (.aload_n 0, 1) := by decide +kernel
theorem d_MS_make_76 : decode b_MS_make 76 = .ok (.getfield 28, 3) := by decide +kernel
theorem d_MS_make_79 : decode b_MS_make 79 = .ok (.aload_n 0, 1) := by decide +kernel
theorem d_MS_make_80 : decode b_MS_make 80 = .ok (.iload_n 1, 1) := by decide +kernel
theorem d_MS_make_81 : decode b_MS_make 81 = .ok (.iload_n 2, 1) := by decide +kernel
theorem d_MS_make_82 : decode b_MS_make 82 = .ok (.iload_n 3, 1) := by decide +kernel
theorem d_MS_make_83 : decode b_MS_make 83 = .ok (.iload 4, 2) := by decide +kernel
theorem d_MS_make_85 : decode b_MS_make 85 = .ok (.invokevirtual 55, 3) := by decide +kernel
theorem d_MS_make_88 : decode b_MS_make 88 = .ok (.aastore, 1) := by decide +kernel
theorem d_MS_make_89 : decode b_MS_make 89 = .ok (.aload_n 0, 1) := by decide +kernel
theorem d_MS_make_90 : decode b_MS_make 90 = .ok (.dup, 1) := by decide +kernel
theorem d_MS_make_91 : decode b_MS_make 91 = .ok (.getfield 32, 3) := by decide +kernel
theorem d_MS_make_94 : decode b_MS_make 94 = .ok (.iload 5, 2) := by decide +kernel
theorem d_MS_make_96 : decode b_MS_make 96 = .ok (.iadd, 1) := by decide +kernel
theorem d_MS_make_97 : decode b_MS_make 97 = .ok (.putfield 32, 3) := by decide +kernel
theorem d_MS_make_100 : decode b_MS_make 100 = .ok (.aload_n 0, 1) := by decide +kernel
theorem d_MS_make_101 : decode b_MS_make 101 = .ok (.dup, 1) := by decide +kernel
theorem d_MS_make_102 : decode b_MS_make 102 = .ok (.getfield 28, 3) := by decide +kernel
theorem d_MS_make_105 : decode b_MS_make 105 = .ok (.iconst 1, 1) := by decide +kernel
theorem d_MS_make_106 : decode b_MS_make 106 = .ok (.iadd, 1) := by decide +kernel
theorem d_MS_make_107 : decode b_MS_make 107 = .ok (.putfield 28, 3) := by decide +kernel
theorem d_MS_make_110 : decode b_MS_make 110 = .ok (.aload_n 0, 1) := by decide +kernel
theorem d_MS_make_111 : decode b_MS_make 111 = .ok (.getfield 28, 3) := by decide +kernel
theorem d_MS_make_114 : decode b_MS_make 114 = .ok (.iconst 1, 1) := by decide +kernel
theorem d_MS_make_115 : decode b_MS_make 115 = .ok (.isub, 1) := by decide +kernel
theorem d_MS_make_116 : decode b_MS_make 116 = .ok (.ireturn, 1) := by decide +kernel
/-- the map that make makes -/
def newM (k a v n g : Nat) : as_M := ((k, a, v, n, g), fun _ => none, (0, 0, 0, false), List.replicate a 0)
def okM (k a v n : Nat) : Prop := (k = 0 ∧ a = 4 ∧ 1 ≤ v ∧ v ≤ 256 ∧ 1 ≤ n ∧ n ≤ 4096) ∨ (k = 1 ∧ 1 ≤ a ∧ a ≤ 64 ∧ 1 ≤ v ∧ v ≤ 256 ∧ 1 ≤ n ∧ n ≤ 4096) ∨ (k = 2 ∧ a = 0 ∧ v = 0 ∧ ∃ p, 6 ≤ p ∧ p ≤ 14 ∧ n = 2 ^ p)
theorem okM_le {k a v n : Nat} (h : okM k a v n) : k ≤ 2 ∧ a ≤ 64 ∧ v ≤ 256 ∧ n ≤ 16384 ∧ (k ≠ 2 → n ≤ 4096) := by
  rcases h with h | h | ⟨h1, h2, h3, h4⟩
  · omega
  · omega
  · have := p2_8 h4; omega
theorem fit_ok {k a v n : Int32} (h : fitS k a v n) : k = nI k.toNatClampNeg ∧ a = nI a.toNatClampNeg ∧ v = nI v.toNatClampNeg ∧ n = nI n.toNatClampNeg ∧ okM k.toNatClampNeg a.toNatClampNeg v.toNatClampNeg n.toNatClampNeg := by
  rcases h with ⟨rfl, rfl, h1, h2⟩ | ⟨rfl, h0, h1, h2⟩ | ⟨rfl, rfl, rfl, h1, h2⟩
  · obtain ⟨a1, a2, a3⟩ := inB_nI h1 (by decide)
    obtain ⟨b1, b2, b3⟩ := inB_nI h2 (by decide)
    exact ⟨by decide, by decide, a1, b1, Or.inl ⟨by decide, by decide, a2, a3, b2, b3⟩⟩
  · obtain ⟨c1, c2, c3⟩ := inB_nI h0 (by decide)
    obtain ⟨a1, a2, a3⟩ := inB_nI h1 (by decide)
    obtain ⟨b1, b2, b3⟩ := inB_nI h2 (by decide)
    exact ⟨by decide, c1, a1, b1, Or.inr (Or.inl ⟨by decide, c2, c3, a2, a3, b2, b3⟩)⟩
  · obtain ⟨b1, b2, b3⟩ := inB_nI h1 (by decide)
    exact ⟨by decide, by decide, by decide, b1, Or.inr (Or.inr ⟨by decide, by decide, by decide, h2⟩)⟩
def mkB (k v n : Nat) : Nat := if k = 2 then n else n * up8 v
def S_mk (S : as_S) (k a v n : Nat) : as_S := (dk S, ar S, nm S + 1, gv S + mkB k v n, va_up (mm S) (nm S) (newM k a v n (gv S)))
noncomputable def fitB (k a v n : Int32) : Bool := @decide (fitS k a v n) (Classical.propDecidable _)
theorem fitB_iff {k a v n : Int32} : fitB k a v n = true ↔ fitS k a v n := by unfold fitB; exact @decide_eq_true_iff _ (Classical.propDecidable _)
noncomputable def sp_MAKE (S : as_S) (k a v n : Int32) : as_S × (Int32 ⊕ Nat) := if fitB k a v n = true then
    (if 64 ≤ nm S ∨ 65536 - gv S < mkB k.toNatClampNeg v.toNatClampNeg n.toNatClampNeg then (S, .inr 1) else (S_mk S k.toNatClampNeg a.toNatClampNeg v.toNatClampNeg n.toNatClampNeg, .inl (nI (nm S))))
  else (S, .inr 0)
theorem tb_n_0 : ∀ n, tb_n (fun _ => none) n = 0
  | 0 => rfl
  | n + 1 => by rw [tb_n, tb_n_0 n]; rfl
theorem by_l_0 (k : Nat) : by_l (fun _ => 0) k (List.replicate k 0) := by
  have z : ∀ j, bw_b (fun _ => (0 : Int64)) j = 0 := fun j => by
    show (0 : Int64).toUInt64.toNat / 2 ^ (8 * (j % 8)) % 256 = 0
    rw [show (0 : Int64).toUInt64.toNat = 0 from rfl, Nat.zero_div]
  refine ⟨List.length_replicate, fun j hj => ?_, fun j _ _ => z j⟩
  rw [z j, List.getD_eq_getElem?_getD, List.getElem?_replicate, if_pos hj]; rfl
theorem rc_A.add {dA : Nat → ClassId} {w w' wE : mw_W} {own own' : as_W} {x bd xd ba xa ra a' g' : Nat} {mp : Nat → Nat} {gd ga : Nat → Int64} {S : as_S} {m' : as_M} (hA : rc_A dA w own x bd xd ba xa ra mp gd ga S) (hm : rc_M dA w' own' bd ba (nm S) a' m') (hF : ∀ (q : Nat) (y : va_E), w q = some y → w' q = some y ∧ own' q = own q)
    (hx : wE x = some (.inr (cMS, [.ref bd, .ref ba, .ref ra, .int (nI (nm S + 1)), .int (nI g')]))) (hr : wE ra = some (.inl (dA tAN, 64, .inr (.inr (.inr (.inr (fun i => if i < nm S + 1 then some (va_up mp (nm S) a' i) else none)))))))
    (hE : ∀ q, q ≠ x → q ≠ ra → wE q = w' q) : rc_A dA wE own' x bd xd ba xa ra (va_up mp (nm S) a') gd ga (dk S, ar S, nm S + 1, g', va_up (mm S) (nm S) m') := by
  obtain ⟨⟨h1, h2, h3, h4, h5, h6, h7, h8, h9, h10⟩, hM⟩ := hA
  have ox : own' x = (8, 0, 0) := (hF _ _ h5).2.trans h1
  have oxd : own' xd = (1, 0, 0) := (hF _ _ h6.2).2.trans h2
  have oxa : own' xa = (2, 0, 0) := (hF _ _ h7.2).2.trans h3
  have ora : own' ra = (6, 0, 0) := (hF _ _ h8).2.trans h4
  have hx' := (hF _ _ h5).1
  have hr' := (hF _ _ h8).1
  have kB : ∀ {b : Nat} {fs : List Value}, w' b = some (.inr (cBY, fs)) → wE b = some (.inr (cBY, fs)) := fun {b fs} hb => by
    rw [hE b (mw_neC hb hx' (by decide)) (mw_neA hb hr')]; exact hb
  have kO : ∀ {q : Nat} {y : va_E}, w' q = some y → (own' q).1 ≠ 8 → (own' q).1 ≠ 6 → wE q = some y := fun {q y} hq o8 o6 => by
    rw [hE q (fun z => o8 (by rw [z, ox])) (fun z => o6 (by rw [z, ora]))]; exact hq
  have kM : ∀ {i a : Nat} {m : as_M}, rc_M dA w' own' bd ba i a m → rc_M dA wE own' bd ba i a m := fun {i a m} h => by
    refine h.keep (fun q y hq hr => ?_) (fun _ _ _ => rfl)
    rcases hr with (e | e | e | ⟨e', e⟩) | ⟨fs, e⟩
    · exact kO hq (by rw [e]; simp) (by rw [e]; simp)
    · exact kO hq (by rw [e]; simp) (by rw [e]; simp)
    · exact kO hq (by rw [e]; simp) (by rw [e]; simp)
    · exact kO hq (by rw [e]; simp) (by rw [e]; simp)
    · rw [e] at hq ⊢; exact kB hq
  refine ⟨⟨ox, oxd, oxa, ora, hx, ⟨kB (hF _ _ h6.1).1, kO (hF _ _ h6.2).1 (by rw [oxd]; decide) (by rw [oxd]; decide)⟩, ⟨kB (hF _ _ h7.1).1, kO (hF _ _ h7.2).1 (by rw [oxa]; decide) (by rw [oxa]; decide)⟩, hr, h9, h10⟩, fun i hi => ?_⟩
  by_cases e : i = nm S
  · subst e
    show rc_M dA wE own' bd ba (nm S) (va_up mp (nm S) a' (nm S)) (va_up (mm S) (nm S) m' (nm S))
    rw [va_up_self, va_up_self]; exact kM hm
  · show rc_M dA wE own' bd ba i (va_up mp (nm S) a' i) (va_up (mm S) (nm S) m' i)
    have hi : i < nm S + 1 := hi
    rw [va_up_ne _ _ e, va_up_ne _ _ e]
    exact kM ((hM i (by omega)).keep (fun q y hq _ => (hF q y hq).1) (fun q y hq => (hF q y hq).2))
set_option maxRecDepth 100000 in
set_option maxHeartbeats 4000000 in
theorem c_MS_newMap (l : Launch) (D : va_G) (dA : Nat → ClassId) {w : mw_W} {own : as_W} {x bd xd ba xa ra : Nat} {mp : Nat → Nat} {gd ga : Nat → Int64} {S : as_S} (hA : rc_A dA w own x bd xd ba xa ra mp gd ga S) {k a v n : Nat} (hok : okM k a v n) : CT l D dA y_MS_newMap (Cond.code y_MS_newMap b_MS_newMap 5 (some (.object "MapStore$AnyMap")) :: Ts) 4 110 4 4120 [.ref x, .int (nI k), .int (nI a), .int (nI v), .int (nI n)] w (fun r w' => ∃ (a' : Nat) (own' : as_W), r = .inl (some (.ref a')) ∧ rc_M dA w' own' bd ba (nm S) a' (newM k a v n (gv S)) ∧ ∀ (q : Nat) (y : va_E), w q = some y → w' q = some y ∧ own' q = own q) := by
  refine mw_meth (by decide) mk_tb (Nat.le_of_ble_eq_true rfl) ?_
  intro p e s m below meth c K hr hlk hce hnm hP0 hSy ls hl
  have hl : lv_has ls 5 [(0, .ref x), (1, .int (nI k)), (2, .int (nI a)), (3, .int (nI v)), (4, .int (nI n))] := hl
  obtain ⟨hx, hb, hml, hown, hts, hK, hTb⟩ := id K
  have hI := mw_I.start hP0
  obtain ⟨⟨o1, o2, o3, o4, f0, fd, fa, fr, hdk, har⟩, hM⟩ := id hA
  have hle := okM_le hok
  refine lv_iload_n hx hb d_MS_newMap_0 rfl (lv_at hl 1 rfl) ?_
  rcases hok with ⟨rfl, rfl, hok⟩ | ⟨rfl, hok⟩ | ⟨rfl, rfl, rfl, hok⟩
  · refine lv_lookup (off := 27) (tgt := 28) hx hb d_MS_newMap_1 (by decide) (by decide) (by decide) ?_
    refine mw_new K hI (ci := cAM) (fs := [.null, .null, .int 0, .int 0, .int 0, .int 0]) rfl tw_228 tw_229 tw_32 (by decide) (Nat.le_of_ble_eq_true rfl) (Nat.le_of_ble_eq_true rfl) d_MS_newMap_28 (fun b H hq hI => ?_)
    have hq_b := hq
    have hI : mw_I D mk_cl w s.heap (mw_up w b (.inr (cAM, [.null, .null, .int 0, .int 0, .int 0, .int 0]))) H _ := hI
    have ne_x_b : x ≠ b := mw_neN f0 hq_b
    have f0 : (mw_up w b (.inr (cAM, [.null, .null, .int 0, .int 0, .int 0, .int 0]))) x = some (.inr (cMS, [.ref bd, .ref ba, .ref ra, .int (nI (nm S)), .int (nI (gv S))])) := by rw [mw_up_n _ _ (ne_x_b)]; exact f0
    have fb : (mw_up w b (.inr (cAM, [.null, .null, .int 0, .int 0, .int 0, .int 0]))) b = some (.inr (cAM, [.null, .null, .int 0, .int 0, .int 0, .int 0])) := mw_up_s _ _ _
    refine lv_dup hx hb d_MS_newMap_31 rfl ?_
    refine lv_aload_n hx hb d_MS_newMap_32 rfl (lv_at hl 0 rfl) ?_
    refine mw_get K hI gf_MS_14_cMS f0 rfl d_MS_newMap_33 ?_
    refine lv_aload_n hx hb d_MS_newMap_36 rfl (lv_at hl 0 rfl) ?_
    refine mw_get K hI gf_MS_19_cMS f0 rfl d_MS_newMap_37 ?_
    refine lv_aload_n hx hb d_MS_newMap_40 rfl (lv_at hl 0 rfl) ?_
    refine mw_get K hI gf_MS_32_cMS f0 rfl d_MS_newMap_41 ?_
    refine lv_iload_n hx hb d_MS_newMap_44 rfl (lv_at hl 3 rfl) ?_
    refine lv_iload hx hb d_MS_newMap_45 (lv_at hl 4 rfl) ?_
    refine mw_call (rest := [.ref b]) K hSy hP0 hI (c_AM_init l D dA fb) (mx_invI hx hown rfl (hts _ tw_230) (hts _ tw_231) (hts _ tw_232) (by decide) (g := F0 m 47 ls [.int (nI n), .int (nI v), .int (nI (gv S)), .ref ba, .ref bd, .ref b, .ref b]) rfl (a := b) (argsL := [.ref bd, .ref ba, .int (nI (gv S)), .int (nI v), .int (nI n)]) (rest := [.ref b]) np_AM_init rfl (by rw [hb]; exact d_MS_newMap_47)) hl.1 d_MS_newMap_47 ⟨Nat.le_of_ble_eq_true rfl, Nat.le_of_ble_eq_true rfl⟩ (Or.inl ⟨_, _, List.mem_cons_self⟩) (mk_ws tw_232 hts) (fun a9 U9 h9 => Ts_warm hts _ tw_32 a9 U9 h9) ⟨Nat.le_of_ble_eq_true rfl, Nat.le_of_ble_eq_true rfl⟩ (fun v w' H locs hq hI => ?_) (fun k x w' H locs hq hI hX => ?_)
    · obtain ⟨hq1, hq2⟩ := hq
      cases hq1
      rw [hq2, mw_uu] at hI
      refine W.eq (g2 := F0 m 50 ls [.ref b]) rfl ?_
      refine W.widen (k := 4) (n := 4120) (by decide) (by decide) ?_
      refine mw_aret K hI hr (Or.inl ⟨_, rfl⟩) hlk (Or.inr ⟨_, rfl⟩) ⟨b, va_up own b (7, nm S, 0), rfl, ⟨va_up_self _ _ _, Or.inl ⟨rfl, mw_up_s _ _ _⟩⟩, fun q y hy => ?_⟩ d_MS_newMap_50
      have hne : q ≠ b := mw_neN hy hq_b
      exact ⟨by rw [mw_up_n _ _ hne]; exact hy, va_up_ne _ _ hne⟩
    · exact absurd hq.1 (by simp)
  · refine lv_lookup (off := 50) (tgt := 51) hx hb d_MS_newMap_1 (by decide) (by decide) (by decide) ?_
    refine mw_new K hI (ci := cTM) (fs := [.null, .null, .int 0, .int 0, .int 0, .int 0, .null, .null, .int 0, .int 0, .int 0]) rfl tw_282 tw_283 tw_33 (by decide) (Nat.le_of_ble_eq_true rfl) (Nat.le_of_ble_eq_true rfl) d_MS_newMap_51 (fun b2 H hq hI => ?_)
    have hq_b2 := hq
    have hI : mw_I D mk_cl w s.heap (mw_up w b2 (.inr (cTM, [.null, .null, .int 0, .int 0, .int 0, .int 0, .null, .null, .int 0, .int 0, .int 0]))) H _ := hI
    have ne_x_b2 : x ≠ b2 := mw_neN f0 hq_b2
    have f0 : (mw_up w b2 (.inr (cTM, [.null, .null, .int 0, .int 0, .int 0, .int 0, .null, .null, .int 0, .int 0, .int 0]))) x = some (.inr (cMS, [.ref bd, .ref ba, .ref ra, .int (nI (nm S)), .int (nI (gv S))])) := by rw [mw_up_n _ _ (ne_x_b2)]; exact f0
    have fb : (mw_up w b2 (.inr (cTM, [.null, .null, .int 0, .int 0, .int 0, .int 0, .null, .null, .int 0, .int 0, .int 0]))) b2 = some (.inr (cTM, [.null, .null, .int 0, .int 0, .int 0, .int 0, .null, .null, .int 0, .int 0, .int 0])) := mw_up_s _ _ _
    refine lv_dup hx hb d_MS_newMap_54 rfl ?_
    refine lv_aload_n hx hb d_MS_newMap_55 rfl (lv_at hl 0 rfl) ?_
    refine mw_get K hI gf_MS_14_cMS f0 rfl d_MS_newMap_56 ?_
    refine lv_aload_n hx hb d_MS_newMap_59 rfl (lv_at hl 0 rfl) ?_
    refine mw_get K hI gf_MS_19_cMS f0 rfl d_MS_newMap_60 ?_
    refine lv_aload_n hx hb d_MS_newMap_63 rfl (lv_at hl 0 rfl) ?_
    refine mw_get K hI gf_MS_32_cMS f0 rfl d_MS_newMap_64 ?_
    refine lv_iload_n hx hb d_MS_newMap_67 rfl (lv_at hl 2 rfl) ?_
    refine lv_iload_n hx hb d_MS_newMap_68 rfl (lv_at hl 3 rfl) ?_
    refine lv_iload hx hb d_MS_newMap_69 (lv_at hl 4 rfl) ?_
    refine mw_call (rest := [.ref b2]) K hSy hP0 hI (c_TM_init l D dA fb (kz := a) (n := n) (by omega) (by omega)) (mx_invI hx hown rfl (hts _ tw_284) (hts _ tw_285) (hts _ tw_286) (by decide) (g := F0 m 71 ls [.int (nI n), .int (nI v), .int (nI a), .int (nI (gv S)), .ref ba, .ref bd, .ref b2, .ref b2]) rfl (a := b2) (argsL := [.ref bd, .ref ba, .int (nI (gv S)), .int (nI a), .int (nI v), .int (nI n)]) (rest := [.ref b2]) np_TM_init rfl (by rw [hb]; exact d_MS_newMap_71)) hl.1 d_MS_newMap_71 ⟨Nat.le_of_ble_eq_true rfl, Nat.le_of_ble_eq_true rfl⟩ (Or.inl ⟨_, _, List.mem_cons_self⟩) (mk_ws tw_286 hts) (fun a9 U9 h9 => Ts_warm hts _ tw_33 a9 U9 h9) ⟨Nat.le_of_ble_eq_true rfl, by dsimp only; omega⟩ (fun v w' H locs hq hI => ?_) (fun k x w' H locs hq hI hX => ?_)
    · obtain ⟨hq1, ka, ak, ax, z1, z2, z3, g1, g2, g3, g4⟩ := hq
      cases hq1
      refine W.eq (g2 := F0 m 74 ls [.ref b2]) rfl ?_
      refine W.widen (k := 4) (n := 4120) (by omega) (by omega) ?_
      have nb1 : b2 ≠ ka := mw_neN fb z1
      have nb3 : b2 ≠ ax := mw_neN fb z3
      have n13 : ka ≠ ax := mw_ne g2 g3.2 (by simp)
      have wn : ∀ {q : Nat} {y : va_E}, w q = some y → q ≠ b2 ∧ q ≠ ka ∧ q ≠ ax := fun {q y} hy => by
        have hb9 : q ≠ b2 := mw_neN hy hq_b2
        have hy2 : (mw_up w b2 (.inr (cTM, [.null, .null, .int 0, .int 0, .int 0, .int 0, .null, .null, .int 0, .int 0, .int 0]))) q = some y := by rw [mw_up_n _ _ hb9]; exact hy
        exact ⟨hb9, mw_neN hy2 z1, mw_neN hy2 z3⟩
      refine mw_aret K hI hr (Or.inl ⟨_, rfl⟩) hlk (Or.inr ⟨_, rfl⟩) ⟨b2, va_up (va_up (va_up own b2 (7, nm S, 0)) ka (5, nm S, 0)) ax (3, nm S, 0), rfl, ⟨?_, Or.inr (Or.inl ⟨rfl, ka, ak, ax, 0, fun _ => 0, fun _ => none, ?_, ?_, va_up_self _ _ _, g3, by_l_0 a, g2, Nat.zero_le _, fun _ _ _ => rfl, fun e k he => by cases he⟩)⟩, fun q y hy => ?_⟩ d_MS_newMap_74
      · rw [va_up_ne _ _ nb3, va_up_ne _ _ nb1, va_up_self]
      · rw [g1]
        show _ = some (Sum.inr (cTM, ([.ref bd, .ref ba, .int (nI (gv S)), .int (nI a), .int (nI v), .int (nI n), .ref ka, .ref ak, .int (nI 0), .int (nI (tb_n (fun _ => none) n)), .int (nI 0)] : List Value)))
        rw [tb_n_0]
      · rw [va_up_ne _ _ n13, va_up_self]
      · obtain ⟨m1, m2, m3⟩ := wn hy
        exact ⟨g4 q y (by rw [mw_up_n _ _ m1]; exact hy) m1, by rw [va_up_ne _ _ m3, va_up_ne _ _ m2, va_up_ne _ _ m1]⟩
    · exact absurd hq.1 (by simp)
  · refine lv_lookup (off := 74) (tgt := 75) hx hb d_MS_newMap_1 (by decide) (by decide) (by decide) ?_
    refine mw_new K hI (ci := cRM) (fs := [.null, .null, .int 0, .int 0, .long 0, .long 0, .int 0, .int 0]) rfl tw_313 tw_314 tw_34 (by decide) (Nat.le_of_ble_eq_true rfl) (Nat.le_of_ble_eq_true rfl) d_MS_newMap_75 (fun b3 H hq hI => ?_)
    have hq_b3 := hq
    have hI : mw_I D mk_cl w s.heap (mw_up w b3 (.inr (cRM, [.null, .null, .int 0, .int 0, .long 0, .long 0, .int 0, .int 0]))) H _ := hI
    have ne_x_b3 : x ≠ b3 := mw_neN f0 hq_b3
    have f0 : (mw_up w b3 (.inr (cRM, [.null, .null, .int 0, .int 0, .long 0, .long 0, .int 0, .int 0]))) x = some (.inr (cMS, [.ref bd, .ref ba, .ref ra, .int (nI (nm S)), .int (nI (gv S))])) := by rw [mw_up_n _ _ (ne_x_b3)]; exact f0
    have fb : (mw_up w b3 (.inr (cRM, [.null, .null, .int 0, .int 0, .long 0, .long 0, .int 0, .int 0]))) b3 = some (.inr (cRM, [.null, .null, .int 0, .int 0, .long 0, .long 0, .int 0, .int 0])) := mw_up_s _ _ _
    refine lv_dup hx hb d_MS_newMap_78 rfl ?_
    refine lv_aload_n hx hb d_MS_newMap_79 rfl (lv_at hl 0 rfl) ?_
    refine mw_get K hI gf_MS_14_cMS f0 rfl d_MS_newMap_80 ?_
    refine lv_aload_n hx hb d_MS_newMap_83 rfl (lv_at hl 0 rfl) ?_
    refine mw_get K hI gf_MS_19_cMS f0 rfl d_MS_newMap_84 ?_
    refine lv_aload_n hx hb d_MS_newMap_87 rfl (lv_at hl 0 rfl) ?_
    refine mw_get K hI gf_MS_32_cMS f0 rfl d_MS_newMap_88 ?_
    refine lv_iload hx hb d_MS_newMap_91 (lv_at hl 4 rfl) ?_
    refine mw_call (rest := [.ref b3]) K hSy hP0 hI (c_RM_init l D dA fb) (mx_invI hx hown rfl (hts _ tw_315) (hts _ tw_316) (hts _ tw_317) (by decide) (g := F0 m 93 ls [.int (nI n), .int (nI (gv S)), .ref ba, .ref bd, .ref b3, .ref b3]) rfl (a := b3) (argsL := [.ref bd, .ref ba, .int (nI (gv S)), .int (nI n)]) (rest := [.ref b3]) np_RM_init rfl (by rw [hb]; exact d_MS_newMap_93)) hl.1 d_MS_newMap_93 ⟨Nat.le_of_ble_eq_true rfl, Nat.le_of_ble_eq_true rfl⟩ (Or.inl ⟨_, _, List.mem_cons_self⟩) (mk_ws tw_317 hts) (fun a9 U9 h9 => Ts_warm hts _ tw_34 a9 U9 h9) ⟨Nat.le_of_ble_eq_true rfl, Nat.le_of_ble_eq_true rfl⟩ (fun v w' H locs hq hI => ?_) (fun k x w' H locs hq hI hX => ?_)
    · obtain ⟨hq1, hq2⟩ := hq
      cases hq1
      rw [hq2, mw_uu] at hI
      refine W.eq (g2 := F0 m 96 ls [.ref b3]) rfl ?_
      refine W.widen (k := 4) (n := 4120) (by decide) (by decide) ?_
      refine mw_aret K hI hr (Or.inl ⟨_, rfl⟩) hlk (Or.inr ⟨_, rfl⟩) ⟨b3, va_up own b3 (7, nm S, 0), rfl, ⟨va_up_self _ _ _, Or.inr (Or.inr ⟨rfl, mw_up_s _ _ _⟩)⟩, fun q y hy => ?_⟩ d_MS_newMap_96
      have hne : q ≠ b3 := mw_neN hy hq_b3
      exact ⟨by rw [mw_up_n _ _ hne]; exact hy, va_up_ne _ _ hne⟩
    · exact absurd hq.1 (by simp)
set_option maxRecDepth 100000 in
set_option maxHeartbeats 4000000 in
theorem c_MS_make (l : Launch) (D : va_G) (dA : Nat → ClassId) (hL : mw_L l) {w : mw_W} {own : as_W} {x t : Nat} {S : as_S} (hR : RepC dA w own x S) (hW : wf_S t S) (k a v n : Int32) : CT l D dA y_MS_make (Cond.code y_MS_make b_MS_make 6 (some .int) :: Ts) 6 150 4 4120 [.ref x, .int k, .int a, .int v, .int n] w (PR dA w own x (sp_MAKE S k a v n)) := by
  refine mw_meth (by decide) mk_tb (Nat.le_of_ble_eq_true rfl) ?_
  intro p e s m below meth c K hr hlk hce hnm hP0 hSy ls hl
  have hl : lv_has ls 6 [(0, .ref x), (1, .int k), (2, .int a), (3, .int v), (4, .int n)] := hl
  obtain ⟨hx, hb, hml, hown, hts, hK, hTb⟩ := id K
  have hI := mw_I.start hP0
  have hR0 := hR
  obtain ⟨bd, xd, ba, xa, ra, mp, gd, ga, hA⟩ := hR
  obtain ⟨⟨o1, o2, o3, o4, f0, fd, fa, fr, hdk, har⟩, hM⟩ := id hA
  have h64 := hW.1
  have hgv := hW.2.1
  refine lv_iload_n hx hb d_MS_make_0 rfl (lv_at hl 1 rfl) ?_
  refine lv_iload_n hx hb d_MS_make_1 rfl (lv_at hl 2 rfl) ?_
  refine lv_iload_n hx hb d_MS_make_2 rfl (lv_at hl 3 rfl) ?_
  refine lv_iload hx hb d_MS_make_3 (lv_at hl 4 rfl) ?_
  refine mp_call (rest := []) hb hml (c_MS_sizesFit l k a v n) (mx_invS hx hown (hts _ tw_179) (hts _ tw_180) (hts _ tw_21) (hts _ tw_181) (by decide) (g := F0 m 5 ls [.int n, .int v, .int a, .int k]) rfl (argsL := [.int k, .int a, .int v, .int n]) (rest := []) np_MS_sizesFit rfl (by rw [hb]; exact d_MS_make_5)) hl.1 d_MS_make_5 ⟨Nat.le_of_ble_eq_true rfl, Nat.le_of_ble_eq_true rfl⟩ (Or.inl ⟨_, _, List.mem_cons_self⟩) (mk_ws tw_181 hts) (fun a9 U9 h9 => Ts_warm hts _ tw_21 a9 U9 h9) (by first | exact ⟨Nat.le_of_ble_eq_true rfl, Nat.le_of_ble_eq_true rfl⟩ | assumption) (fun v hv => ?_)
  obtain ⟨r9, hv, hr9⟩ := hv
  subst hv
  refine W.eq (g2 := F0 m 8 ls [.int r9]) rfl ?_
  refine lv_if_ne (tgt := 21) hx hb d_MS_make_8 (by decide) (fun c8 => ?_) (fun c8 => ?_)
  ·
    have hfit : fitS k a v n := by
      rcases hr9 with ⟨-, h⟩ | ⟨h, -⟩
      · exact h
      · exact absurd h c8
    have hsp : sp_MAKE S k a v n = _ := if_pos (fitB_iff.mpr hfit)
    obtain ⟨e1, e2, e3, e4, hok⟩ := fit_ok hfit
    have hle := okM_le hok
    rw [e1, e2, e3, e4] at hl
    generalize k.toNatClampNeg = kn at *
    generalize a.toNatClampNeg = an at *
    generalize v.toNatClampNeg = vn at *
    generalize n.toNatClampNeg = nn at *
    have u8 := up8_ge vn
    have hmul : nn * up8 vn ≤ 16384 * 263 := Nat.mul_le_mul (by omega) (by omega)
    have fin : ∀ (bn : Nat), bn = mkB kn vn nn → bn < 2 ^ 23 → ∀ ls : Array Slot, lv_has ls 6 [(0, .ref x), (1, .int (nI kn)), (2, .int (nI an)), (3, .int (nI vn)), (4, .int (nI nn))] → W p l e { frames := 6, cells := 4, slots := 4120, locals := 150 } s m ([.ref x, .int k, .int a, .int v, .int n] : List Value).toArray below meth c s.heap [] 0 0 (mx_Q below (mw_Qc D mk_cl w s.heap.size (PR dA w own x (sp_MAKE S k a v n))) ([.ref x, .int k, .int a, .int v, .int n] : List Value).toArray s 4 4120 (mw_A w s.heap.size)) (F0 m 38 ls [.int (nI bn)]) := by
      intro bn hbn hb23 ls hl
      rw [← hbn] at hsp
      have full : ∀ ls : Array Slot, lv_has ls 6 [] → (64 ≤ nm S ∨ 65536 - gv S < bn) → W p l e { frames := 6, cells := 4, slots := 4120, locals := 150 } s m ([.ref x, .int k, .int a, .int v, .int n] : List Value).toArray below meth c s.heap [] 0 0 (mx_Q below (mw_Qc D mk_cl w s.heap.size (PR dA w own x (sp_MAKE S k a v n))) ([.ref x, .int k, .int a, .int v, .int n] : List Value).toArray s 4 4120 (mw_A w s.heap.size)) (F0 m 61 ls []) := by
        intro ls hl hfull
        have hsp := hsp.trans (if_pos hfull)
        refine W.widen (k := 3) (n := 4114) (by decide) (by decide) ?_
        exact mw_throw (tx := "too many maps, or too little area") K hL hSy hP0 hce hlk 1 rfl (by decide) (by decide) (ow_in ow_MS54) (by decide) tw_208 tw_29 tw_209 hl.1 d_MS_make_61 d_MS_make_64 d_MS_make_65 d_MS_make_67 d_MS_make_70 (Nat.le_of_ble_eq_true rfl) (Nat.le_of_ble_eq_true rfl) (Nat.le_of_ble_eq_true rfl) (Nat.le_of_ble_eq_true rfl) (by rw [hsp]; exact ⟨rfl, own, hR0, Fr.rf w own⟩)
      refine lv_istore (lv' := [(5, .int (nI bn)), (0, .ref x), (1, .int (nI kn)), (2, .int (nI an)), (3, .int (nI vn)), (4, .int (nI nn))]) hx hb d_MS_make_38 hl (by decide) rfl (fun ls hl => ?_)
      refine lv_aload_n hx hb d_MS_make_40 rfl (lv_at hl 1 rfl) ?_
      refine mw_get K hI gf_MS_28_cMS f0 rfl d_MS_make_41 ?_
      refine lv_bipush (v := nI 64) hx hb d_MS_make_44 (by decide) ?_
      refine lv_icmp_ge (tgt := 61) hx hb d_MS_make_46 (by decide) (fun c46 => ?_) (fun c46 => ?_)
      ·
        exact full ls (lv_sub hl [] rfl) (Or.inl ((nI_leI (by decide) (by omega)).mp c46))
      ·
        have c46 : nm S < 64 := Nat.lt_of_not_le (fun h => c46 ((nI_leI (by decide) (by omega)).mpr h))
        refine lv_iload hx hb d_MS_make_49 (lv_at hl 0 rfl) ?_
        refine lv_ldc (v := nI 65536) hx hb hown (hts _ tw_62) d_MS_make_51 ?_
        refine lv_aload_n hx hb d_MS_make_53 rfl (lv_at hl 1 rfl) ?_
        refine mw_get K hI gf_MS_32_cMS f0 rfl d_MS_make_54 ?_
        refine lv_isub hx hb d_MS_make_57 ?_
        refine mw_ti (pk_sub (by omega)) ?_
        refine lv_icmp_le (tgt := 71) hx hb d_MS_make_58 (by decide) (fun c58 => ?_) (fun c58 => ?_)
        ·
          have c58 : bn ≤ 65536 - gv S := (nI_leI (by omega) (by omega)).mp c58
          have hsp := hsp.trans (if_neg (by omega))
          refine lv_aload_n hx hb d_MS_make_71 rfl (lv_at hl 1 rfl) ?_
          refine mw_get K hI gf_MS_24_cMS f0 rfl d_MS_make_72 ?_
          refine lv_aload_n hx hb d_MS_make_75 rfl (lv_at hl 1 rfl) ?_
          refine mw_get K hI gf_MS_28_cMS f0 rfl d_MS_make_76 ?_
          refine lv_aload_n hx hb d_MS_make_79 rfl (lv_at hl 1 rfl) ?_
          refine lv_iload_n hx hb d_MS_make_80 rfl (lv_at hl 2 rfl) ?_
          refine lv_iload_n hx hb d_MS_make_81 rfl (lv_at hl 3 rfl) ?_
          refine lv_iload_n hx hb d_MS_make_82 rfl (lv_at hl 4 rfl) ?_
          refine lv_iload hx hb d_MS_make_83 (lv_at hl 5 rfl) ?_
          refine mw_call (rest := [.int (nI (nm S)), .ref ra]) K hSy hP0 hI (c_MS_newMap l D dA hA hok) (mx_invV hx hown (hts _ tw_224) (hts _ tw_226) (hts _ tw_2) (hts _ tw_227) (by decide) (b := x) (mw_rc K hI f0 rfl) (g := F0 m 85 ls [.int (nI nn), .int (nI vn), .int (nI an), .int (nI kn), .ref x, .int (nI (nm S)), .ref ra]) rfl (argsL := [.int (nI kn), .int (nI an), .int (nI vn), .int (nI nn)]) (rest := [.int (nI (nm S)), .ref ra]) np_MS_newMap rfl (by rw [hb]; exact d_MS_make_85)) hl.1 d_MS_make_85 ⟨Nat.le_of_ble_eq_true rfl, Nat.le_of_ble_eq_true rfl⟩ (Or.inl ⟨_, _, List.mem_cons_self⟩) (mk_ws tw_227 hts) (fun a9 U9 h9 => Ts_warm hts _ tw_21 a9 U9 h9) ⟨Nat.le_of_ble_eq_true rfl, Nat.le_of_ble_eq_true rfl⟩ (fun v w' H locs hq hI => ?_) (fun k x w' H locs hq hI hX => ?_)
          · obtain ⟨a', own', hq1, hm, hfr⟩ := hq
            cases hq1
            refine W.eq (g2 := F0 m 88 ls [.ref a', .int (nI (nm S)), .ref ra]) rfl ?_
            have f0' := (hfr _ _ f0).1
            have fr' := (hfr _ _ fr).1
            have hobj : ∃ (ci : Nat) (vs : List Value) (r : vw_C), w' a' = some (.inr (ci, vs)) ∧ mk_cl[ci]? = some r ∧ ∀ comp : ClassId, s.vm.findClass "MapStore$AnyMap" = some comp → s.vm.assignable (D.1 ci) comp = true := by
              obtain ⟨om, ⟨k0, fm⟩ | ⟨k0, ka, ak, ax, rch, gk, ff, fm, h9⟩ | ⟨k0, fm⟩⟩ := hm
              · exact ⟨cAM, _, _, fm, rfl, fun comp hc => vb_asgC (va_Nw.of rfl (hts _ tw_805)) comp _ hc (hK.1 cAM _ rfl).2.1⟩
              · exact ⟨cTM, _, _, fm, rfl, fun comp hc => vb_asgC (va_Nw.of rfl (hts _ tw_807)) comp _ hc (hK.1 cTM _ rfl).2.1⟩
              · exact ⟨cRM, _, _, fm, rfl, fun comp hc => vb_asgC (va_Nw.of rfl (hts _ tw_806)) comp _ hc (hK.1 cRM _ rfl).2.1⟩
            obtain ⟨ci, vs9, r8, ho1, ho2, ho3⟩ := hobj
            refine mw_aast K hI tAN fr' rfl ho1 ho2 ho3 (nm S) rfl (by omega) (by omega) d_MS_make_88 (fun H locs hI => ?_)
            have hfn : (va_up (fun i => if i < nm S then some (mp i) else none) (nm S) (some a')) = fun i => if i < nm S + 1 then some (va_up mp (nm S) a' i) else none := by
              funext i
              by_cases e : i = nm S
              · subst e; rw [va_up_self, if_pos (by omega), va_up_self]
              · rw [va_up_ne _ _ e, va_up_ne _ _ e]
                by_cases e2 : i < nm S
                · rw [if_pos e2, if_pos (by omega)]
                · rw [if_neg e2, if_neg (by omega)]
            rw [hfn] at hI
            have nxr : x ≠ ra := own_ne o1 o4 (by decide)
            have f2 := (mw_up_n w' (.inl (dA tAN, 64, .inr (.inr (.inr (.inr (fun i => if i < nm S + 1 then some (va_up mp (nm S) a' i) else none)))))) nxr).trans f0'
            have f3 := mw_up_s w' ra (.inl (dA tAN, 64, .inr (.inr (.inr (.inr (fun i => if i < nm S + 1 then some (va_up mp (nm S) a' i) else none))))))
            have hE : ∀ q, q ≠ x → q ≠ ra → (mw_up w' ra (.inl (dA tAN, 64, .inr (.inr (.inr (.inr (fun i => if i < nm S + 1 then some (va_up mp (nm S) a' i) else none))))))) q = w' q := fun q _ h => mw_up_n _ _ h
            generalize ew : mw_up w' ra (.inl (dA tAN, 64, .inr (.inr (.inr (.inr (fun i => if i < nm S + 1 then some (va_up mp (nm S) a' i) else none)))))) = w2 at *
            refine lv_aload_n hx hb d_MS_make_89 rfl (lv_at hl 1 rfl) ?_
            refine lv_dup hx hb d_MS_make_90 rfl ?_
            refine mw_get K hI gf_MS_32_cMS f2 rfl d_MS_make_91 ?_
            refine lv_iload hx hb d_MS_make_94 (lv_at hl 0 rfl) ?_
            refine lv_iadd hx hb d_MS_make_96 ?_
            refine mw_ti (nI_add _ _) ?_
            refine mw_put K hI gp_MS_32_cMS (Or.inl ⟨_, rfl, rfl⟩) f2 rfl rfl (by simp) d_MS_make_97 (fun H locs hI => ?_)
            have hI : mw_I D mk_cl w s.heap (mw_up w2 x (.inr (cMS, [.ref bd, .ref ba, .ref ra, .int (nI (nm S)), .int (nI ((gv S) + bn))]))) H _ := hI
            have f2 : (mw_up w2 x (.inr (cMS, [.ref bd, .ref ba, .ref ra, .int (nI (nm S)), .int (nI ((gv S) + bn))]))) x = some (.inr (cMS, [.ref bd, .ref ba, .ref ra, .int (nI (nm S)), .int (nI ((gv S) + bn))])) := mw_up_s _ _ _
            refine lv_aload_n hx hb d_MS_make_100 rfl (lv_at hl 1 rfl) ?_
            refine lv_dup hx hb d_MS_make_101 rfl ?_
            refine mw_get K hI gf_MS_28_cMS f2 rfl d_MS_make_102 ?_
            refine lv_iconst (v := nI 1) hx hb d_MS_make_105 (by decide) ?_
            refine lv_iadd hx hb d_MS_make_106 ?_
            refine mw_ti (nI_add _ _) ?_
            refine mw_put K hI gp_MS_28_cMS (Or.inl ⟨_, rfl, rfl⟩) f2 rfl rfl (by simp) d_MS_make_107 (fun H locs hI => ?_)
            rw [mw_uu] at hI
            have hI : mw_I D mk_cl w s.heap (mw_up w2 x (.inr (cMS, [.ref bd, .ref ba, .ref ra, .int (nI ((nm S) + 1)), .int (nI ((gv S) + bn))]))) H _ := hI
            have f2 : (mw_up w2 x (.inr (cMS, [.ref bd, .ref ba, .ref ra, .int (nI ((nm S) + 1)), .int (nI ((gv S) + bn))]))) x = some (.inr (cMS, [.ref bd, .ref ba, .ref ra, .int (nI ((nm S) + 1)), .int (nI ((gv S) + bn))])) := mw_up_s _ _ _
            refine lv_aload_n hx hb d_MS_make_110 rfl (lv_at hl 1 rfl) ?_
            refine mw_get K hI gf_MS_28_cMS f2 rfl d_MS_make_111 ?_
            refine lv_iconst (v := nI 1) hx hb d_MS_make_114 (by decide) ?_
            refine lv_isub hx hb d_MS_make_115 ?_
            refine mw_ti (pk_sub (by omega)) ?_
            refine mw_iret K hI hr hlk ?_ d_MS_make_116
            rw [hsp]
            have f3' := (mw_up_n w2 (.inr (cMS, [.ref bd, .ref ba, .ref ra, .int (nI (nm S + 1)), .int (nI (gv S + bn))])) nxr.symm).trans f3
            have hA2 := hA.add (wE := mw_up w2 x (.inr (cMS, [.ref bd, .ref ba, .ref ra, .int (nI (nm S + 1)), .int (nI (gv S + bn))]))) hm hfr (mw_up_s _ _ _) f3' (fun q h1 h2 => (mw_up_n _ _ h1).trans (hE q h1 h2))
            refine ⟨rfl, own', ⟨bd, xd, ba, xa, ra, va_up mp (nm S) a', gd, ga, ?_⟩, fun q y hy => ?_⟩
            · unfold S_mk
              rw [← hbn]
              exact hA2
            · refine ⟨(hfr q y hy).2, ?_⟩
              by_cases h1 : q = x
              · subst h1; exact ⟨_, mw_up_s _ _ _, fun z => absurd z (by rw [o1]; decide)⟩
              · by_cases h2 : q = ra
                · subst h2; exact ⟨_, f3', fun z => absurd z (by rw [o4]; decide)⟩
                · exact ⟨y, by rw [mw_up_n _ _ h1, hE q h1 h2]; exact (hfr q y hy).1, fun _ => rfl⟩
          · obtain ⟨a', own', hq1, hm, hfr⟩ := hq
            cases hq1
        ·
          have c58 : ¬ bn ≤ 65536 - gv S := fun h => c58 ((nI_leI (by omega) (by omega)).mpr h)
          exact full ls (lv_sub hl [] rfl) (Or.inr (by omega))
    refine lv_iload_n hx hb d_MS_make_21 rfl (lv_at hl 1 rfl) ?_
    refine lv_iconst (v := nI 2) hx hb d_MS_make_22 (by decide) ?_
    refine lv_icmp_ne (tgt := 31) hx hb d_MS_make_23 (by decide) (fun c23 => ?_) (fun c23 => ?_)
    ·
      have hk2 : kn ≠ 2 := fun z => c23 (by rw [z])
      have hmk : mkB kn vn nn = nn * up8 vn := if_neg hk2
      refine lv_iload hx hb d_MS_make_31 (lv_at hl 4 rfl) ?_
      refine lv_iload_n hx hb d_MS_make_33 rfl (lv_at hl 3 rfl) ?_
      refine mp_call (rest := [.int (nI nn)]) hb hml (c_MS_filledUp l (n := vn) (by omega)) (mx_invS hx hown (hts _ tw_207) (hts _ tw_52) (hts _ tw_21) (hts _ tw_53) (by decide) (g := F0 m 34 ls [.int (nI vn), .int (nI nn)]) rfl (argsL := [.int (nI vn)]) (rest := [.int (nI nn)]) np_MS_filledUp rfl (by rw [hb]; exact d_MS_make_34)) hl.1 d_MS_make_34 ⟨Nat.le_of_ble_eq_true rfl, Nat.le_of_ble_eq_true rfl⟩ (Or.inl ⟨_, _, List.mem_cons_self⟩) (mk_ws tw_53 hts) (fun a9 U9 h9 => Ts_warm hts _ tw_21 a9 U9 h9) (by first | exact ⟨Nat.le_of_ble_eq_true rfl, Nat.le_of_ble_eq_true rfl⟩ | assumption) (fun v hv => ?_)
      subst hv
      refine W.eq (g2 := F0 m 37 ls [.int (nI (up8 vn)), .int (nI nn)]) rfl ?_
      refine lv_imul hx hb d_MS_make_37 ?_
      refine mw_ti (pk_mul _ _) ?_
      exact fin (nn * up8 vn) hmk.symm (by omega) ls hl
    ·
      have hk2 : kn = 2 := (nI_eq (by omega) (by decide)).mp c23
      have hmk : mkB kn vn nn = nn := if_pos hk2
      refine lv_iload hx hb d_MS_make_26 (lv_at hl 4 rfl) ?_
      refine lv_goto (tgt := 38) hx hb d_MS_make_28 (by decide) ?_
      exact fin nn hmk.symm (by omega) ls hl
  ·
    have hfit : ¬ fitS k a v n := by
      rcases hr9 with ⟨h, -⟩ | ⟨-, h⟩
      · rw [h] at c8; exact absurd c8 (by decide)
      · exact h
    have hsp : sp_MAKE S k a v n = (S, .inr 0) := if_neg (fun z => hfit (fitB_iff.mp z))
    refine W.widen (k := 3) (n := 4114) (by decide) (by decide) ?_
    exact mw_throw (tx := "no map has this kind with these sizes") K hL hSy hP0 hce hlk 0 rfl (by decide) (by decide) (ow_in ow_MS43) (by decide) tw_191 tw_28 tw_192 hl.1 d_MS_make_11 d_MS_make_14 d_MS_make_15 d_MS_make_17 d_MS_make_20 (Nat.le_of_ble_eq_true rfl) (Nat.le_of_ble_eq_true rfl) (Nat.le_of_ble_eq_true rfl) (Nat.le_of_ble_eq_true rfl) (by rw [hsp]; exact ⟨rfl, own, hR0, Fr.rf w own⟩)
end
section
/-! ### the model: bytes with signs, its object and arrays -/
def sB (n : Nat) : Int32 := (nI n).toInt8.toInt32
theorem sB_tab : ∀ n, n < 256 → (sB n).toInt8.toInt32 = sB n ∧ (sB n &&& nI 255) = nI n := by decide +kernel
theorem sB_nar {n : Nat} (h : n < 256) : vp_nar .byte (sB n) = sB n := (sB_tab n h).1
theorem sB_and {n : Nat} (h : n < 256) : sB n &&& nI 255 = nI n := (sB_tab n h).2
theorem sB_inj {a b : Nat} (ha : a < 256) (hb : b < 256) : sB a = sB b ↔ a = b := by
  constructor
  · intro h
    have h2 : nI a = nI b := by rw [← sB_and ha, ← sB_and hb, h]
    exact (nI_eq (by omega) (by omega)).mp h2
  · intro h; rw [h]
theorem i8_ext {x y : Int32} (h : x.toBitVec.toNat % 256 = y.toBitVec.toNat % 256) : x.toInt8 = y.toInt8 := by
  apply Int8.toBitVec_inj.mp
  apply BitVec.eq_of_toNat_eq
  rw [Int32.toBitVec_toInt8, Int32.toBitVec_toInt8, BitVec.signExtend_eq_setWidth_of_le _ (by decide), BitVec.signExtend_eq_setWidth_of_le _ (by decide), BitVec.toNat_setWidth, BitVec.toNat_setWidth]
  exact h
theorem sB_i2b (x : Int32) : x.toInt8.toInt32 = sB (x.toBitVec.toNat % 256) := by
  unfold sB
  rw [i8_ext (y := nI (x.toBitVec.toNat % 256))]
  have : (nI (x.toBitVec.toNat % 256)).toBitVec.toNat = x.toBitVec.toNat % 256 := by
    show (BitVec.ofNat 32 _).toNat = _
    rw [BitVec.toNat_ofNat, Nat.mod_eq_of_lt]
    have := Nat.mod_lt x.toBitVec.toNat (show 0 < 256 by decide)
    omega
  rw [this, Nat.mod_mod]
theorem sB_l2b (y : Int64) : y.toInt32.toInt8.toInt32 = sB (uN y % 256) := by
  rw [sB_i2b, bw_l2i, Nat.mod_mod_of_dvd _ (by decide)]
theorem nI_bv {n : Nat} (h : n < 2 ^ 32) : (nI n).toBitVec.toNat = n := by
  show (BitVec.ofNat 32 _).toNat = _
  rw [BitVec.toNat_ofNat, Nat.mod_eq_of_lt h]
theorem sB_nI {n : Nat} (h : n < 2 ^ 32) : (nI n).toInt8.toInt32 = sB (n % 256) := by rw [sB_i2b, nI_bv h]
theorem uN_sshr (v : Int64) {k : Nat} (hk : k < 8) : uN (v >>> ((nI (8 * k)).toInt64 &&& 63)) % 256 = uN v / 2 ^ (8 * k) % 256 := by
  rw [wb_c (8 * k) (by omega)]
  apply Nat.eq_of_testBit_eq
  intro i
  have h0 : uN (v >>> lN (8 * k)) % 256 = uN (v >>> lN (8 * k)) / 2 ^ 0 % 256 := by rw [Nat.pow_zero, Nat.div_one]
  rw [h0, bw_tb, bw_tb]
  by_cases hi : i < 8
  · simp only [hi, decide_true, Bool.true_and, Nat.zero_add]
    rw [bw_uT, bw_uT]
    have hs : (v >>> lN (8 * k)).toBitVec = v.toBitVec.sshiftRight (8 * k) := by
      rw [Int64.toBitVec_shiftRight]
      have hm : (lN (8 * k)).toBitVec.smod 64 = BitVec.ofNat 64 (8 * k) := by
        rcases (by omega : k = 0 ∨ k = 1 ∨ k = 2 ∨ k = 3 ∨ k = 4 ∨ k = 5 ∨ k = 6 ∨ k = 7) with h | h | h | h | h | h | h | h <;> subst h <;> decide
      rw [hm]
      show v.toBitVec.sshiftRight (BitVec.ofNat 64 (8 * k)).toNat = _
      rw [BitVec.toNat_ofNat, Nat.mod_eq_of_lt (by omega)]
    rw [hs, BitVec.getLsbD_sshiftRight]
    have h1 : 8 * k + i < 64 := by omega
    simp [h1, show ¬ 64 ≤ i by omega]
  · simp [hi]
theorem sB_shr (v : Int64) {k : Nat} (hk : k < 8) : (v >>> ((nI (8 * k)).toInt64 &&& 63)).toInt32.toInt8.toInt32 = sB (uN v / 2 ^ (8 * k) % 256) := by rw [sB_l2b, uN_sshr v hk]
/-- the arrays of the model -/
def mo_E (dA : Nat → ClassId) (fi : Nat → Nat → Int32) (fl : Nat → Nat → Int64) (i : Nat) : va_E := match i with
  | 0 => .inl (dA tB, 512, .inl (fi 0))
  | 1 => .inl (dA tB, 65536, .inl (fi 1))
  | 2 => .inl (dA tI, 64, .inl (fi 2))
  | 3 => .inl (dA tI, 64, .inl (fi 3))
  | 4 => .inl (dA tI, 64, .inl (fi 4))
  | 5 => .inl (dA tI, 64, .inl (fi 5))
  | 6 => .inl (dA tI, 64, .inl (fi 6))
  | 7 => .inl (dA tI, 64, .inl (fi 7))
  | 8 => .inl (dA tI, 64, .inl (fi 8))
  | 9 => .inl (dA tZ, 8192, .inl (fi 9))
  | 10 => .inl (dA tB, 524288, .inl (fi 10))
  | 11 => .inl (dA tJ, 64, .inr (.inl (fl 11)))
  | 12 => .inl (dA tJ, 64, .inr (.inl (fl 12)))
  | 13 => .inl (dA tI, 64, .inl (fi 13))
  | _ => .inl (dA tZ, 64, .inl (fi 14))
abbrev mo_F (A : Nat → Nat) (cd g n ec kc br : Int32) : List Value := [.int cd, .ref (A 0), .ref (A 1), .int g, .int n, .ref (A 2), .ref (A 3), .ref (A 4), .ref (A 5), .ref (A 6), .ref (A 7), .ref (A 8), .int ec, .int kc, .ref (A 9), .ref (A 10), .ref (A 11), .ref (A 12), .ref (A 13), .ref (A 14), .int br]
def mo_W (dA : Nat → ClassId) (w : mw_W) (own : as_W) (y : Nat) (A : Nat → Nat) (cd g n ec kc br : Int32) (fi : Nat → Nat → Int32) (fl : Nat → Nat → Int64) : Prop :=
  w y = some (.inr (cMO, mo_F A cd g n ec kc br)) ∧ own y = (20, 0, 0) ∧ (∀ i, i < 15 → own (A i) = (21 + i, 0, 0)) ∧ ∀ i, i < 15 → w (A i) = some (mo_E dA fi fl i)
/-- what is not the model's stays -/
def FrM (w : mw_W) (own : as_W) (w' : mw_W) : Prop := ∀ (q : Nat) (y : va_E), w q = some y → ∃ y', w' q = some y' ∧ (((own q).1 < 20 ∨ 40 ≤ (own q).1 ∨ ∃ fs, y = .inr (cBY, fs)) → y' = y)
theorem FrM.rf (w : mw_W) (own : as_W) : FrM w own w := fun _ y h => ⟨y, h, fun _ => rfl⟩
theorem FrM.trans {w1 w2 w3 : mw_W} {own : as_W} (h1 : FrM w1 own w2) (h2 : FrM w2 own w3) : FrM w1 own w3 := fun q y h => by
  obtain ⟨y2, a1, b1⟩ := h1 q y h
  obtain ⟨y3, a2, b2⟩ := h2 q y2 a1
  exact ⟨y3, a2, fun z => (b2 (by rw [b1 z]; exact z)).trans (b1 z)⟩
theorem FrM.up {w : mw_W} {own : as_W} {a : Nat} {x y0 : va_E} (ha : w a = some y0) (ht : 20 ≤ (own a).1 ∧ (own a).1 < 40) (hn : ∀ fs, y0 ≠ .inr (cBY, fs)) : FrM w own (mw_up w a x) := fun q y h => by
  by_cases e : q = a
  · subst e
    refine ⟨x, mw_up_s _ _ _, fun z => ?_⟩
    rcases z with z | z | ⟨fs, z⟩
    · omega
    · omega
    · rw [z] at h; exact absurd (Option.some.inj (ha.symm.trans h)) (hn fs)
  · exact ⟨y, by rw [mw_up_n _ _ e]; exact h, fun _ => rfl⟩
theorem mo_E_congr {dA : Nat → ClassId} {fi fi' : Nat → Nat → Int32} {fl fl' : Nat → Nat → Int64} {i : Nat} (hi : i < 15) (h1 : fi' i = fi i) (h2 : fl' i = fl i) : mo_E dA fi' fl' i = mo_E dA fi fl i := by
  rcases (by omega : i = 0 ∨ i = 1 ∨ i = 2 ∨ i = 3 ∨ i = 4 ∨ i = 5 ∨ i = 6 ∨ i = 7 ∨ i = 8 ∨ i = 9 ∨ i = 10 ∨ i = 11 ∨ i = 12 ∨ i = 13 ∨ i = 14) with h | h | h | h | h | h | h | h | h | h | h | h | h | h | h <;> subst h <;> simp only [mo_E] <;> first | rw [h1] | rw [h2]
theorem mo_E_arr (dA : Nat → ClassId) (fi : Nat → Nat → Int32) (fl : Nat → Nat → Int64) (i : Nat) : ∀ fs, mo_E dA fi fl i ≠ .inr fs := by
  intro fs h
  unfold mo_E at h
  split at h <;> cases h
section
variable {dA : Nat → ClassId} {D : va_G} {cl : List vw_C} {w0 w : mw_W} {own : as_W} {y : Nat} {A : Nat → Nat} {cd g n ec kc br : Int32} {fi : Nat → Nat → Int32} {fl : Nat → Nat → Int64} {H0 H : Heap} {locs : List Loc}
theorem mo_W.o (h : mo_W dA w own y A cd g n ec kc br fi fl) : w y = some (.inr (cMO, mo_F A cd g n ec kc br)) := h.1
theorem mo_W.set {fi' : Nat → Nat → Int32} {fl' : Nat → Nat → Int64} (h : mo_W dA w own y A cd g n ec kc br fi fl) (k : Nat) (hk : k < 15) (hE : ∀ i, i < 15 → i ≠ k → mo_E dA fi' fl' i = mo_E dA fi fl i) : mo_W dA (mw_up w (A k) (mo_E dA fi' fl' k)) own y A cd g n ec kc br fi' fl' ∧ FrM w own (mw_up w (A k) (mo_E dA fi' fl' k)) := by
  obtain ⟨h1, h2, h3, h4⟩ := h
  refine ⟨⟨?_, h2, h3, fun i hi => ?_⟩, FrM.up (h4 k hk) (by rw [h3 k hk]; dsimp only; omega) (fun fs => mo_E_arr _ _ _ _ _)⟩
  · rw [mw_up_n _ _ (own_ne h2 (h3 k hk) (by intro z; injection z with z; omega))]; exact h1
  · by_cases e : i = k
    · subst e; exact mw_up_s _ _ _
    · rw [mw_up_n _ _ (own_ne (h3 i hi) (h3 k hk) (by intro z; injection z with z; omega)), h4 i hi, hE i hi e]
theorem mo_W.seti {X : va_E} {f : Nat → Int32} (h : mo_W dA w own y A cd g n ec kc br fi fl) (k : Nat) (hk : k < 15) (hI : mw_I D cl w0 H0 (mw_up w (A k) X) H locs) (hF : FrM w0 own w) (hX : X = mo_E dA (va_up fi k f) fl k) : ∃ w1 fi1, mw_I D cl w0 H0 w1 H locs ∧ FrM w0 own w1 ∧ mo_W dA w1 own y A cd g n ec kc br fi1 fl ∧ fi1 = va_up fi k f := by
  rw [hX] at hI
  obtain ⟨h1, h2⟩ := h.set k hk (fi' := va_up fi k f) (fl' := fl) (fun i hi e => mo_E_congr hi (va_up_ne _ _ e) rfl)
  exact ⟨_, _, hI, hF.trans h2, h1, rfl⟩
theorem mo_W.setl {X : va_E} {f : Nat → Int64} (h : mo_W dA w own y A cd g n ec kc br fi fl) (k : Nat) (hk : k < 15) (hI : mw_I D cl w0 H0 (mw_up w (A k) X) H locs) (hF : FrM w0 own w) (hX : X = mo_E dA fi (va_up fl k f) k) : ∃ w1 fl1, mw_I D cl w0 H0 w1 H locs ∧ FrM w0 own w1 ∧ mo_W dA w1 own y A cd g n ec kc br fi fl1 ∧ fl1 = va_up fl k f := by
  rw [hX] at hI
  obtain ⟨h1, h2⟩ := h.set k hk (fi' := fi) (fl' := va_up fl k f) (fun i hi e => mo_E_congr hi rfl (va_up_ne _ _ e))
  exact ⟨_, _, hI, hF.trans h2, h1, rfl⟩
theorem mo_W.seto {cd' g' n' ec' kc' br' : Int32} (h : mo_W dA w own y A cd g n ec kc br fi fl) (hI : mw_I D cl w0 H0 (mw_up w y (.inr (cMO, mo_F A cd' g' n' ec' kc' br'))) H locs) (hF : FrM w0 own w) : ∃ w1, mw_I D cl w0 H0 w1 H locs ∧ FrM w0 own w1 ∧ mo_W dA w1 own y A cd' g' n' ec' kc' br' fi fl := by
  obtain ⟨h1, h2, h3, h4⟩ := h
  refine ⟨_, hI, hF.trans (FrM.up h1 (by rw [h2]; decide) (fun fs z => by injection z with z; injection z with z; exact absurd z (by decide))), mw_up_s _ _ _, h2, h3, fun i hi => ?_⟩
  rw [mw_up_n _ _ (own_ne (h3 i hi) h2 (by intro z; injection z with z; omega))]; exact h4 i hi
theorem mo_W.a0 (h : mo_W dA w own y A cd g n ec kc br fi fl) : w (A 0) = some (.inl (dA tB, 512, .inl (fi 0))) := h.2.2.2 0 (by decide)
theorem mo_W.a1 (h : mo_W dA w own y A cd g n ec kc br fi fl) : w (A 1) = some (.inl (dA tB, 65536, .inl (fi 1))) := h.2.2.2 1 (by decide)
theorem mo_W.a2 (h : mo_W dA w own y A cd g n ec kc br fi fl) : w (A 2) = some (.inl (dA tI, 64, .inl (fi 2))) := h.2.2.2 2 (by decide)
theorem mo_W.a3 (h : mo_W dA w own y A cd g n ec kc br fi fl) : w (A 3) = some (.inl (dA tI, 64, .inl (fi 3))) := h.2.2.2 3 (by decide)
theorem mo_W.a4 (h : mo_W dA w own y A cd g n ec kc br fi fl) : w (A 4) = some (.inl (dA tI, 64, .inl (fi 4))) := h.2.2.2 4 (by decide)
theorem mo_W.a5 (h : mo_W dA w own y A cd g n ec kc br fi fl) : w (A 5) = some (.inl (dA tI, 64, .inl (fi 5))) := h.2.2.2 5 (by decide)
theorem mo_W.a6 (h : mo_W dA w own y A cd g n ec kc br fi fl) : w (A 6) = some (.inl (dA tI, 64, .inl (fi 6))) := h.2.2.2 6 (by decide)
theorem mo_W.a7 (h : mo_W dA w own y A cd g n ec kc br fi fl) : w (A 7) = some (.inl (dA tI, 64, .inl (fi 7))) := h.2.2.2 7 (by decide)
theorem mo_W.a8 (h : mo_W dA w own y A cd g n ec kc br fi fl) : w (A 8) = some (.inl (dA tI, 64, .inl (fi 8))) := h.2.2.2 8 (by decide)
theorem mo_W.a9 (h : mo_W dA w own y A cd g n ec kc br fi fl) : w (A 9) = some (.inl (dA tZ, 8192, .inl (fi 9))) := h.2.2.2 9 (by decide)
theorem mo_W.a10 (h : mo_W dA w own y A cd g n ec kc br fi fl) : w (A 10) = some (.inl (dA tB, 524288, .inl (fi 10))) := h.2.2.2 10 (by decide)
theorem mo_W.a11 (h : mo_W dA w own y A cd g n ec kc br fi fl) : w (A 11) = some (.inl (dA tJ, 64, .inr (.inl (fl 11)))) := h.2.2.2 11 (by decide)
theorem mo_W.a12 (h : mo_W dA w own y A cd g n ec kc br fi fl) : w (A 12) = some (.inl (dA tJ, 64, .inr (.inl (fl 12)))) := h.2.2.2 12 (by decide)
theorem mo_W.a13 (h : mo_W dA w own y A cd g n ec kc br fi fl) : w (A 13) = some (.inl (dA tI, 64, .inl (fi 13))) := h.2.2.2 13 (by decide)
theorem mo_W.a14 (h : mo_W dA w own y A cd g n ec kc br fi fl) : w (A 14) = some (.inl (dA tZ, 64, .inl (fi 14))) := h.2.2.2 14 (by decide)
end
/-- the model's arrays hold the state -/
def mo_R (fe fk : Nat → Nat) (ec kc : Nat) (fi : Nat → Nat → Int32) (fl : Nat → Nat → Int64) (S : as_S) : Prop :=
  (∀ j, j < 512 → fi 0 j = sB (dk S j)) ∧ (∀ j, j < 65536 → fi 1 j = sB (ar S j)) ∧
  (∀ i, i < nm S → (fi 2 i = nI (kd (mm S i)) ∧ fi 3 i = nI (ks (mm S i)) ∧ fi 4 i = nI (vs (mm S i)) ∧ fi 5 i = nI (en (mm S i)) ∧ fi 6 i = nI (bg (mm S i))) ∧ fl 11 i = lN (hd (mm S i)) ∧ fl 12 i = lN (tl (mm S i)) ∧ fi 13 i = nI (rc (mm S i)) ∧ fi 14 i = nI (if bk (mm S i) = true then 1 else 0)) ∧
  (∀ i, nm S ≤ i → i < 64 → fl 11 i = lN 0 ∧ fl 12 i = lN 0 ∧ fi 13 i = nI 0 ∧ fi 14 i = nI 0) ∧
  (∀ i, i < nm S → kd (mm S i) = 1 → fi 7 i = nI (fe i) ∧ fi 8 i = nI (fk i) ∧ fe i + en (mm S i) ≤ ec ∧ fk i + en (mm S i) * ks (mm S i) ≤ kc ∧ (∀ e, e < en (mm S i) → fi 9 (fe i + e) = nI (if (tb (mm S i) e).isSome then 1 else 0)) ∧ ∀ e k, e < en (mm S i) → tb (mm S i) e = some k → ∀ j, j < ks (mm S i) → fi 10 (fk i + e * ks (mm S i) + j) = sB (k.getD j 0)) ∧
  (∀ i j, i < j → j < nm S → kd (mm S i) = 1 → kd (mm S j) = 1 → fe i + en (mm S i) ≤ fe j ∧ fk i + en (mm S i) * ks (mm S i) ≤ fk j) ∧
  (∀ p, ec ≤ p → p < 8192 → fi 9 p = nI 0) ∧ 8 * ec ≤ gv S ∧ kc ≤ 64 * ec
end
section
/-! ### the model: what touches no memory -/
theorem d_MO_filled_0 : decode b_MO_filled 0 = .ok (.iload_n 0, 1) := by decide +kernel
theorem d_MO_filled_1 : decode b_MO_filled 1 = .ok (.bipush 7, 2) := by decide +kernel
theorem d_MO_filled_3 : decode b_MO_filled 3 = .ok (.iadd, 1) := by decide +kernel
theorem d_MO_filled_4 : decode b_MO_filled 4 = .ok (.bipush 8, 2) := by decide +kernel
theorem d_MO_filled_6 : decode b_MO_filled 6 = .ok (.idiv, 1) := by decide +kernel
theorem d_MO_filled_7 : decode b_MO_filled 7 = .ok (.bipush 8, 2) := by decide +kernel
theorem d_MO_filled_9 : decode b_MO_filled 9 = .ok (.imul, 1) := by decide +kernel
theorem d_MO_filled_10 : decode b_MO_filled 10 = .ok (.ireturn, 1) := by decide +kernel
theorem d_MO_isIn_0 : decode b_MO_isIn 0 = .ok (.iload_n 0, 1) := by decide +kernel
theorem d_MO_isIn_1 : decode b_MO_isIn 1 = .ok (.iload_n 1, 1) := by decide +kernel
theorem d_MO_isIn_2 : decode b_MO_isIn 2 = .ok (.if_icmp .lt 12, 3) := by decide +kernel
theorem d_MO_isIn_5 : decode b_MO_isIn 5 = .ok (.iload_n 0, 1) := by decide +kernel
theorem d_MO_isIn_6 : decode b_MO_isIn 6 = .ok (.iload_n 2, 1) := by decide +kernel
theorem d_MO_isIn_7 : decode b_MO_isIn 7 = .ok (.if_icmp .gt 7, 3) := by decide +kernel
theorem d_MO_isIn_10 : decode b_MO_isIn 10 = .ok (.iconst 1, 1) := by decide +kernel
theorem d_MO_isIn_11 : decode b_MO_isIn 11 = .ok (.goto 4, 3) := by decide +kernel
theorem d_MO_isIn_14 : decode b_MO_isIn 14 = .ok (.iconst 0, 1) := by decide +kernel
theorem d_MO_isIn_15 : decode b_MO_isIn 15 = .ok (.ireturn, 1) := by decide +kernel
theorem d_MO_isPower_0 : decode b_MO_isPower 0 = .ok (.bipush 64, 2) := by decide +kernel
theorem d_MO_isPower_2 : decode b_MO_isPower 2 = .ok (.istore_n 1, 1) := by decide +kernel
theorem d_MO_isPower_3 : decode b_MO_isPower 3 = .ok (.iload_n 1, 1) := by decide +kernel
theorem d_MO_isPower_4 : decode b_MO_isPower 4 = .ok (.iload_n 0, 1) := by decide +kernel
theorem d_MO_isPower_5 : decode b_MO_isPower 5 = .ok (.if_icmp .ge 10, 3) := by decide +kernel
theorem d_MO_isPower_8 : decode b_MO_isPower 8 = .ok (.iconst 2, 1) := by decide +kernel
theorem d_MO_isPower_9 : decode b_MO_isPower 9 = .ok (.iload_n 1, 1) := by decide +kernel
theorem d_MO_isPower_10 : decode b_MO_isPower 10 = .ok (.imul, 1) := by decide +kernel
theorem d_MO_isPower_11 : decode b_MO_isPower 11 = .ok (.istore_n 1, 1) := by decide +kernel
theorem d_MO_isPower_12 : decode b_MO_isPower 12 = .ok (.goto (-9), 3) := by decide +kernel
theorem d_MO_isPower_15 : decode b_MO_isPower 15 = .ok (.iload_n 1, 1) := by decide +kernel
theorem d_MO_isPower_16 : decode b_MO_isPower 16 = .ok (.iload_n 0, 1) := by decide +kernel
theorem d_MO_isPower_17 : decode b_MO_isPower 17 = .ok (.if_icmp .ne 7, 3) := by decide +kernel
theorem d_MO_isPower_20 : decode b_MO_isPower 20 = .ok (.iconst 1, 1) := by decide +kernel
theorem d_MO_isPower_21 : decode b_MO_isPower 21 = .ok (.goto 4, 3) := by decide +kernel
theorem d_MO_isPower_24 : decode b_MO_isPower 24 = .ok (.iconst 0, 1) := by decide +kernel
theorem d_MO_isPower_25 : decode b_MO_isPower 25 = .ok (.ireturn, 1) := by decide +kernel
theorem d_MO_isDesk_0 : decode b_MO_isDesk 0 = .ok (.iload_n 0, 1) := by decide +kernel
theorem d_MO_isDesk_1 : decode b_MO_isDesk 1 = .ok (.ifCond .lt 16, 3) := by decide +kernel
theorem d_MO_isDesk_4 : decode b_MO_isDesk 4 = .ok (.iload_n 0, 1) := by decide +kernel
theorem d_MO_isDesk_5 : decode b_MO_isDesk 5 = .ok (.sipush 512, 3) := by decide +kernel
theorem d_MO_isDesk_8 : decode b_MO_isDesk 8 = .ok (.iload_n 1, 1) := by decide +kernel
theorem d_MO_isDesk_9 : decode b_MO_isDesk 9 = .ok (.isub, 1) := by decide +kernel
theorem d_MO_isDesk_10 : decode b_MO_isDesk 10 = .ok (.if_icmp .gt 7, 3) := by decide +kernel
theorem d_MO_isDesk_13 : decode b_MO_isDesk 13 = .ok (.iconst 1, 1) := by decide +kernel
theorem d_MO_isDesk_14 : decode b_MO_isDesk 14 = .ok (.goto 4, 3) := by decide +kernel
theorem d_MO_isDesk_17 : decode b_MO_isDesk 17 = .ok (.iconst 0, 1) := by decide +kernel
theorem d_MO_isDesk_18 : decode b_MO_isDesk 18 = .ok (.ireturn, 1) := by decide +kernel
theorem d_MO_isProper_0 : decode b_MO_isProper 0 = .ok (.iload_n 0, 1) := by decide +kernel
theorem d_MO_isProper_1 : decode b_MO_isProper 1 = .ok (.iconst 2, 1) := by decide +kernel
theorem d_MO_isProper_2 : decode b_MO_isProper 2 = .ok (.if_icmp .ne 36, 3) := by decide +kernel
theorem d_MO_isProper_5 : decode b_MO_isProper 5 = .ok (.iload_n 1, 1) := by decide +kernel
theorem d_MO_isProper_6 : decode b_MO_isProper 6 = .ok (.ifCond .ne 30, 3) := by decide +kernel
theorem d_MO_isProper_9 : decode b_MO_isProper 9 = .ok (.iload_n 2, 1) := by decide +kernel
theorem d_MO_isProper_10 : decode b_MO_isProper 10 = .ok (.ifCond .ne 26, 3) := by decide +kernel
theorem d_MO_isProper_13 : decode b_MO_isProper 13 = .ok (.iload_n 3, 1) := by decide +kernel
theorem d_MO_isProper_14 : decode b_MO_isProper 14 = .ok (.bipush 64, 2) := by decide +kernel
theorem d_MO_isProper_16 : decode b_MO_isProper 16 = .ok (.sipush 16384, 3) := by decide +kernel
theorem d_MO_isProper_19 : decode b_MO_isProper 19 = .ok (.invokestatic 64, 3) := by decide +kernel
theorem d_MO_isProper_22 : decode b_MO_isProper 22 = .ok (.ifCond .eq 14, 3) := by decide +kernel
theorem d_MO_isProper_25 : decode b_MO_isProper 25 = .ok (.iload_n 3, 1) := by decide +kernel
theorem d_MO_isProper_26 : decode b_MO_isProper 26 = .ok (.invokestatic 68, 3) := by decide +kernel
theorem d_MO_isProper_29 : decode b_MO_isProper 29 = .ok (.ifCond .eq 7, 3) := by decide +kernel
theorem d_MO_isProper_32 : decode b_MO_isProper 32 = .ok (.iconst 1, 1) := by decide +kernel
theorem d_MO_isProper_33 : decode b_MO_isProper 33 = .ok (.goto 4, 3) := by decide +kernel
theorem d_MO_isProper_36 : decode b_MO_isProper 36 = .ok (.iconst 0, 1) := by decide +kernel
theorem d_MO_isProper_37 : decode b_MO_isProper 37 = .ok (.ireturn, 1) := by decide +kernel
theorem d_MO_isProper_38 : decode b_MO_isProper 38 = .ok (.iload_n 0, 1) := by decide +kernel
theorem d_MO_isProper_39 : decode b_MO_isProper 39 = .ok (.ifCond .ne 16, 3) := by decide +kernel
theorem d_MO_isProper_42 : decode b_MO_isProper 42 = .ok (.iload_n 1, 1) := by decide +kernel
theorem d_MO_isProper_43 : decode b_MO_isProper 43 = .ok (.iconst 4, 1) := by decide +kernel
theorem d_MO_isProper_44 : decode b_MO_isProper 44 = .ok (.if_icmp .ne 7, 3) := by decide +kernel
theorem d_MO_isProper_47 : decode b_MO_isProper 47 = .ok (.iconst 1, 1) := by decide +kernel
theorem d_MO_isProper_48 : decode b_MO_isProper 48 = .ok (.goto 27, 3) := by decide +kernel
theorem d_MO_isProper_51 : decode b_MO_isProper 51 = .ok (.iconst 0, 1) := by decide +kernel
theorem d_MO_isProper_52 : decode b_MO_isProper 52 = .ok (.goto 23, 3) := by decide +kernel
theorem d_MO_isProper_55 : decode b_MO_isProper 55 = .ok (.iload_n 0, 1) := by decide +kernel
theorem d_MO_isProper_56 : decode b_MO_isProper 56 = .ok (.iconst 1, 1) := by decide +kernel
theorem d_MO_isProper_57 : decode b_MO_isProper 57 = .ok (.if_icmp .ne 17, 3) := by decide +kernel
theorem d_MO_isProper_60 : decode b_MO_isProper 60 = .ok (.iload_n 1, 1) := by decide +kernel
theorem d_MO_isProper_61 : decode b_MO_isProper 61 = .ok (.iconst 1, 1) := by decide +kernel
theorem d_MO_isProper_62 : decode b_MO_isProper 62 = .ok (.bipush 64, 2) := by decide +kernel
theorem d_MO_isProper_64 : decode b_MO_isProper 64 = .ok (.invokestatic 64, 3) := by decide +kernel
theorem d_MO_isProper_67 : decode b_MO_isProper 67 = .ok (.ifCond .eq 7, 3) := by decide +kernel
theorem d_MO_isProper_70 : decode b_MO_isProper 70 = .ok (.iconst 1, 1) := by decide +kernel
theorem d_MO_isProper_71 : decode b_MO_isProper 71 = .ok (.goto 4, 3) := by decide +kernel
theorem d_MO_isProper_74 : decode b_MO_isProper 74 = .ok (.iconst 0, 1) := by decide +kernel
theorem d_MO_isProper_75 : decode b_MO_isProper 75 = .ok (.istore 4, 2) := by decide +kernel
theorem d_MO_isProper_77 : decode b_MO_isProper 77 = .ok (.iload 4, 2) := by decide +kernel
theorem d_MO_isProper_79 : decode b_MO_isProper 79 = .ok (.ifCond .eq 29, 3) := by decide +kernel
theorem d_MO_isProper_82 : decode b_MO_isProper 82 = .ok (.iload_n 2, 1) := by decide +kernel
theorem d_MO_isProper_83 : decode b_MO_isProper 83 = .ok (.iconst 1, 1) := by decide +kernel
theorem d_MO_isProper_84 : decode b_MO_isProper 84 = .ok (.sipush 256, 3) := by decide +kernel
theorem d_MO_isProper_87 : decode b_MO_isProper 87 = .ok (.invokestatic 64, 3) := by decide +kernel
theorem d_MO_isProper_90 : decode b_MO_isProper 90 = .ok (.ifCond .eq 18, 3) := by decide +kernel
theorem d_MO_isProper_93 : decode b_MO_isProper 93 = .ok (.iload_n 3, 1) := by decide +kernel
theorem d_MO_isProper_94 : decode b_MO_isProper 94 = .ok (.iconst 1, 1) := by decide +kernel
theorem d_MO_isProper_95 : decode b_MO_isProper 95 = .ok (.sipush 4096, 3) := by decide +kernel
theorem d_MO_isProper_98 : decode b_MO_isProper 98 = .ok (.invokestatic 64, 3) := by decide +kernel
theorem d_MO_isProper_101 : decode b_MO_isProper 101 = .ok (.ifCond .eq 7, 3) := by decide +kernel
theorem d_MO_isProper_104 : decode b_MO_isProper 104 = .ok (.iconst 1, 1) := by decide +kernel
theorem d_MO_isProper_105 : decode b_MO_isProper 105 = .ok (.goto 4, 3) := by decide +kernel
theorem d_MO_isProper_108 : decode b_MO_isProper 108 = .ok (.iconst 0, 1) := by decide +kernel
theorem d_MO_isProper_109 : decode b_MO_isProper 109 = .ok (.ireturn, 1) := by decide +kernel
set_option maxRecDepth 100000 in
set_option maxHeartbeats 4000000 in
theorem c_MO_filled (l : Launch) {n : Nat} (hn : n < 2 ^ 30) : mp_Ct l y_MO_filled (Cond.code y_MO_filled b_MO_filled 1 (some .int) :: Ts) 0 0 [.int (nI n)] (fun v => v = some (.int (nI (up8 n)))) := by
  refine mp_meth (by decide) (Nat.le_of_ble_eq_true rfl) ?_
  intro p e s m below meth c hx hb hml hown hts hr hlk ls hl
  have hl : lv_has ls 1 [(0, .int (nI n))] := hl
  refine lv_iload_n hx hb d_MO_filled_0 rfl (lv_at hl 0 rfl) ?_
  refine lv_bipush (v := nI 7) hx hb d_MO_filled_1 (by decide) ?_
  refine lv_iadd hx hb d_MO_filled_3 ?_
  refine mw_ti (nI_add _ _) ?_
  refine lv_bipush (v := nI 8) hx hb d_MO_filled_4 (by decide) ?_
  refine lv_idiv hx hb d_MO_filled_6 (nI_ne0 (by omega) (by omega)) ?_
  refine mw_ti (pk_div (by omega) (by omega) (by omega)) ?_
  refine lv_bipush (v := nI 8) hx hb d_MO_filled_7 (by decide) ?_
  refine lv_imul hx hb d_MO_filled_9 ?_
  refine mw_ti (pk_mul _ _) ?_
  refine mw_ti (y := nI (up8 n)) ((by unfold up8; rfl)) ?_
  exact mp_iret hx hb hr hlk rfl d_MO_filled_10
set_option maxRecDepth 100000 in
set_option maxHeartbeats 4000000 in
theorem c_MO_isIn (l : Launch) (x a b : Int32) : mp_Ct l y_MO_isIn (Cond.code y_MO_isIn b_MO_isIn 3 (some .boolean) :: Ts) 0 0 [.int x, .int a, .int b] (fun v => v = some (.int (if a.toInt ≤ x.toInt ∧ x.toInt ≤ b.toInt then 1 else 0))) := by
  refine mp_meth (by decide) (Nat.le_of_ble_eq_true rfl) ?_
  intro p e s m below meth c hx hb hml hown hts hr hlk ls hl
  have hl : lv_has ls 3 [(0, .int x), (1, .int a), (2, .int b)] := hl
  refine lv_iload_n hx hb d_MO_isIn_0 rfl (lv_at hl 0 rfl) ?_
  refine lv_iload_n hx hb d_MO_isIn_1 rfl (lv_at hl 1 rfl) ?_
  refine lv_icmp_lt (tgt := 14) hx hb d_MO_isIn_2 (by decide) (fun c2 => ?_) (fun c2 => ?_)
  ·
    rw [Int32.lt_iff_toInt_lt] at c2
    refine lv_iconst (v := nI 0) hx hb d_MO_isIn_14 (by decide) ?_
    exact mp_zret hx hb hr hlk (Or.inl rfl) (by rw [if_neg (by omega)]; rfl) d_MO_isIn_15
  ·
    rw [Int32.lt_iff_toInt_lt] at c2
    refine lv_iload_n hx hb d_MO_isIn_5 rfl (lv_at hl 0 rfl) ?_
    refine lv_iload_n hx hb d_MO_isIn_6 rfl (lv_at hl 2 rfl) ?_
    refine lv_icmp_gt (tgt := 14) hx hb d_MO_isIn_7 (by decide) (fun c7 => ?_) (fun c7 => ?_)
    ·
      rw [Int32.lt_iff_toInt_lt] at c7
      refine lv_iconst (v := nI 0) hx hb d_MO_isIn_14 (by decide) ?_
      exact mp_zret hx hb hr hlk (Or.inl rfl) (by rw [if_neg (by omega)]; rfl) d_MO_isIn_15
    ·
      rw [Int32.lt_iff_toInt_lt] at c7
      refine lv_iconst (v := nI 1) hx hb d_MO_isIn_10 (by decide) ?_
      refine lv_goto (tgt := 15) hx hb d_MO_isIn_11 (by decide) ?_
      exact mp_zret hx hb hr hlk (Or.inr rfl) (by rw [if_pos (by omega)]; rfl) d_MO_isIn_15
set_option maxRecDepth 100000 in
set_option maxHeartbeats 4000000 in
theorem c_MO_isDesk (l : Launch) (x : Int32) {n : Nat} (hn : n ≤ 512) : mp_Ct l y_MO_isDesk (Cond.code y_MO_isDesk b_MO_isDesk 2 (some .boolean) :: Ts) 0 0 [.int x, .int (nI n)] (fun v => v = some (.int (if inD x n 512 then 1 else 0))) := by
  refine mp_meth (by decide) (Nat.le_of_ble_eq_true rfl) ?_
  intro p e s m below meth c hx hb hml hown hts hr hlk ls hl
  have hl : lv_has ls 2 [(0, .int x), (1, .int (nI n))] := hl
  refine lv_iload_n hx hb d_MO_isDesk_0 rfl (lv_at hl 0 rfl) ?_
  refine lv_if_lt (tgt := 17) hx hb d_MO_isDesk_1 (by decide) (fun c1 => ?_) (fun c1 => ?_)
  ·
    rw [Int32.lt_iff_toInt_lt, Int32.toInt_zero] at c1
    refine lv_iconst (v := nI 0) hx hb d_MO_isDesk_17 (by decide) ?_
    exact mp_zret hx hb hr hlk (Or.inl rfl) (by rw [if_neg (fun z => by have := z.1; omega)]; rfl) d_MO_isDesk_18
  ·
    rw [Int32.lt_iff_toInt_lt, Int32.toInt_zero] at c1
    refine lv_iload_n hx hb d_MO_isDesk_4 rfl (lv_at hl 0 rfl) ?_
    refine lv_sipush (v := nI 512) hx hb d_MO_isDesk_5 (by decide) ?_
    refine lv_iload_n hx hb d_MO_isDesk_8 rfl (lv_at hl 1 rfl) ?_
    refine lv_isub hx hb d_MO_isDesk_9 ?_
    refine mw_ti (pk_sub (by omega)) ?_
    refine lv_icmp_gt (tgt := 17) hx hb d_MO_isDesk_10 (by decide) (fun c10 => ?_) (fun c10 => ?_)
    ·
      rw [Int32.lt_iff_toInt_lt, nI_toInt (by omega)] at c10
      refine lv_iconst (v := nI 0) hx hb d_MO_isDesk_17 (by decide) ?_
      exact mp_zret hx hb hr hlk (Or.inl rfl) (by rw [if_neg (fun z => by have := z.2; omega)]; rfl) d_MO_isDesk_18
    ·
      rw [Int32.lt_iff_toInt_lt, nI_toInt (by omega)] at c10
      refine lv_iconst (v := nI 1) hx hb d_MO_isDesk_13 (by decide) ?_
      refine lv_goto (tgt := 18) hx hb d_MO_isDesk_14 (by decide) ?_
      exact mp_zret hx hb hr hlk (Or.inr rfl) (by rw [if_pos ⟨by omega, by omega⟩]; rfl) d_MO_isDesk_18
set_option maxRecDepth 100000 in
set_option maxHeartbeats 4000000 in
theorem c_MO_isPower (l : Launch) {n : Nat} (h1 : 64 ≤ n) (h2 : n ≤ 16384) : mp_Ct l y_MO_isPower (Cond.code y_MO_isPower b_MO_isPower 2 (some .boolean) :: Ts) 0 0 [.int (nI n)] (fun u => ∃ r : Int32, u = some (.int r) ∧ ((r = 1 ∧ ∃ p, 6 ≤ p ∧ p ≤ 14 ∧ n = 2 ^ p) ∨ (r = 0 ∧ ¬ ∃ p, 6 ≤ p ∧ p ≤ 14 ∧ n = 2 ^ p))) := by
  refine mp_meth (by decide) (Nat.le_of_ble_eq_true rfl) ?_
  intro p e s m below meth c hx hb hml hown hts hr hlk ls hl
  have hl : lv_has ls 2 [(0, .int (nI n))] := hl
  have hloop : ∀ (q j : Nat), j + q = 14 → 6 ≤ j → (∀ p, 6 ≤ p → p < j → 2 ^ p < n) → ∀ ls : Array Slot, lv_has ls 2 [(1, .int (nI (2 ^ j))), (0, .int (nI n))] → W p l e { frames := 0, cells := 0, slots := 0, locals := 0 } s m ([.int (nI n)] : List Value).toArray below meth c s.heap [] 0 0 (mx_Q below (fun _ st o t => ∃ v, o = .returned v ∧ (∃ r : Int32, v = some (.int r) ∧ ((r = 1 ∧ ∃ p, 6 ≤ p ∧ p ≤ 14 ∧ n = 2 ^ p) ∨ (r = 0 ∧ ¬ ∃ p, 6 ≤ p ∧ p ≤ 14 ∧ n = 2 ^ p))) ∧ t.heap = st.heap) ([.int (nI n)] : List Value).toArray s 0 0 (fun _ => False)) (F0 m 3 ls []) := by
    intro q
    induction q with
    | zero =>
      intro j hj h6 hlo ls hl
      have hj14 : j = 14 := by omega
      subst hj14
      refine lv_iload_n hx hb d_MO_isPower_3 rfl (lv_at hl 0 rfl) ?_
      refine lv_iload_n hx hb d_MO_isPower_4 rfl (lv_at hl 1 rfl) ?_
      refine lv_icmp_ge (tgt := 15) hx hb d_MO_isPower_5 (by decide) (fun c5 => ?_) (fun c5 => ?_)
      ·
        refine lv_iload_n hx hb d_MO_isPower_15 rfl (lv_at hl 0 rfl) ?_
        refine lv_iload_n hx hb d_MO_isPower_16 rfl (lv_at hl 1 rfl) ?_
        refine lv_icmp_ne (tgt := 24) hx hb d_MO_isPower_17 (by decide) (fun c17 => ?_) (fun c17 => ?_)
        ·
          refine lv_iconst (v := nI 0) hx hb d_MO_isPower_24 (by decide) ?_
          refine mp_zret hx hb hr hlk (Or.inl rfl) ⟨_, rfl, Or.inr ⟨rfl, fun ⟨p, p6, p14, hp⟩ => ?_⟩⟩ d_MO_isPower_25
          by_cases e : p = 14
          · rw [e] at hp; exact c17 (by rw [hp])
          · have := hlo p p6 (by omega); omega
        ·
          refine lv_iconst (v := nI 1) hx hb d_MO_isPower_20 (by decide) ?_
          refine lv_goto (tgt := 25) hx hb d_MO_isPower_21 (by decide) ?_
          refine mp_zret hx hb hr hlk (Or.inr rfl) ⟨_, rfl, Or.inl ⟨rfl, 14, by decide, by decide, ?_⟩⟩ d_MO_isPower_25
          have := (nI_eq (a := 2 ^ 14) (b := n) (by decide) (by omega)).mp c17
          omega
      ·
        exact absurd (nI_le (b := 2 ^ 14) (by omega) (by decide)) c5
    | succ q ih =>
      intro j hj h6 hlo ls hl
      have hjp : 2 ^ j ≤ 2 ^ 13 := Nat.pow_le_pow_right (by decide) (by omega)
      refine lv_iload_n hx hb d_MO_isPower_3 rfl (lv_at hl 0 rfl) ?_
      refine lv_iload_n hx hb d_MO_isPower_4 rfl (lv_at hl 1 rfl) ?_
      refine lv_icmp_ge (tgt := 15) hx hb d_MO_isPower_5 (by decide) (fun c5 => ?_) (fun c5 => ?_)
      ·
        have hge := (nI_leI (by omega) (by omega)).mp c5
        refine lv_iload_n hx hb d_MO_isPower_15 rfl (lv_at hl 0 rfl) ?_
        refine lv_iload_n hx hb d_MO_isPower_16 rfl (lv_at hl 1 rfl) ?_
        refine lv_icmp_ne (tgt := 24) hx hb d_MO_isPower_17 (by decide) (fun c17 => ?_) (fun c17 => ?_)
        ·
          refine lv_iconst (v := nI 0) hx hb d_MO_isPower_24 (by decide) ?_
          refine mp_zret hx hb hr hlk (Or.inl rfl) ⟨_, rfl, Or.inr ⟨rfl, fun ⟨p, p6, p14, hp⟩ => ?_⟩⟩ d_MO_isPower_25
          by_cases e : p < j
          · have := hlo p p6 e; omega
          · have hjp2 : 2 ^ j ≤ 2 ^ p := Nat.pow_le_pow_right (by decide) (by omega)
            exact c17 ((nI_eq (by omega) (by omega)).mpr (by omega))
        ·
          refine lv_iconst (v := nI 1) hx hb d_MO_isPower_20 (by decide) ?_
          refine lv_goto (tgt := 25) hx hb d_MO_isPower_21 (by decide) ?_
          exact mp_zret hx hb hr hlk (Or.inr rfl) ⟨_, rfl, Or.inl ⟨rfl, j, h6, by omega, ((nI_eq (by omega) (by omega)).mp c17).symm⟩⟩ d_MO_isPower_25
      ·
        have hlt : 2 ^ j < n := Nat.lt_of_not_le (fun h => c5 ((nI_leI (by omega) (by omega)).mpr h))
        refine lv_iconst (v := nI 2) hx hb d_MO_isPower_8 (by decide) ?_
        refine lv_iload_n hx hb d_MO_isPower_9 rfl (lv_at hl 0 rfl) ?_
        refine lv_imul hx hb d_MO_isPower_10 ?_
        refine mw_ti (pk_mul _ _) ?_
        refine mw_ti (y := nI (2 ^ (j + 1))) ((by rw [Nat.pow_succ, Nat.mul_comm])) ?_
        refine lv_istore_n (lv' := [(1, .int (nI (2 ^ (j + 1)))), (0, .int (nI n))]) hx hb d_MO_isPower_11 rfl hl (by decide) rfl (fun ls hl => ?_)
        refine lv_goto (tgt := 3) hx hb d_MO_isPower_12 (by decide) ?_
        refine ih (j + 1) (by omega) (by omega) (fun p p6 hp => ?_) ls hl
        by_cases e : p = j
        · rw [e]; exact hlt
        · exact hlo p p6 (by omega)
  refine lv_bipush (v := nI 64) hx hb d_MO_isPower_0 (by decide) ?_
  refine lv_istore_n (lv' := [(1, .int (nI 64)), (0, .int (nI n))]) hx hb d_MO_isPower_2 rfl hl (by decide) rfl (fun ls hl => ?_)
  exact hloop 8 6 (by decide) (by decide) (fun p p6 hp => absurd hp (by omega)) ls hl
theorem inB_i (z : Int32) {a b : Nat} (ha : a < 2 ^ 31) (hb : b < 2 ^ 31) : (if (nI a).toInt ≤ z.toInt ∧ z.toInt ≤ (nI b).toInt then (1 : Int32) else 0) = if inB z a b then 1 else 0 := by rw [nI_toInt ha, nI_toInt hb]
set_option maxRecDepth 100000 in
set_option maxHeartbeats 4000000 in
theorem c_MO_isProper (l : Launch) (k a v n : Int32) : mp_Ct l y_MO_isProper (Cond.code y_MO_isProper b_MO_isProper 5 (some .boolean) :: Ts) 1 40 [.int k, .int a, .int v, .int n] (fun u => ∃ r : Int32, u = some (.int r) ∧ ((r = 1 ∧ fitS k a v n) ∨ (r = 0 ∧ ¬ fitS k a v n))) := by
  refine mp_meth (by decide) (Nat.le_of_ble_eq_true rfl) ?_
  intro p e s m below meth c hx hb hml hown hts hr hlk ls hl
  have hl : lv_has ls 5 [(0, .int k), (1, .int a), (2, .int v), (3, .int n)] := hl
  have n01 : nI 0 ≠ nI 1 := by decide
  have n02 : nI 0 ≠ nI 2 := by decide
  have n12 : nI 1 ≠ nI 2 := by decide
  have no : ∀ (ls : Array Slot), lv_has ls 5 [] → ¬ fitS k a v n → W p l e { frames := 1, cells := 0, slots := 0, locals := 40 } s m ([.int k, .int a, .int v, .int n] : List Value).toArray below meth c s.heap [] 0 0 (mx_Q below (fun _ st o t => ∃ v2, o = .returned v2 ∧ (∃ r : Int32, v2 = some (.int r) ∧ ((r = 1 ∧ fitS k a v n) ∨ (r = 0 ∧ ¬ fitS k a v n))) ∧ t.heap = st.heap) ([.int k, .int a, .int v, .int n] : List Value).toArray s 0 0 (fun _ => False)) (F0 m 108 ls []) := by
    intro ls hl hn
    refine lv_iconst (v := nI 0) hx hb d_MO_isProper_108 (by decide) ?_
    exact mp_zret hx hb hr hlk (Or.inl rfl) ⟨_, rfl, Or.inr ⟨rfl, hn⟩⟩ d_MO_isProper_109
  have no2 : ∀ (ls : Array Slot), lv_has ls 5 [] → ¬ fitS k a v n → W p l e { frames := 1, cells := 0, slots := 0, locals := 40 } s m ([.int k, .int a, .int v, .int n] : List Value).toArray below meth c s.heap [] 0 0 (mx_Q below (fun _ st o t => ∃ v2, o = .returned v2 ∧ (∃ r : Int32, v2 = some (.int r) ∧ ((r = 1 ∧ fitS k a v n) ∨ (r = 0 ∧ ¬ fitS k a v n))) ∧ t.heap = st.heap) ([.int k, .int a, .int v, .int n] : List Value).toArray s 0 0 (fun _ => False)) (F0 m 36 ls []) := by
    intro ls hl hn
    refine lv_iconst (v := nI 0) hx hb d_MO_isProper_36 (by decide) ?_
    exact mp_zret hx hb hr hlk (Or.inl rfl) ⟨_, rfl, Or.inr ⟨rfl, hn⟩⟩ d_MO_isProper_37
  have rest : ∀ (r9 : Int32) (Q : Prop), (r9 = 1 ∧ Q ∨ r9 = 0 ∧ ¬ Q) → (fitS k a v n ↔ Q ∧ inB v 1 256 ∧ inB n 1 4096) → ∀ (ls : Array Slot), lv_has ls 5 [(0, .int k), (1, .int a), (2, .int v), (3, .int n)] → W p l e { frames := 1, cells := 0, slots := 0, locals := 40 } s m ([.int k, .int a, .int v, .int n] : List Value).toArray below meth c s.heap [] 0 0 (mx_Q below (fun _ st o t => ∃ v2, o = .returned v2 ∧ (∃ r : Int32, v2 = some (.int r) ∧ ((r = 1 ∧ fitS k a v n) ∨ (r = 0 ∧ ¬ fitS k a v n))) ∧ t.heap = st.heap) ([.int k, .int a, .int v, .int n] : List Value).toArray s 0 0 (fun _ => False)) (F0 m 75 ls [.int r9]) := by
    intro r9 Q hr9 hiff ls hl
    refine lv_istore (lv' := [(4, .int r9), (0, .int k), (1, .int a), (2, .int v), (3, .int n)]) hx hb d_MO_isProper_75 hl (by decide) rfl (fun ls hl => ?_)
    refine lv_iload hx hb d_MO_isProper_77 (lv_at hl 0 rfl) ?_
    refine lv_if_eq (tgt := 108) hx hb d_MO_isProper_79 (by decide) (fun c79 => ?_) (fun c79 => ?_)
    ·
      refine no ls (lv_sub hl [] rfl) (fun z => ?_)
      rcases hr9 with ⟨e, -⟩ | ⟨-, e⟩
      · rw [e] at c79; exact absurd c79 (by decide)
      · exact e (hiff.mp z).1
    ·
      have hQ : Q := by
        rcases hr9 with ⟨-, e⟩ | ⟨e, -⟩
        · exact e
        · exact absurd e c79
      refine lv_iload_n hx hb d_MO_isProper_82 rfl (lv_at hl 3 rfl) ?_
      refine lv_iconst (v := nI 1) hx hb d_MO_isProper_83 (by decide) ?_
      refine lv_sipush (v := nI 256) hx hb d_MO_isProper_84 (by decide) ?_
      refine mp_call (rest := []) hb hml (c_MO_isIn l v (nI 1) (nI 256)) (mx_invS hx hown (hts _ tw_677) (hts _ tw_678) (hts _ tw_23) (hts _ tw_679) (by decide) (g := F0 m 87 ls [.int (nI 256), .int (nI 1), .int v]) rfl (argsL := [.int v, .int (nI 1), .int (nI 256)]) (rest := []) np_MO_isIn rfl (by rw [hb]; exact d_MO_isProper_87)) hl.1 d_MO_isProper_87 ⟨Nat.le_of_ble_eq_true rfl, Nat.le_of_ble_eq_true rfl⟩ (Or.inl ⟨_, _, List.mem_cons_self⟩) (mk_ws tw_679 hts) (fun a9 U9 h9 => Ts_warm hts _ tw_23 a9 U9 h9) (by first | exact ⟨Nat.le_of_ble_eq_true rfl, Nat.le_of_ble_eq_true rfl⟩ | assumption) (fun v hv => ?_)
      subst hv
      refine W.eq (g2 := F0 m 90 ls [.int (if (nI 1).toInt ≤ v.toInt ∧ v.toInt ≤ (nI 256).toInt then 1 else 0)]) rfl ?_
      rw [inB_i v (a := 1) (b := 256) (by decide) (by decide)]
      refine lv_if_eq (tgt := 108) hx hb d_MO_isProper_90 (by decide) (fun c90 => ?_) (fun c90 => ?_)
      ·
        rw [if10.1] at c90
        exact no ls (lv_sub hl [] rfl) (fun z => c90 (hiff.mp z).2.1)
      ·
        rw [if10.2] at c90
        refine lv_iload_n hx hb d_MO_isProper_93 rfl (lv_at hl 4 rfl) ?_
        refine lv_iconst (v := nI 1) hx hb d_MO_isProper_94 (by decide) ?_
        refine lv_sipush (v := nI 4096) hx hb d_MO_isProper_95 (by decide) ?_
        refine mp_call (rest := []) hb hml (c_MO_isIn l n (nI 1) (nI 4096)) (mx_invS hx hown (hts _ tw_677) (hts _ tw_678) (hts _ tw_23) (hts _ tw_679) (by decide) (g := F0 m 98 ls [.int (nI 4096), .int (nI 1), .int n]) rfl (argsL := [.int n, .int (nI 1), .int (nI 4096)]) (rest := []) np_MO_isIn rfl (by rw [hb]; exact d_MO_isProper_98)) hl.1 d_MO_isProper_98 ⟨Nat.le_of_ble_eq_true rfl, Nat.le_of_ble_eq_true rfl⟩ (Or.inl ⟨_, _, List.mem_cons_self⟩) (mk_ws tw_679 hts) (fun a9 U9 h9 => Ts_warm hts _ tw_23 a9 U9 h9) (by first | exact ⟨Nat.le_of_ble_eq_true rfl, Nat.le_of_ble_eq_true rfl⟩ | assumption) (fun v hv => ?_)
        subst hv
        refine W.eq (g2 := F0 m 101 ls [.int (if (nI 1).toInt ≤ n.toInt ∧ n.toInt ≤ (nI 4096).toInt then 1 else 0)]) rfl ?_
        rw [inB_i n (a := 1) (b := 4096) (by decide) (by decide)]
        refine lv_if_eq (tgt := 108) hx hb d_MO_isProper_101 (by decide) (fun c101 => ?_) (fun c101 => ?_)
        ·
          rw [if10.1] at c101
          exact no ls (lv_sub hl [] rfl) (fun z => c101 (hiff.mp z).2.2)
        ·
          rw [if10.2] at c101
          refine lv_iconst (v := nI 1) hx hb d_MO_isProper_104 (by decide) ?_
          refine lv_goto (tgt := 109) hx hb d_MO_isProper_105 (by decide) ?_
          exact mp_zret hx hb hr hlk (Or.inr rfl) ⟨_, rfl, Or.inl ⟨rfl, hiff.mpr ⟨hQ, c90, c101⟩⟩⟩ d_MO_isProper_109
  refine lv_iload_n hx hb d_MO_isProper_0 rfl (lv_at hl 0 rfl) ?_
  refine lv_iconst (v := nI 2) hx hb d_MO_isProper_1 (by decide) ?_
  refine lv_icmp_ne (tgt := 38) hx hb d_MO_isProper_2 (by decide) (fun c2 => ?_) (fun c2 => ?_)
  ·
    refine lv_iload_n hx hb d_MO_isProper_38 rfl (lv_at hl 0 rfl) ?_
    refine lv_if_ne (tgt := 55) hx hb d_MO_isProper_39 (by decide) (fun c39 => ?_) (fun c39 => ?_)
    ·
      have hk0 : k ≠ nI 0 := fun z => c39 (z.trans nI_0)
      refine lv_iload_n hx hb d_MO_isProper_55 rfl (lv_at hl 0 rfl) ?_
      refine lv_iconst (v := nI 1) hx hb d_MO_isProper_56 (by decide) ?_
      refine lv_icmp_ne (tgt := 74) hx hb d_MO_isProper_57 (by decide) (fun c57 => ?_) (fun c57 => ?_)
      ·
        refine lv_iconst (v := nI 0) hx hb d_MO_isProper_74 (by decide) ?_
        exact rest _ False (Or.inr ⟨rfl, id⟩) ⟨fun h => by rcases h with h | h | h; exact absurd h.1 hk0; exact absurd h.1 c57; exact absurd h.1 c2, fun h => h.1.elim⟩ ls hl
      ·
        have hiff : fitS k a v n ↔ inB a 1 64 ∧ inB v 1 256 ∧ inB n 1 4096 := ⟨fun h => by rcases h with h | h | h; exact absurd h.1 hk0; exact h.2; exact absurd h.1 c2, fun h => Or.inr (Or.inl ⟨c57, h⟩)⟩
        refine lv_iload_n hx hb d_MO_isProper_60 rfl (lv_at hl 1 rfl) ?_
        refine lv_iconst (v := nI 1) hx hb d_MO_isProper_61 (by decide) ?_
        refine lv_bipush (v := nI 64) hx hb d_MO_isProper_62 (by decide) ?_
        refine mp_call (rest := []) hb hml (c_MO_isIn l a (nI 1) (nI 64)) (mx_invS hx hown (hts _ tw_677) (hts _ tw_678) (hts _ tw_23) (hts _ tw_679) (by decide) (g := F0 m 64 ls [.int (nI 64), .int (nI 1), .int a]) rfl (argsL := [.int a, .int (nI 1), .int (nI 64)]) (rest := []) np_MO_isIn rfl (by rw [hb]; exact d_MO_isProper_64)) hl.1 d_MO_isProper_64 ⟨Nat.le_of_ble_eq_true rfl, Nat.le_of_ble_eq_true rfl⟩ (Or.inl ⟨_, _, List.mem_cons_self⟩) (mk_ws tw_679 hts) (fun a9 U9 h9 => Ts_warm hts _ tw_23 a9 U9 h9) (by first | exact ⟨Nat.le_of_ble_eq_true rfl, Nat.le_of_ble_eq_true rfl⟩ | assumption) (fun v hv => ?_)
        subst hv
        refine W.eq (g2 := F0 m 67 ls [.int (if (nI 1).toInt ≤ a.toInt ∧ a.toInt ≤ (nI 64).toInt then 1 else 0)]) rfl ?_
        rw [inB_i a (a := 1) (b := 64) (by decide) (by decide)]
        refine lv_if_eq (tgt := 74) hx hb d_MO_isProper_67 (by decide) (fun c67 => ?_) (fun c67 => ?_)
        ·
          rw [if10.1] at c67
          refine lv_iconst (v := nI 0) hx hb d_MO_isProper_74 (by decide) ?_
          exact rest _ _ (Or.inr ⟨rfl, c67⟩) hiff ls hl
        ·
          rw [if10.2] at c67
          refine lv_iconst (v := nI 1) hx hb d_MO_isProper_70 (by decide) ?_
          refine lv_goto (tgt := 75) hx hb d_MO_isProper_71 (by decide) ?_
          exact rest _ _ (Or.inl ⟨rfl, c67⟩) hiff ls hl
    ·
      have hk0 : k = nI 0 := c39.trans nI_0.symm
      have hiff : fitS k a v n ↔ a = nI 4 ∧ inB v 1 256 ∧ inB n 1 4096 := ⟨fun h => by rcases h with h | h | h; exact h.2; exact absurd (hk0.symm.trans h.1) n01; exact absurd h.1 c2, fun h => Or.inl ⟨hk0, h⟩⟩
      refine lv_iload_n hx hb d_MO_isProper_42 rfl (lv_at hl 1 rfl) ?_
      refine lv_iconst (v := nI 4) hx hb d_MO_isProper_43 (by decide) ?_
      refine lv_icmp_ne (tgt := 51) hx hb d_MO_isProper_44 (by decide) (fun c44 => ?_) (fun c44 => ?_)
      ·
        refine lv_iconst (v := nI 0) hx hb d_MO_isProper_51 (by decide) ?_
        refine lv_goto (tgt := 75) hx hb d_MO_isProper_52 (by decide) ?_
        exact rest _ _ (Or.inr ⟨rfl, c44⟩) hiff ls hl
      ·
        refine lv_iconst (v := nI 1) hx hb d_MO_isProper_47 (by decide) ?_
        refine lv_goto (tgt := 75) hx hb d_MO_isProper_48 (by decide) ?_
        exact rest _ _ (Or.inl ⟨rfl, c44⟩) hiff ls hl
  ·
    have hiff : fitS k a v n ↔ a = nI 0 ∧ v = nI 0 ∧ inB n 64 16384 ∧ ∃ p, 6 ≤ p ∧ p ≤ 14 ∧ n.toNatClampNeg = 2 ^ p := ⟨fun h => by rcases h with h | h | h; exact absurd (h.1.symm.trans c2) n02; exact absurd (h.1.symm.trans c2) n12; exact h.2, fun h => Or.inr (Or.inr ⟨c2, h⟩)⟩
    refine lv_iload_n hx hb d_MO_isProper_5 rfl (lv_at hl 1 rfl) ?_
    refine lv_if_ne (tgt := 36) hx hb d_MO_isProper_6 (by decide) (fun c6 => ?_) (fun c6 => ?_)
    ·
      exact no2 ls (lv_sub hl [] rfl) (fun z => c6 ((hiff.mp z).1.trans nI_0))
    ·
      refine lv_iload_n hx hb d_MO_isProper_9 rfl (lv_at hl 2 rfl) ?_
      refine lv_if_ne (tgt := 36) hx hb d_MO_isProper_10 (by decide) (fun c10 => ?_) (fun c10 => ?_)
      ·
        exact no2 ls (lv_sub hl [] rfl) (fun z => c10 ((hiff.mp z).2.1.trans nI_0))
      ·
        refine lv_iload_n hx hb d_MO_isProper_13 rfl (lv_at hl 3 rfl) ?_
        refine lv_bipush (v := nI 64) hx hb d_MO_isProper_14 (by decide) ?_
        refine lv_sipush (v := nI 16384) hx hb d_MO_isProper_16 (by decide) ?_
        refine mp_call (rest := []) hb hml (c_MO_isIn l n (nI 64) (nI 16384)) (mx_invS hx hown (hts _ tw_677) (hts _ tw_678) (hts _ tw_23) (hts _ tw_679) (by decide) (g := F0 m 19 ls [.int (nI 16384), .int (nI 64), .int n]) rfl (argsL := [.int n, .int (nI 64), .int (nI 16384)]) (rest := []) np_MO_isIn rfl (by rw [hb]; exact d_MO_isProper_19)) hl.1 d_MO_isProper_19 ⟨Nat.le_of_ble_eq_true rfl, Nat.le_of_ble_eq_true rfl⟩ (Or.inl ⟨_, _, List.mem_cons_self⟩) (mk_ws tw_679 hts) (fun a9 U9 h9 => Ts_warm hts _ tw_23 a9 U9 h9) (by first | exact ⟨Nat.le_of_ble_eq_true rfl, Nat.le_of_ble_eq_true rfl⟩ | assumption) (fun v hv => ?_)
        subst hv
        refine W.eq (g2 := F0 m 22 ls [.int (if (nI 64).toInt ≤ n.toInt ∧ n.toInt ≤ (nI 16384).toInt then 1 else 0)]) rfl ?_
        rw [inB_i n (a := 64) (b := 16384) (by decide) (by decide)]
        refine lv_if_eq (tgt := 36) hx hb d_MO_isProper_22 (by decide) (fun c22 => ?_) (fun c22 => ?_)
        ·
          rw [if10.1] at c22
          exact no2 ls (lv_sub hl [] rfl) (fun z => c22 (hiff.mp z).2.2.1)
        ·
          rw [if10.2] at c22
          obtain ⟨n1, n2, n3⟩ := inB_nI c22 (by decide)
          rw [n1] at hl
          refine lv_iload_n hx hb d_MO_isProper_25 rfl (lv_at hl 3 rfl) ?_
          refine mp_call (rest := []) hb hml (c_MO_isPower l n2 n3) (mx_invS hx hown (hts _ tw_680) (hts _ tw_681) (hts _ tw_23) (hts _ tw_682) (by decide) (g := F0 m 26 ls [.int (nI n.toNatClampNeg)]) rfl (argsL := [.int (nI n.toNatClampNeg)]) (rest := []) np_MO_isPower rfl (by rw [hb]; exact d_MO_isProper_26)) hl.1 d_MO_isProper_26 ⟨Nat.le_of_ble_eq_true rfl, Nat.le_of_ble_eq_true rfl⟩ (Or.inl ⟨_, _, List.mem_cons_self⟩) (mk_ws tw_682 hts) (fun a9 U9 h9 => Ts_warm hts _ tw_23 a9 U9 h9) (by first | exact ⟨Nat.le_of_ble_eq_true rfl, Nat.le_of_ble_eq_true rfl⟩ | assumption) (fun v hv => ?_)
          obtain ⟨r9, hv, hr9⟩ := hv
          subst hv
          refine W.eq (g2 := F0 m 29 ls [.int r9]) rfl ?_
          refine lv_if_eq (tgt := 36) hx hb d_MO_isProper_29 (by decide) (fun c29 => ?_) (fun c29 => ?_)
          ·
            refine no2 ls (lv_sub hl [] rfl) (fun z => ?_)
            rcases hr9 with ⟨e, -⟩ | ⟨-, e⟩
            · rw [e] at c29; exact absurd c29 (by decide)
            · exact e (hiff.mp z).2.2.2
          ·
            have hp : ∃ p, 6 ≤ p ∧ p ≤ 14 ∧ n.toNatClampNeg = 2 ^ p := by
              rcases hr9 with ⟨-, e⟩ | ⟨e, -⟩
              · exact e
              · exact absurd e c29
            refine lv_iconst (v := nI 1) hx hb d_MO_isProper_32 (by decide) ?_
            refine lv_goto (tgt := 37) hx hb d_MO_isProper_33 (by decide) ?_
            exact mp_zret hx hb hr hlk (Or.inr rfl) ⟨_, rfl, Or.inl ⟨rfl, hiff.mpr ⟨c6.trans nI_0.symm, c10.trans nI_0.symm, c22, hp⟩⟩⟩ d_MO_isProper_37
end
