theorem tw_462 : Cond.privateMethod y_EM_placeOfEntry ∈ Ts := mw_in (i := 462) (by decide +kernel) (by decide +kernel)
/-! ### a private method called on an object of a class below -/
section
variable {p : Program} {l : Launch} {e : Env} {R : Room} {s : State} {m : MethodId} {args : Array Value} {below : List Frame} {meth : Method} {c : Code} {H : Heap}
theorem mx_invP (hexec : p.tables.exec = Jvm.exec) {own C : String} {index : Nat} {y y2 x2 : MethodName} {bytes : ByteArray} {maxL : Nat} {ret : Option FieldType}
    (hown : s.vm.findClass own = some m.cls) (hlink : (Cond.methodLink own index y).before args s = true) (hinst : (Cond.instanceMethod y).before args s = true) (hpriv : (Cond.privateMethod y).before args s = true) (hsel : (Cond.selects C x2 y2).before args s = true) (hc2 : y2.cls = y.cls)
    (hcode : (Cond.code y bytes maxL ret).before args s = true) (hy : y.cls ≠ "java/lang/invoke/MethodHandle" ∧ y.cls ≠ "java/lang/invoke/VarHandle")
    {b : Addr} (hb : ∃ cellB : Cell, H[b]? = some cellB ∧ cellB.vm.isStatics = false ∧ s.vm.findClass C = some cellB.cls)
    {g : JFrame} (hg : g.method = m) {argsL rest : List Value} (hlen : (parseMethodDescriptor y.desc).map (fun d => d.parameters.length) = some argsL.length)
    (hstack : g.stack = argsL.reverse ++ .ref b :: rest) (hdg : decode c.code g.pc = .ok (.invokevirtual index, 3)) : mx_Inv p l e R s m args below meth c H g y (Value.ref b :: argsL).toArray rest := by
  intro T locs cells slots hT X
  obtain ⟨cellB, hcell, hobj, hcls⟩ := hb
  rw [← hT] at hcell
  obtain ⟨mk, methM, hnamed, hmethM, hstM, habM⟩ := Cond.instanceMethod_spec hinst
  obtain ⟨methM', cM, hmethM', -, -, -, -, -, -, hsigM⟩ := Cond.code_spec hnamed hcode
  cases hmethM.symm.trans hmethM'
  obtain ⟨c2, r2, m2, q1, q2, q3, q4, kP, hkP, hkPi⟩ := Cond.selects_spec hsel
  have e1 := findClass_of_methodNamed hnamed
  have e2 := findClass_of_methodNamed q3
  rw [hc2] at e2
  have e3 : m2.cls = mk.cls := Option.some.inj (e2.symm.trans e1)
  rw [e3] at hkP
  have hselP : selectMethod e.platform s.vm cellB.cls mk = .method mk := selectMethod_private hmethM (Cond.privateMethod_at hpriv mk methM hnamed hmethM)
  have hl : argsL.length = methM.sig.parameters.length := by rw [hsigM] at hlen; exact (Option.some.inj hlen).symm
  obtain ⟨vm₁, X₁, hstep₁⟩ := X.invokevirtual hexec hown hlink hnamed hmethM hstM hkP hkPi hy (a := b) (cell := cellB) hcell
    (fun z h => by rw [h] at hobj; cases hobj) hselP hmethM habM hkP hkPi (g := g) hg (argsL := argsL) (rest := rest) hl hstack hdg
  exact ⟨vm₁, mk, X₁.warmed, X₁, hnamed, fun target h => hstep₁ _ fun acts => by rw [doInvoke_state]; exact h⟩
end
/-! ### what each call answers, and the state afterwards -/
def rV (r : Int32 ⊕ Nat) : mw_R := match r with
  | .inl v => .inl (some (.int v))
  | .inr k => .inr k
/-- the entry of the key at q on the desk -/
def ent (S : as_S) (i q : Nat) : Option Nat := if kd (mm S i) = 0 then (if bw_n (dk S) q 4 < en (mm S i) then some (bw_n (dk S) q 4) else none) else fnd (mm S i) (kyL (dk S) q (ks (mm S i)))
/-- the state when a key was looked up -/
def lk (S : as_S) (i q : Nat) : as_S := if kd (mm S i) = 1 then S_mm S i (M_aq (mm S i) (kyL (dk S) q (ks (mm S i)))) else S
def plc (m : as_M) (e : Nat) : Nat := bg m + e * up8 (vs m)
def cpy (f : Nat → Nat) (i : Nat) (d : Nat → Nat) (j k : Nat) : Nat → Nat := fun x => if i ≤ x ∧ x < i + k then d (j + (x - i)) else f x
def sp_find (S : as_S) (i : Nat) (k : Int32) : as_S × (Int32 ⊕ Nat) :=
  if inD k (ks (mm S i)) 512 then (lk S i k.toNatClampNeg, .inl (match ent S i k.toNatClampNeg with | none => -1 | some e => nI (plc (mm S i) e))) else (S, .inr 2)
def freeE (m : as_M) : Option Nat := lst (fun e => (tb m e).isNone) (en m)
/-- the value is written, the entry is known -/
def wrE (S : as_S) (i e v : Nat) : as_S := S_ar S (cpy (ar S) (plc (mm S i) e) (dk S) v (vs (mm S i)))
/-- the key gets the entry e -/
def gvE (S : as_S) (i e : Nat) : as_S := S_mm S i (M_tb (mm S i) (va_up (tb (mm S i)) e (some (aq (mm S i)))))
/-- the entry for a key that isn't there -/
def sp_miss (S : as_S) (i : Nat) (f : Int32) : as_S × Int32 :=
  if kd (mm S i) = 0 then (S, -7) else if f = nI 2 then (S, -2) else match freeE (mm S i) with
    | none => (S, -7)
    | some e => (gvE S i e, nI e)
def sp_upd (S : as_S) (i : Nat) (k v f : Int32) : as_S × (Int32 ⊕ Nat) :=
  if inD k (ks (mm S i)) 512 ∧ inD v (vs (mm S i)) 512 then
    if 0 ≤ f.toInt ∧ f.toInt ≤ 2 then match ent S i k.toNatClampNeg with
      | some e => if f = nI 1 then (lk S i k.toNatClampNeg, .inl (-17)) else (wrE (lk S i k.toNatClampNeg) i e v.toNatClampNeg, .inl (nI 0))
      | none => if (sp_miss (lk S i k.toNatClampNeg) i f).2 < nI 0 then ((sp_miss (lk S i k.toNatClampNeg) i f).1, .inl (sp_miss (lk S i k.toNatClampNeg) i f).2) else (wrE (sp_miss (lk S i k.toNatClampNeg) i f).1 i (sp_miss (lk S i k.toNatClampNeg) i f).2.toNatClampNeg v.toNatClampNeg, .inl (nI 0))
    else (S, .inl (-22))
  else (S, .inr 2)
def sp_free (S : as_S) (i : Nat) (k : Int32) : as_S × (Int32 ⊕ Nat) :=
  if inD k (ks (mm S i)) 512 then match ent S i k.toNatClampNeg with
    | none => (lk S i k.toNatClampNeg, .inl (-2))
    | some e => (S_mm (lk S i k.toNatClampNeg) i (M_tb (mm (lk S i k.toNatClampNeg) i) (va_up (tb (mm (lk S i k.toNatClampNeg) i)) e none)), .inl (nI 0))
  else (S, .inr 2)
/-- the first entry with a key, from s on -/
def nxE (m : as_M) (s : Nat) : Option Nat := lst (fun e => decide (s ≤ e) && (tb m e).isSome) (en m)
def nxK (S : as_S) (i s : Nat) (to : Nat) : as_S × (Int32 ⊕ Nat) := match nxE (mm S i) s with
  | none => (S, .inl (-1))
  | some e => (S_dk S (cpy (dk S) to (fun j => ((tb (mm S i) e).getD []).getD j 0) 0 (ks (mm S i))), .inl (nI e))
def sp_next (S : as_S) (i : Nat) (k to : Int32) : as_S × (Int32 ⊕ Nat) :=
  if inD to (ks (mm S i)) 512 ∧ (k = -1 ∨ inD k (ks (mm S i)) 512) then
    if k = -1 then nxK S i 0 to.toNatClampNeg else nxK (lk S i k.toNatClampNeg) i (match ent S i k.toNatClampNeg with | none => 0 | some e => e + 1) to.toNatClampNeg
  else (S, .inr 2)
def nup (f : Nat → Nat) (p v : Nat) : Nat → Nat := fun x => if x = p then v else f x
/-- k bytes are written into a ring at b of n bytes, from the count h on -/
def rng (f : Nat → Nat) (b n h : Nat) (v : Nat → Nat) : Nat → Nat → Nat
  | 0 => f
  | k + 1 => nup (rng f b n h v k) (b + (h + k) % n) (v k)
/-- the bytes of a record -/
def rcB (d : Nat → Nat) (z r at_ : Nat) : Nat → Nat := fun j => if j < 4 then z / 2 ^ (8 * j) % 256 else if j < 8 then r / 2 ^ (8 * (j - 4)) % 256 else if j < 8 + z then d (at_ + (j - 8)) else 0
def sp_put (S : as_S) (i : Nat) (a z : Int32) : as_S × (Int32 ⊕ Nat) :=
  if 1 ≤ z.toInt ∧ z.toInt ≤ 256 then
    if inD a z.toNatClampNeg 512 then
      if bk (mm S i) = true then (S, .inl (-22))
      else if en (mm S i) < hd (mm S i) - tl (mm S i) + up8 (8 + z.toNatClampNeg) then (S, .inl (-11))
      else (S_mm (S_ar S (rng (ar S) (bg (mm S i)) (en (mm S i)) (hd (mm S i)) (rcB (dk S) z.toNatClampNeg (rc (mm S i)) a.toNatClampNeg) (up8 (8 + z.toNatClampNeg)))) i (M_rg (mm S i) (hd (mm S i) + up8 (8 + z.toNatClampNeg)) (tl (mm S i)) (rc (mm S i) + 1) (bk (mm S i))), .inl (nI 0))
    else (S, .inr 2)
  else (S, .inl (-22))
/-- the size that stands at TAIL -/
def szR (S : as_S) (i : Nat) : Nat := bw_n (ar S) (bg (mm S i) + tl (mm S i) % en (mm S i)) 4
def sp_take (S : as_S) (i : Nat) (a : Int32) : as_S × (Int32 ⊕ Nat) :=
  if bk (mm S i) = true then (S, .inl (-22))
  else if hd (mm S i) = tl (mm S i) then (S, .inl (-2))
  else if 1 ≤ szR S i ∧ szR S i ≤ 256 ∧ up8 (8 + szR S i) ≤ hd (mm S i) - tl (mm S i) then
    if inD a (szR S i) 512 then (S_mm (S_dk S (cpy (dk S) a.toNatClampNeg (fun j => ar S (bg (mm S i) + (tl (mm S i) + 8 + j) % en (mm S i))) 0 (szR S i))) i (M_rg (mm S i) (hd (mm S i)) (tl (mm S i) + up8 (8 + szR S i)) (rc (mm S i)) (bk (mm S i))), .inl (nI (szR S i)))
    else (S, .inr 2)
  else (S_mm S i (M_rg (mm S i) (hd (mm S i)) (tl (mm S i)) (rc (mm S i)) true), .inl (-22))
def useN (m : as_M) : Nat := if kd m = 0 then en m else if kd m = 1 then tb_n (tb m) (en m) else hd m - tl m
/-- an answer of the class, and its state afterwards -/
def PC (dA : Nat → ClassId) (w : mw_W) (own : as_W) (x bd xd ba xa ra : Nat) (mp : Nat → Nat) (sr : as_S × (Int32 ⊕ Nat)) : mw_R → mw_W → Prop := fun r w' => r = rV sr.2 ∧ ∃ (own' : as_W) (gd' ga' : Nat → Int64), rc_A dA w' own' x bd xd ba xa ra mp gd' ga' sr.1 ∧ Fr w own w' own'
/-- a key was looked up: what holds stays -/
theorem S_mm_self (S : as_S) (i : Nat) (m : as_M) : mm (S_mm S i m) i = m := va_up_self _ _ _
theorem S_mm_ne (S : as_S) {i j : Nat} (m : as_M) (h : j ≠ i) : mm (S_mm S i m) j = mm S j := va_up_ne _ _ h
theorem wf_S.ofM {t : Nat} {S : as_S} (h : wf_S t S) {i : Nat} {m' : as_M} (hm : wf_M t m') : wf_S t (S_mm S i m') := by
  obtain ⟨h1, h2, h3, h4, h5, h6⟩ := h
  refine ⟨h1, h2, h3, h4, h5, fun j hj => ?_⟩
  by_cases e : j = i
  · subst e; rw [S_mm_self]; exact hm
  · rw [S_mm_ne _ _ e]; exact h6 j hj
theorem wf_S.ofL {t : Nat} {S : as_S} (h : wf_S t S) {i q : Nat} (hi : i < nm S) : wf_S t (lk S i q) := by
  show wf_S t (if kd (mm S i) = 1 then S_mm S i (M_aq (mm S i) (kyL (dk S) q (ks (mm S i)))) else S)
  by_cases k1 : kd (mm S i) = 1
  · rw [if_pos k1]
    refine h.ofM ?_
    obtain ⟨h0, ⟨k0, h9⟩ | ⟨k0, h9⟩ | ⟨k0, h9⟩⟩ := h.2.2.2.2.2 i hi
    · rw [k1] at k0; cases k0
    · obtain ⟨b1, b2, b3, b4, b5, b6, b7, b8, b9⟩ := h9
      exact ⟨h0, Or.inr (Or.inl ⟨k0, b1, b2, b3, b4, b5, b6, b7, kyL_len _ _ _, b9⟩)⟩
    · rw [k1] at k0; cases k0
  · rw [if_neg k1]; exact h
theorem lk_1 {S : as_S} {i : Nat} (q : Nat) (h : kd (mm S i) = 1) : lk S i q = S_mm S i (M_aq (mm S i) (kyL (dk S) q (ks (mm S i)))) := if_pos h
theorem lk_0 {S : as_S} {i : Nat} (q : Nat) (h : kd (mm S i) = 0) : lk S i q = S := if_neg (by rw [h]; decide)
theorem ent_1 {S : as_S} {i : Nat} (q : Nat) (h : kd (mm S i) = 1) : ent S i q = fnd (mm S i) (kyL (dk S) q (ks (mm S i))) := if_neg (by rw [h]; decide)
theorem ent_0 {S : as_S} {i : Nat} (q : Nat) (h : kd (mm S i) = 0) : ent S i q = if bw_n (dk S) q 4 < en (mm S i) then some (bw_n (dk S) q 4) else none := if_pos h
