/-! ### the law: what holds at its entry -/
theorem mk_str {own tx : String} {k : Nat} {args : Array Value} {s : State} (h : (Cond.stringRef own k tx).before args s = true) : ∃ a, vk_R own k tx a s := by
  have hcur : ∃ cur, s.vm.findClass own = some cur := by
    cases hc : s.vm.findClass own with
    | some cur => exact ⟨cur, rfl⟩
    | none => simp [Cond.before, Cond.holds, Cond.value, hc] at h
  obtain ⟨cur, hcur⟩ := hcur
  obtain ⟨-, -, -, a, -, -, -, -, -, he⟩ := Cond.stringRef_spec hcur h
  exact ⟨a, vk_R.of h he⟩
theorem mk_strs_in : ∀ q ∈ mk_strs, Cond.stringRef q.1 q.2.1 q.2.2 ∈ lw_tbl := by decide +kernel
theorem mk_tyP {args : Array Value} {s : State} {t : FieldType} (h : (Cond.arrayClass t).before args s = true) (ht : ∀ C, t ≠ .object C) : ∃ c, ArrOfT s c t ∧ va_RA s c t := by
  obtain ⟨c, k, comp, h1, h2, h3⟩ := Cond.arrayClass_spec h
  refine ⟨c, fun N z => ⟨(fun k h => by cases h), k, h2, comp, h3⟩, ?_⟩
  unfold va_RA
  split
  · next C => exact absurd rfl (ht C)
  · exact h1
theorem mk_tyO {args : Array Value} {s : State} {C : String} (h : (Cond.arrayOver (.object C)).before args s = true) : ∃ c, ArrOfT s c (.object C) ∧ va_RA s c (.object C) := by
  obtain ⟨comp, c, k, h1, h2, h3, h4, h5⟩ := Cond.arrayOver_spec h
  exact ⟨c, fun N z => ⟨(fun k h => by cases h), k, h3, comp, h4⟩, k, comp, h3, h4, h1, h5⟩
theorem mk_K {args : Array Value} {s : State} (hts : ∀ x ∈ lw_tbl, x.before args s = true) : ∃ (D : va_G) (dA : Nat → ClassId), va_K D mk_cl (mk_tys dA) s := by
  have hT : ∀ x ∈ Ts, x.before args s = true := fun x hx => hts x (List.mem_filter.mp hx).1
  obtain ⟨c0, i0, h0⟩ := u_known (T := T_cBY) (N := 2) hts (fun x hx => (mk_lays0 x hx).1) (hT _ tw_46)
  obtain ⟨c1, i1, h1⟩ := u_known (T := T_cMS) (N := 5) hts (fun x hx => (mk_lays1 x hx).1) (hT _ tw_38)
  obtain ⟨c2, i2, h2⟩ := u_known (T := T_cAM) (N := 6) hts (fun x hx => (mk_lays2 x hx).1) (hT _ tw_229)
  obtain ⟨c3, i3, h3⟩ := u_known (T := T_cTM) (N := 11) hts (fun x hx => (mk_lays3 x hx).1) (hT _ tw_283)
  obtain ⟨c4, i4, h4⟩ := u_known (T := T_cRM) (N := 8) hts (fun x hx => (mk_lays4 x hx).1) (hT _ tw_314)
  obtain ⟨c5, i5, h5⟩ := u_known (T := T_cMO) (N := 21) hts (fun x hx => (mk_lays5 x hx).1) (hT _ tw_593)
  obtain ⟨a0, g0⟩ := mk_tyP (hT _ tw_61) (fun C h => by cases h)
  obtain ⟨a1, g1⟩ := mk_tyP (hT _ tw_664) (fun C h => by cases h)
  obtain ⟨a2, g2⟩ := mk_tyP (hT _ tw_160) (fun C h => by cases h)
  obtain ⟨a3, g3⟩ := mk_tyP (hT _ tw_665) (fun C h => by cases h)
  obtain ⟨a4, g4⟩ := mk_tyO (hT _ tw_64)
  obtain ⟨a5, g5⟩ := mk_tyO (hT _ tw_289)
  refine ⟨(fun k => match k with | 0 => c0 | 1 => c1 | 2 => c2 | 3 => c3 | 4 => c4 | _ => c5, fun k => match k with | 0 => i0 | 1 => i1 | 2 => i2 | 3 => i3 | 4 => i4 | _ => i5), fun k => match k with | 0 => a0 | 1 => a1 | 2 => a2 | 3 => a3 | 4 => a4 | _ => a5, fun k q hq => ?_, fun k q hq => ?_⟩
  · have hk : k < 6 := (List.getElem?_eq_some_iff.mp hq).1
    rcases (by omega : k = 0 ∨ k = 1 ∨ k = 2 ∨ k = 3 ∨ k = 4 ∨ k = 5) with e | e | e | e | e | e
    · subst e; cases hq; exact h0
    · subst e; cases hq; exact h1
    · subst e; cases hq; exact h2
    · subst e; cases hq; exact h3
    · subst e; cases hq; exact h4
    · subst e; cases hq; exact h5
  · have hk : k < 6 := (List.getElem?_eq_some_iff.mp hq).1
    rcases (by omega : k = 0 ∨ k = 1 ∨ k = 2 ∨ k = 3 ∨ k = 4 ∨ k = 5) with e | e | e | e | e | e
    · subst e; cases hq; exact g0
    · subst e; cases hq; exact g1
    · subst e; cases hq; exact g2
    · subst e; cases hq; exact g3
    · subst e; cases hq; exact g4
    · subst e; cases hq; exact g5
theorem mk_Sy {b : Nat} {s : State} (hts : ∀ x ∈ lw_tbl, x.before #[Value.ref b] s = true) (hgv : (Jvm.Cond.and given_1 narrow_1).before #[Value.ref b] s = true) : mw_Sy mk_strs s s.heap := by
  have hs := flat_of_before _ hgv
  exact ⟨mw_Z.of (hts _ (by decide +kernel)) (hs _ (by decide +kernel)), mw_Z.of (hts _ (by decide +kernel)) (hs _ (by decide +kernel)), fun q hq => mk_str (hts _ (mk_strs_in q hq)), va_Nc.of (hs _ (by decide +kernel)), va_Nc.of (hs _ (by decide +kernel))⟩
