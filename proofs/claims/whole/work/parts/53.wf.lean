/-! ### what fits stays fitting -/
theorem wf_M.mono {t t' : Nat} {m : as_M} (h : wf_M t m) (ht : t ≤ t') : wf_M t' m := by
  obtain ⟨h0, h | h | ⟨k, a1, a2, a3, a4, a5, a6, a7, a8, a9, a10⟩⟩ := h
  · exact ⟨h0, Or.inl h⟩
  · exact ⟨h0, Or.inr (Or.inl h)⟩
  · exact ⟨h0, Or.inr (Or.inr ⟨k, a1, a2, a3, a4, a5, a6, a7, a8, Nat.le_trans a9 (Nat.mul_le_mul_left 264 ht), Nat.le_trans a10 ht⟩)⟩
theorem wf_S.mono {t t' : Nat} {S : as_S} (h : wf_S t S) (ht : t ≤ t') : wf_S t' S := ⟨h.1, h.2.1, h.2.2.1, h.2.2.2.1, h.2.2.2.2.1, fun i hi => (h.2.2.2.2.2 i hi).mono ht⟩
theorem wr_lt {f : Nat → Nat} (hf : ∀ j, f j < 256) (i k : Nat) (v : Int64) : ∀ j, wr f i k v j < 256 := fun j => by
  unfold wr
  split
  · exact Nat.mod_lt _ (by decide)
  · exact hf j
theorem lk_m (S : as_S) (i q : Nat) : ∃ l, mm (lk S i q) i = M_aq (mm S i) l := by
  by_cases h : kd (mm S i) = 1
  · rw [lk_1 q h, S_mm_self]; exact ⟨_, rfl⟩
  · refine ⟨aq (mm S i), ?_⟩
    rw [show lk S i q = S from if_neg h]; rfl
theorem wf_FIND {t : Nat} {S : as_S} (h : wf_S t S) (q k : Int32) : wf_S t (sp_FIND S q k).1 := by
  by_cases hin : inM S q
  · have hi := (inM_nI hin h.1).2
    rw [show sp_FIND S q k = _ from if_pos hin]
    by_cases h2 : kd (mm S q.toNatClampNeg) = 2
    · rw [if_pos h2]; exact h
    · rw [if_neg h2]
      by_cases h3 : inD k (ks (mm S q.toNatClampNeg)) 512
      · rw [show sp_find S q.toNatClampNeg k = _ from if_pos h3]; exact h.ofL hi
      · rw [show sp_find S q.toNatClampNeg k = _ from if_neg h3]; exact h
  · rw [show sp_FIND S q k = _ from if_neg hin]; exact h
theorem wf_miss {t : Nat} {S : as_S} (h : wf_S t S) {i : Nat} (hi : i < nm S) (h2 : kd (mm S i) ≠ 2) (hno : kd (mm S i) = 1 → fnd (mm S i) (aq (mm S i)) = none) (f : Int32) : wf_S t (sp_miss S i f).1 := by
  unfold sp_miss
  by_cases h0 : kd (mm S i) = 0
  · rw [if_pos h0]; exact h
  · rw [if_neg h0]
    have h1 : kd (mm S i) = 1 := by
      obtain ⟨-, ⟨k0, -⟩ | ⟨k0, -⟩ | ⟨k0, -⟩⟩ := h.2.2.2.2.2 i hi
      · exact absurd k0 h0
      · exact k0
      · exact absurd k0 h2
    by_cases hf : f = nI 2
    · rw [if_pos hf]; exact h
    · rw [if_neg hf]
      cases he : freeE (mm S i) with
      | none => exact h
      | some e => exact h.ofG hi h1 (hno h1) (lst_is he).1
theorem wf_core {t : Nat} {S : as_S} (h : wf_S t S) {i : Nat} (hi : i < nm S) (h2 : kd (mm S i) ≠ 2) (k v : Nat) (f : Int32) : wf_S t (sp_core S i k v f).1 := by
  have hL := h.ofL (q := k) hi
  have hiL : i < nm (lk S i k) := by rw [(lk_nm _ _ _).1]; exact hi
  have hkL : kd (mm (lk S i k) i) ≠ 2 := by
    obtain ⟨l, e⟩ := lk_m S i k
    rw [e]; exact h2
  unfold sp_core
  cases hE : ent S i k with
  | some e =>
    dsimp only
    by_cases hf : f = nI 1
    · rw [if_pos hf]; exact hL
    · rw [if_neg hf]; exact hL.ofA (cpy_lt hL.2.2.2.2.1 hL.2.2.2.1 _ _ _)
  | none =>
    dsimp only
    have hm := wf_miss hL hiL hkL (fnd_lk hE) f
    by_cases hf : (sp_miss (lk S i k) i f).2 < nI 0
    · rw [if_pos hf]; exact hm
    · rw [if_neg hf]; exact hm.ofA (cpy_lt hm.2.2.2.2.1 hm.2.2.2.1 _ _ _)
theorem wf_UPD {t : Nat} {S : as_S} (h : wf_S t S) (q k v f : Int32) : wf_S t (sp_UPD S q k v f).1 := by
  by_cases hin : inM S q
  · have hi := (inM_nI hin h.1).2
    rw [show sp_UPD S q k v f = _ from if_pos hin]
    by_cases h2 : kd (mm S q.toNatClampNeg) = 2
    · rw [if_pos h2]; exact h
    · rw [if_neg h2]
      by_cases h3 : inD k (ks (mm S q.toNatClampNeg)) 512 ∧ inD v (vs (mm S q.toNatClampNeg)) 512
      · by_cases h4 : 0 ≤ f.toInt ∧ f.toInt ≤ 2
        · rw [sp_upd_core h3 h4]; exact wf_core h hi h2 _ _ _
        · rw [show sp_upd S q.toNatClampNeg k v f = _ from (if_pos h3).trans (if_neg h4)]; exact h
      · rw [show sp_upd S q.toNatClampNeg k v f = _ from if_neg h3]; exact h
  · rw [show sp_UPD S q k v f = _ from if_neg hin]; exact h
theorem wf_M.rm {t : Nat} {m : as_M} (h : wf_M t m) (e : Nat) : wf_M t (M_tb m (va_up (tb m) e none)) := by
  obtain ⟨h0, h | ⟨k, a1, a2, a3, a4, a5, a6, a7, a8, a9, a10⟩ | h⟩ := h
  · exact ⟨h0, Or.inl h⟩
  · have ho : ∀ e' k, va_up (tb m) e none e' = some k → tb m e' = some k := fun e' k he => by
      by_cases z : e' = e
      · subst z; rw [va_up_self] at he; cases he
      · rw [va_up_ne _ _ z] at he; exact he
    exact ⟨h0, Or.inr (Or.inl ⟨k, a1, a2, a3, a4, a5, a6, a7, a8, fun e' k he => a9 e' k (ho e' k he), fun e1 e2 k he1 he2 => a10 e1 e2 k (ho e1 k he1) (ho e2 k he2)⟩)⟩
  · exact ⟨h0, Or.inr (Or.inr h)⟩
theorem wf_REM {t : Nat} {S : as_S} (h : wf_S t S) (q k : Int32) : wf_S t (sp_REM S q k).1 := by
  by_cases hin : inM S q
  · have hi := (inM_nI hin h.1).2
    rw [show sp_REM S q k = _ from if_pos hin]
    by_cases h2 : kd (mm S q.toNatClampNeg) = 1
    · rw [if_pos h2]
      by_cases h3 : inD k (ks (mm S q.toNatClampNeg)) 512
      · rw [show sp_free S q.toNatClampNeg k = _ from if_pos h3]
        have hL := h.ofL (q := k.toNatClampNeg) hi
        cases ent S q.toNatClampNeg k.toNatClampNeg with
        | none => exact hL
        | some e => exact hL.ofM ((hL.2.2.2.2.2 _ (by rw [(lk_nm _ _ _).1]; exact hi)).rm e)
      · rw [show sp_free S q.toNatClampNeg k = _ from if_neg h3]; exact h
    · rw [if_neg h2]; exact h
  · rw [show sp_REM S q k = _ from if_neg hin]; exact h
theorem wf_nxK {t : Nat} {S : as_S} (h : wf_S t S) {i : Nat} (s to : Nat) (hb : ∀ e k, e < en (mm S i) → tb (mm S i) e = some k → ∀ j, j < ks (mm S i) → k.getD j 0 < 256) : wf_S t (nxK S i s to).1 := by
  unfold nxK
  cases he : nxE (mm S i) s with
  | none => exact h
  | some e =>
    refine h.ofD (fun x => ?_)
    unfold cpy
    split
    · next hx =>
      cases hk : tb (mm S i) e with
      | none => exact (by decide : (0 : Nat) < 256)
      | some k => exact hb e k (lst_is he).1 hk _ (by omega)
    · exact h.2.2.2.1 x
theorem wf_NEXT {dA : Nat → ClassId} {w : mw_W} {own : as_W} {y : Nat} {cd : Int32} {t : Nat} {S : as_S} (hM : RepM dA w own y cd S) (h : wf_S t S) (q k to : Int32) : wf_S t (sp_NEXT S q k to).1 := by
  obtain ⟨A, fe, fk, ec, kc, fi, fl, hw, hR⟩ := hM
  by_cases hin : inM S q
  · have hi := (inM_nI hin h.1).2
    rw [show sp_NEXT S q k to = _ from if_pos hin]
    by_cases h2 : kd (mm S q.toNatClampNeg) = 1
    · rw [if_pos h2]
      have hb : ∀ e k, e < en (mm S q.toNatClampNeg) → tb (mm S q.toNatClampNeg) e = some k → ∀ j, j < ks (mm S q.toNatClampNeg) → k.getD j 0 < 256 := fun e k he hk j hj => ((hR.2.2.2.2.1 _ hi h2).2.2.2.2.2 e k he hk j hj).2
      by_cases h3 : inD to (ks (mm S q.toNatClampNeg)) 512 ∧ (k = -1 ∨ inD k (ks (mm S q.toNatClampNeg)) 512)
      · rw [show sp_next S q.toNatClampNeg k to = _ from if_pos h3]
        by_cases h4 : k = -1
        · rw [if_pos h4]; exact wf_nxK h _ _ hb
        · rw [if_neg h4]
          refine wf_nxK (h.ofL hi) _ _ ?_
          obtain ⟨l, e⟩ := lk_m S q.toNatClampNeg k.toNatClampNeg
          rw [e]
          exact hb
      · rw [show sp_next S q.toNatClampNeg k to = _ from if_neg h3]; exact h
    · rw [if_neg h2]; exact h
  · rw [show sp_NEXT S q k to = _ from if_neg hin]; exact h
theorem wf_M.rg {t t' : Nat} {m : as_M} (h : wf_M t m) (hk : kd m = 2) {a b r : Nat} {f : Bool} (h1 : b ≤ a) (h2 : a - b ≤ en m) (h3 : a % 8 = 0) (h4 : b % 8 = 0) (h5 : a ≤ 264 * t') (h6 : r ≤ t') : wf_M t' (M_rg m a b r f) := by
  obtain ⟨h0, ⟨k, -⟩ | ⟨k, -⟩ | ⟨k, a1, a2, a3, a4, -⟩⟩ := h
  · rw [hk] at k; exact absurd k (by decide)
  · rw [hk] at k; exact absurd k (by decide)
  · exact ⟨h0, Or.inr (Or.inr ⟨k, a1, a2, a3, a4, h1, h2, h3, h4, h5, h6⟩)⟩
theorem wf_PUT {t : Nat} {S : as_S} (h : wf_S t S) (q a z : Int32) : wf_S (t + 1) (sp_PUT S q a z).1 := by
  have h' := h.mono (Nat.le_succ t)
  by_cases hin : inM S q
  · have hi := (inM_nI hin h.1).2
    rw [show sp_PUT S q a z = _ from if_pos hin]
    by_cases h2 : kd (mm S q.toNatClampNeg) = 2
    · rw [if_pos h2]
      unfold sp_put
      by_cases h3 : 1 ≤ z.toInt ∧ z.toInt ≤ 256
      · rw [if_pos h3]
        by_cases h4 : inD a z.toNatClampNeg 512
        · rw [if_pos h4]
          by_cases h5 : bk (mm S q.toNatClampNeg) = true
          · rw [if_pos h5]; exact h'
          · rw [if_neg h5]
            by_cases h6 : en (mm S q.toNatClampNeg) < hd (mm S q.toNatClampNeg) - tl (mm S q.toNatClampNeg) + up8 (8 + z.toNatClampNeg)
            · rw [if_pos h6]; exact h'
            · rw [if_neg h6]
              have hz : z.toNatClampNeg ≤ 256 := by
                have : z.toNatClampNeg = z.toInt.toNat := rfl
                omega
              have hu : up8 (8 + z.toNatClampNeg) ≤ 264 ∧ up8 (8 + z.toNatClampNeg) % 8 = 0 := by unfold up8; omega
              have hm := h.2.2.2.2.2 _ hi
              obtain ⟨z1, z2, z3, z4, z5, z6, z7, z8, z9⟩ := wf_R hm h2
              exact (h'.ofA (rng_lt h.2.2.2.2.1 (rcB_lt h.2.2.2.1 _ _ _) _ _ _ _)).ofM (hm.rg h2 (by omega) (by omega) (by omega) z7 (by omega) (by omega))
        · rw [if_neg h4]; exact h'
      · rw [if_neg h3]; exact h'
    · rw [if_neg h2]; exact h'
  · rw [show sp_PUT S q a z = _ from if_neg hin]; exact h'
theorem wf_TAKE {t : Nat} {S : as_S} (h : wf_S t S) (q a : Int32) : wf_S t (sp_TAKE S q a).1 := by
  by_cases hin : inM S q
  · have hi := (inM_nI hin h.1).2
    rw [show sp_TAKE S q a = _ from if_pos hin]
    by_cases h2 : kd (mm S q.toNatClampNeg) = 2
    · rw [if_pos h2]
      unfold sp_take
      have hm := h.2.2.2.2.2 _ hi
      obtain ⟨z1, z2, z3, z4, z5, z6, z7, z8, z9⟩ := wf_R hm h2
      by_cases h5 : bk (mm S q.toNatClampNeg) = true
      · rw [if_pos h5]; exact h
      · rw [if_neg h5]
        by_cases h6 : hd (mm S q.toNatClampNeg) = tl (mm S q.toNatClampNeg)
        · rw [if_pos h6]; exact h
        · rw [if_neg h6]
          by_cases h7 : 1 ≤ szR S q.toNatClampNeg ∧ szR S q.toNatClampNeg ≤ 256 ∧ up8 (8 + szR S q.toNatClampNeg) ≤ hd (mm S q.toNatClampNeg) - tl (mm S q.toNatClampNeg)
          · rw [if_pos h7]
            have hu := (up8_ge (8 + szR S q.toNatClampNeg)).2.2
            by_cases h8 : inD a (szR S q.toNatClampNeg) 512
            · rw [if_pos h8]
              exact (h.ofD (cpy_lt h.2.2.2.1 (fun _ => h.2.2.2.2.1 _) _ _ _)).ofM (hm.rg h2 (by omega) (by omega) z6 (by omega) z8 z9)
            · rw [if_neg h8]; exact h
          · rw [if_neg h7]
            exact h.ofM (hm.rg h2 z4 z5 z6 z7 z8 z9)
    · rw [if_neg h2]; exact h
  · rw [show sp_TAKE S q a = _ from if_neg hin]; exact h
theorem wf_mk {t : Nat} {S : as_S} (h : wf_S t S) {k a v n : Nat} (hok : okM k a v n) (h1 : nm S < 64) (h2 : mkB k v n ≤ 65536 - gv S) : wf_S t (S_mk S k a v n) := by
  obtain ⟨g1, g2, g3, g4, g5, g6⟩ := h
  have h8 : mkB k v n % 8 = 0 := by
    unfold mkB
    split
    · rcases hok with ⟨q, -⟩ | ⟨q, -⟩ | ⟨-, -, -, q⟩
      · omega
      · omega
      · exact (p2_8 q).1
    · rw [Nat.mul_mod, (up8_ge v).2.2, Nat.mul_zero, Nat.zero_mod]
  refine ⟨by show nm S + 1 ≤ 64; omega, by show gv S + mkB k v n ≤ 65536; omega, by show (gv S + mkB k v n) % 8 = 0; omega, g4, g5, fun i hi => ?_⟩
  have hi : i < nm S + 1 := hi
  by_cases e : i = nm S
  · subst e
    rw [show mm (S_mk S k a v n) (nm S) = newM k a v n (gv S) from va_up_self _ _ _]
    refine ⟨g3, ?_⟩
    rcases hok with ⟨q1, q2, q3, q4, q5, q6⟩ | ⟨q1, q2, q3, q4, q5, q6, q7⟩ | ⟨q1, q2, q3, q4⟩
    · have hb : mkB k v n = n * up8 v := if_neg (by omega)
      exact Or.inl ⟨q1, q2, q3, q4, q5, q6, by show gv S + n * up8 v ≤ 65536; omega⟩
    · have hb : mkB k v n = n * up8 v := if_neg (by omega)
      exact Or.inr (Or.inl ⟨q1, q2, q3, q4, q5, q6, q7, by show gv S + n * up8 v ≤ 65536; omega, List.length_replicate, fun e k he => (by cases he), fun e e' k he => (by cases he)⟩)
    · have hb : mkB k v n = n := if_pos q1
      exact Or.inr (Or.inr ⟨q1, q2, q3, q4, by show gv S + n ≤ 65536; omega, Nat.le_refl _, Nat.zero_le _, rfl, rfl, Nat.zero_le _, Nat.zero_le _⟩)
  · rw [show mm (S_mk S k a v n) i = mm S i from va_up_ne _ _ e]
    exact g6 i (by omega)
theorem wf_MAKE {t : Nat} {S : as_S} (h : wf_S t S) (k a v n : Int32) : wf_S t (sp_MAKE S k a v n).1 := by
  unfold sp_MAKE
  by_cases hf : fitB k a v n = true
  · rw [if_pos hf]
    obtain ⟨-, -, -, -, hok⟩ := fit_ok (fitB_iff.mp hf)
    by_cases h2 : 64 ≤ nm S ∨ 65536 - gv S < mkB k.toNatClampNeg v.toNatClampNeg n.toNatClampNeg
    · rw [if_pos h2]; exact h
    · rw [if_neg h2]; exact wf_mk h hok (by omega) (by omega)
  · rw [if_neg hf]; exact h
theorem wf_USED {t : Nat} {S : as_S} (h : wf_S t S) (q : Int32) : wf_S t (sp_USED S q).1 := by
  by_cases hin : inM S q
  · rw [show sp_USED S q = _ from if_pos hin]; exact h
  · rw [show sp_USED S q = _ from if_neg hin]; exact h
theorem wf_BEG {t : Nat} {S : as_S} (h : wf_S t S) (q : Int32) : wf_S t (sp_BEG S q).1 := by
  by_cases hin : inM S q
  · rw [show sp_BEG S q = _ from if_pos hin]; exact h
  · rw [show sp_BEG S q = _ from if_neg hin]; exact h
theorem RepM.keepG {dA : Nat → ClassId} {w w' : mw_W} {own own' : as_W} {y : Nat} {cd : Int32} {S : as_S} (h : RepM dA w own y cd S) (hk : ∀ (q : Nat) (z : va_E), w q = some z → 20 ≤ (own q).1 → (own q).1 < 40 → w' q = some z) (ho : ∀ (q : Nat) (z : va_E), w q = some z → own' q = own q) : RepM dA w' own' y cd S := by
  obtain ⟨A, fe, fk, ec, kc, fi, fl, ⟨h1, h2, h3, h4⟩, hR⟩ := h
  refine ⟨A, fe, fk, ec, kc, fi, fl, ⟨hk _ _ h1 (by rw [h2]; decide) (by rw [h2]; decide), (ho _ _ h1).trans h2, fun i hi => (ho _ _ (h4 i hi)).trans (h3 i hi), fun i hi => hk _ _ (h4 i hi) ?_ ?_⟩, hR⟩
  · rw [h3 i hi]; show 20 ≤ 21 + i; omega
  · rw [h3 i hi]; show 21 + i < 40; omega
theorem RepM.keep {dA : Nat → ClassId} {w w' : mw_W} {own own' : as_W} {y : Nat} {cd : Int32} {S : as_S} (h : RepM dA w own y cd S) (hF : Fr w own w' own') : RepM dA w' own' y cd S := by
  refine h.keepG (fun q z hq h1 _ => ?_) (fun q z hq => (hF q z hq).1)
  obtain ⟨-, z', e, g⟩ := hF q z hq
  rw [e, g h1]
theorem RepC.keepG {dA : Nat → ClassId} {w w' : mw_W} {own own' : as_W} {x : Nat} {S : as_S} (h : RepC dA w own x S) (hk : ∀ (q : Nat) (z : va_E), w q = some z → ((own q).1 < 20 ∨ ∃ fs, z = .inr (cBY, fs)) → w' q = some z) (ho : ∀ (q : Nat) (z : va_E), w q = some z → own' q = own q) : RepC dA w' own' x S := by
  obtain ⟨bd, xd, ba, xa, ra, mp, gd, ga, ⟨o1, o2, o3, o4, f0, fd, fa, fr, hdk, har⟩, hM⟩ := h
  refine ⟨bd, xd, ba, xa, ra, mp, gd, ga, ⟨(ho _ _ f0).trans o1, (ho _ _ fd.2).trans o2, (ho _ _ fa.2).trans o3, (ho _ _ fr).trans o4, hk _ _ f0 (Or.inl (by rw [o1]; decide)), ⟨hk _ _ fd.1 (Or.inr ⟨_, rfl⟩), hk _ _ fd.2 (Or.inl (by rw [o2]; decide))⟩, ⟨hk _ _ fa.1 (Or.inr ⟨_, rfl⟩), hk _ _ fa.2 (Or.inl (by rw [o3]; decide))⟩, hk _ _ fr (Or.inl (by rw [o4]; decide)), hdk, har⟩, fun i hi => ?_⟩
  refine (hM i hi).keep (fun q z hq hz => hk q z hq ?_) ho
  rcases hz with (hz | hz | hz | ⟨e, hz⟩) | hz
  · exact Or.inl (by rw [hz]; exact (by decide : (7 : Nat) < 20))
  · exact Or.inl (by rw [hz]; exact (by decide : (5 : Nat) < 20))
  · exact Or.inl (by rw [hz]; exact (by decide : (3 : Nat) < 20))
  · exact Or.inl (by rw [hz]; exact (by decide : (4 : Nat) < 20))
  · exact Or.inr hz
theorem RepC.keep {dA : Nat → ClassId} {w w' : mw_W} {own : as_W} {x : Nat} {S : as_S} (h : RepC dA w own x S) (hF : FrM w own w') : RepC dA w' own x S := by
  refine h.keepG (fun q z hq hz => ?_) (fun _ _ _ => rfl)
  obtain ⟨z', e, g⟩ := hF q z hq
  rw [e, g (hz.elim Or.inl (fun z => Or.inr (Or.inr z)))]
theorem FrM.att {w w' : mw_W} {own : as_W} (h : FrM w own w') {q : Nat} {z : va_E} (hq : w q = some z) (ht : 40 ≤ (own q).1) : w' q = some z := by
  obtain ⟨z', e, g⟩ := h q z hq
  rw [e, g (Or.inr (Or.inl ht))]
/-- as Fr, but one cell of the other side may be written -/
def FrL (w : mw_W) (own : as_W) (w' : mw_W) (own' : as_W) (o : Nat) : Prop := ∀ (q : Nat) (y : va_E), w q = some y → own' q = own q ∧ ∃ y', w' q = some y' ∧ (20 ≤ (own q).1 → q ≠ o → y' = y)
theorem Fr.toL {w w' : mw_W} {own own' : as_W} (h : Fr w own w' own') (o : Nat) : FrL w own w' own' o := fun q y hq => by
  obtain ⟨a, y', b, c⟩ := h q y hq
  exact ⟨a, y', b, fun z _ => c z⟩
theorem Fr.upO {w w' : mw_W} {own own' : as_W} (h : Fr w own w' own') (o : Nat) (X : va_E) : FrL w own (mw_up w' o X) own' o := fun q y hq => by
  obtain ⟨a, y', b, c⟩ := h q y hq
  refine ⟨a, ?_⟩
  by_cases e : q = o
  · subst e; exact ⟨X, mw_up_s _ _ _, fun _ z => absurd rfl z⟩
  · exact ⟨y', by rw [mw_up_n _ _ e]; exact b, fun z _ => c z⟩
theorem FrL.att {w w' : mw_W} {own own' : as_W} {o : Nat} (h : FrL w own w' own' o) {q : Nat} {z : va_E} (hq : w q = some z) (ht : 20 ≤ (own q).1) (hne : q ≠ o) : w' q = some z := by
  obtain ⟨-, z', e, g⟩ := h q z hq
  rw [e, g ht hne]
theorem Fr.att {w w' : mw_W} {own own' : as_W} (h : Fr w own w' own') {q : Nat} {z : va_E} (hq : w q = some z) (ht : 20 ≤ (own q).1) : w' q = some z := by
  obtain ⟨-, z', e, g⟩ := h q z hq
  rw [e, g ht]
theorem RepM.keepL {dA : Nat → ClassId} {w w' : mw_W} {own own' : as_W} {y o : Nat} {cd : Int32} {S : as_S} (h : RepM dA w own y cd S) (hF : FrL w own w' own' o) (ho : own o = (40, 0, 0)) : RepM dA w' own' y cd S := by
  refine h.keepG (fun q z hq h1 h2 => hF.att hq h1 (fun e => ?_)) (fun q z hq => (hF q z hq).1)
  rw [e, ho] at h2
  exact absurd h2 (by decide)
theorem RepC.up {dA : Nat → ClassId} {w : mw_W} {own : as_W} {x o : Nat} {S : as_S} {a : ClassId × vp_A} {X : va_E} (h : RepC dA w own x S) (f : w o = some (.inl a)) (ho : 20 ≤ (own o).1) : RepC dA (mw_up w o X) own x S := by
  refine h.keepG (fun q z hq hz => ?_) (fun _ _ _ => rfl)
  rw [mw_up_n _ _ (fun e => ?_)]
  · exact hq
  · rcases hz with hz | ⟨fs, hz⟩
    · rw [e] at hz; omega
    · rw [hz, e, f] at hq; cases hq
