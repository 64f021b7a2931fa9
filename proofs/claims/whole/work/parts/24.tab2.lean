/-! ### tables: entryOf, leastFree -/
def roleI (i : Nat) (r : Nat × Nat × Nat) : Prop := r = (7, i, 0) ∨ r = (5, i, 0) ∨ r = (3, i, 0) ∨ ∃ e, r = (4, i, e)
theorem roleI_t {i : Nat} {r : Nat × Nat × Nat} (h : roleI i r) : r.2.1 = i ∧ (r.1 = 7 ∨ r.1 = 5 ∨ r.1 = 3 ∨ r.1 = 4) := by
  rcases h with h | h | h | ⟨e, h⟩ <;> subst h <;> simp
/-- one map has changed, with its own cells -/
theorem rc_A.map {dA : Nat → ClassId} {w w' : mw_W} {own own' : as_W} {x bd xd ba xa ra : Nat} {mp : Nat → Nat} {gd ga : Nat → Int64} {S : as_S} (h : rc_A dA w own x bd xd ba xa ra mp gd ga S) {i : Nat} {m' : as_M} (hm : rc_M dA w' own' bd ba i (mp i) m')
    (hk : ∀ (q : Nat) (y : va_E), w q = some y → (¬ roleI i (own q) ∨ ∃ fs, y = .inr (cBY, fs)) → w' q = some y) (ho : ∀ (q : Nat) (y : va_E), w q = some y → own' q = own q) : rc_A dA w' own' x bd xd ba xa ra mp gd ga (S_mm S i m') := by
  obtain ⟨⟨h1, h2, h3, h4, h5, h6, h7, h8, h9, h10⟩, hM⟩ := h
  have nr : ∀ {r : Nat × Nat × Nat}, r.1 ≠ 7 → r.1 ≠ 5 → r.1 ≠ 3 → r.1 ≠ 4 → ¬ roleI i r := fun a b c d z => by
    have := (roleI_t z).2; omega
  refine ⟨⟨(ho _ _ h5).trans h1, (ho _ _ h6.2).trans h2, (ho _ _ h7.2).trans h3, (ho _ _ h8).trans h4, hk _ _ h5 (Or.inl (by rw [h1]; exact nr (by decide) (by decide) (by decide) (by decide))), ⟨hk _ _ h6.1 (Or.inr ⟨_, rfl⟩), hk _ _ h6.2 (Or.inl (by rw [h2]; exact nr (by decide) (by decide) (by decide) (by decide)))⟩, ⟨hk _ _ h7.1 (Or.inr ⟨_, rfl⟩), hk _ _ h7.2 (Or.inl (by rw [h3]; exact nr (by decide) (by decide) (by decide) (by decide)))⟩, hk _ _ h8 (Or.inl (by rw [h4]; exact nr (by decide) (by decide) (by decide) (by decide))), h9, h10⟩, fun j hj => ?_⟩
  by_cases e : j = i
  · subst e
    show rc_M dA w' own' bd ba j (mp j) (va_up (mm S) j m' j)
    rw [va_up_self]; exact hm
  · show rc_M dA w' own' bd ba j (mp j) (va_up (mm S) i m' j)
    rw [va_up_ne _ _ e]
    refine (hM j hj).keep (fun q y hq hr => hk q y hq ?_) ho
    rcases hr with hr | hr
    · refine Or.inl (fun z => e ?_)
      have h1 : (own q).2.1 = j := by rcases hr with r | r | r | ⟨e', r⟩ <;> rw [r]
      rw [← (roleI_t z).1, h1]
    · exact Or.inr hr
/-- the key of k bytes on the desk, from q on -/
def kyL (d : Nat → Nat) (q k : Nat) : List Nat := (List.range k).map (fun j => d (q + j))
theorem kyL_len (d : Nat → Nat) (q k : Nat) : (kyL d q k).length = k := by simp [kyL]
theorem kyL_get (d : Nat → Nat) (q k : Nat) {j : Nat} (h : j < k) : (kyL d q k).getD j 0 = d (q + j) := by
  simp [kyL, h]
theorem lst_congr {P Q : Nat → Bool} : ∀ {n : Nat}, (∀ e, e < n → P e = Q e) → lst P n = lst Q n
  | 0, _ => rfl
  | n + 1, h => by rw [lst, lst, lst_congr (fun e he => h e (by omega)), h n (by omega)]
/-- looking for a key -/
def fnd (m : as_M) (k : List Nat) : Option Nat := lst (fun e => decide (tb m e = some k)) (en m)
theorem neg_ne {e : Nat} (h : e < 2 ^ 30) : (-1 : Int32) ≠ nI e := fun z => by
  have := congrArg Int32.toInt z
  rw [nI_toInt (by omega)] at this
  have h2 : (-1 : Int32).toInt = -1 := by decide
  omega
set_option maxRecDepth 100000 in
set_option maxHeartbeats 4000000 in
theorem c_TM_leastFree (l : Launch) (D : va_G) (dA : Nat → ClassId) {w : mw_W} {a : Nat} {m0 : as_M} {bd ba ka ak rch : Nat} {f : Nat → Option Nat} {wk : Int32} (f0 : w a = some (.inr (cTM, [.ref bd, .ref ba, .int (nI (bg m0)), .int (nI (ks m0)), .int (nI (vs m0)), .int (nI (en m0)), .ref ka, .ref ak, .int (nI rch), .int wk, .int (nI 0)]))) (hen : en m0 ≤ 4096) (f1 : w ka = some (.inl (dA tBY, en m0, .inr (.inr (.inr (.inr f)))))) (hn1 : ∀ e, e < en m0 → (tb m0 e = none ↔ f e = none)) : CT l D dA y_TM_leastFree (Cond.code y_TM_leastFree b_TM_leastFree 2 (some .int) :: Ts) 0 0 0 0 [.ref a] w (fun r w' => w' = w ∧ r = .inl (some (.int (oI (lst (fun e => (tb m0 e).isNone) (en m0)))))) := by
  refine mw_meth (by decide) mk_tb (Nat.le_of_ble_eq_true rfl) ?_
  intro p e s m below meth c K hr hlk hce hnm hP0 hSy ls hl
  have hl : lv_has ls 2 [(0, .ref a)] := hl
  obtain ⟨hx, hb, hml, hown, hts, hK, hTb⟩ := id K
  have hI := mw_I.start hP0
  have hloop : ∀ (q j : Nat), j + q = en m0 → (∀ e, e < j → (tb m0 e).isNone = false) → ∀ ls : Array Slot, lv_has ls 2 [(1, .int (nI j)), (0, .ref a)] → W p l e { frames := 0, cells := 0, slots := 0, locals := 0 } s m ([.ref a] : List Value).toArray below meth c s.heap [] 0 0 (mx_Q below (mw_Qc D mk_cl w s.heap.size (fun r w' => w' = w ∧ r = .inl (some (.int (oI (lst (fun e => (tb m0 e).isNone) (en m0))))))) ([.ref a] : List Value).toArray s 0 0 (mw_A w s.heap.size)) (F0 m 2 ls []) := by
    intro q
    induction q with
    | zero =>
      intro j hj hno ls hl
      refine lv_iload_n hx hb d_TM_leastFree_2 rfl (lv_at hl 0 rfl) ?_
      refine lv_aload_n hx hb d_TM_leastFree_3 rfl (lv_at hl 1 rfl) ?_
      refine mw_get K hI gf_TM_66_cTM f0 rfl d_TM_leastFree_4 ?_
      refine lv_icmp_ge (tgt := 27) hx hb d_TM_leastFree_7 (by decide) (fun c7 => ?_) (fun c7 => ?_)
      ·
        refine lv_iconst (v := (-1)) hx hb d_TM_leastFree_27 (by decide) ?_
        refine mw_iret K hI hr hlk ⟨rfl, ?_⟩ d_TM_leastFree_28
        rw [lst_none (fun e he => hno e (by omega))]
        rfl
      ·
        exact absurd (nI_le (by omega) (by omega)) c7
    | succ q ih =>
      intro j hj hno ls hl
      refine lv_iload_n hx hb d_TM_leastFree_2 rfl (lv_at hl 0 rfl) ?_
      refine lv_aload_n hx hb d_TM_leastFree_3 rfl (lv_at hl 1 rfl) ?_
      refine mw_get K hI gf_TM_66_cTM f0 rfl d_TM_leastFree_4 ?_
      refine lv_icmp_ge (tgt := 27) hx hb d_TM_leastFree_7 (by decide) (fun c7 => ?_) (fun c7 => ?_)
      ·
        exact absurd c7 (nI_ge (by omega) (by omega))
      ·
        refine lv_aload_n hx hb d_TM_leastFree_10 rfl (lv_at hl 1 rfl) ?_
        refine mw_get K hI gf_TM_23_cTM f0 rfl d_TM_leastFree_11 ?_
        refine lv_iload_n hx hb d_TM_leastFree_14 rfl (lv_at hl 0 rfl) ?_
        refine mw_aald K hI tBY f1 rfl j rfl (by first | assumption | omega) (by omega) d_TM_leastFree_15 ?_
        cases hfj : f j with
        | none =>
          refine mw_tv (y := .null) (rfl) ?_
          refine lv_ifnonnullN hx hb d_TM_leastFree_16 ?_
          refine lv_iload_n hx hb d_TM_leastFree_19 rfl (lv_at hl 0 rfl) ?_
          refine mw_iret K hI hr hlk ⟨rfl, ?_⟩ d_TM_leastFree_20
          rw [lst_some (e := j) (by rw [(hn1 j (by omega)).mpr hfj]; rfl) hno (by omega)]
          rfl
        | some kb =>
          refine mw_tv (y := .ref kb) (rfl) ?_
          refine lv_ifnonnull (tgt := 21) hx hb d_TM_leastFree_16 (by decide) ?_
          refine lv_iinc (v := nI (j + 1)) (lv' := [(1, .int (nI (j + 1))), (0, .ref a)]) hx hb d_TM_leastFree_21 hl (k := 0) rfl (nI_add _ _) (by decide) rfl (fun ls hl => ?_)
          refine lv_goto (tgt := 2) hx hb d_TM_leastFree_24 (by decide) ?_
          refine ih (j + 1) (by omega) (lt_s hno ?_) ls (lv_sub hl [0, 1] rfl)
          cases ht : tb m0 j with
          | none => rw [(hn1 j (by omega)).mp ht] at hfj; cases hfj
          | some k => rfl
  refine lv_iconst (v := nI 0) hx hb d_TM_leastFree_0 (by decide) ?_
  refine lv_istore_n (lv' := [(1, .int (nI 0)), (0, .ref a)]) hx hb d_TM_leastFree_1 rfl hl (by decide) rfl (fun ls hl => ?_)
  exact hloop (en m0) 0 (by omega) lt_0 ls (lv_sub hl [0, 1] rfl)
set_option maxRecDepth 100000 in
set_option maxHeartbeats 4000000 in
theorem c_TM_entryOf (l : Launch) (D : va_G) (dA : Nat → ClassId) {w : mw_W} {own : as_W} {x bd xd ba xa ra : Nat} {mp : Nat → Nat} {gd ga : Nat → Int64} {S : as_S} {t : Nat} (hA : rc_A dA w own x bd xd ba xa ra mp gd ga S) (hW : wf_S t S) {i : Nat} (hi : i < nm S) (hk1 : kd (mm S i) = 1) {q : Nat} (hq0 : q + ks (mm S i) ≤ 512) : CT l D dA y_TM_entryOf (Cond.code y_TM_entryOf b_TM_entryOf 2 (some .int) :: Ts) 3 80 0 0 [.ref (mp i), .int (nI q)] w (fun r w' => r = .inl (some (.int (oI (fnd (mm S i) (kyL (dk S) q (ks (mm S i))))))) ∧ rc_A dA w' own x bd xd ba xa ra mp gd ga (S_mm S i (M_aq (mm S i) (kyL (dk S) q (ks (mm S i))))) ∧ Fr w own w' own) := by
  refine mw_meth (by decide) mk_tb (Nat.le_of_ble_eq_true rfl) ?_
  intro p e s m below meth c K hr hlk hce hnm hP0 hSy ls hl
  have hl : lv_has ls 2 [(0, .ref (mp i)), (1, .int (nI q))] := hl
  obtain ⟨hx, hb, hml, hown, hts, hK, hTb⟩ := id K
  have hI := mw_I.start hP0
  obtain ⟨⟨o1, o2, o3, o4, fx, fd, fa, fr, hdk, har⟩, hM⟩ := id hA
  obtain ⟨-, hwf⟩ := hW.2.2.2.2.2 i hi
  have hM0 := hM i hi
  generalize em : mm S i = mi at *
  obtain ⟨om, ⟨k0, -⟩ | ⟨k0, ka, ak, ax, rch, gk, f, f0, oka, oax, fk, hbl, f1, hr1, hn1, hs1⟩ | ⟨k0, -⟩⟩ := hM0
  · rw [hk1] at k0; cases k0
  · rcases hwf with ⟨k2, -⟩ | ⟨-, b1, b2, b3, b4, b5, b6, b7, b8, b9, b10⟩ | ⟨k2, -⟩
    · rw [hk1] at k2; cases k2
    · have hax : ax ≠ xd := own_ne oax o2 (by simp)
      refine lv_aload_n hx hb d_TM_entryOf_0 rfl (lv_at hl 0 rfl) ?_
      refine mw_get K hI gf_TM_30_cTM f0 rfl d_TM_entryOf_1 ?_
      refine lv_iconst (v := nI 0) hx hb d_TM_entryOf_4 (by decide) ?_
      refine lv_aload_n hx hb d_TM_entryOf_5 rfl (lv_at hl 0 rfl) ?_
      refine mw_get K hI gf_TM_34_cTM f0 rfl d_TM_entryOf_6 ?_
      refine lv_iload_n hx hb d_TM_entryOf_9 rfl (lv_at hl 1 rfl) ?_
      refine lv_aload_n hx hb d_TM_entryOf_10 rfl (lv_at hl 0 rfl) ?_
      refine mw_get K hI gf_TM_37_cTM f0 rfl d_TM_entryOf_11 ?_
      refine mw_call (rest := []) K hSy hP0 hI (c_BY_copy l D dA fk (by omega) fd (by decide) hax.symm (i := 0) (i2 := q) (k := ks mi) (by omega) hq0) (mx_invV hx hown (hts _ tw_449) (hts _ tw_450) (hts _ tw_451) (hts _ tw_452) (by decide) (b := ak) (mw_rc K hI fk.1 rfl) (g := F0 m 14 ls [.int (nI (ks mi)), .int (nI q), .ref bd, .int (nI 0), .ref ak]) rfl (argsL := [.int (nI 0), .ref bd, .int (nI q), .int (nI (ks mi))]) (rest := []) np_BY_copy rfl (by rw [hb]; exact d_TM_entryOf_14)) hl.1 d_TM_entryOf_14 ⟨Nat.le_of_ble_eq_true rfl, Nat.le_of_ble_eq_true rfl⟩ (Or.inl ⟨_, _, List.mem_cons_self⟩) (mk_ws tw_452 hts) (fun a9 U9 h9 => Ts_warm hts _ tw_22 a9 U9 h9) ⟨Nat.le_of_ble_eq_true rfl, Nat.le_of_ble_eq_true rfl⟩ (fun v w' H locs hq hI => ?_) (fun k x w' H locs hq hI hX => ?_)
      · obtain ⟨hq1, g', hq2, hq3⟩ := hq
        cases hq1
        rw [hq2] at hI
        refine W.eq (g2 := F0 m 17 ls []) rfl ?_
        have hkl : by_l g' (ks mi) (kyL (dk S) q (ks mi)) := by
          refine ⟨kyL_len _ _ _, fun j hj => ?_, fun j h1 h2 => ?_⟩
          · rw [hq3 j, if_pos (by omega), kyL_get _ _ _ hj]; show bw_b gd (q + (j - 0)) = _; rw [Nat.sub_zero]; exact hdk _ (by omega)
          · rw [hq3 j, if_neg (by omega)]; exact hbl.2.2 j h1 h2
        have f0' := (mw_up_n w (by_a dA (ks mi) g') (mw_neA f0 fk.2)).trans f0
        have f1' := (mw_up_n w (by_a dA (ks mi) g') (own_ne oka oax (by simp))).trans f1
        have hs2 : ∀ e k, tb mi e = some k → e < rch ∧ ∃ (kb kx : Nat) (g : Nat → Int64), f e = some kb ∧ own kx = (4, i, e) ∧ by_ok dA (mw_up w ax (by_a dA (ks mi) g')) kb kx (ks mi) g ∧ by_l g (ks mi) k := by
          intro e k he
          obtain ⟨g1, kb, kx, g, g2, g3, g4, g5⟩ := hs1 e k he
          exact ⟨g1, kb, kx, g, g2, g3, g4.keep (mw_neA g4.1 fk.2) (own_ne g3 oax (by simp)), g5⟩
        refine lv_aload_n hx hb d_TM_entryOf_17 rfl (lv_at hl 0 rfl) ?_
        refine lv_iconst (v := (-1)) hx hb d_TM_entryOf_18 (by decide) ?_
        refine mw_call (rest := []) K hSy hP0 hI (c_TM_entryWithAsked l D dA (m0 := M_aq mi (kyL (dk S) q (ks mi))) f0' (fk.up g') hkl b2 b6 f1' hr1 hn1 (fun e k he => by obtain ⟨g1, kb, kx, g, g2, g3, g4, g5⟩ := hs2 e k he; exact ⟨g1, kb, kx, g, g2, g4, g5⟩) (-1)) (mx_invV hx hown (hts _ tw_453) (hts _ tw_455) (hts _ tw_3) (hts _ tw_456) (by decide) (b := (mp i)) (mw_rc K hI f0' rfl) (g := F0 m 19 ls [.int (-1), .ref (mp i)]) rfl (argsL := [.int (-1)]) (rest := []) np_TM_entryWithAsked rfl (by rw [hb]; exact d_TM_entryOf_19)) hl.1 d_TM_entryOf_19 ⟨Nat.le_of_ble_eq_true rfl, Nat.le_of_ble_eq_true rfl⟩ (Or.inl ⟨_, _, List.mem_cons_self⟩) (mk_ws tw_456 hts) (fun a9 U9 h9 => Ts_warm hts _ tw_33 a9 U9 h9) ⟨Nat.le_of_ble_eq_true rfl, Nat.le_of_ble_eq_true rfl⟩ (fun v w' H locs hq hI => ?_) (fun k x w' H locs hq hI hX => ?_)
        · obtain ⟨hq5, hq6⟩ := hq
          cases hq6
          rw [hq5] at hI
          have hl9 : lst (fun e => decide (tb (M_aq mi (kyL (dk S) q (ks mi))) e = some (aq (M_aq mi (kyL (dk S) q (ks mi))))) && decide ((-1 : Int32) ≠ nI e)) (en (M_aq mi (kyL (dk S) q (ks mi)))) = fnd mi (kyL (dk S) q (ks mi)) := by
            unfold fnd
            refine lst_congr (fun e he => ?_)
            have he2 : e < en mi := he
            rw [decide_eq_true (neg_ne (by omega)), Bool.and_true]
            rfl
          rw [hl9]
          refine W.eq (g2 := F0 m 22 ls [.int (oI (fnd mi (kyL (dk S) q (ks mi))))]) rfl ?_
          refine mw_iret K hI hr hlk ⟨rfl, ?_, Fr.up fk.2 (by rw [oax]; simp)⟩ d_TM_entryOf_22
          refine hA.map (w' := mw_up w ax (by_a dA (ks mi) g')) (own' := own) ⟨om, Or.inr (Or.inl ⟨hk1, ka, ak, ax, rch, g', f, f0', oka, oax, fk.up g', hkl, f1', hr1, hn1, hs2⟩)⟩ (fun q' y hy hz => ?_) (fun _ _ _ => rfl)
          rw [mw_up_n _ _ ?_]
          · exact hy
          · intro e
            subst e
            rcases hz with hz | ⟨fs, hz⟩
            · exact hz (by rw [oax]; exact Or.inr (Or.inr (Or.inl rfl)))
            · rw [hz] at hy; exact absurd (hy.symm.trans fk.2) (by simp)
        · exact absurd hq.2 (by simp)
      · exact absurd hq.1 (by simp)
    · rw [hk1] at k2; cases k2
  · rw [hk1] at k0; cases k0
