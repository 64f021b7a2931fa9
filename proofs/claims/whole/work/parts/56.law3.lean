/-! ### the law: its loop, its start -/
theorem and15 (v : Int32) : ∃ j, j < 16 ∧ v &&& nI 15 = nI j := by
  have h : (v &&& nI 15).toBitVec.toNat < 16 := by
    rw [Int32.toBitVec_and, BitVec.toNat_and]
    exact Nat.lt_succ_of_le (Nat.and_le_right (m := 15))
  refine ⟨_, h, ?_⟩
  apply Int32.toBitVec_inj.mp
  apply BitVec.eq_of_toNat_eq
  rw [nI_bv (by omega)]
theorem nI_sub5 {n i : Nat} (hn : n < 2 ^ 31) (hi : i < 2 ^ 31) : nI n - nI 5 < nI i ↔ n < i + 5 := by
  rw [Int32.lt_iff_toInt_lt, Int32.toInt_sub, nI_toInt hn, nI_toInt hi, nI_toInt (by decide)]
  have : ((n : Int) - (5 : Nat)).bmod (2 ^ 32) = (n : Int) - 5 := by
    rw [Int.bmod_eq_of_le (by omega) (by omega)]; rfl
  rw [this]
  omega
section LawLoop
variable {l : Launch} {D : va_G} {dA : Nat → ClassId} {p : Program} {e : Env} {s : State} {m : MethodId} {args : Array Value} {below : List Frame} {meth : Method} {c : Code} {Q : State → Prop} {w0 : mw_W} {sc x y o n : Nat} {f : Nat → Int32}
set_option maxRecDepth 100000 in
set_option maxHeartbeats 4000000 in
theorem lw_loop (hL : mw_L l) (K : mw_K p s m args c code 8 "MapStoreLaw" D mk_cl (mk_tys dA) Ts mk_ty) (hSy : mw_Sy mk_strs s s.heap) (hP0 : mw_P D mk_cl w0 s.heap) (hn : n ≤ 2564) (hsX : va_X sc n f s s.heap) (hsl : sc < s.heap.size) (hsA : ¬ mw_A w0 s.heap.size sc)
    (ret : ∀ (w : mw_W) (H : Heap) (locs : List Loc) (ls : Array Slot) (cells slots : Nat), mw_I D mk_cl w0 s.heap w H locs → lv_has ls 8 [] → cells ≤ 601024 → slots ≤ 7293033 → W p l e LWR s m args below meth c H locs cells slots Q (F0 m 1098 ls [])) :
    ∀ (k t i : Nat), i = 5 * t → t + k = 513 → ∀ (w : mw_W) (H : Heap) (locs : List Loc) (ls : Array Slot) (cells slots : Nat), mw_I D mk_cl w0 s.heap w H locs → LWJ dA w x y o t → cells ≤ 23 + 6 * t → slots ≤ 607583 + 4120 * t → lv_has ls 8 [(0, .ref sc), (1, .ref x), (2, .ref y), (3, .ref o), (4, .int (nI i))] → W p l e LWR s m args below meth c H locs cells slots Q (F0 m 23 ls []) := by
  intro k
  induction k with
  | zero =>
    intro t i hit htk w H locs ls cells slots hI hJ hc hs hl
    obtain ⟨own, S, cd, fo, hR, hM, hW, ho, f1⟩ := hJ
    obtain ⟨hx, hb, hml, hown, hts, hK, hTb⟩ := id K
    refine lv_iload hx hb d_LW_law_23 (lv_at hl 4 rfl) ?_
    refine lv_aload_n hx hb d_LW_law_25 rfl (lv_at hl 0 rfl) ?_
    refine mw_slen K hI hsX hsl hsA d_LW_law_26 ?_
    refine lv_iconst (v := nI 5) hx hb d_LW_law_27 (by decide) ?_
    refine lv_isub hx hb d_LW_law_28 ?_
    refine lv_icmp_gt (tgt := 1098) hx hb d_LW_law_29 (by decide) (fun c29 => ?_) (fun c29 => ?_)
    ·
      exact ret w H locs ls cells slots hI (lv_sub hl [] rfl) (by omega) (by omega)
    ·
      exact absurd ((nI_sub5 (by omega) (by omega)).mpr (by omega)) c29
  | succ k ih =>
    intro t i hit htk w H locs ls cells slots hI hJ hc hs hl
    obtain ⟨own, S, cd, fo, hR, hM, hW, ho, f1⟩ := id hJ
    obtain ⟨hx, hb, hml, hown, hts, hK, hTb⟩ := id K
    refine lv_iload hx hb d_LW_law_23 (lv_at hl 4 rfl) ?_
    refine lv_aload_n hx hb d_LW_law_25 rfl (lv_at hl 0 rfl) ?_
    refine mw_slen K hI hsX hsl hsA d_LW_law_26 ?_
    refine lv_iconst (v := nI 5) hx hb d_LW_law_27 (by decide) ?_
    refine lv_isub hx hb d_LW_law_28 ?_
    refine lv_icmp_gt (tgt := 1098) hx hb d_LW_law_29 (by decide) (fun c29 => ?_) (fun c29 => ?_)
    ·
      exact ret w H locs ls cells slots hI (lv_sub hl [] rfl) (by omega) (by omega)
    ·
      have hi : i + 5 ≤ n := Nat.le_of_not_lt (fun h => c29 ((nI_sub5 (by omega) (by omega)).mpr h))
      have ht : t < 512 := by omega
      have hn31 : n < 2 ^ 31 := by omega
      have hcc : cells + 6 ≤ 601024 := by omega
      have hss : slots + 4120 ≤ 7293033 := by omega
      have next : LWX l D dA p e s m args below meth c Q w0 sc x y o (t + 1) i (cells + 6) (slots + 4120) := by
        intro w' H' locs' hI' hJ' ls hl
        refine lv_iinc (v := nI (i + 5)) (lv' := [(4, .int (nI (i + 5))), (0, .ref sc), (1, .ref x), (2, .ref y), (3, .ref o)]) hx hb d_LW_law_1092 hl (k := 4) rfl (nI_add _ _) (by decide) rfl (fun ls hl => ?_)
        refine lv_goto (tgt := 23) hx hb d_LW_law_1095 (by decide) ?_
        exact ih (t + 1) (i + 5) (by omega) (by omega) w' H' locs' ls _ _ hI' hJ' (by omega) (by omega) (lv_sub hl [1, 2, 3, 4, 0] rfl)
      refine lv_aload_n hx hb d_LW_law_32 rfl (lv_at hl 0 rfl) ?_
      refine lv_iload hx hb d_LW_law_33 (lv_at hl 4 rfl) ?_
      refine mw_sld K hI hsX hsl hsA i (by omega) (by omega) d_LW_law_35 ?_
      refine lv_bipush (v := nI 15) hx hb d_LW_law_36 (by decide) ?_
      refine lv_iand hx hb d_LW_law_38 ?_
      obtain ⟨j, hj, ej⟩ := and15 (f i)
      refine mw_ti (y := nI j) (ej) ?_
      rcases (by omega : j = 0 ∨ j = 1 ∨ j = 2 ∨ j = 3 ∨ j = 4 ∨ j = 5 ∨ j = 6 ∨ j = 7 ∨ j = 8 ∨ j = 9 ∨ j = 10 ∨ j = 11 ∨ j = 12 ∨ j = 13 ∨ j = 14 ∨ j = 15) with h | h | h | h | h | h | h | h | h | h | h | h | h | h | h | h
      · subst h
        refine lv_tableIn (x := nI 0) (off := 73) (tgt := 112) hx hb d_LW_law_39 (by decide) (by decide) (by decide) (by decide) ?_
        exact lw_make hL K hSy hP0 hI hJ hsX hsl hsA ht hi hn31 hcc hss hl next
      · subst h
        refine lv_tableIn (x := nI 1) (off := 165) (tgt := 204) hx hb d_LW_law_39 (by decide) (by decide) (by decide) (by decide) ?_
        exact lw_maps hL K hSy hP0 hI hJ hsX hsl hsA ht hi hn31 hcc hss hl next
      · subst h
        refine lv_tableIn (x := nI 2) (off := 178) (tgt := 217) hx hb d_LW_law_39 (by decide) (by decide) (by decide) (by decide) ?_
        exact lw_begins hL K hSy hP0 hI hJ hsX hsl hsA ht hi hn31 hcc hss hl next
      · subst h
        refine lv_tableIn (x := nI 3) (off := 234) (tgt := 273) hx hb d_LW_law_39 (by decide) (by decide) (by decide) (by decide) ?_
        exact lw_used hL K hSy hP0 hI hJ hsX hsl hsA ht hi hn31 hcc hss hl next
      · subst h
        refine lv_tableIn (x := nI 4) (off := 290) (tgt := 329) hx hb d_LW_law_39 (by decide) (by decide) (by decide) (by decide) ?_
        exact lw_desk hL K hSy hP0 hI hJ hsX hsl hsA ht hi hn31 hcc hss hl next
      · subst h
        refine lv_tableIn (x := nI 5) (off := 345) (tgt := 384) hx hb d_LW_law_39 (by decide) (by decide) (by decide) (by decide) ?_
        exact lw_lay hL K hSy hP0 hI hJ hsX hsl hsA ht hi hn31 hcc hss hl next
      · subst h
        refine lv_tableIn (x := nI 6) (off := 425) (tgt := 464) hx hb d_LW_law_39 (by decide) (by decide) (by decide) (by decide) ?_
        exact lw_load hL K hSy hP0 hI hJ hsX hsl hsA ht hi hn31 hcc hss hl next
      · subst h
        refine lv_tableIn (x := nI 7) (off := 492) (tgt := 531) hx hb d_LW_law_39 (by decide) (by decide) (by decide) (by decide) ?_
        exact lw_store hL K hSy hP0 hI hJ hsX hsl hsA ht hi hn31 hcc hss hl next
      · subst h
        refine lv_tableIn (x := nI 8) (off := 584) (tgt := 623) hx hb d_LW_law_39 (by decide) (by decide) (by decide) (by decide) ?_
        exact lw_find hL K hSy hP0 hI hJ hsX hsl hsA ht hi hn31 hcc hss hl next
      · subst h
        refine lv_tableIn (x := nI 9) (off := 652) (tgt := 691) hx hb d_LW_law_39 (by decide) (by decide) (by decide) (by decide) ?_
        exact lw_update hL K hSy hP0 hI hJ hsX hsl hsA ht hi hn31 hcc hss hl next
      · subst h
        refine lv_tableIn (x := nI 10) (off := 744) (tgt := 783) hx hb d_LW_law_39 (by decide) (by decide) (by decide) (by decide) ?_
        exact lw_remove hL K hSy hP0 hI hJ hsX hsl hsA ht hi hn31 hcc hss hl next
      · subst h
        refine lv_tableIn (x := nI 11) (off := 812) (tgt := 851) hx hb d_LW_law_39 (by decide) (by decide) (by decide) (by decide) ?_
        exact lw_put hL K hSy hP0 hI hJ hsX hsl hsA ht hi hn31 hcc hss hl next
      · subst h
        refine lv_tableIn (x := nI 12) (off := 892) (tgt := 931) hx hb d_LW_law_39 (by decide) (by decide) (by decide) (by decide) ?_
        exact lw_take hL K hSy hP0 hI hJ hsX hsl hsA ht hi hn31 hcc hss hl next
      · subst h
        refine lv_tableIn (x := nI 13) (off := 960) (tgt := 999) hx hb d_LW_law_39 (by decide) (by decide) (by decide) (by decide) ?_
        exact lw_next hL K hSy hP0 hI hJ hsX hsl hsA ht hi hn31 hcc hss hl next
      · subst h
        refine lv_tableIn (x := nI 14) (off := 1040) (tgt := 1079) hx hb d_LW_law_39 (by decide) (by decide) (by decide) (by decide) ?_
        exact lw_breaches hL K hSy hP0 hI hJ hsX hsl hsA ht hi hn31 hcc hss hl next
      · subst h
        refine lv_tableOut (x := nI 15) (tgt := 1092) hx hb d_LW_law_39 (by decide) (by decide) ?_
        refine W.widen (k := cells + 6) (n := slots + 4120) (by omega) (by omega) ?_
        exact next w H locs hI ⟨own, S, cd, fo, hR, hM, hW.mono (Nat.le_succ t), ho, f1⟩ ls hl
end LawLoop
