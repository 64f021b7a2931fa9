/-! ### the law: from its entry -/
section LawStart
variable {l : Launch} {D : va_G} {dA : Nat → ClassId} {p : Program} {e : Env} {s : State} {m : MethodId} {args : Array Value} {below : List Frame} {meth : Method} {c : Code} {Q : State → Prop} {w0 : mw_W} {sc n : Nat} {f : Nat → Int32}
set_option maxRecDepth 100000 in
set_option maxHeartbeats 4000000 in
theorem lw_start (hL : mw_L l) (K : mw_K p s m args c code 8 "MapStoreLaw" D mk_cl (mk_tys dA) Ts mk_ty) (hSy : mw_Sy mk_strs s s.heap) (hP0 : mw_P D mk_cl w0 s.heap) (hn : n ≤ 2564) (hsX : va_X sc n f s s.heap) (hsl : sc < s.heap.size) (hsA : ¬ mw_A w0 s.heap.size sc)
    (ret : ∀ (w : mw_W) (H : Heap) (locs : List Loc) (ls : Array Slot) (cells slots : Nat), mw_I D mk_cl w0 s.heap w H locs → lv_has ls 8 [] → cells ≤ 601024 → slots ≤ 7293033 → W p l e LWR s m args below meth c H locs cells slots Q (F0 m 1098 ls []))
    {ls : Array Slot} (hl : lv_has ls 8 [(0, .ref sc)]) : W p l e LWR s m args below meth c s.heap [] 0 0 Q (F0 m 0 ls []) := by
  obtain ⟨hx, hb, hml, hown, hts, hK, hTb⟩ := id K
  have hI := mw_I.start hP0
  refine mw_new K hI (ci := cMS) (fs := [.null, .null, .null, .int 0, .int 0]) rfl tw_37 tw_38 tw_21 (by decide) (Nat.le_of_ble_eq_true rfl) (Nat.le_of_ble_eq_true rfl) d_LW_law_0 (fun x H hq hI => ?_)
  have hq_x := hq
  have hI : mw_I D mk_cl w0 s.heap (mw_up w0 x (.inr (cMS, [.null, .null, .null, .int 0, .int 0]))) H _ := hI
  have fx : (mw_up w0 x (.inr (cMS, [.null, .null, .null, .int 0, .int 0]))) x = some (.inr (cMS, [.null, .null, .null, .int 0, .int 0])) := mw_up_s _ _ _
  refine lv_dup hx hb d_LW_law_3 rfl ?_
  refine mw_call (rest := [.ref x]) K hSy hP0 hI (c_MS_init l D dA fx) (mx_invI hx hown rfl (hts _ tw_39) (hts _ tw_40) (hts _ tw_41) (by decide) (g := F0 m 4 ls [.ref x, .ref x]) rfl (a := x) (argsL := []) (rest := [.ref x]) np_MS_init rfl (by rw [hb]; exact d_LW_law_4)) hl.1 d_LW_law_4 ⟨Nat.le_of_ble_eq_true rfl, Nat.le_of_ble_eq_true rfl⟩ (Or.inl ⟨_, _, List.mem_cons_self⟩) (mk_ws tw_41 hts) (fun a9 U9 h9 => Ts_warm hts _ tw_21 a9 U9 h9) ⟨Nat.le_of_ble_eq_true rfl, Nat.le_of_ble_eq_true rfl⟩ (fun v w' H locs hq hI => ?_) (fun k x w' H locs hq hI hX => ?_)
  · obtain ⟨hq1, bd, xd, ba, xa, ra, n1, n2, n3, n4, n5, h1, h2, h3, h4, hfr⟩ := hq
    cases hq1
    refine W.eq (g2 := F0 m 7 ls [.ref x]) rfl ?_
    obtain ⟨own1, hR, hown1⟩ := RepC.start (own := va_up (fun _ => (41, 0, 0)) x (8, 0, 0)) (va_up_self _ _ _) fx n2 n4 n5 h1 h2 h3 h4
    refine lv_astore_n (lv' := [(1, .ref x), (0, .ref sc)]) hx hb d_LW_law_7 rfl hl (by decide) rfl (fun ls hl => ?_)
    refine mw_new K hI (ci := cMO) (fs := [.int 0, .null, .null, .int 0, .int 0, .null, .null, .null, .null, .null, .null, .null, .int 0, .int 0, .null, .null, .null, .null, .null, .null, .int 0]) rfl tw_592 tw_593 tw_23 (by decide) (Nat.le_of_ble_eq_true rfl) (Nat.le_of_ble_eq_true rfl) d_LW_law_8 (fun y H hq hI => ?_)
    have hq_y := hq
    have hI : mw_I D mk_cl w0 s.heap (mw_up w' y (.inr (cMO, [.int 0, .null, .null, .int 0, .int 0, .null, .null, .null, .null, .null, .null, .null, .int 0, .int 0, .null, .null, .null, .null, .null, .null, .int 0]))) H _ := hI
    have fy : (mw_up w' y (.inr (cMO, [.int 0, .null, .null, .int 0, .int 0, .null, .null, .null, .null, .null, .null, .null, .int 0, .int 0, .null, .null, .null, .null, .null, .null, .int 0]))) y = some (.inr (cMO, [.int 0, .null, .null, .int 0, .int 0, .null, .null, .null, .null, .null, .null, .null, .int 0, .int 0, .null, .null, .null, .null, .null, .null, .int 0])) := mw_up_s _ _ _
    refine lv_dup hx hb d_LW_law_11 rfl ?_
    refine mw_call (rest := [.ref y]) K hSy hP0 hI (c_MO_init l D dA fy) (mx_invI hx hown rfl (hts _ tw_594) (hts _ tw_595) (hts _ tw_596) (by decide) (g := F0 m 12 ls [.ref y, .ref y]) rfl (a := y) (argsL := []) (rest := [.ref y]) np_MO_init rfl (by rw [hb]; exact d_LW_law_12)) hl.1 d_LW_law_12 ⟨Nat.le_of_ble_eq_true rfl, Nat.le_of_ble_eq_true rfl⟩ (Or.inl ⟨_, _, List.mem_cons_self⟩) (mk_ws tw_596 hts) (fun a9 U9 h9 => Ts_warm hts _ tw_23 a9 U9 h9) ⟨Nat.le_of_ble_eq_true rfl, Nat.le_of_ble_eq_true rfl⟩ (fun v w' H locs hq hI => ?_) (fun k x w' H locs hq hI hX => ?_)
    · obtain ⟨hq1, A, m1, m2, m3, m4, hfr2⟩ := hq
      cases hq1
      refine W.eq (g2 := F0 m 15 ls [.ref y]) rfl ?_
      obtain ⟨hM, hown2⟩ := RepM.start (own := va_up own1 y (20, 0, 0)) (va_up_self _ _ _) (by rw [fy]; exact Option.some_ne_none _) m1 m2 m3 m4
      have hR2 : RepC dA w' (mo_own (va_up own1 y (20, 0, 0)) A 15) x S_0 := hR.keepG (fun q z hq _ => hfr2 q z ((mw_up_n _ _ (mw_neN hq hq_y)).trans hq) (mw_neN hq hq_y)) (fun q z hq => (hown2 q z ((mw_up_n _ _ (mw_neN hq hq_y)).trans hq)).trans (va_up_ne _ _ (mw_neN hq hq_y)))
      generalize mo_own (va_up own1 y (20, 0, 0)) A 15 = own2 at hM hR2
      refine lv_astore_n (lv' := [(2, .ref y), (1, .ref x), (0, .ref sc)]) hx hb d_LW_law_15 rfl hl (by decide) rfl (fun ls hl => ?_)
      refine lv_iconst (v := nI 1) hx hb d_LW_law_16 (by decide) ?_
      refine mw_newa K hI tJ (t := .long) rfl tw_61 rfl (fun C h => by cases h) (a0 := (1, .inr (.inl (fun _ => 0)))) (fun _ => rfl) (nI_pos (by omega)) (nI_clamp (by omega)) (by show _ * 8 ≤ _; omega) (Nat.le_of_ble_eq_true rfl) (Nat.le_of_ble_eq_true rfl) d_LW_law_17 (fun o H hq hI => ?_)
      have hq_o := hq
      have hI : mw_I D mk_cl w0 s.heap (mw_up w' o (.inl (dA tJ, 1, .inr (.inl (fun _ => 0))))) H _ := hI
      have fo : (mw_up w' o (.inl (dA tJ, 1, .inr (.inl (fun _ => 0))))) o = some (.inl (dA tJ, 1, .inr (.inl (fun _ => 0)))) := mw_up_s _ _ _
      have hR3 := hR2.keepG (own' := va_up own2 o (40, 0, 0)) (fun q z hq _ => (mw_up_n w' (.inl (dA tJ, 1, .inr (.inl (fun _ => 0)))) (mw_neN hq hq_o)).trans hq) (fun q z hq => va_up_ne _ _ (mw_neN hq hq_o))
      have hM3 := hM.keepG (own' := va_up own2 o (40, 0, 0)) (fun q z hq _ _ => (mw_up_n w' (.inl (dA tJ, 1, .inr (.inl (fun _ => 0)))) (mw_neN hq hq_o)).trans hq) (fun q z hq => va_up_ne _ _ (mw_neN hq hq_o))
      refine lv_astore_n (lv' := [(3, .ref o), (2, .ref y), (1, .ref x), (0, .ref sc)]) hx hb d_LW_law_19 rfl hl (by decide) rfl (fun ls hl => ?_)
      refine lv_iconst (v := nI 0) hx hb d_LW_law_20 (by decide) ?_
      refine lv_istore (lv' := [(4, .int (nI 0)), (3, .ref o), (2, .ref y), (1, .ref x), (0, .ref sc)]) hx hb d_LW_law_21 hl (by decide) rfl (fun ls hl => ?_)
      exact lw_loop hL K hSy hP0 hn hsX hsl hsA ret 513 0 0 rfl rfl _ H _ ls _ _ hI ⟨_, S_0, nI 0, fun _ => 0, hR3, hM3, wf_S_0, va_up_self _ _ _, fo⟩ (Nat.le_of_ble_eq_true rfl) (Nat.le_of_ble_eq_true rfl) (lv_sub hl [4, 3, 2, 1, 0] rfl)
    · exact absurd hq.1 (by simp)
  · exact absurd hq.1 (by simp)
end LawStart
