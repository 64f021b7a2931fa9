/-! ### MapStore: the calls that go to a map -/
theorem d_MS_used_0 : decode b_MS_used 0 = .ok (.aload_n 0, 1) := by decide +kernel
theorem d_MS_used_1 : decode b_MS_used 1 = .ok (.iload_n 1, 1) := by decide +kernel
theorem d_MS_used_2 : decode b_MS_used 2 = .ok (.invokevirtual 59, 3) := by decide +kernel
theorem d_MS_used_5 : decode b_MS_used 5 = .ok (.invokevirtual 66, 3) := by decide +kernel
theorem d_MS_used_8 : decode b_MS_used 8 = .ok (.ireturn, 1) := by decide +kernel
theorem d_MS_find_0 : decode b_MS_find 0 = .ok (.aload_n 0, 1) := by decide +kernel
theorem d_MS_find_1 : decode b_MS_find 1 = .ok (.iload_n 1, 1) := by decide +kernel
theorem d_MS_find_2 : decode b_MS_find 2 = .ok (.invokevirtual 59, 3) := by decide +kernel
theorem d_MS_find_5 : decode b_MS_find 5 = .ok (.iload_n 2, 1) := by decide +kernel
theorem d_MS_find_6 : decode b_MS_find 6 = .ok (.invokevirtual 85, 3) := by decide +kernel
theorem d_MS_find_9 : decode b_MS_find 9 = .ok (.ireturn, 1) := by decide +kernel
theorem d_MS_update_0 : decode b_MS_update 0 = .ok (.aload_n 0, 1) := by decide +kernel
theorem d_MS_update_1 : decode b_MS_update 1 = .ok (.iload_n 1, 1) := by decide +kernel
theorem d_MS_update_2 : decode b_MS_update 2 = .ok (.invokevirtual 59, 3) := by decide +kernel
theorem d_MS_update_5 : decode b_MS_update 5 = .ok (.iload_n 2, 1) := by decide +kernel
theorem d_MS_update_6 : decode b_MS_update 6 = .ok (.iload_n 3, 1) := by decide +kernel
theorem d_MS_update_7 : decode b_MS_update 7 = .ok (.iload 4, 2) := by decide +kernel
theorem d_MS_update_9 : decode b_MS_update 9 = .ok (.invokevirtual 88, 3) := by decide +kernel
theorem d_MS_update_12 : decode b_MS_update 12 = .ok (.ireturn, 1) := by decide +kernel
theorem d_MS_remove_0 : decode b_MS_remove 0 = .ok (.aload_n 0, 1) := by decide +kernel
theorem d_MS_remove_1 : decode b_MS_remove 1 = .ok (.iload_n 1, 1) := by decide +kernel
theorem d_MS_remove_2 : decode b_MS_remove 2 = .ok (.invokevirtual 59, 3) := by decide +kernel
theorem d_MS_remove_5 : decode b_MS_remove 5 = .ok (.iload_n 2, 1) := by decide +kernel
theorem d_MS_remove_6 : decode b_MS_remove 6 = .ok (.invokevirtual 92, 3) := by decide +kernel
theorem d_MS_remove_9 : decode b_MS_remove 9 = .ok (.ireturn, 1) := by decide +kernel
theorem d_MS_put_0 : decode b_MS_put 0 = .ok (.aload_n 0, 1) := by decide +kernel
theorem d_MS_put_1 : decode b_MS_put 1 = .ok (.iload_n 1, 1) := by decide +kernel
theorem d_MS_put_2 : decode b_MS_put 2 = .ok (.invokevirtual 59, 3) := by decide +kernel
theorem d_MS_put_5 : decode b_MS_put 5 = .ok (.iload_n 2, 1) := by decide +kernel
theorem d_MS_put_6 : decode b_MS_put 6 = .ok (.iload_n 3, 1) := by decide +kernel
theorem d_MS_put_7 : decode b_MS_put 7 = .ok (.invokevirtual 95, 3) := by decide +kernel
theorem d_MS_put_10 : decode b_MS_put 10 = .ok (.ireturn, 1) := by decide +kernel
theorem d_MS_take_0 : decode b_MS_take 0 = .ok (.aload_n 0, 1) := by decide +kernel
theorem d_MS_take_1 : decode b_MS_take 1 = .ok (.iload_n 1, 1) := by decide +kernel
theorem d_MS_take_2 : decode b_MS_take 2 = .ok (.invokevirtual 59, 3) := by decide +kernel
theorem d_MS_take_5 : decode b_MS_take 5 = .ok (.iload_n 2, 1) := by decide +kernel
theorem d_MS_take_6 : decode b_MS_take 6 = .ok (.invokevirtual 99, 3) := by decide +kernel
theorem d_MS_take_9 : decode b_MS_take 9 = .ok (.ireturn, 1) := by decide +kernel
theorem d_MS_next_0 : decode b_MS_next 0 = .ok (.aload_n 0, 1) := by decide +kernel
theorem d_MS_next_1 : decode b_MS_next 1 = .ok (.iload_n 1, 1) := by decide +kernel
theorem d_MS_next_2 : decode b_MS_next 2 = .ok (.invokevirtual 59, 3) := by decide +kernel
theorem d_MS_next_5 : decode b_MS_next 5 = .ok (.iload_n 2, 1) := by decide +kernel
theorem d_MS_next_6 : decode b_MS_next 6 = .ok (.iload_n 3, 1) := by decide +kernel
theorem d_MS_next_7 : decode b_MS_next 7 = .ok (.invokevirtual 102, 3) := by decide +kernel
theorem d_MS_next_10 : decode b_MS_next 10 = .ok (.ireturn, 1) := by decide +kernel
/-- an answer of the class, and its state afterwards -/
def PR (dA : Nat → ClassId) (w : mw_W) (own : as_W) (x : Nat) (sr : as_S × (Int32 ⊕ Nat)) : mw_R → mw_W → Prop := fun r w' => r = rV sr.2 ∧ ∃ own', RepC dA w' own' x sr.1 ∧ Fr w own w' own'
theorem PC.pr {dA : Nat → ClassId} {w : mw_W} {own : as_W} {x bd xd ba xa ra : Nat} {mp : Nat → Nat} {sr : as_S × (Int32 ⊕ Nat)} {r : mw_R} {w' : mw_W} (h : PC dA w own x bd xd ba xa ra mp sr r w') : PR dA w own x sr r w' := by
  obtain ⟨h1, own', gd', ga', h2, h3⟩ := h
  exact ⟨h1, own', ⟨bd, xd, ba, xa, ra, mp, gd', ga', h2⟩, h3⟩
theorem rV_ret {v : Option Value} {r : Int32 ⊕ Nat} (h : (.inl v : mw_R) = rV r) : ∃ u, v = some (.int u) := by
  cases r with
  | inl u => exact ⟨u, by injection h⟩
  | inr k => cases h
def sp_USED (S : as_S) (q : Int32) : as_S × (Int32 ⊕ Nat) := if inM S q then (S, .inl (nI (useN (mm S q.toNatClampNeg)))) else (S, .inr 2)
def sp_FIND (S : as_S) (q k : Int32) : as_S × (Int32 ⊕ Nat) := if inM S q then (if kd (mm S q.toNatClampNeg) = 2 then (S, .inl (-22)) else sp_find S q.toNatClampNeg k) else (S, .inr 2)
def sp_UPD (S : as_S) (q k v f : Int32) : as_S × (Int32 ⊕ Nat) := if inM S q then (if kd (mm S q.toNatClampNeg) = 2 then (S, .inl (-22)) else sp_upd S q.toNatClampNeg k v f) else (S, .inr 2)
def sp_REM (S : as_S) (q k : Int32) : as_S × (Int32 ⊕ Nat) := if inM S q then (if kd (mm S q.toNatClampNeg) = 1 then sp_free S q.toNatClampNeg k else (S, .inl (-22))) else (S, .inr 2)
def sp_PUT (S : as_S) (q a z : Int32) : as_S × (Int32 ⊕ Nat) := if inM S q then (if kd (mm S q.toNatClampNeg) = 2 then sp_put S q.toNatClampNeg a z else (S, .inl (-22))) else (S, .inr 2)
def sp_TAKE (S : as_S) (q a : Int32) : as_S × (Int32 ⊕ Nat) := if inM S q then (if kd (mm S q.toNatClampNeg) = 2 then sp_take S q.toNatClampNeg a else (S, .inl (-22))) else (S, .inr 2)
def sp_NEXT (S : as_S) (q k to : Int32) : as_S × (Int32 ⊕ Nat) := if inM S q then (if kd (mm S q.toNatClampNeg) = 1 then sp_next S q.toNatClampNeg k to else (S, .inl (-22))) else (S, .inr 2)
set_option maxRecDepth 100000 in
set_option maxHeartbeats 4000000 in
theorem c_MS_used (l : Launch) (D : va_G) (dA : Nat → ClassId) (hL : mw_L l) {w : mw_W} {own : as_W} {x t : Nat} {S : as_S} (hR : RepC dA w own x S) (hW : wf_S t S) (ht : t ≤ 512) (q : Int32) : CT l D dA y_MS_used (Cond.code y_MS_used b_MS_used 2 (some .int) :: Ts) 8 200 6 40 [.ref x, .int q] w (PR dA w own x (sp_USED S q)) := by
  refine mw_meth (by decide) mk_tb (Nat.le_of_ble_eq_true rfl) ?_
  intro p e s m below meth c K hr hlk hce hnm hP0 hSy ls hl
  have hl : lv_has ls 2 [(0, .ref x), (1, .int q)] := hl
  obtain ⟨hx, hb, hml, hown, hts, hK, hTb⟩ := id K
  have hI := mw_I.start hP0
  have hR0 := hR
  obtain ⟨bd, xd, ba, xa, ra, mp, gd, ga, hA⟩ := hR
  obtain ⟨⟨o1, o2, o3, o4, fx, fd, fa, fr, hdk, har⟩, hM⟩ := id hA
  refine lv_aload_n hx hb d_MS_used_0 rfl (lv_at hl 0 rfl) ?_
  refine lv_iload_n hx hb d_MS_used_1 rfl (lv_at hl 1 rfl) ?_
  refine mw_call (rest := []) K hSy hP0 hI (c_MS_mapOf l D dA hL hA hW.1 q) (mx_invV hx hown (hts _ tw_89) (hts _ tw_91) (hts _ tw_0) (hts _ tw_92) (by decide) (b := x) (mw_rc K hI fx rfl) (g := F0 m 2 ls [.int q, .ref x]) rfl (argsL := [.int q]) (rest := []) np_MS_mapOf rfl (by rw [hb]; exact d_MS_used_2)) hl.1 d_MS_used_2 ⟨Nat.le_of_ble_eq_true rfl, Nat.le_of_ble_eq_true rfl⟩ (Or.inl ⟨_, _, List.mem_cons_self⟩) (mk_ws tw_92 hts) (fun a9 U9 h9 => Ts_warm hts _ tw_21 a9 U9 h9) ⟨Nat.le_of_ble_eq_true rfl, Nat.le_of_ble_eq_true rfl⟩ (fun v w' H locs hq hI => ?_) (fun k x w' H locs hq hI hX => ?_)
  · obtain ⟨hq1, ⟨hin, hq4⟩ | ⟨-, hq4⟩⟩ := hq
    · cases hq4
      rw [hq1] at hI
      obtain ⟨e1, e2⟩ := inM_nI hin hW.1
      have hwf := hW.2.2.2.2.2 _ e2
      have hsp : sp_USED S q = _ := if_pos hin
      refine W.eq (g2 := F0 m 5 ls [.ref (mp q.toNatClampNeg)]) rfl ?_
      have hkk : kd (mm S q.toNatClampNeg) = 0 ∨ kd (mm S q.toNatClampNeg) = 1 ∨ kd (mm S q.toNatClampNeg) = 2 := by
        obtain ⟨-, ⟨k0, -⟩ | ⟨k0, -⟩ | ⟨k0, -⟩⟩ := hwf
        · exact Or.inl k0
        · exact Or.inr (Or.inl k0)
        · exact Or.inr (Or.inr k0)
      rcases hkk with hk | hk | hk
      · have f0 := rc_AM (hA.2 _ e2) hk (wf_E hwf (Or.inl hk)).2.2.2.2.2.2.2
        obtain ⟨mi, em⟩ : ∃ mi, mi = mm S q.toNatClampNeg := ⟨_, rfl⟩
        rw [← em] at f0
        refine mw_call (rest := []) K hSy hP0 hI (c_AM_inUse l D dA hA hW e2 hk) (mx_invU (y := y_AM_inUse) hx hown (hts _ tw_353) (hts _ tw_355) (va_Decl.abs (va_Nw.of rfl (hts _ tw_354))) (by decide) (hts _ tw_356) (hts _ tw_357) (b := (mp q.toNatClampNeg)) (mw_rc K hI f0 rfl) (g := F0 m 5 ls [.ref (mp q.toNatClampNeg)]) rfl (argsL := []) (rest := []) np_AN_inUse rfl (by rw [hb]; exact d_MS_used_5)) hl.1 d_MS_used_5 ⟨Nat.le_of_ble_eq_true rfl, Nat.le_of_ble_eq_true rfl⟩ (Or.inl ⟨_, _, List.mem_cons_self⟩) (mk_ws tw_358 hts) (fun a9 U9 h9 => Ts_warm hts _ tw_32 a9 U9 h9) ⟨Nat.le_of_ble_eq_true rfl, Nat.le_of_ble_eq_true rfl⟩ (fun v w' H locs hq hI => ?_) (fun k x w' H locs hq hI hX => ?_)
        · obtain ⟨hq5, hq6⟩ := hq
          cases hq5
          rw [hq6] at hI
          refine W.eq (g2 := F0 m 8 ls [.int (nI (useN (mm S q.toNatClampNeg)))]) rfl ?_
          refine W.widen (k := 6) (n := 40) (by decide) (by decide) ?_
          refine mw_iret K hI hr hlk ?_ d_MS_used_8
          rw [hsp]
          exact ⟨rfl, own, hR0, Fr.rf w own⟩
        · exact absurd hq.1 (by simp)
      · obtain ⟨ka, ak, rch, wk, f0⟩ := rc_TM (hA.2 _ e2) hk
        obtain ⟨mi, em⟩ : ∃ mi, mi = mm S q.toNatClampNeg := ⟨_, rfl⟩
        rw [← em] at f0
        refine mw_call (rest := []) K hSy hP0 hI (c_TM_inUse l D dA hA hW e2 hk) (mx_invU (y := y_TM_inUse) hx hown (hts _ tw_353) (hts _ tw_355) (va_Decl.abs (va_Nw.of rfl (hts _ tw_354))) (by decide) (hts _ tw_362) (hts _ tw_363) (b := (mp q.toNatClampNeg)) (mw_rc K hI f0 rfl) (g := F0 m 5 ls [.ref (mp q.toNatClampNeg)]) rfl (argsL := []) (rest := []) np_AN_inUse rfl (by rw [hb]; exact d_MS_used_5)) hl.1 d_MS_used_5 ⟨Nat.le_of_ble_eq_true rfl, Nat.le_of_ble_eq_true rfl⟩ (Or.inl ⟨_, _, List.mem_cons_self⟩) (mk_ws tw_364 hts) (fun a9 U9 h9 => Ts_warm hts _ tw_33 a9 U9 h9) ⟨Nat.le_of_ble_eq_true rfl, Nat.le_of_ble_eq_true rfl⟩ (fun v w' H locs hq hI => ?_) (fun k x w' H locs hq hI hX => ?_)
        · obtain ⟨hq5, hq6⟩ := hq
          cases hq5
          rw [hq6] at hI
          refine W.eq (g2 := F0 m 8 ls [.int (nI (useN (mm S q.toNatClampNeg)))]) rfl ?_
          refine W.widen (k := 6) (n := 40) (by decide) (by decide) ?_
          refine mw_iret K hI hr hlk ?_ d_MS_used_8
          rw [hsp]
          exact ⟨rfl, own, hR0, Fr.rf w own⟩
        · exact absurd hq.1 (by simp)
      · obtain ⟨om, f0⟩ := rc_RM (hA.2 _ e2) hk
        obtain ⟨mi, em⟩ : ∃ mi, mi = mm S q.toNatClampNeg := ⟨_, rfl⟩
        rw [← em] at f0
        refine mw_call (rest := []) K hSy hP0 hI (c_RM_inUse l D dA hA hW e2 hk) (mx_invU (y := y_RM_inUse) hx hown (hts _ tw_353) (hts _ tw_355) (va_Decl.abs (va_Nw.of rfl (hts _ tw_354))) (by decide) (hts _ tw_359) (hts _ tw_360) (b := (mp q.toNatClampNeg)) (mw_rc K hI f0 rfl) (g := F0 m 5 ls [.ref (mp q.toNatClampNeg)]) rfl (argsL := []) (rest := []) np_AN_inUse rfl (by rw [hb]; exact d_MS_used_5)) hl.1 d_MS_used_5 ⟨Nat.le_of_ble_eq_true rfl, Nat.le_of_ble_eq_true rfl⟩ (Or.inl ⟨_, _, List.mem_cons_self⟩) (mk_ws tw_361 hts) (fun a9 U9 h9 => Ts_warm hts _ tw_34 a9 U9 h9) ⟨Nat.le_of_ble_eq_true rfl, Nat.le_of_ble_eq_true rfl⟩ (fun v w' H locs hq hI => ?_) (fun k x w' H locs hq hI hX => ?_)
        · obtain ⟨hq5, hq6⟩ := hq
          cases hq5
          rw [hq6] at hI
          refine W.eq (g2 := F0 m 8 ls [.int (nI (useN (mm S q.toNatClampNeg)))]) rfl ?_
          refine W.widen (k := 6) (n := 40) (by decide) (by decide) ?_
          refine mw_iret K hI hr hlk ?_ d_MS_used_8
          rw [hsp]
          exact ⟨rfl, own, hR0, Fr.rf w own⟩
        · exact absurd hq.1 (by simp)
    · cases hq4
  · obtain ⟨hq1, ⟨-, hq4⟩ | ⟨hq2, hq4⟩⟩ := hq
    · cases hq4
    · cases hq4
      rw [hq1] at hI
      have hsp : sp_USED S q = _ := if_neg hq2
      refine WT.widen (k := 6) (n := 40) (by decide) (by decide) ?_
      refine mw_on hI hce hlk hX ?_
      rw [hsp]
      exact ⟨rfl, own, hR0, Fr.rf w own⟩
set_option maxRecDepth 100000 in
set_option maxHeartbeats 4000000 in
theorem c_MS_find (l : Launch) (D : va_G) (dA : Nat → ClassId) (hL : mw_L l) {w : mw_W} {own : as_W} {x t : Nat} {S : as_S} (hR : RepC dA w own x S) (hW : wf_S t S) (ht : t ≤ 512) (q k : Int32) : CT l D dA y_MS_find (Cond.code y_MS_find b_MS_find 3 (some .int) :: Ts) 8 200 6 40 [.ref x, .int q, .int k] w (PR dA w own x (sp_FIND S q k)) := by
  refine mw_meth (by decide) mk_tb (Nat.le_of_ble_eq_true rfl) ?_
  intro p e s m below meth c K hr hlk hce hnm hP0 hSy ls hl
  have hl : lv_has ls 3 [(0, .ref x), (1, .int q), (2, .int k)] := hl
  obtain ⟨hx, hb, hml, hown, hts, hK, hTb⟩ := id K
  have hI := mw_I.start hP0
  have hR0 := hR
  obtain ⟨bd, xd, ba, xa, ra, mp, gd, ga, hA⟩ := hR
  obtain ⟨⟨o1, o2, o3, o4, fx, fd, fa, fr, hdk, har⟩, hM⟩ := id hA
  refine lv_aload_n hx hb d_MS_find_0 rfl (lv_at hl 0 rfl) ?_
  refine lv_iload_n hx hb d_MS_find_1 rfl (lv_at hl 1 rfl) ?_
  refine mw_call (rest := []) K hSy hP0 hI (c_MS_mapOf l D dA hL hA hW.1 q) (mx_invV hx hown (hts _ tw_89) (hts _ tw_91) (hts _ tw_0) (hts _ tw_92) (by decide) (b := x) (mw_rc K hI fx rfl) (g := F0 m 2 ls [.int q, .ref x]) rfl (argsL := [.int q]) (rest := []) np_MS_mapOf rfl (by rw [hb]; exact d_MS_find_2)) hl.1 d_MS_find_2 ⟨Nat.le_of_ble_eq_true rfl, Nat.le_of_ble_eq_true rfl⟩ (Or.inl ⟨_, _, List.mem_cons_self⟩) (mk_ws tw_92 hts) (fun a9 U9 h9 => Ts_warm hts _ tw_21 a9 U9 h9) ⟨Nat.le_of_ble_eq_true rfl, Nat.le_of_ble_eq_true rfl⟩ (fun v w' H locs hq hI => ?_) (fun k x w' H locs hq hI hX => ?_)
  · obtain ⟨hq1, ⟨hin, hq4⟩ | ⟨-, hq4⟩⟩ := hq
    · cases hq4
      rw [hq1] at hI
      obtain ⟨e1, e2⟩ := inM_nI hin hW.1
      have hwf := hW.2.2.2.2.2 _ e2
      have hsp : sp_FIND S q k = _ := if_pos hin
      refine W.eq (g2 := F0 m 5 ls [.ref (mp q.toNatClampNeg)]) rfl ?_
      have hkk : kd (mm S q.toNatClampNeg) = 0 ∨ kd (mm S q.toNatClampNeg) = 1 ∨ kd (mm S q.toNatClampNeg) = 2 := by
        obtain ⟨-, ⟨k0, -⟩ | ⟨k0, -⟩ | ⟨k0, -⟩⟩ := hwf
        · exact Or.inl k0
        · exact Or.inr (Or.inl k0)
        · exact Or.inr (Or.inr k0)
      rcases hkk with hk | hk | hk
      · have f0 := rc_AM (hA.2 _ e2) hk (wf_E hwf (Or.inl hk)).2.2.2.2.2.2.2
        obtain ⟨mi, em⟩ : ∃ mi, mi = mm S q.toNatClampNeg := ⟨_, rfl⟩
        rw [← em] at f0
        have hsp := hsp.trans (if_neg (by rw [hk]; decide))
        refine lv_iload_n hx hb d_MS_find_5 rfl (lv_at hl 2 rfl) ?_
        refine mw_call (rest := []) K hSy hP0 hI (c_EM_placeOf_AM l D dA hL hA hW e2 hk k) (mx_invU (y := y_EM_placeOf) hx hown (hts _ tw_432) (hts _ tw_434) (va_Decl.of (hts _ tw_433) (hts _ tw_468)) (by decide) (hts _ tw_435) (hts _ tw_436) (b := (mp q.toNatClampNeg)) (mw_rc K hI f0 rfl) (g := F0 m 6 ls [.int k, .ref (mp q.toNatClampNeg)]) rfl (argsL := [.int k]) (rest := []) np_AN_placeOf rfl (by rw [hb]; exact d_MS_find_6)) hl.1 d_MS_find_6 ⟨Nat.le_of_ble_eq_true rfl, Nat.le_of_ble_eq_true rfl⟩ (Or.inl ⟨_, _, List.mem_cons_self⟩) (mk_ws tw_437 hts) (fun a9 U9 h9 => Ts_warm hts _ tw_31 a9 U9 h9) ⟨Nat.le_of_ble_eq_true rfl, Nat.le_of_ble_eq_true rfl⟩ (fun v w' H locs hq hI => ?_) (fun k x w' H locs hq hI hX => ?_)
        · have hq := hq.pr
          obtain ⟨u, hu⟩ := rV_ret hq.1
          cases hu
          refine W.eq (g2 := F0 m 9 ls [.int u]) rfl ?_
          refine W.widen (k := 6) (n := 40) (by decide) (by decide) ?_
          refine mw_iret K hI hr hlk ?_ d_MS_find_9
          rw [hsp]
          exact hq
        · have hq := hq.pr
          refine WT.widen (k := 6) (n := 40) (by decide) (by decide) ?_
          refine mw_on hI hce hlk hX ?_
          rw [hsp]
          exact hq
      · obtain ⟨ka, ak, rch, wk, f0⟩ := rc_TM (hA.2 _ e2) hk
        obtain ⟨mi, em⟩ : ∃ mi, mi = mm S q.toNatClampNeg := ⟨_, rfl⟩
        rw [← em] at f0
        have hsp := hsp.trans (if_neg (by rw [hk]; decide))
        refine lv_iload_n hx hb d_MS_find_5 rfl (lv_at hl 2 rfl) ?_
        refine mw_call (rest := []) K hSy hP0 hI (c_EM_placeOf_TM l D dA hL hA hW e2 hk k) (mx_invU (y := y_EM_placeOf) hx hown (hts _ tw_432) (hts _ tw_434) (va_Decl.of (hts _ tw_433) (hts _ tw_468)) (by decide) (hts _ tw_467) (hts _ tw_436) (b := (mp q.toNatClampNeg)) (mw_rc K hI f0 rfl) (g := F0 m 6 ls [.int k, .ref (mp q.toNatClampNeg)]) rfl (argsL := [.int k]) (rest := []) np_AN_placeOf rfl (by rw [hb]; exact d_MS_find_6)) hl.1 d_MS_find_6 ⟨Nat.le_of_ble_eq_true rfl, Nat.le_of_ble_eq_true rfl⟩ (Or.inl ⟨_, _, List.mem_cons_self⟩) (mk_ws tw_437 hts) (fun a9 U9 h9 => Ts_warm hts _ tw_31 a9 U9 h9) ⟨Nat.le_of_ble_eq_true rfl, Nat.le_of_ble_eq_true rfl⟩ (fun v w' H locs hq hI => ?_) (fun k x w' H locs hq hI hX => ?_)
        · have hq := hq.pr
          obtain ⟨u, hu⟩ := rV_ret hq.1
          cases hu
          refine W.eq (g2 := F0 m 9 ls [.int u]) rfl ?_
          refine W.widen (k := 6) (n := 40) (by decide) (by decide) ?_
          refine mw_iret K hI hr hlk ?_ d_MS_find_9
          rw [hsp]
          exact hq
        · have hq := hq.pr
          refine WT.widen (k := 6) (n := 40) (by decide) (by decide) ?_
          refine mw_on hI hce hlk hX ?_
          rw [hsp]
          exact hq
      · obtain ⟨om, f0⟩ := rc_RM (hA.2 _ e2) hk
        obtain ⟨mi, em⟩ : ∃ mi, mi = mm S q.toNatClampNeg := ⟨_, rfl⟩
        rw [← em] at f0
        have hsp := hsp.trans (if_pos (by rw [hk]))
        refine lv_iload_n hx hb d_MS_find_5 rfl (lv_at hl 2 rfl) ?_
        refine mw_call (rest := []) K hSy hP0 hI (c_AN_placeOf l D dA _ k) (mx_invU (y := y_AN_placeOf) hx hown (hts _ tw_432) (hts _ tw_434) (va_Decl.of (hts _ tw_433) (hts _ tw_468)) (by decide) (hts _ tw_466) (hts _ tw_433) (b := (mp q.toNatClampNeg)) (mw_rc K hI f0 rfl) (g := F0 m 6 ls [.int k, .ref (mp q.toNatClampNeg)]) rfl (argsL := [.int k]) (rest := []) np_AN_placeOf rfl (by rw [hb]; exact d_MS_find_6)) hl.1 d_MS_find_6 ⟨Nat.le_of_ble_eq_true rfl, Nat.le_of_ble_eq_true rfl⟩ (Or.inl ⟨_, _, List.mem_cons_self⟩) (mk_ws tw_468 hts) (fun a9 U9 h9 => Ts_warm hts _ tw_30 a9 U9 h9) ⟨Nat.le_of_ble_eq_true rfl, Nat.le_of_ble_eq_true rfl⟩ (fun v w' H locs hq hI => ?_) (fun k x w' H locs hq hI hX => ?_)
        · obtain ⟨hq5, hq6⟩ := hq
          cases hq5
          rw [hq6] at hI
          refine W.eq (g2 := F0 m 9 ls [.int ((-22))]) rfl ?_
          refine W.widen (k := 6) (n := 40) (by decide) (by decide) ?_
          refine mw_iret K hI hr hlk ?_ d_MS_find_9
          rw [hsp]
          exact ⟨rfl, own, hR0, Fr.rf w own⟩
        · exact absurd hq.1 (by simp)
    · cases hq4
  · obtain ⟨hq1, ⟨-, hq4⟩ | ⟨hq2, hq4⟩⟩ := hq
    · cases hq4
    · cases hq4
      rw [hq1] at hI
      have hsp : sp_FIND S q k = _ := if_neg hq2
      refine WT.widen (k := 6) (n := 40) (by decide) (by decide) ?_
      refine mw_on hI hce hlk hX ?_
      rw [hsp]
      exact ⟨rfl, own, hR0, Fr.rf w own⟩
set_option maxRecDepth 100000 in
set_option maxHeartbeats 4000000 in
theorem c_MS_update (l : Launch) (D : va_G) (dA : Nat → ClassId) (hL : mw_L l) {w : mw_W} {own : as_W} {x t : Nat} {S : as_S} (hR : RepC dA w own x S) (hW : wf_S t S) (ht : t ≤ 512) (q k v f : Int32) : CT l D dA y_MS_update (Cond.code y_MS_update b_MS_update 5 (some .int) :: Ts) 8 200 6 40 [.ref x, .int q, .int k, .int v, .int f] w (PR dA w own x (sp_UPD S q k v f)) := by
  refine mw_meth (by decide) mk_tb (Nat.le_of_ble_eq_true rfl) ?_
  intro p e s m below meth c K hr hlk hce hnm hP0 hSy ls hl
  have hl : lv_has ls 5 [(0, .ref x), (1, .int q), (2, .int k), (3, .int v), (4, .int f)] := hl
  obtain ⟨hx, hb, hml, hown, hts, hK, hTb⟩ := id K
  have hI := mw_I.start hP0
  have hR0 := hR
  obtain ⟨bd, xd, ba, xa, ra, mp, gd, ga, hA⟩ := hR
  obtain ⟨⟨o1, o2, o3, o4, fx, fd, fa, fr, hdk, har⟩, hM⟩ := id hA
  refine lv_aload_n hx hb d_MS_update_0 rfl (lv_at hl 0 rfl) ?_
  refine lv_iload_n hx hb d_MS_update_1 rfl (lv_at hl 1 rfl) ?_
  refine mw_call (rest := []) K hSy hP0 hI (c_MS_mapOf l D dA hL hA hW.1 q) (mx_invV hx hown (hts _ tw_89) (hts _ tw_91) (hts _ tw_0) (hts _ tw_92) (by decide) (b := x) (mw_rc K hI fx rfl) (g := F0 m 2 ls [.int q, .ref x]) rfl (argsL := [.int q]) (rest := []) np_MS_mapOf rfl (by rw [hb]; exact d_MS_update_2)) hl.1 d_MS_update_2 ⟨Nat.le_of_ble_eq_true rfl, Nat.le_of_ble_eq_true rfl⟩ (Or.inl ⟨_, _, List.mem_cons_self⟩) (mk_ws tw_92 hts) (fun a9 U9 h9 => Ts_warm hts _ tw_21 a9 U9 h9) ⟨Nat.le_of_ble_eq_true rfl, Nat.le_of_ble_eq_true rfl⟩ (fun v w' H locs hq hI => ?_) (fun k x w' H locs hq hI hX => ?_)
  · obtain ⟨hq1, ⟨hin, hq4⟩ | ⟨-, hq4⟩⟩ := hq
    · cases hq4
      rw [hq1] at hI
      obtain ⟨e1, e2⟩ := inM_nI hin hW.1
      have hwf := hW.2.2.2.2.2 _ e2
      have hsp : sp_UPD S q k v f = _ := if_pos hin
      refine W.eq (g2 := F0 m 5 ls [.ref (mp q.toNatClampNeg)]) rfl ?_
      have hkk : kd (mm S q.toNatClampNeg) = 0 ∨ kd (mm S q.toNatClampNeg) = 1 ∨ kd (mm S q.toNatClampNeg) = 2 := by
        obtain ⟨-, ⟨k0, -⟩ | ⟨k0, -⟩ | ⟨k0, -⟩⟩ := hwf
        · exact Or.inl k0
        · exact Or.inr (Or.inl k0)
        · exact Or.inr (Or.inr k0)
      rcases hkk with hk | hk | hk
      · have f0 := rc_AM (hA.2 _ e2) hk (wf_E hwf (Or.inl hk)).2.2.2.2.2.2.2
        obtain ⟨mi, em⟩ : ∃ mi, mi = mm S q.toNatClampNeg := ⟨_, rfl⟩
        rw [← em] at f0
        have hsp := hsp.trans (if_neg (by rw [hk]; decide))
        refine lv_iload_n hx hb d_MS_update_5 rfl (lv_at hl 2 rfl) ?_
        refine lv_iload_n hx hb d_MS_update_6 rfl (lv_at hl 3 rfl) ?_
        refine lv_iload hx hb d_MS_update_7 (lv_at hl 4 rfl) ?_
        refine mw_call (rest := []) K hSy hP0 hI (c_EM_write_AM l D dA hL hA hW e2 hk k v f) (mx_invU (y := y_EM_write) hx hown (hts _ tw_476) (hts _ tw_478) (va_Decl.of (hts _ tw_477) (hts _ tw_506)) (by decide) (hts _ tw_479) (hts _ tw_480) (b := (mp q.toNatClampNeg)) (mw_rc K hI f0 rfl) (g := F0 m 9 ls [.int f, .int v, .int k, .ref (mp q.toNatClampNeg)]) rfl (argsL := [.int k, .int v, .int f]) (rest := []) np_AN_write rfl (by rw [hb]; exact d_MS_update_9)) hl.1 d_MS_update_9 ⟨Nat.le_of_ble_eq_true rfl, Nat.le_of_ble_eq_true rfl⟩ (Or.inl ⟨_, _, List.mem_cons_self⟩) (mk_ws tw_481 hts) (fun a9 U9 h9 => Ts_warm hts _ tw_31 a9 U9 h9) ⟨Nat.le_of_ble_eq_true rfl, Nat.le_of_ble_eq_true rfl⟩ (fun v w' H locs hq hI => ?_) (fun k x w' H locs hq hI hX => ?_)
        · have hq := hq.pr
          obtain ⟨u, hu⟩ := rV_ret hq.1
          cases hu
          refine W.eq (g2 := F0 m 12 ls [.int u]) rfl ?_
          refine W.widen (k := 6) (n := 40) (by decide) (by decide) ?_
          refine mw_iret K hI hr hlk ?_ d_MS_update_12
          rw [hsp]
          exact hq
        · have hq := hq.pr
          refine WT.widen (k := 6) (n := 40) (by decide) (by decide) ?_
          refine mw_on hI hce hlk hX ?_
          rw [hsp]
          exact hq
      · obtain ⟨ka, ak, rch, wk, f0⟩ := rc_TM (hA.2 _ e2) hk
        obtain ⟨mi, em⟩ : ∃ mi, mi = mm S q.toNatClampNeg := ⟨_, rfl⟩
        rw [← em] at f0
        have hsp := hsp.trans (if_neg (by rw [hk]; decide))
        refine lv_iload_n hx hb d_MS_update_5 rfl (lv_at hl 2 rfl) ?_
        refine lv_iload_n hx hb d_MS_update_6 rfl (lv_at hl 3 rfl) ?_
        refine lv_iload hx hb d_MS_update_7 (lv_at hl 4 rfl) ?_
        refine mw_call (rest := []) K hSy hP0 hI (c_EM_write_TM l D dA hL hA hW e2 hk k v f) (mx_invU (y := y_EM_write) hx hown (hts _ tw_476) (hts _ tw_478) (va_Decl.of (hts _ tw_477) (hts _ tw_506)) (by decide) (hts _ tw_505) (hts _ tw_480) (b := (mp q.toNatClampNeg)) (mw_rc K hI f0 rfl) (g := F0 m 9 ls [.int f, .int v, .int k, .ref (mp q.toNatClampNeg)]) rfl (argsL := [.int k, .int v, .int f]) (rest := []) np_AN_write rfl (by rw [hb]; exact d_MS_update_9)) hl.1 d_MS_update_9 ⟨Nat.le_of_ble_eq_true rfl, Nat.le_of_ble_eq_true rfl⟩ (Or.inl ⟨_, _, List.mem_cons_self⟩) (mk_ws tw_481 hts) (fun a9 U9 h9 => Ts_warm hts _ tw_31 a9 U9 h9) ⟨Nat.le_of_ble_eq_true rfl, Nat.le_of_ble_eq_true rfl⟩ (fun v w' H locs hq hI => ?_) (fun k x w' H locs hq hI hX => ?_)
        · have hq := hq.pr
          obtain ⟨u, hu⟩ := rV_ret hq.1
          cases hu
          refine W.eq (g2 := F0 m 12 ls [.int u]) rfl ?_
          refine W.widen (k := 6) (n := 40) (by decide) (by decide) ?_
          refine mw_iret K hI hr hlk ?_ d_MS_update_12
          rw [hsp]
          exact hq
        · have hq := hq.pr
          refine WT.widen (k := 6) (n := 40) (by decide) (by decide) ?_
          refine mw_on hI hce hlk hX ?_
          rw [hsp]
          exact hq
      · obtain ⟨om, f0⟩ := rc_RM (hA.2 _ e2) hk
        obtain ⟨mi, em⟩ : ∃ mi, mi = mm S q.toNatClampNeg := ⟨_, rfl⟩
        rw [← em] at f0
        have hsp := hsp.trans (if_pos (by rw [hk]))
        refine lv_iload_n hx hb d_MS_update_5 rfl (lv_at hl 2 rfl) ?_
        refine lv_iload_n hx hb d_MS_update_6 rfl (lv_at hl 3 rfl) ?_
        refine lv_iload hx hb d_MS_update_7 (lv_at hl 4 rfl) ?_
        refine mw_call (rest := []) K hSy hP0 hI (c_AN_write l D dA _ k v f) (mx_invU (y := y_AN_write) hx hown (hts _ tw_476) (hts _ tw_478) (va_Decl.of (hts _ tw_477) (hts _ tw_506)) (by decide) (hts _ tw_504) (hts _ tw_477) (b := (mp q.toNatClampNeg)) (mw_rc K hI f0 rfl) (g := F0 m 9 ls [.int f, .int v, .int k, .ref (mp q.toNatClampNeg)]) rfl (argsL := [.int k, .int v, .int f]) (rest := []) np_AN_write rfl (by rw [hb]; exact d_MS_update_9)) hl.1 d_MS_update_9 ⟨Nat.le_of_ble_eq_true rfl, Nat.le_of_ble_eq_true rfl⟩ (Or.inl ⟨_, _, List.mem_cons_self⟩) (mk_ws tw_506 hts) (fun a9 U9 h9 => Ts_warm hts _ tw_30 a9 U9 h9) ⟨Nat.le_of_ble_eq_true rfl, Nat.le_of_ble_eq_true rfl⟩ (fun v w' H locs hq hI => ?_) (fun k x w' H locs hq hI hX => ?_)
        · obtain ⟨hq5, hq6⟩ := hq
          cases hq5
          rw [hq6] at hI
          refine W.eq (g2 := F0 m 12 ls [.int ((-22))]) rfl ?_
          refine W.widen (k := 6) (n := 40) (by decide) (by decide) ?_
          refine mw_iret K hI hr hlk ?_ d_MS_update_12
          rw [hsp]
          exact ⟨rfl, own, hR0, Fr.rf w own⟩
        · exact absurd hq.1 (by simp)
    · cases hq4
  · obtain ⟨hq1, ⟨-, hq4⟩ | ⟨hq2, hq4⟩⟩ := hq
    · cases hq4
    · cases hq4
      rw [hq1] at hI
      have hsp : sp_UPD S q k v f = _ := if_neg hq2
      refine WT.widen (k := 6) (n := 40) (by decide) (by decide) ?_
      refine mw_on hI hce hlk hX ?_
      rw [hsp]
      exact ⟨rfl, own, hR0, Fr.rf w own⟩
set_option maxRecDepth 100000 in
set_option maxHeartbeats 4000000 in
theorem c_MS_remove (l : Launch) (D : va_G) (dA : Nat → ClassId) (hL : mw_L l) {w : mw_W} {own : as_W} {x t : Nat} {S : as_S} (hR : RepC dA w own x S) (hW : wf_S t S) (ht : t ≤ 512) (q k : Int32) : CT l D dA y_MS_remove (Cond.code y_MS_remove b_MS_remove 3 (some .int) :: Ts) 8 200 6 40 [.ref x, .int q, .int k] w (PR dA w own x (sp_REM S q k)) := by
  refine mw_meth (by decide) mk_tb (Nat.le_of_ble_eq_true rfl) ?_
  intro p e s m below meth c K hr hlk hce hnm hP0 hSy ls hl
  have hl : lv_has ls 3 [(0, .ref x), (1, .int q), (2, .int k)] := hl
  obtain ⟨hx, hb, hml, hown, hts, hK, hTb⟩ := id K
  have hI := mw_I.start hP0
  have hR0 := hR
  obtain ⟨bd, xd, ba, xa, ra, mp, gd, ga, hA⟩ := hR
  obtain ⟨⟨o1, o2, o3, o4, fx, fd, fa, fr, hdk, har⟩, hM⟩ := id hA
  refine lv_aload_n hx hb d_MS_remove_0 rfl (lv_at hl 0 rfl) ?_
  refine lv_iload_n hx hb d_MS_remove_1 rfl (lv_at hl 1 rfl) ?_
  refine mw_call (rest := []) K hSy hP0 hI (c_MS_mapOf l D dA hL hA hW.1 q) (mx_invV hx hown (hts _ tw_89) (hts _ tw_91) (hts _ tw_0) (hts _ tw_92) (by decide) (b := x) (mw_rc K hI fx rfl) (g := F0 m 2 ls [.int q, .ref x]) rfl (argsL := [.int q]) (rest := []) np_MS_mapOf rfl (by rw [hb]; exact d_MS_remove_2)) hl.1 d_MS_remove_2 ⟨Nat.le_of_ble_eq_true rfl, Nat.le_of_ble_eq_true rfl⟩ (Or.inl ⟨_, _, List.mem_cons_self⟩) (mk_ws tw_92 hts) (fun a9 U9 h9 => Ts_warm hts _ tw_21 a9 U9 h9) ⟨Nat.le_of_ble_eq_true rfl, Nat.le_of_ble_eq_true rfl⟩ (fun v w' H locs hq hI => ?_) (fun k x w' H locs hq hI hX => ?_)
  · obtain ⟨hq1, ⟨hin, hq4⟩ | ⟨-, hq4⟩⟩ := hq
    · cases hq4
      rw [hq1] at hI
      obtain ⟨e1, e2⟩ := inM_nI hin hW.1
      have hwf := hW.2.2.2.2.2 _ e2
      have hsp : sp_REM S q k = _ := if_pos hin
      refine W.eq (g2 := F0 m 5 ls [.ref (mp q.toNatClampNeg)]) rfl ?_
      have hkk : kd (mm S q.toNatClampNeg) = 0 ∨ kd (mm S q.toNatClampNeg) = 1 ∨ kd (mm S q.toNatClampNeg) = 2 := by
        obtain ⟨-, ⟨k0, -⟩ | ⟨k0, -⟩ | ⟨k0, -⟩⟩ := hwf
        · exact Or.inl k0
        · exact Or.inr (Or.inl k0)
        · exact Or.inr (Or.inr k0)
      rcases hkk with hk | hk | hk
      · have f0 := rc_AM (hA.2 _ e2) hk (wf_E hwf (Or.inl hk)).2.2.2.2.2.2.2
        obtain ⟨mi, em⟩ : ∃ mi, mi = mm S q.toNatClampNeg := ⟨_, rfl⟩
        rw [← em] at f0
        have hsp := hsp.trans (if_neg (by rw [hk]; decide))
        refine lv_iload_n hx hb d_MS_remove_5 rfl (lv_at hl 2 rfl) ?_
        refine mw_call (rest := []) K hSy hP0 hI (c_AN_free l D dA _ k) (mx_invU (y := y_AN_free) hx hown (hts _ tw_514) (hts _ tw_516) (va_Decl.of (hts _ tw_515) (hts _ tw_524)) (by decide) (hts _ tw_517) (hts _ tw_515) (b := (mp q.toNatClampNeg)) (mw_rc K hI f0 rfl) (g := F0 m 6 ls [.int k, .ref (mp q.toNatClampNeg)]) rfl (argsL := [.int k]) (rest := []) np_AN_free rfl (by rw [hb]; exact d_MS_remove_6)) hl.1 d_MS_remove_6 ⟨Nat.le_of_ble_eq_true rfl, Nat.le_of_ble_eq_true rfl⟩ (Or.inl ⟨_, _, List.mem_cons_self⟩) (mk_ws tw_524 hts) (fun a9 U9 h9 => Ts_warm hts _ tw_30 a9 U9 h9) ⟨Nat.le_of_ble_eq_true rfl, Nat.le_of_ble_eq_true rfl⟩ (fun v w' H locs hq hI => ?_) (fun k x w' H locs hq hI hX => ?_)
        · obtain ⟨hq5, hq6⟩ := hq
          cases hq5
          rw [hq6] at hI
          refine W.eq (g2 := F0 m 9 ls [.int ((-22))]) rfl ?_
          refine W.widen (k := 6) (n := 40) (by decide) (by decide) ?_
          refine mw_iret K hI hr hlk ?_ d_MS_remove_9
          rw [hsp]
          exact ⟨rfl, own, hR0, Fr.rf w own⟩
        · exact absurd hq.1 (by simp)
      · obtain ⟨ka, ak, rch, wk, f0⟩ := rc_TM (hA.2 _ e2) hk
        obtain ⟨mi, em⟩ : ∃ mi, mi = mm S q.toNatClampNeg := ⟨_, rfl⟩
        rw [← em] at f0
        have hsp := hsp.trans (if_pos (by rw [hk]))
        refine lv_iload_n hx hb d_MS_remove_5 rfl (lv_at hl 2 rfl) ?_
        refine mw_call (rest := []) K hSy hP0 hI (c_TM_free l D dA hL hA hW e2 hk k) (mx_invU (y := y_TM_free) hx hown (hts _ tw_514) (hts _ tw_516) (va_Decl.of (hts _ tw_515) (hts _ tw_524)) (by decide) (hts _ tw_519) (hts _ tw_520) (b := (mp q.toNatClampNeg)) (mw_rc K hI f0 rfl) (g := F0 m 6 ls [.int k, .ref (mp q.toNatClampNeg)]) rfl (argsL := [.int k]) (rest := []) np_AN_free rfl (by rw [hb]; exact d_MS_remove_6)) hl.1 d_MS_remove_6 ⟨Nat.le_of_ble_eq_true rfl, Nat.le_of_ble_eq_true rfl⟩ (Or.inl ⟨_, _, List.mem_cons_self⟩) (mk_ws tw_521 hts) (fun a9 U9 h9 => Ts_warm hts _ tw_33 a9 U9 h9) ⟨Nat.le_of_ble_eq_true rfl, Nat.le_of_ble_eq_true rfl⟩ (fun v w' H locs hq hI => ?_) (fun k x w' H locs hq hI hX => ?_)
        · have hq := hq.pr
          obtain ⟨u, hu⟩ := rV_ret hq.1
          cases hu
          refine W.eq (g2 := F0 m 9 ls [.int u]) rfl ?_
          refine W.widen (k := 6) (n := 40) (by decide) (by decide) ?_
          refine mw_iret K hI hr hlk ?_ d_MS_remove_9
          rw [hsp]
          exact hq
        · have hq := hq.pr
          refine WT.widen (k := 6) (n := 40) (by decide) (by decide) ?_
          refine mw_on hI hce hlk hX ?_
          rw [hsp]
          exact hq
      · obtain ⟨om, f0⟩ := rc_RM (hA.2 _ e2) hk
        obtain ⟨mi, em⟩ : ∃ mi, mi = mm S q.toNatClampNeg := ⟨_, rfl⟩
        rw [← em] at f0
        have hsp := hsp.trans (if_neg (by rw [hk]; decide))
        refine lv_iload_n hx hb d_MS_remove_5 rfl (lv_at hl 2 rfl) ?_
        refine mw_call (rest := []) K hSy hP0 hI (c_AN_free l D dA _ k) (mx_invU (y := y_AN_free) hx hown (hts _ tw_514) (hts _ tw_516) (va_Decl.of (hts _ tw_515) (hts _ tw_524)) (by decide) (hts _ tw_518) (hts _ tw_515) (b := (mp q.toNatClampNeg)) (mw_rc K hI f0 rfl) (g := F0 m 6 ls [.int k, .ref (mp q.toNatClampNeg)]) rfl (argsL := [.int k]) (rest := []) np_AN_free rfl (by rw [hb]; exact d_MS_remove_6)) hl.1 d_MS_remove_6 ⟨Nat.le_of_ble_eq_true rfl, Nat.le_of_ble_eq_true rfl⟩ (Or.inl ⟨_, _, List.mem_cons_self⟩) (mk_ws tw_524 hts) (fun a9 U9 h9 => Ts_warm hts _ tw_30 a9 U9 h9) ⟨Nat.le_of_ble_eq_true rfl, Nat.le_of_ble_eq_true rfl⟩ (fun v w' H locs hq hI => ?_) (fun k x w' H locs hq hI hX => ?_)
        · obtain ⟨hq5, hq6⟩ := hq
          cases hq5
          rw [hq6] at hI
          refine W.eq (g2 := F0 m 9 ls [.int ((-22))]) rfl ?_
          refine W.widen (k := 6) (n := 40) (by decide) (by decide) ?_
          refine mw_iret K hI hr hlk ?_ d_MS_remove_9
          rw [hsp]
          exact ⟨rfl, own, hR0, Fr.rf w own⟩
        · exact absurd hq.1 (by simp)
    · cases hq4
  · obtain ⟨hq1, ⟨-, hq4⟩ | ⟨hq2, hq4⟩⟩ := hq
    · cases hq4
    · cases hq4
      rw [hq1] at hI
      have hsp : sp_REM S q k = _ := if_neg hq2
      refine WT.widen (k := 6) (n := 40) (by decide) (by decide) ?_
      refine mw_on hI hce hlk hX ?_
      rw [hsp]
      exact ⟨rfl, own, hR0, Fr.rf w own⟩
set_option maxRecDepth 100000 in
set_option maxHeartbeats 4000000 in
theorem c_MS_put (l : Launch) (D : va_G) (dA : Nat → ClassId) (hL : mw_L l) {w : mw_W} {own : as_W} {x t : Nat} {S : as_S} (hR : RepC dA w own x S) (hW : wf_S t S) (ht : t ≤ 512) (q a z : Int32) : CT l D dA y_MS_put (Cond.code y_MS_put b_MS_put 4 (some .int) :: Ts) 8 200 6 40 [.ref x, .int q, .int a, .int z] w (PR dA w own x (sp_PUT S q a z)) := by
  refine mw_meth (by decide) mk_tb (Nat.le_of_ble_eq_true rfl) ?_
  intro p e s m below meth c K hr hlk hce hnm hP0 hSy ls hl
  have hl : lv_has ls 4 [(0, .ref x), (1, .int q), (2, .int a), (3, .int z)] := hl
  obtain ⟨hx, hb, hml, hown, hts, hK, hTb⟩ := id K
  have hI := mw_I.start hP0
  have hR0 := hR
  obtain ⟨bd, xd, ba, xa, ra, mp, gd, ga, hA⟩ := hR
  obtain ⟨⟨o1, o2, o3, o4, fx, fd, fa, fr, hdk, har⟩, hM⟩ := id hA
  refine lv_aload_n hx hb d_MS_put_0 rfl (lv_at hl 0 rfl) ?_
  refine lv_iload_n hx hb d_MS_put_1 rfl (lv_at hl 1 rfl) ?_
  refine mw_call (rest := []) K hSy hP0 hI (c_MS_mapOf l D dA hL hA hW.1 q) (mx_invV hx hown (hts _ tw_89) (hts _ tw_91) (hts _ tw_0) (hts _ tw_92) (by decide) (b := x) (mw_rc K hI fx rfl) (g := F0 m 2 ls [.int q, .ref x]) rfl (argsL := [.int q]) (rest := []) np_MS_mapOf rfl (by rw [hb]; exact d_MS_put_2)) hl.1 d_MS_put_2 ⟨Nat.le_of_ble_eq_true rfl, Nat.le_of_ble_eq_true rfl⟩ (Or.inl ⟨_, _, List.mem_cons_self⟩) (mk_ws tw_92 hts) (fun a9 U9 h9 => Ts_warm hts _ tw_21 a9 U9 h9) ⟨Nat.le_of_ble_eq_true rfl, Nat.le_of_ble_eq_true rfl⟩ (fun v w' H locs hq hI => ?_) (fun k x w' H locs hq hI hX => ?_)
  · obtain ⟨hq1, ⟨hin, hq4⟩ | ⟨-, hq4⟩⟩ := hq
    · cases hq4
      rw [hq1] at hI
      obtain ⟨e1, e2⟩ := inM_nI hin hW.1
      have hwf := hW.2.2.2.2.2 _ e2
      have hsp : sp_PUT S q a z = _ := if_pos hin
      refine W.eq (g2 := F0 m 5 ls [.ref (mp q.toNatClampNeg)]) rfl ?_
      have hkk : kd (mm S q.toNatClampNeg) = 0 ∨ kd (mm S q.toNatClampNeg) = 1 ∨ kd (mm S q.toNatClampNeg) = 2 := by
        obtain ⟨-, ⟨k0, -⟩ | ⟨k0, -⟩ | ⟨k0, -⟩⟩ := hwf
        · exact Or.inl k0
        · exact Or.inr (Or.inl k0)
        · exact Or.inr (Or.inr k0)
      rcases hkk with hk | hk | hk
      · have f0 := rc_AM (hA.2 _ e2) hk (wf_E hwf (Or.inl hk)).2.2.2.2.2.2.2
        obtain ⟨mi, em⟩ : ∃ mi, mi = mm S q.toNatClampNeg := ⟨_, rfl⟩
        rw [← em] at f0
        have hsp := hsp.trans (if_neg (by rw [hk]; decide))
        refine lv_iload_n hx hb d_MS_put_5 rfl (lv_at hl 2 rfl) ?_
        refine lv_iload_n hx hb d_MS_put_6 rfl (lv_at hl 3 rfl) ?_
        refine mw_call (rest := []) K hSy hP0 hI (c_AN_putRecord l D dA _ a z) (mx_invU (y := y_AN_putRecord) hx hown (hts _ tw_532) (hts _ tw_534) (va_Decl.of (hts _ tw_533) (hts _ tw_558)) (by decide) (hts _ tw_535) (hts _ tw_533) (b := (mp q.toNatClampNeg)) (mw_rc K hI f0 rfl) (g := F0 m 7 ls [.int z, .int a, .ref (mp q.toNatClampNeg)]) rfl (argsL := [.int a, .int z]) (rest := []) np_AN_putRecord rfl (by rw [hb]; exact d_MS_put_7)) hl.1 d_MS_put_7 ⟨Nat.le_of_ble_eq_true rfl, Nat.le_of_ble_eq_true rfl⟩ (Or.inl ⟨_, _, List.mem_cons_self⟩) (mk_ws tw_558 hts) (fun a9 U9 h9 => Ts_warm hts _ tw_30 a9 U9 h9) ⟨Nat.le_of_ble_eq_true rfl, Nat.le_of_ble_eq_true rfl⟩ (fun v w' H locs hq hI => ?_) (fun k x w' H locs hq hI hX => ?_)
        · obtain ⟨hq5, hq6⟩ := hq
          cases hq5
          rw [hq6] at hI
          refine W.eq (g2 := F0 m 10 ls [.int ((-22))]) rfl ?_
          refine W.widen (k := 6) (n := 40) (by decide) (by decide) ?_
          refine mw_iret K hI hr hlk ?_ d_MS_put_10
          rw [hsp]
          exact ⟨rfl, own, hR0, Fr.rf w own⟩
        · exact absurd hq.1 (by simp)
      · obtain ⟨ka, ak, rch, wk, f0⟩ := rc_TM (hA.2 _ e2) hk
        obtain ⟨mi, em⟩ : ∃ mi, mi = mm S q.toNatClampNeg := ⟨_, rfl⟩
        rw [← em] at f0
        have hsp := hsp.trans (if_neg (by rw [hk]; decide))
        refine lv_iload_n hx hb d_MS_put_5 rfl (lv_at hl 2 rfl) ?_
        refine lv_iload_n hx hb d_MS_put_6 rfl (lv_at hl 3 rfl) ?_
        refine mw_call (rest := []) K hSy hP0 hI (c_AN_putRecord l D dA _ a z) (mx_invU (y := y_AN_putRecord) hx hown (hts _ tw_532) (hts _ tw_534) (va_Decl.of (hts _ tw_533) (hts _ tw_558)) (by decide) (hts _ tw_557) (hts _ tw_533) (b := (mp q.toNatClampNeg)) (mw_rc K hI f0 rfl) (g := F0 m 7 ls [.int z, .int a, .ref (mp q.toNatClampNeg)]) rfl (argsL := [.int a, .int z]) (rest := []) np_AN_putRecord rfl (by rw [hb]; exact d_MS_put_7)) hl.1 d_MS_put_7 ⟨Nat.le_of_ble_eq_true rfl, Nat.le_of_ble_eq_true rfl⟩ (Or.inl ⟨_, _, List.mem_cons_self⟩) (mk_ws tw_558 hts) (fun a9 U9 h9 => Ts_warm hts _ tw_30 a9 U9 h9) ⟨Nat.le_of_ble_eq_true rfl, Nat.le_of_ble_eq_true rfl⟩ (fun v w' H locs hq hI => ?_) (fun k x w' H locs hq hI hX => ?_)
        · obtain ⟨hq5, hq6⟩ := hq
          cases hq5
          rw [hq6] at hI
          refine W.eq (g2 := F0 m 10 ls [.int ((-22))]) rfl ?_
          refine W.widen (k := 6) (n := 40) (by decide) (by decide) ?_
          refine mw_iret K hI hr hlk ?_ d_MS_put_10
          rw [hsp]
          exact ⟨rfl, own, hR0, Fr.rf w own⟩
        · exact absurd hq.1 (by simp)
      · obtain ⟨om, f0⟩ := rc_RM (hA.2 _ e2) hk
        obtain ⟨mi, em⟩ : ∃ mi, mi = mm S q.toNatClampNeg := ⟨_, rfl⟩
        rw [← em] at f0
        have hsp := hsp.trans (if_pos (by rw [hk]))
        refine lv_iload_n hx hb d_MS_put_5 rfl (lv_at hl 2 rfl) ?_
        refine lv_iload_n hx hb d_MS_put_6 rfl (lv_at hl 3 rfl) ?_
        refine mw_call (rest := []) K hSy hP0 hI (c_RM_putRecord l D dA hL hA hW e2 ht hk a z) (mx_invU (y := y_RM_putRecord) hx hown (hts _ tw_532) (hts _ tw_534) (va_Decl.of (hts _ tw_533) (hts _ tw_558)) (by decide) (hts _ tw_536) (hts _ tw_537) (b := (mp q.toNatClampNeg)) (mw_rc K hI f0 rfl) (g := F0 m 7 ls [.int z, .int a, .ref (mp q.toNatClampNeg)]) rfl (argsL := [.int a, .int z]) (rest := []) np_AN_putRecord rfl (by rw [hb]; exact d_MS_put_7)) hl.1 d_MS_put_7 ⟨Nat.le_of_ble_eq_true rfl, Nat.le_of_ble_eq_true rfl⟩ (Or.inl ⟨_, _, List.mem_cons_self⟩) (mk_ws tw_538 hts) (fun a9 U9 h9 => Ts_warm hts _ tw_34 a9 U9 h9) ⟨Nat.le_of_ble_eq_true rfl, Nat.le_of_ble_eq_true rfl⟩ (fun v w' H locs hq hI => ?_) (fun k x w' H locs hq hI hX => ?_)
        · have hq := hq.pr
          obtain ⟨u, hu⟩ := rV_ret hq.1
          cases hu
          refine W.eq (g2 := F0 m 10 ls [.int u]) rfl ?_
          refine W.widen (k := 6) (n := 40) (by decide) (by decide) ?_
          refine mw_iret K hI hr hlk ?_ d_MS_put_10
          rw [hsp]
          exact hq
        · have hq := hq.pr
          refine WT.widen (k := 6) (n := 40) (by decide) (by decide) ?_
          refine mw_on hI hce hlk hX ?_
          rw [hsp]
          exact hq
    · cases hq4
  · obtain ⟨hq1, ⟨-, hq4⟩ | ⟨hq2, hq4⟩⟩ := hq
    · cases hq4
    · cases hq4
      rw [hq1] at hI
      have hsp : sp_PUT S q a z = _ := if_neg hq2
      refine WT.widen (k := 6) (n := 40) (by decide) (by decide) ?_
      refine mw_on hI hce hlk hX ?_
      rw [hsp]
      exact ⟨rfl, own, hR0, Fr.rf w own⟩
set_option maxRecDepth 100000 in
set_option maxHeartbeats 4000000 in
theorem c_MS_take (l : Launch) (D : va_G) (dA : Nat → ClassId) (hL : mw_L l) {w : mw_W} {own : as_W} {x t : Nat} {S : as_S} (hR : RepC dA w own x S) (hW : wf_S t S) (ht : t ≤ 512) (q a : Int32) : CT l D dA y_MS_take (Cond.code y_MS_take b_MS_take 3 (some .int) :: Ts) 8 200 6 40 [.ref x, .int q, .int a] w (PR dA w own x (sp_TAKE S q a)) := by
  refine mw_meth (by decide) mk_tb (Nat.le_of_ble_eq_true rfl) ?_
  intro p e s m below meth c K hr hlk hce hnm hP0 hSy ls hl
  have hl : lv_has ls 3 [(0, .ref x), (1, .int q), (2, .int a)] := hl
  obtain ⟨hx, hb, hml, hown, hts, hK, hTb⟩ := id K
  have hI := mw_I.start hP0
  have hR0 := hR
  obtain ⟨bd, xd, ba, xa, ra, mp, gd, ga, hA⟩ := hR
  obtain ⟨⟨o1, o2, o3, o4, fx, fd, fa, fr, hdk, har⟩, hM⟩ := id hA
  refine lv_aload_n hx hb d_MS_take_0 rfl (lv_at hl 0 rfl) ?_
  refine lv_iload_n hx hb d_MS_take_1 rfl (lv_at hl 1 rfl) ?_
  refine mw_call (rest := []) K hSy hP0 hI (c_MS_mapOf l D dA hL hA hW.1 q) (mx_invV hx hown (hts _ tw_89) (hts _ tw_91) (hts _ tw_0) (hts _ tw_92) (by decide) (b := x) (mw_rc K hI fx rfl) (g := F0 m 2 ls [.int q, .ref x]) rfl (argsL := [.int q]) (rest := []) np_MS_mapOf rfl (by rw [hb]; exact d_MS_take_2)) hl.1 d_MS_take_2 ⟨Nat.le_of_ble_eq_true rfl, Nat.le_of_ble_eq_true rfl⟩ (Or.inl ⟨_, _, List.mem_cons_self⟩) (mk_ws tw_92 hts) (fun a9 U9 h9 => Ts_warm hts _ tw_21 a9 U9 h9) ⟨Nat.le_of_ble_eq_true rfl, Nat.le_of_ble_eq_true rfl⟩ (fun v w' H locs hq hI => ?_) (fun k x w' H locs hq hI hX => ?_)
  · obtain ⟨hq1, ⟨hin, hq4⟩ | ⟨-, hq4⟩⟩ := hq
    · cases hq4
      rw [hq1] at hI
      obtain ⟨e1, e2⟩ := inM_nI hin hW.1
      have hwf := hW.2.2.2.2.2 _ e2
      have hsp : sp_TAKE S q a = _ := if_pos hin
      refine W.eq (g2 := F0 m 5 ls [.ref (mp q.toNatClampNeg)]) rfl ?_
      have hkk : kd (mm S q.toNatClampNeg) = 0 ∨ kd (mm S q.toNatClampNeg) = 1 ∨ kd (mm S q.toNatClampNeg) = 2 := by
        obtain ⟨-, ⟨k0, -⟩ | ⟨k0, -⟩ | ⟨k0, -⟩⟩ := hwf
        · exact Or.inl k0
        · exact Or.inr (Or.inl k0)
        · exact Or.inr (Or.inr k0)
      rcases hkk with hk | hk | hk
      · have f0 := rc_AM (hA.2 _ e2) hk (wf_E hwf (Or.inl hk)).2.2.2.2.2.2.2
        obtain ⟨mi, em⟩ : ∃ mi, mi = mm S q.toNatClampNeg := ⟨_, rfl⟩
        rw [← em] at f0
        have hsp := hsp.trans (if_neg (by rw [hk]; decide))
        refine lv_iload_n hx hb d_MS_take_5 rfl (lv_at hl 2 rfl) ?_
        refine mw_call (rest := []) K hSy hP0 hI (c_AN_takeRecord l D dA _ a) (mx_invU (y := y_AN_takeRecord) hx hown (hts _ tw_566) (hts _ tw_568) (va_Decl.of (hts _ tw_567) (hts _ tw_575)) (by decide) (hts _ tw_569) (hts _ tw_567) (b := (mp q.toNatClampNeg)) (mw_rc K hI f0 rfl) (g := F0 m 6 ls [.int a, .ref (mp q.toNatClampNeg)]) rfl (argsL := [.int a]) (rest := []) np_AN_takeRecord rfl (by rw [hb]; exact d_MS_take_6)) hl.1 d_MS_take_6 ⟨Nat.le_of_ble_eq_true rfl, Nat.le_of_ble_eq_true rfl⟩ (Or.inl ⟨_, _, List.mem_cons_self⟩) (mk_ws tw_575 hts) (fun a9 U9 h9 => Ts_warm hts _ tw_30 a9 U9 h9) ⟨Nat.le_of_ble_eq_true rfl, Nat.le_of_ble_eq_true rfl⟩ (fun v w' H locs hq hI => ?_) (fun k x w' H locs hq hI hX => ?_)
        · obtain ⟨hq5, hq6⟩ := hq
          cases hq5
          rw [hq6] at hI
          refine W.eq (g2 := F0 m 9 ls [.int ((-22))]) rfl ?_
          refine W.widen (k := 6) (n := 40) (by decide) (by decide) ?_
          refine mw_iret K hI hr hlk ?_ d_MS_take_9
          rw [hsp]
          exact ⟨rfl, own, hR0, Fr.rf w own⟩
        · exact absurd hq.1 (by simp)
      · obtain ⟨ka, ak, rch, wk, f0⟩ := rc_TM (hA.2 _ e2) hk
        obtain ⟨mi, em⟩ : ∃ mi, mi = mm S q.toNatClampNeg := ⟨_, rfl⟩
        rw [← em] at f0
        have hsp := hsp.trans (if_neg (by rw [hk]; decide))
        refine lv_iload_n hx hb d_MS_take_5 rfl (lv_at hl 2 rfl) ?_
        refine mw_call (rest := []) K hSy hP0 hI (c_AN_takeRecord l D dA _ a) (mx_invU (y := y_AN_takeRecord) hx hown (hts _ tw_566) (hts _ tw_568) (va_Decl.of (hts _ tw_567) (hts _ tw_575)) (by decide) (hts _ tw_574) (hts _ tw_567) (b := (mp q.toNatClampNeg)) (mw_rc K hI f0 rfl) (g := F0 m 6 ls [.int a, .ref (mp q.toNatClampNeg)]) rfl (argsL := [.int a]) (rest := []) np_AN_takeRecord rfl (by rw [hb]; exact d_MS_take_6)) hl.1 d_MS_take_6 ⟨Nat.le_of_ble_eq_true rfl, Nat.le_of_ble_eq_true rfl⟩ (Or.inl ⟨_, _, List.mem_cons_self⟩) (mk_ws tw_575 hts) (fun a9 U9 h9 => Ts_warm hts _ tw_30 a9 U9 h9) ⟨Nat.le_of_ble_eq_true rfl, Nat.le_of_ble_eq_true rfl⟩ (fun v w' H locs hq hI => ?_) (fun k x w' H locs hq hI hX => ?_)
        · obtain ⟨hq5, hq6⟩ := hq
          cases hq5
          rw [hq6] at hI
          refine W.eq (g2 := F0 m 9 ls [.int ((-22))]) rfl ?_
          refine W.widen (k := 6) (n := 40) (by decide) (by decide) ?_
          refine mw_iret K hI hr hlk ?_ d_MS_take_9
          rw [hsp]
          exact ⟨rfl, own, hR0, Fr.rf w own⟩
        · exact absurd hq.1 (by simp)
      · obtain ⟨om, f0⟩ := rc_RM (hA.2 _ e2) hk
        obtain ⟨mi, em⟩ : ∃ mi, mi = mm S q.toNatClampNeg := ⟨_, rfl⟩
        rw [← em] at f0
        have hsp := hsp.trans (if_pos (by rw [hk]))
        refine lv_iload_n hx hb d_MS_take_5 rfl (lv_at hl 2 rfl) ?_
        refine mw_call (rest := []) K hSy hP0 hI (c_RM_takeRecord l D dA hL hA hW e2 ht hk a) (mx_invU (y := y_RM_takeRecord) hx hown (hts _ tw_566) (hts _ tw_568) (va_Decl.of (hts _ tw_567) (hts _ tw_575)) (by decide) (hts _ tw_570) (hts _ tw_571) (b := (mp q.toNatClampNeg)) (mw_rc K hI f0 rfl) (g := F0 m 6 ls [.int a, .ref (mp q.toNatClampNeg)]) rfl (argsL := [.int a]) (rest := []) np_AN_takeRecord rfl (by rw [hb]; exact d_MS_take_6)) hl.1 d_MS_take_6 ⟨Nat.le_of_ble_eq_true rfl, Nat.le_of_ble_eq_true rfl⟩ (Or.inl ⟨_, _, List.mem_cons_self⟩) (mk_ws tw_572 hts) (fun a9 U9 h9 => Ts_warm hts _ tw_34 a9 U9 h9) ⟨Nat.le_of_ble_eq_true rfl, Nat.le_of_ble_eq_true rfl⟩ (fun v w' H locs hq hI => ?_) (fun k x w' H locs hq hI hX => ?_)
        · have hq := hq.pr
          obtain ⟨u, hu⟩ := rV_ret hq.1
          cases hu
          refine W.eq (g2 := F0 m 9 ls [.int u]) rfl ?_
          refine W.widen (k := 6) (n := 40) (by decide) (by decide) ?_
          refine mw_iret K hI hr hlk ?_ d_MS_take_9
          rw [hsp]
          exact hq
        · have hq := hq.pr
          refine WT.widen (k := 6) (n := 40) (by decide) (by decide) ?_
          refine mw_on hI hce hlk hX ?_
          rw [hsp]
          exact hq
    · cases hq4
  · obtain ⟨hq1, ⟨-, hq4⟩ | ⟨hq2, hq4⟩⟩ := hq
    · cases hq4
    · cases hq4
      rw [hq1] at hI
      have hsp : sp_TAKE S q a = _ := if_neg hq2
      refine WT.widen (k := 6) (n := 40) (by decide) (by decide) ?_
      refine mw_on hI hce hlk hX ?_
      rw [hsp]
      exact ⟨rfl, own, hR0, Fr.rf w own⟩
set_option maxRecDepth 100000 in
set_option maxHeartbeats 4000000 in
theorem c_MS_next (l : Launch) (D : va_G) (dA : Nat → ClassId) (hL : mw_L l) {w : mw_W} {own : as_W} {x t : Nat} {S : as_S} (hR : RepC dA w own x S) (hW : wf_S t S) (ht : t ≤ 512) (q k to : Int32) : CT l D dA y_MS_next (Cond.code y_MS_next b_MS_next 4 (some .int) :: Ts) 8 200 6 40 [.ref x, .int q, .int k, .int to] w (PR dA w own x (sp_NEXT S q k to)) := by
  refine mw_meth (by decide) mk_tb (Nat.le_of_ble_eq_true rfl) ?_
  intro p e s m below meth c K hr hlk hce hnm hP0 hSy ls hl
  have hl : lv_has ls 4 [(0, .ref x), (1, .int q), (2, .int k), (3, .int to)] := hl
  obtain ⟨hx, hb, hml, hown, hts, hK, hTb⟩ := id K
  have hI := mw_I.start hP0
  have hR0 := hR
  obtain ⟨bd, xd, ba, xa, ra, mp, gd, ga, hA⟩ := hR
  obtain ⟨⟨o1, o2, o3, o4, fx, fd, fa, fr, hdk, har⟩, hM⟩ := id hA
  refine lv_aload_n hx hb d_MS_next_0 rfl (lv_at hl 0 rfl) ?_
  refine lv_iload_n hx hb d_MS_next_1 rfl (lv_at hl 1 rfl) ?_
  refine mw_call (rest := []) K hSy hP0 hI (c_MS_mapOf l D dA hL hA hW.1 q) (mx_invV hx hown (hts _ tw_89) (hts _ tw_91) (hts _ tw_0) (hts _ tw_92) (by decide) (b := x) (mw_rc K hI fx rfl) (g := F0 m 2 ls [.int q, .ref x]) rfl (argsL := [.int q]) (rest := []) np_MS_mapOf rfl (by rw [hb]; exact d_MS_next_2)) hl.1 d_MS_next_2 ⟨Nat.le_of_ble_eq_true rfl, Nat.le_of_ble_eq_true rfl⟩ (Or.inl ⟨_, _, List.mem_cons_self⟩) (mk_ws tw_92 hts) (fun a9 U9 h9 => Ts_warm hts _ tw_21 a9 U9 h9) ⟨Nat.le_of_ble_eq_true rfl, Nat.le_of_ble_eq_true rfl⟩ (fun v w' H locs hq hI => ?_) (fun k x w' H locs hq hI hX => ?_)
  · obtain ⟨hq1, ⟨hin, hq4⟩ | ⟨-, hq4⟩⟩ := hq
    · cases hq4
      rw [hq1] at hI
      obtain ⟨e1, e2⟩ := inM_nI hin hW.1
      have hwf := hW.2.2.2.2.2 _ e2
      have hsp : sp_NEXT S q k to = _ := if_pos hin
      refine W.eq (g2 := F0 m 5 ls [.ref (mp q.toNatClampNeg)]) rfl ?_
      have hkk : kd (mm S q.toNatClampNeg) = 0 ∨ kd (mm S q.toNatClampNeg) = 1 ∨ kd (mm S q.toNatClampNeg) = 2 := by
        obtain ⟨-, ⟨k0, -⟩ | ⟨k0, -⟩ | ⟨k0, -⟩⟩ := hwf
        · exact Or.inl k0
        · exact Or.inr (Or.inl k0)
        · exact Or.inr (Or.inr k0)
      rcases hkk with hk | hk | hk
      · have f0 := rc_AM (hA.2 _ e2) hk (wf_E hwf (Or.inl hk)).2.2.2.2.2.2.2
        obtain ⟨mi, em⟩ : ∃ mi, mi = mm S q.toNatClampNeg := ⟨_, rfl⟩
        rw [← em] at f0
        have hsp := hsp.trans (if_neg (by rw [hk]; decide))
        refine lv_iload_n hx hb d_MS_next_5 rfl (lv_at hl 2 rfl) ?_
        refine lv_iload_n hx hb d_MS_next_6 rfl (lv_at hl 3 rfl) ?_
        refine mw_call (rest := []) K hSy hP0 hI (c_AN_keyAfter l D dA _ k to) (mx_invU (y := y_AN_keyAfter) hx hown (hts _ tw_583) (hts _ tw_585) (va_Decl.of (hts _ tw_584) (hts _ tw_591)) (by decide) (hts _ tw_586) (hts _ tw_584) (b := (mp q.toNatClampNeg)) (mw_rc K hI f0 rfl) (g := F0 m 7 ls [.int to, .int k, .ref (mp q.toNatClampNeg)]) rfl (argsL := [.int k, .int to]) (rest := []) np_AN_keyAfter rfl (by rw [hb]; exact d_MS_next_7)) hl.1 d_MS_next_7 ⟨Nat.le_of_ble_eq_true rfl, Nat.le_of_ble_eq_true rfl⟩ (Or.inl ⟨_, _, List.mem_cons_self⟩) (mk_ws tw_591 hts) (fun a9 U9 h9 => Ts_warm hts _ tw_30 a9 U9 h9) ⟨Nat.le_of_ble_eq_true rfl, Nat.le_of_ble_eq_true rfl⟩ (fun v w' H locs hq hI => ?_) (fun k x w' H locs hq hI hX => ?_)
        · obtain ⟨hq5, hq6⟩ := hq
          cases hq5
          rw [hq6] at hI
          refine W.eq (g2 := F0 m 10 ls [.int ((-22))]) rfl ?_
          refine W.widen (k := 6) (n := 40) (by decide) (by decide) ?_
          refine mw_iret K hI hr hlk ?_ d_MS_next_10
          rw [hsp]
          exact ⟨rfl, own, hR0, Fr.rf w own⟩
        · exact absurd hq.1 (by simp)
      · obtain ⟨ka, ak, rch, wk, f0⟩ := rc_TM (hA.2 _ e2) hk
        obtain ⟨mi, em⟩ : ∃ mi, mi = mm S q.toNatClampNeg := ⟨_, rfl⟩
        rw [← em] at f0
        have hsp := hsp.trans (if_pos (by rw [hk]))
        refine lv_iload_n hx hb d_MS_next_5 rfl (lv_at hl 2 rfl) ?_
        refine lv_iload_n hx hb d_MS_next_6 rfl (lv_at hl 3 rfl) ?_
        refine mw_call (rest := []) K hSy hP0 hI (c_TM_keyAfter l D dA hL hA hW e2 hk k to) (mx_invU (y := y_TM_keyAfter) hx hown (hts _ tw_583) (hts _ tw_585) (va_Decl.of (hts _ tw_584) (hts _ tw_591)) (by decide) (hts _ tw_588) (hts _ tw_589) (b := (mp q.toNatClampNeg)) (mw_rc K hI f0 rfl) (g := F0 m 7 ls [.int to, .int k, .ref (mp q.toNatClampNeg)]) rfl (argsL := [.int k, .int to]) (rest := []) np_AN_keyAfter rfl (by rw [hb]; exact d_MS_next_7)) hl.1 d_MS_next_7 ⟨Nat.le_of_ble_eq_true rfl, Nat.le_of_ble_eq_true rfl⟩ (Or.inl ⟨_, _, List.mem_cons_self⟩) (mk_ws tw_590 hts) (fun a9 U9 h9 => Ts_warm hts _ tw_33 a9 U9 h9) ⟨Nat.le_of_ble_eq_true rfl, Nat.le_of_ble_eq_true rfl⟩ (fun v w' H locs hq hI => ?_) (fun k x w' H locs hq hI hX => ?_)
        · have hq := hq.pr
          obtain ⟨u, hu⟩ := rV_ret hq.1
          cases hu
          refine W.eq (g2 := F0 m 10 ls [.int u]) rfl ?_
          refine W.widen (k := 6) (n := 40) (by decide) (by decide) ?_
          refine mw_iret K hI hr hlk ?_ d_MS_next_10
          rw [hsp]
          exact hq
        · have hq := hq.pr
          refine WT.widen (k := 6) (n := 40) (by decide) (by decide) ?_
          refine mw_on hI hce hlk hX ?_
          rw [hsp]
          exact hq
      · obtain ⟨om, f0⟩ := rc_RM (hA.2 _ e2) hk
        obtain ⟨mi, em⟩ : ∃ mi, mi = mm S q.toNatClampNeg := ⟨_, rfl⟩
        rw [← em] at f0
        have hsp := hsp.trans (if_neg (by rw [hk]; decide))
        refine lv_iload_n hx hb d_MS_next_5 rfl (lv_at hl 2 rfl) ?_
        refine lv_iload_n hx hb d_MS_next_6 rfl (lv_at hl 3 rfl) ?_
        refine mw_call (rest := []) K hSy hP0 hI (c_AN_keyAfter l D dA _ k to) (mx_invU (y := y_AN_keyAfter) hx hown (hts _ tw_583) (hts _ tw_585) (va_Decl.of (hts _ tw_584) (hts _ tw_591)) (by decide) (hts _ tw_587) (hts _ tw_584) (b := (mp q.toNatClampNeg)) (mw_rc K hI f0 rfl) (g := F0 m 7 ls [.int to, .int k, .ref (mp q.toNatClampNeg)]) rfl (argsL := [.int k, .int to]) (rest := []) np_AN_keyAfter rfl (by rw [hb]; exact d_MS_next_7)) hl.1 d_MS_next_7 ⟨Nat.le_of_ble_eq_true rfl, Nat.le_of_ble_eq_true rfl⟩ (Or.inl ⟨_, _, List.mem_cons_self⟩) (mk_ws tw_591 hts) (fun a9 U9 h9 => Ts_warm hts _ tw_30 a9 U9 h9) ⟨Nat.le_of_ble_eq_true rfl, Nat.le_of_ble_eq_true rfl⟩ (fun v w' H locs hq hI => ?_) (fun k x w' H locs hq hI hX => ?_)
        · obtain ⟨hq5, hq6⟩ := hq
          cases hq5
          rw [hq6] at hI
          refine W.eq (g2 := F0 m 10 ls [.int ((-22))]) rfl ?_
          refine W.widen (k := 6) (n := 40) (by decide) (by decide) ?_
          refine mw_iret K hI hr hlk ?_ d_MS_next_10
          rw [hsp]
          exact ⟨rfl, own, hR0, Fr.rf w own⟩
        · exact absurd hq.1 (by simp)
    · cases hq4
  · obtain ⟨hq1, ⟨-, hq4⟩ | ⟨hq2, hq4⟩⟩ := hq
    · cases hq4
    · cases hq4
      rw [hq1] at hI
      have hsp : sp_NEXT S q k to = _ := if_neg hq2
      refine WT.widen (k := 6) (n := 40) (by decide) (by decide) ?_
      refine mw_on hI hce hlk hX ?_
      rw [hsp]
      exact ⟨rfl, own, hR0, Fr.rf w own⟩
