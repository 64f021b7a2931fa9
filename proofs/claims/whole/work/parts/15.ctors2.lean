/-! ### constructors, on -/
theorem d_TM_init_0 : decode b_TM_init 0 = .ok (.aload_n 0, 1) := by decide +kernel
theorem d_TM_init_1 : decode b_TM_init 1 = .ok (.aload_n 1, 1) := by decide +kernel
theorem d_TM_init_2 : decode b_TM_init 2 = .ok (.aload_n 2, 1) := by decide +kernel
theorem d_TM_init_3 : decode b_TM_init 3 = .ok (.iload_n 3, 1) := by decide +kernel
theorem d_TM_init_4 : decode b_TM_init 4 = .ok (.iload 4, 2) := by decide +kernel
theorem d_TM_init_6 : decode b_TM_init 6 = .ok (.iload 5, 2) := by decide +kernel
theorem d_TM_init_8 : decode b_TM_init 8 = .ok (.iload 6, 2) := by decide +kernel
theorem d_TM_init_10 : decode b_TM_init 10 = .ok (.invokespecial 3, 3) := by decide +kernel
theorem d_TM_init_13 : decode b_TM_init 13 = .ok (.aload_n 0, 1) := by decide +kernel
theorem d_TM_init_14 : decode b_TM_init 14 = .ok (.iconst 0, 1) := by decide +kernel
theorem d_TM_init_15 : decode b_TM_init 15 = .ok (.putfield 9, 3) := by decide +kernel
theorem d_TM_init_18 : decode b_TM_init 18 = .ok (.aload_n 0, 1) := by decide +kernel
theorem d_TM_init_19 : decode b_TM_init 19 = .ok (.iconst 0, 1) := by decide +kernel
theorem d_TM_init_20 : decode b_TM_init 20 = .ok (.putfield 15, 3) := by decide +kernel
theorem d_TM_init_23 : decode b_TM_init 23 = .ok (.aload_n 0, 1) := by decide +kernel
theorem d_TM_init_24 : decode b_TM_init 24 = .ok (.iconst 0, 1) := by decide +kernel
theorem d_TM_init_25 : decode b_TM_init 25 = .ok (.putfield 18, 3) := by decide +kernel
theorem d_TM_init_28 : decode b_TM_init 28 = .ok (.aload_n 0, 1) := by decide +kernel
theorem d_TM_init_29 : decode b_TM_init 29 = .ok (.iload 6, 2) := by decide +kernel
theorem d_TM_init_31 : decode b_TM_init 31 = .ok (.anewarray 21, 3) := by decide +kernel
theorem d_TM_init_34 : decode b_TM_init 34 = .ok (.putfield 23, 3) := by decide +kernel
theorem d_TM_init_37 : decode b_TM_init 37 = .ok (.aload_n 0, 1) := by decide +kernel
theorem d_TM_init_38 : decode b_TM_init 38 = .ok (.new 21, 3) := by decide +kernel
theorem d_TM_init_41 : decode b_TM_init 41 = .ok (.dup, 1) := by decide +kernel
theorem d_TM_init_42 : decode b_TM_init 42 = .ok (.iload 4, 2) := by decide +kernel
theorem d_TM_init_44 : decode b_TM_init 44 = .ok (.invokespecial 27, 3) := by decide +kernel
theorem d_TM_init_47 : decode b_TM_init 47 = .ok (.putfield 30, 3) := by decide +kernel
theorem d_TM_init_50 : decode b_TM_init 50 = .ok (.return_, 1) := by decide +kernel
theorem d_RM_init_0 : decode b_RM_init 0 = .ok (.aload_n 0, 1) := by decide +kernel
theorem d_RM_init_1 : decode b_RM_init 1 = .ok (.aload_n 1, 1) := by decide +kernel
theorem d_RM_init_2 : decode b_RM_init 2 = .ok (.aload_n 2, 1) := by decide +kernel
theorem d_RM_init_3 : decode b_RM_init 3 = .ok (.iload_n 3, 1) := by decide +kernel
theorem d_RM_init_4 : decode b_RM_init 4 = .ok (.invokespecial 3, 3) := by decide +kernel
theorem d_RM_init_7 : decode b_RM_init 7 = .ok (.aload_n 0, 1) := by decide +kernel
theorem d_RM_init_8 : decode b_RM_init 8 = .ok (.lconst 0, 1) := by decide +kernel
theorem d_RM_init_9 : decode b_RM_init 9 = .ok (.putfield 9, 3) := by decide +kernel
theorem d_RM_init_12 : decode b_RM_init 12 = .ok (.aload_n 0, 1) := by decide +kernel
theorem d_RM_init_13 : decode b_RM_init 13 = .ok (.lconst 0, 1) := by decide +kernel
theorem d_RM_init_14 : decode b_RM_init 14 = .ok (.putfield 15, 3) := by decide +kernel
theorem d_RM_init_17 : decode b_RM_init 17 = .ok (.aload_n 0, 1) := by decide +kernel
theorem d_RM_init_18 : decode b_RM_init 18 = .ok (.iconst 0, 1) := by decide +kernel
theorem d_RM_init_19 : decode b_RM_init 19 = .ok (.putfield 18, 3) := by decide +kernel
theorem d_RM_init_22 : decode b_RM_init 22 = .ok (.aload_n 0, 1) := by decide +kernel
theorem d_RM_init_23 : decode b_RM_init 23 = .ok (.iconst 0, 1) := by decide +kernel
theorem d_RM_init_24 : decode b_RM_init 24 = .ok (.putfield 22, 3) := by decide +kernel
theorem d_RM_init_27 : decode b_RM_init 27 = .ok (.aload_n 0, 1) := by decide +kernel
theorem d_RM_init_28 : decode b_RM_init 28 = .ok (.iload 4, 2) := by decide +kernel
theorem d_RM_init_30 : decode b_RM_init 30 = .ok (.putfield 26, 3) := by decide +kernel
theorem d_RM_init_33 : decode b_RM_init 33 = .ok (.return_, 1) := by decide +kernel
theorem d_MS_init_0 : decode b_MS_init 0 = .ok (.aload_n 0, 1) := by decide +kernel
theorem d_MS_init_1 : decode b_MS_init 1 = .ok (.invokespecial 3, 3) := by decide +kernel
theorem d_MS_init_4 : decode b_MS_init 4 = .ok (.aload_n 0, 1) := by decide +kernel
theorem d_MS_init_5 : decode b_MS_init 5 = .ok (.new 9, 3) := by decide +kernel
theorem d_MS_init_8 : decode b_MS_init 8 = .ok (.dup, 1) := by decide +kernel
theorem d_MS_init_9 : decode b_MS_init 9 = .ok (.sipush 512, 3) := by decide +kernel
theorem d_MS_init_12 : decode b_MS_init 12 = .ok (.invokespecial 11, 3) := by decide +kernel
theorem d_MS_init_15 : decode b_MS_init 15 = .ok (.putfield 14, 3) := by decide +kernel
theorem d_MS_init_18 : decode b_MS_init 18 = .ok (.aload_n 0, 1) := by decide +kernel
theorem d_MS_init_19 : decode b_MS_init 19 = .ok (.new 9, 3) := by decide +kernel
theorem d_MS_init_22 : decode b_MS_init 22 = .ok (.dup, 1) := by decide +kernel
theorem d_MS_init_23 : decode b_MS_init 23 = .ok (.ldc 18, 2) := by decide +kernel
theorem d_MS_init_25 : decode b_MS_init 25 = .ok (.invokespecial 11, 3) := by decide +kernel
theorem d_MS_init_28 : decode b_MS_init 28 = .ok (.putfield 19, 3) := by decide +kernel
theorem d_MS_init_31 : decode b_MS_init 31 = .ok (.aload_n 0, 1) := by decide +kernel
theorem d_MS_init_32 : decode b_MS_init 32 = .ok (.bipush 64, 2) := by decide +kernel
theorem d_MS_init_34 : decode b_MS_init 34 = .ok (.anewarray 22, 3) := by decide +kernel
theorem d_MS_init_37 : decode b_MS_init 37 = .ok (.putfield 24, 3) := by decide +kernel
theorem d_MS_init_40 : decode b_MS_init 40 = .ok (.aload_n 0, 1) := by decide +kernel
theorem d_MS_init_41 : decode b_MS_init 41 = .ok (.iconst 0, 1) := by decide +kernel
theorem d_MS_init_42 : decode b_MS_init 42 = .ok (.putfield 28, 3) := by decide +kernel
theorem d_MS_init_45 : decode b_MS_init 45 = .ok (.aload_n 0, 1) := by decide +kernel
theorem d_MS_init_46 : decode b_MS_init 46 = .ok (.iconst 0, 1) := by decide +kernel
theorem d_MS_init_47 : decode b_MS_init 47 = .ok (.putfield 32, 3) := by decide +kernel
theorem d_MS_init_50 : decode b_MS_init 50 = .ok (.return_, 1) := by decide +kernel
theorem mw_nn {w M : mw_W} {a b : Nat} {z : va_E} (F : ∀ (q : Nat) (y : va_E), w q = some y → q ≠ b → M q = some y) (hb : M b = some z) (hq : M a = none) : w a = none := by
  cases h : w a with
  | none => rfl
  | some y =>
    exfalso
    by_cases e : a = b
    · subst e; rw [hb] at hq; cases hq
    · rw [F a y h e] at hq; cases hq
set_option maxRecDepth 100000 in
set_option maxHeartbeats 4000000 in
theorem c_EM_init_AM (l : Launch) (D : va_G) (dA : Nat → ClassId) {w : mw_W} {b p1 p2 : Nat} {v k1 k2 k3 : Int32} (f0 : w b = some (.inr (cAM, [.null, .null, .int 0, .int 0, .int 0, .int 0]))) : CT l D dA y_EM_init (Cond.code y_EM_init b_EM_init 7 none :: Ts) 2 40 0 0 [.ref b, .ref p1, .ref p2, .int v, .int k1, .int k2, .int k3] w (fun r w' => r = .inl none ∧ w' = mw_up w b (.inr (cAM, [.ref p1, .ref p2, .int v, .int k1, .int k2, .int k3]))) := by
  refine mw_meth (by decide) mk_tb (Nat.le_of_ble_eq_true rfl) ?_
  intro p e s m below meth c K hr hlk hce hnm hP0 hSy ls hl
  have hl : lv_has ls 7 [(0, .ref b), (1, .ref p1), (2, .ref p2), (3, .int v), (4, .int k1), (5, .int k2), (6, .int k3)] := hl
  obtain ⟨hx, hb, hml, hown, hts, hK, hTb⟩ := id K
  have hI := mw_I.start hP0
  have hin : meth.name = "<init>" := hnm
  refine lv_aload_n hx hb d_EM_init_0 rfl (lv_at hl 0 rfl) ?_
  refine lv_aload_n hx hb d_EM_init_1 rfl (lv_at hl 1 rfl) ?_
  refine lv_aload_n hx hb d_EM_init_2 rfl (lv_at hl 2 rfl) ?_
  refine lv_iload_n hx hb d_EM_init_3 rfl (lv_at hl 3 rfl) ?_
  refine mw_call (rest := []) K hSy hP0 hI (c_AN_init_AM l D dA f0) (mx_invI hx hown rfl (hts _ tw_236) (hts _ tw_237) (hts _ tw_238) (by decide) (g := F0 m 4 ls [.int v, .ref p2, .ref p1, .ref b]) rfl (a := b) (argsL := [.ref p1, .ref p2, .int v]) (rest := []) np_AN_init rfl (by rw [hb]; exact d_EM_init_4)) hl.1 d_EM_init_4 ⟨Nat.le_of_ble_eq_true rfl, Nat.le_of_ble_eq_true rfl⟩ (Or.inl ⟨_, _, List.mem_cons_self⟩) (mk_ws tw_238 hts) (fun a9 U9 h9 => Ts_warm hts _ tw_30 a9 U9 h9) ⟨Nat.le_of_ble_eq_true rfl, Nat.le_of_ble_eq_true rfl⟩ (fun v w' H locs hq hI => ?_) (fun k x w' H locs hq hI hX => ?_)
  · obtain ⟨hq1, hq2⟩ := hq
    cases hq1
    rw [hq2] at hI
    refine W.eq (g2 := F0 m 7 ls []) rfl ?_
    have hI : mw_I D mk_cl w s.heap (mw_up w b (.inr (cAM, [.ref p1, .ref p2, .int v, .int 0, .int 0, .int 0]))) H locs := hI
    have f0 : (mw_up w b (.inr (cAM, [.ref p1, .ref p2, .int v, .int 0, .int 0, .int 0]))) b = some (.inr (cAM, [.ref p1, .ref p2, .int v, .int 0, .int 0, .int 0])) := mw_up_s _ _ _
    refine lv_aload_n hx hb d_EM_init_7 rfl (lv_at hl 0 rfl) ?_
    refine lv_iload hx hb d_EM_init_8 (lv_at hl 4 rfl) ?_
    refine mw_put K hI gp_EM_9_cAM (Or.inr hin) f0 rfl rfl (by simp) d_EM_init_10 (fun H locs hI => ?_)
    rw [mw_uu] at hI
    have hI : mw_I D mk_cl w s.heap (mw_up w b (.inr (cAM, [.ref p1, .ref p2, .int v, .int k1, .int 0, .int 0]))) H locs := hI
    have f0 : (mw_up w b (.inr (cAM, [.ref p1, .ref p2, .int v, .int k1, .int 0, .int 0]))) b = some (.inr (cAM, [.ref p1, .ref p2, .int v, .int k1, .int 0, .int 0])) := mw_up_s _ _ _
    refine lv_aload_n hx hb d_EM_init_13 rfl (lv_at hl 0 rfl) ?_
    refine lv_iload hx hb d_EM_init_14 (lv_at hl 5 rfl) ?_
    refine mw_put K hI gp_EM_15_cAM (Or.inr hin) f0 rfl rfl (by simp) d_EM_init_16 (fun H locs hI => ?_)
    rw [mw_uu] at hI
    have hI : mw_I D mk_cl w s.heap (mw_up w b (.inr (cAM, [.ref p1, .ref p2, .int v, .int k1, .int k2, .int 0]))) H locs := hI
    have f0 : (mw_up w b (.inr (cAM, [.ref p1, .ref p2, .int v, .int k1, .int k2, .int 0]))) b = some (.inr (cAM, [.ref p1, .ref p2, .int v, .int k1, .int k2, .int 0])) := mw_up_s _ _ _
    refine lv_aload_n hx hb d_EM_init_19 rfl (lv_at hl 0 rfl) ?_
    refine lv_iload hx hb d_EM_init_20 (lv_at hl 6 rfl) ?_
    refine mw_put K hI gp_EM_18_cAM (Or.inr hin) f0 rfl rfl (by simp) d_EM_init_22 (fun H locs hI => ?_)
    rw [mw_uu] at hI
    have hI : mw_I D mk_cl w s.heap (mw_up w b (.inr (cAM, [.ref p1, .ref p2, .int v, .int k1, .int k2, .int k3]))) H locs := hI
    have f0 : (mw_up w b (.inr (cAM, [.ref p1, .ref p2, .int v, .int k1, .int k2, .int k3]))) b = some (.inr (cAM, [.ref p1, .ref p2, .int v, .int k1, .int k2, .int k3])) := mw_up_s _ _ _
    exact mw_vret K hI hr hlk ⟨rfl, rfl⟩ d_EM_init_25
  · exact absurd hq.1 (by simp)
set_option maxRecDepth 100000 in
set_option maxHeartbeats 4000000 in
theorem c_EM_init_TM (l : Launch) (D : va_G) (dA : Nat → ClassId) {w : mw_W} {b p1 p2 : Nat} {v k1 k2 k3 : Int32} (f0 : w b = some (.inr (cTM, [.null, .null, .int 0, .int 0, .int 0, .int 0, .null, .null, .int 0, .int 0, .int 0]))) : CT l D dA y_EM_init (Cond.code y_EM_init b_EM_init 7 none :: Ts) 2 40 0 0 [.ref b, .ref p1, .ref p2, .int v, .int k1, .int k2, .int k3] w (fun r w' => r = .inl none ∧ w' = mw_up w b (.inr (cTM, [.ref p1, .ref p2, .int v, .int k1, .int k2, .int k3, .null, .null, .int 0, .int 0, .int 0]))) := by
  refine mw_meth (by decide) mk_tb (Nat.le_of_ble_eq_true rfl) ?_
  intro p e s m below meth c K hr hlk hce hnm hP0 hSy ls hl
  have hl : lv_has ls 7 [(0, .ref b), (1, .ref p1), (2, .ref p2), (3, .int v), (4, .int k1), (5, .int k2), (6, .int k3)] := hl
  obtain ⟨hx, hb, hml, hown, hts, hK, hTb⟩ := id K
  have hI := mw_I.start hP0
  have hin : meth.name = "<init>" := hnm
  refine lv_aload_n hx hb d_EM_init_0 rfl (lv_at hl 0 rfl) ?_
  refine lv_aload_n hx hb d_EM_init_1 rfl (lv_at hl 1 rfl) ?_
  refine lv_aload_n hx hb d_EM_init_2 rfl (lv_at hl 2 rfl) ?_
  refine lv_iload_n hx hb d_EM_init_3 rfl (lv_at hl 3 rfl) ?_
  refine mw_call (rest := []) K hSy hP0 hI (c_AN_init_TM l D dA f0) (mx_invI hx hown rfl (hts _ tw_236) (hts _ tw_237) (hts _ tw_238) (by decide) (g := F0 m 4 ls [.int v, .ref p2, .ref p1, .ref b]) rfl (a := b) (argsL := [.ref p1, .ref p2, .int v]) (rest := []) np_AN_init rfl (by rw [hb]; exact d_EM_init_4)) hl.1 d_EM_init_4 ⟨Nat.le_of_ble_eq_true rfl, Nat.le_of_ble_eq_true rfl⟩ (Or.inl ⟨_, _, List.mem_cons_self⟩) (mk_ws tw_238 hts) (fun a9 U9 h9 => Ts_warm hts _ tw_30 a9 U9 h9) ⟨Nat.le_of_ble_eq_true rfl, Nat.le_of_ble_eq_true rfl⟩ (fun v w' H locs hq hI => ?_) (fun k x w' H locs hq hI hX => ?_)
  · obtain ⟨hq1, hq2⟩ := hq
    cases hq1
    rw [hq2] at hI
    refine W.eq (g2 := F0 m 7 ls []) rfl ?_
    have hI : mw_I D mk_cl w s.heap (mw_up w b (.inr (cTM, [.ref p1, .ref p2, .int v, .int 0, .int 0, .int 0, .null, .null, .int 0, .int 0, .int 0]))) H locs := hI
    have f0 : (mw_up w b (.inr (cTM, [.ref p1, .ref p2, .int v, .int 0, .int 0, .int 0, .null, .null, .int 0, .int 0, .int 0]))) b = some (.inr (cTM, [.ref p1, .ref p2, .int v, .int 0, .int 0, .int 0, .null, .null, .int 0, .int 0, .int 0])) := mw_up_s _ _ _
    refine lv_aload_n hx hb d_EM_init_7 rfl (lv_at hl 0 rfl) ?_
    refine lv_iload hx hb d_EM_init_8 (lv_at hl 4 rfl) ?_
    refine mw_put K hI gp_EM_9_cTM (Or.inr hin) f0 rfl rfl (by simp) d_EM_init_10 (fun H locs hI => ?_)
    rw [mw_uu] at hI
    have hI : mw_I D mk_cl w s.heap (mw_up w b (.inr (cTM, [.ref p1, .ref p2, .int v, .int k1, .int 0, .int 0, .null, .null, .int 0, .int 0, .int 0]))) H locs := hI
    have f0 : (mw_up w b (.inr (cTM, [.ref p1, .ref p2, .int v, .int k1, .int 0, .int 0, .null, .null, .int 0, .int 0, .int 0]))) b = some (.inr (cTM, [.ref p1, .ref p2, .int v, .int k1, .int 0, .int 0, .null, .null, .int 0, .int 0, .int 0])) := mw_up_s _ _ _
    refine lv_aload_n hx hb d_EM_init_13 rfl (lv_at hl 0 rfl) ?_
    refine lv_iload hx hb d_EM_init_14 (lv_at hl 5 rfl) ?_
    refine mw_put K hI gp_EM_15_cTM (Or.inr hin) f0 rfl rfl (by simp) d_EM_init_16 (fun H locs hI => ?_)
    rw [mw_uu] at hI
    have hI : mw_I D mk_cl w s.heap (mw_up w b (.inr (cTM, [.ref p1, .ref p2, .int v, .int k1, .int k2, .int 0, .null, .null, .int 0, .int 0, .int 0]))) H locs := hI
    have f0 : (mw_up w b (.inr (cTM, [.ref p1, .ref p2, .int v, .int k1, .int k2, .int 0, .null, .null, .int 0, .int 0, .int 0]))) b = some (.inr (cTM, [.ref p1, .ref p2, .int v, .int k1, .int k2, .int 0, .null, .null, .int 0, .int 0, .int 0])) := mw_up_s _ _ _
    refine lv_aload_n hx hb d_EM_init_19 rfl (lv_at hl 0 rfl) ?_
    refine lv_iload hx hb d_EM_init_20 (lv_at hl 6 rfl) ?_
    refine mw_put K hI gp_EM_18_cTM (Or.inr hin) f0 rfl rfl (by simp) d_EM_init_22 (fun H locs hI => ?_)
    rw [mw_uu] at hI
    have hI : mw_I D mk_cl w s.heap (mw_up w b (.inr (cTM, [.ref p1, .ref p2, .int v, .int k1, .int k2, .int k3, .null, .null, .int 0, .int 0, .int 0]))) H locs := hI
    have f0 : (mw_up w b (.inr (cTM, [.ref p1, .ref p2, .int v, .int k1, .int k2, .int k3, .null, .null, .int 0, .int 0, .int 0]))) b = some (.inr (cTM, [.ref p1, .ref p2, .int v, .int k1, .int k2, .int k3, .null, .null, .int 0, .int 0, .int 0])) := mw_up_s _ _ _
    exact mw_vret K hI hr hlk ⟨rfl, rfl⟩ d_EM_init_25
  · exact absurd hq.1 (by simp)
set_option maxRecDepth 100000 in
set_option maxHeartbeats 4000000 in
theorem c_AM_init (l : Launch) (D : va_G) (dA : Nat → ClassId) {w : mw_W} {b p1 p2 : Nat} {v k2 k3 : Int32} (f0 : w b = some (.inr (cAM, [.null, .null, .int 0, .int 0, .int 0, .int 0]))) : CT l D dA y_AM_init (Cond.code y_AM_init b_AM_init 6 none :: Ts) 3 70 0 0 [.ref b, .ref p1, .ref p2, .int v, .int k2, .int k3] w (fun r w' => r = .inl none ∧ w' = mw_up w b (.inr (cAM, [.ref p1, .ref p2, .int v, .int (nI 4), .int k2, .int k3]))) := by
  refine mw_meth (by decide) mk_tb (Nat.le_of_ble_eq_true rfl) ?_
  intro p e s m below meth c K hr hlk hce hnm hP0 hSy ls hl
  have hl : lv_has ls 6 [(0, .ref b), (1, .ref p1), (2, .ref p2), (3, .int v), (4, .int k2), (5, .int k3)] := hl
  obtain ⟨hx, hb, hml, hown, hts, hK, hTb⟩ := id K
  have hI := mw_I.start hP0
  have hin : meth.name = "<init>" := hnm
  refine lv_aload_n hx hb d_AM_init_0 rfl (lv_at hl 0 rfl) ?_
  refine lv_aload_n hx hb d_AM_init_1 rfl (lv_at hl 1 rfl) ?_
  refine lv_aload_n hx hb d_AM_init_2 rfl (lv_at hl 2 rfl) ?_
  refine lv_iload_n hx hb d_AM_init_3 rfl (lv_at hl 3 rfl) ?_
  refine lv_iconst (v := nI 4) hx hb d_AM_init_4 (by decide) ?_
  refine lv_iload hx hb d_AM_init_5 (lv_at hl 4 rfl) ?_
  refine lv_iload hx hb d_AM_init_7 (lv_at hl 5 rfl) ?_
  refine mw_call (rest := []) K hSy hP0 hI (c_EM_init_AM l D dA f0) (mx_invI hx hown rfl (hts _ tw_233) (hts _ tw_234) (hts _ tw_235) (by decide) (g := F0 m 9 ls [.int k3, .int k2, .int (nI 4), .int v, .ref p2, .ref p1, .ref b]) rfl (a := b) (argsL := [.ref p1, .ref p2, .int v, .int (nI 4), .int k2, .int k3]) (rest := []) np_EM_init rfl (by rw [hb]; exact d_AM_init_9)) hl.1 d_AM_init_9 ⟨Nat.le_of_ble_eq_true rfl, Nat.le_of_ble_eq_true rfl⟩ (Or.inl ⟨_, _, List.mem_cons_self⟩) (mk_ws tw_235 hts) (fun a9 U9 h9 => Ts_warm hts _ tw_31 a9 U9 h9) ⟨Nat.le_of_ble_eq_true rfl, Nat.le_of_ble_eq_true rfl⟩ (fun v w' H locs hq hI => ?_) (fun k x w' H locs hq hI hX => ?_)
  · obtain ⟨hq1, hq2⟩ := hq
    cases hq1
    refine W.eq (g2 := F0 m 12 ls []) rfl ?_
    exact mw_vret K hI hr hlk ⟨rfl, hq2⟩ d_AM_init_12
  · exact absurd hq.1 (by simp)
set_option maxRecDepth 100000 in
set_option maxHeartbeats 4000000 in
theorem c_RM_init (l : Launch) (D : va_G) (dA : Nat → ClassId) {w : mw_W} {b p1 p2 : Nat} {v k : Int32} (f0 : w b = some (.inr (cRM, [.null, .null, .int 0, .int 0, .long 0, .long 0, .int 0, .int 0]))) : CT l D dA y_RM_init (Cond.code y_RM_init b_RM_init 5 none :: Ts) 2 40 0 0 [.ref b, .ref p1, .ref p2, .int v, .int k] w (fun r w' => r = .inl none ∧ w' = mw_up w b (.inr (cRM, [.ref p1, .ref p2, .int v, .int k, .long (lN 0), .long (lN 0), .int (nI 0), .int (nI 0)]))) := by
  refine mw_meth (by decide) mk_tb (Nat.le_of_ble_eq_true rfl) ?_
  intro p e s m below meth c K hr hlk hce hnm hP0 hSy ls hl
  have hl : lv_has ls 5 [(0, .ref b), (1, .ref p1), (2, .ref p2), (3, .int v), (4, .int k)] := hl
  obtain ⟨hx, hb, hml, hown, hts, hK, hTb⟩ := id K
  have hI := mw_I.start hP0
  have hin : meth.name = "<init>" := hnm
  refine lv_aload_n hx hb d_RM_init_0 rfl (lv_at hl 0 rfl) ?_
  refine lv_aload_n hx hb d_RM_init_1 rfl (lv_at hl 1 rfl) ?_
  refine lv_aload_n hx hb d_RM_init_2 rfl (lv_at hl 2 rfl) ?_
  refine lv_iload_n hx hb d_RM_init_3 rfl (lv_at hl 3 rfl) ?_
  refine mw_call (rest := []) K hSy hP0 hI (c_AN_init_RM l D dA f0) (mx_invI hx hown rfl (hts _ tw_318) (hts _ tw_237) (hts _ tw_238) (by decide) (g := F0 m 4 ls [.int v, .ref p2, .ref p1, .ref b]) rfl (a := b) (argsL := [.ref p1, .ref p2, .int v]) (rest := []) np_AN_init rfl (by rw [hb]; exact d_RM_init_4)) hl.1 d_RM_init_4 ⟨Nat.le_of_ble_eq_true rfl, Nat.le_of_ble_eq_true rfl⟩ (Or.inl ⟨_, _, List.mem_cons_self⟩) (mk_ws tw_238 hts) (fun a9 U9 h9 => Ts_warm hts _ tw_30 a9 U9 h9) ⟨Nat.le_of_ble_eq_true rfl, Nat.le_of_ble_eq_true rfl⟩ (fun v w' H locs hq hI => ?_) (fun k x w' H locs hq hI hX => ?_)
  · obtain ⟨hq1, hq2⟩ := hq
    cases hq1
    rw [hq2] at hI
    refine W.eq (g2 := F0 m 7 ls []) rfl ?_
    have hI : mw_I D mk_cl w s.heap (mw_up w b (.inr (cRM, [.ref p1, .ref p2, .int v, .int 0, .long 0, .long 0, .int 0, .int 0]))) H locs := hI
    have f0 : (mw_up w b (.inr (cRM, [.ref p1, .ref p2, .int v, .int 0, .long 0, .long 0, .int 0, .int 0]))) b = some (.inr (cRM, [.ref p1, .ref p2, .int v, .int 0, .long 0, .long 0, .int 0, .int 0])) := mw_up_s _ _ _
    refine lv_aload_n hx hb d_RM_init_7 rfl (lv_at hl 0 rfl) ?_
    refine lv_lconst (v := lN 0) hx hb d_RM_init_8 (by decide) ?_
    refine mw_put K hI gp_RM_9_cRM (Or.inl ⟨_, rfl, rfl⟩) f0 rfl rfl (by simp) d_RM_init_9 (fun H locs hI => ?_)
    rw [mw_uu] at hI
    have hI : mw_I D mk_cl w s.heap (mw_up w b (.inr (cRM, [.ref p1, .ref p2, .int v, .int 0, .long (lN 0), .long 0, .int 0, .int 0]))) H locs := hI
    have f0 : (mw_up w b (.inr (cRM, [.ref p1, .ref p2, .int v, .int 0, .long (lN 0), .long 0, .int 0, .int 0]))) b = some (.inr (cRM, [.ref p1, .ref p2, .int v, .int 0, .long (lN 0), .long 0, .int 0, .int 0])) := mw_up_s _ _ _
    refine lv_aload_n hx hb d_RM_init_12 rfl (lv_at hl 0 rfl) ?_
    refine lv_lconst (v := lN 0) hx hb d_RM_init_13 (by decide) ?_
    refine mw_put K hI gp_RM_15_cRM (Or.inl ⟨_, rfl, rfl⟩) f0 rfl rfl (by simp) d_RM_init_14 (fun H locs hI => ?_)
    rw [mw_uu] at hI
    have hI : mw_I D mk_cl w s.heap (mw_up w b (.inr (cRM, [.ref p1, .ref p2, .int v, .int 0, .long (lN 0), .long (lN 0), .int 0, .int 0]))) H locs := hI
    have f0 : (mw_up w b (.inr (cRM, [.ref p1, .ref p2, .int v, .int 0, .long (lN 0), .long (lN 0), .int 0, .int 0]))) b = some (.inr (cRM, [.ref p1, .ref p2, .int v, .int 0, .long (lN 0), .long (lN 0), .int 0, .int 0])) := mw_up_s _ _ _
    refine lv_aload_n hx hb d_RM_init_17 rfl (lv_at hl 0 rfl) ?_
    refine lv_iconst (v := nI 0) hx hb d_RM_init_18 (by decide) ?_
    refine mw_put K hI gp_RM_18_cRM (Or.inl ⟨_, rfl, rfl⟩) f0 rfl rfl (by simp) d_RM_init_19 (fun H locs hI => ?_)
    rw [mw_uu] at hI
    have hI : mw_I D mk_cl w s.heap (mw_up w b (.inr (cRM, [.ref p1, .ref p2, .int v, .int 0, .long (lN 0), .long (lN 0), .int (nI 0), .int 0]))) H locs := hI
    have f0 : (mw_up w b (.inr (cRM, [.ref p1, .ref p2, .int v, .int 0, .long (lN 0), .long (lN 0), .int (nI 0), .int 0]))) b = some (.inr (cRM, [.ref p1, .ref p2, .int v, .int 0, .long (lN 0), .long (lN 0), .int (nI 0), .int 0])) := mw_up_s _ _ _
    refine lv_aload_n hx hb d_RM_init_22 rfl (lv_at hl 0 rfl) ?_
    refine lv_iconst (v := nI 0) hx hb d_RM_init_23 (by decide) ?_
    refine mw_put K hI gp_RM_22_cRM (Or.inl ⟨_, rfl, rfl⟩) f0 rfl rfl (by simp) d_RM_init_24 (fun H locs hI => ?_)
    rw [mw_uu] at hI
    have hI : mw_I D mk_cl w s.heap (mw_up w b (.inr (cRM, [.ref p1, .ref p2, .int v, .int 0, .long (lN 0), .long (lN 0), .int (nI 0), .int (nI 0)]))) H locs := hI
    have f0 : (mw_up w b (.inr (cRM, [.ref p1, .ref p2, .int v, .int 0, .long (lN 0), .long (lN 0), .int (nI 0), .int (nI 0)]))) b = some (.inr (cRM, [.ref p1, .ref p2, .int v, .int 0, .long (lN 0), .long (lN 0), .int (nI 0), .int (nI 0)])) := mw_up_s _ _ _
    refine lv_aload_n hx hb d_RM_init_27 rfl (lv_at hl 0 rfl) ?_
    refine lv_iload hx hb d_RM_init_28 (lv_at hl 4 rfl) ?_
    refine mw_put K hI gp_RM_26_cRM (Or.inr hin) f0 rfl rfl (by simp) d_RM_init_30 (fun H locs hI => ?_)
    rw [mw_uu] at hI
    have hI : mw_I D mk_cl w s.heap (mw_up w b (.inr (cRM, [.ref p1, .ref p2, .int v, .int k, .long (lN 0), .long (lN 0), .int (nI 0), .int (nI 0)]))) H locs := hI
    have f0 : (mw_up w b (.inr (cRM, [.ref p1, .ref p2, .int v, .int k, .long (lN 0), .long (lN 0), .int (nI 0), .int (nI 0)]))) b = some (.inr (cRM, [.ref p1, .ref p2, .int v, .int k, .long (lN 0), .long (lN 0), .int (nI 0), .int (nI 0)])) := mw_up_s _ _ _
    exact mw_vret K hI hr hlk ⟨rfl, rfl⟩ d_RM_init_33
  · exact absurd hq.1 (by simp)
