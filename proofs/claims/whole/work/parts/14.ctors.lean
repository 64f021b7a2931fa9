/-! ### constructors -/
theorem d_AN_init_0 : decode b_AN_init 0 = .ok (.aload_n 0, 1) := by decide +kernel
theorem d_AN_init_1 : decode b_AN_init 1 = .ok (.invokespecial 3, 3) := by decide +kernel
theorem d_AN_init_4 : decode b_AN_init 4 = .ok (.aload_n 0, 1) := by decide +kernel
theorem d_AN_init_5 : decode b_AN_init 5 = .ok (.aload_n 1, 1) := by decide +kernel
theorem d_AN_init_6 : decode b_AN_init 6 = .ok (.putfield 9, 3) := by decide +kernel
theorem d_AN_init_9 : decode b_AN_init 9 = .ok (.aload_n 0, 1) := by decide +kernel
theorem d_AN_init_10 : decode b_AN_init 10 = .ok (.aload_n 2, 1) := by decide +kernel
theorem d_AN_init_11 : decode b_AN_init 11 = .ok (.putfield 15, 3) := by decide +kernel
theorem d_AN_init_14 : decode b_AN_init 14 = .ok (.aload_n 0, 1) := by decide +kernel
theorem d_AN_init_15 : decode b_AN_init 15 = .ok (.iload_n 3, 1) := by decide +kernel
theorem d_AN_init_16 : decode b_AN_init 16 = .ok (.putfield 18, 3) := by decide +kernel
theorem d_AN_init_19 : decode b_AN_init 19 = .ok (.return_, 1) := by decide +kernel
theorem d_EM_init_0 : decode b_EM_init 0 = .ok (.aload_n 0, 1) := by decide +kernel
theorem d_EM_init_1 : decode b_EM_init 1 = .ok (.aload_n 1, 1) := by decide +kernel
theorem d_EM_init_2 : decode b_EM_init 2 = .ok (.aload_n 2, 1) := by decide +kernel
theorem d_EM_init_3 : decode b_EM_init 3 = .ok (.iload_n 3, 1) := by decide +kernel
theorem d_EM_init_4 : decode b_EM_init 4 = .ok (.invokespecial 3, 3) := by decide +kernel
theorem d_EM_init_7 : decode b_EM_init 7 = .ok (.aload_n 0, 1) := by decide +kernel
theorem d_EM_init_8 : decode b_EM_init 8 = .ok (.iload 4, 2) := by decide +kernel
theorem d_EM_init_10 : decode b_EM_init 10 = .ok (.putfield 9, 3) := by decide +kernel
theorem d_EM_init_13 : decode b_EM_init 13 = .ok (.aload_n 0, 1) := by decide +kernel
theorem d_EM_init_14 : decode b_EM_init 14 = .ok (.iload 5, 2) := by decide +kernel
theorem d_EM_init_16 : decode b_EM_init 16 = .ok (.putfield 15, 3) := by decide +kernel
theorem d_EM_init_19 : decode b_EM_init 19 = .ok (.aload_n 0, 1) := by decide +kernel
theorem d_EM_init_20 : decode b_EM_init 20 = .ok (.iload 6, 2) := by decide +kernel
theorem d_EM_init_22 : decode b_EM_init 22 = .ok (.putfield 18, 3) := by decide +kernel
theorem d_EM_init_25 : decode b_EM_init 25 = .ok (.return_, 1) := by decide +kernel
theorem d_AM_init_0 : decode b_AM_init 0 = .ok (.aload_n 0, 1) := by decide +kernel
theorem d_AM_init_1 : decode b_AM_init 1 = .ok (.aload_n 1, 1) := by decide +kernel
theorem d_AM_init_2 : decode b_AM_init 2 = .ok (.aload_n 2, 1) := by decide +kernel
theorem d_AM_init_3 : decode b_AM_init 3 = .ok (.iload_n 3, 1) := by decide +kernel
theorem d_AM_init_4 : decode b_AM_init 4 = .ok (.iconst 4, 1) := by decide +kernel
theorem d_AM_init_5 : decode b_AM_init 5 = .ok (.iload 4, 2) := by decide +kernel
theorem d_AM_init_7 : decode b_AM_init 7 = .ok (.iload 5, 2) := by decide +kernel
theorem d_AM_init_9 : decode b_AM_init 9 = .ok (.invokespecial 3, 3) := by decide +kernel
theorem d_AM_init_12 : decode b_AM_init 12 = .ok (.return_, 1) := by decide +kernel
theorem mw_ub {w : mw_W} {a b : Nat} {x x2 y : va_E} (h : b ≠ a) : mw_up (mw_up (mw_up w a x) b y) a x2 = mw_up (mw_up w b y) a x2 := by
  funext q
  by_cases e : q = a
  · subst e; rw [mw_up_s, mw_up_s]
  · rw [mw_up_n _ _ e, mw_up_n _ _ e]
    by_cases e2 : q = b
    · subst e2; rw [mw_up_s, mw_up_s]
    · rw [mw_up_n _ _ e2, mw_up_n _ _ e2, mw_up_n _ _ e]
set_option maxRecDepth 100000 in
set_option maxHeartbeats 4000000 in
theorem c_BY_init (l : Launch) (D : va_G) (dA : Nat → ClassId) {w : mw_W} {b n : Nat} (f0 : w b = some (.inr (cBY, [.int 0, .null]))) (hn : n ≤ 65536) : CT l D dA y_BY_init (Cond.code y_BY_init b_BY_init 2 none :: Ts) 1 20 1 ((n + 7) / 8) [.ref b, .int (nI n)] w (fun r w' => r = .inl none ∧ ∃ x, w x = none ∧ x ≠ b ∧ w' = mw_up (mw_up w x (by_a dA n (fun _ => 0))) b (.inr (cBY, [.int (nI n), .ref x]))) := by
  refine mw_meth (by decide) mk_tb (Nat.le_of_ble_eq_true rfl) ?_
  intro p e s m below meth c K hr hlk hce hnm hP0 hSy ls hl
  have hl : lv_has ls 2 [(0, .ref b), (1, .int (nI n))] := hl
  obtain ⟨hx, hb, hml, hown, hts, hK, hTb⟩ := id K
  have hI := mw_I.start hP0
  have hin : meth.name = "<init>" := hnm
  refine lv_aload_n hx hb d_BY_init_0 rfl (lv_at hl 0 rfl) ?_
  refine W.objInit hx hb hown (hts _ tw_50) (hts _ tw_43) (hts _ tw_44) rfl (by rw [hml]; exact hl.1) rfl d_BY_init_1 (Nat.le_of_ble_eq_true rfl) (Nat.le_of_ble_eq_true rfl) ?_
  refine W.eq (g2 := F0 m 4 ls []) rfl ?_
  refine lv_aload_n hx hb d_BY_init_4 rfl (lv_at hl 0 rfl) ?_
  refine lv_iload_n hx hb d_BY_init_5 rfl (lv_at hl 1 rfl) ?_
  refine mw_put K hI gp_BY_9_cBY (Or.inr hin) f0 rfl rfl (by simp) d_BY_init_6 (fun H locs hI => ?_)
  have hI : mw_I D mk_cl w s.heap (mw_up w b (.inr (cBY, [.int (nI n), .null]))) H locs := hI
  have f0 : (mw_up w b (.inr (cBY, [.int (nI n), .null]))) b = some (.inr (cBY, [.int (nI n), .null])) := mw_up_s _ _ _
  refine lv_aload_n hx hb d_BY_init_9 rfl (lv_at hl 0 rfl) ?_
  refine lv_iload_n hx hb d_BY_init_10 rfl (lv_at hl 1 rfl) ?_
  refine mp_call (rest := [.ref b]) hb hml (c_MS_filledUp l (n := n) (by omega)) (mx_invSN hx hown (hts _ tw_51) (hts _ tw_52) (hts _ tw_21) (hts _ tw_53) (by decide) (g := F0 m 11 ls [.int (nI n), .ref b]) rfl (argsL := [.int (nI n)]) (rest := [.ref b]) np_MS_filledUp rfl (by rw [hb]; exact d_BY_init_11)) hl.1 d_BY_init_11 ⟨Nat.le_of_ble_eq_true rfl, Nat.le_of_ble_eq_true rfl⟩ (Or.inl ⟨_, _, List.mem_cons_self⟩) (mk_ws tw_53 hts) (fun a9 U9 h9 => Ts_warm hts _ tw_21 a9 U9 h9) (by first | exact ⟨Nat.le_of_ble_eq_true rfl, Nat.le_of_ble_eq_true rfl⟩ | assumption) (fun v hv => ?_)
  subst hv
  refine W.eq (g2 := F0 m 14 ls [.int (nI (up8 n)), .ref b]) rfl ?_
  refine lv_bipush (v := nI 8) hx hb d_BY_init_14 (by decide) ?_
  refine lv_idiv hx hb d_BY_init_16 (by decide) ?_
  refine mw_ti (y := nI ((n + 7) / 8)) ((by unfold up8; rw [pk_div (by omega) (by decide) (by decide)]; congr 1; omega)) ?_
  refine mw_newa K hI tJ (t := .long) rfl tw_61 rfl (fun C h => by cases h) (a0 := ((n + 7) / 8, .inr (.inl (fun _ => 0)))) (fun _ => rfl) (nI_pos (by omega)) (nI_clamp (by omega)) (by show _ * 8 ≤ _; omega) (Nat.le_refl 1) ((by dsimp only; omega)) d_BY_init_17 (fun x H hq hI => ?_)
  refine W.widen (k := 1) (n := (n + 7) / 8) (by omega) (by omega) ?_
  have hq_x := hq
  have hI : mw_I D mk_cl w s.heap (mw_up (mw_up w b (.inr (cBY, [.int (nI n), .null]))) x (.inl (dA tJ, (n + 7) / 8, .inr (.inl (fun _ => 0))))) H locs := hI
  have f0 : (mw_up (mw_up w b (.inr (cBY, [.int (nI n), .null]))) x (.inl (dA tJ, (n + 7) / 8, .inr (.inl (fun _ => 0))))) b = some (.inr (cBY, [.int (nI n), .null])) := by rw [mw_up_n _ _ (mw_neN f0 hq_x)]; exact f0
  have fx : (mw_up (mw_up w b (.inr (cBY, [.int (nI n), .null]))) x (.inl (dA tJ, (n + 7) / 8, .inr (.inl (fun _ => 0))))) x = some (.inl (dA tJ, (n + 7) / 8, .inr (.inl (fun _ => 0)))) := mw_up_s _ _ _
  refine mw_put K hI gp_BY_19_cBY (Or.inr hin) f0 rfl rfl (by simp) d_BY_init_19 (fun H locs hI => ?_)
  have hI : mw_I D mk_cl w s.heap (mw_up (mw_up (mw_up w b (.inr (cBY, [.int (nI n), .null]))) x (.inl (dA tJ, (n + 7) / 8, .inr (.inl (fun _ => 0))))) b (.inr (cBY, [.int (nI n), .ref x]))) H locs := hI
  have fx : (mw_up (mw_up (mw_up w b (.inr (cBY, [.int (nI n), .null]))) x (.inl (dA tJ, (n + 7) / 8, .inr (.inl (fun _ => 0))))) b (.inr (cBY, [.int (nI n), .ref x]))) x = some (.inl (dA tJ, (n + 7) / 8, .inr (.inl (fun _ => 0)))) := by rw [mw_up_n _ _ ((mw_neA f0 fx).symm)]; exact fx
  have f0 : (mw_up (mw_up (mw_up w b (.inr (cBY, [.int (nI n), .null]))) x (.inl (dA tJ, (n + 7) / 8, .inr (.inl (fun _ => 0))))) b (.inr (cBY, [.int (nI n), .ref x]))) b = some (.inr (cBY, [.int (nI n), .ref x])) := mw_up_s _ _ _
  have hxb : x ≠ b := by intro e; subst e; rw [mw_up_s] at hq_x; cases hq_x
  exact mw_vret K hI hr hlk ⟨rfl, x, by rw [mw_up_n _ _ hxb] at hq_x; exact hq_x, hxb, mw_ub hxb⟩ d_BY_init_22
set_option maxRecDepth 100000 in
set_option maxHeartbeats 4000000 in
theorem c_AN_init_AM (l : Launch) (D : va_G) (dA : Nat → ClassId) {w : mw_W} {b p1 p2 : Nat} {v : Int32} (f0 : w b = some (.inr (cAM, [.null, .null, .int 0, .int 0, .int 0, .int 0]))) : CT l D dA y_AN_init (Cond.code y_AN_init b_AN_init 4 none :: Ts) 1 14 0 0 [.ref b, .ref p1, .ref p2, .int v] w (fun r w' => r = .inl none ∧ w' = mw_up w b (.inr (cAM, [.ref p1, .ref p2, .int v, .int 0, .int 0, .int 0]))) := by
  refine mw_meth (by decide) mk_tb (Nat.le_of_ble_eq_true rfl) ?_
  intro p e s m below meth c K hr hlk hce hnm hP0 hSy ls hl
  have hl : lv_has ls 4 [(0, .ref b), (1, .ref p1), (2, .ref p2), (3, .int v)] := hl
  obtain ⟨hx, hb, hml, hown, hts, hK, hTb⟩ := id K
  have hI := mw_I.start hP0
  have hin : meth.name = "<init>" := hnm
  refine lv_aload_n hx hb d_AN_init_0 rfl (lv_at hl 0 rfl) ?_
  refine W.objInit hx hb hown (hts _ tw_239) (hts _ tw_43) (hts _ tw_44) rfl (by rw [hml]; exact hl.1) rfl d_AN_init_1 (Nat.le_of_ble_eq_true rfl) (Nat.le_of_ble_eq_true rfl) ?_
  refine W.eq (g2 := F0 m 4 ls []) rfl ?_
  refine lv_aload_n hx hb d_AN_init_4 rfl (lv_at hl 0 rfl) ?_
  refine lv_aload_n hx hb d_AN_init_5 rfl (lv_at hl 1 rfl) ?_
  refine mw_put K hI gp_AN_9_cAM (Or.inr hin) f0 rfl rfl (by simp) d_AN_init_6 (fun H locs hI => ?_)
  have hI : mw_I D mk_cl w s.heap (mw_up w b (.inr (cAM, [.ref p1, .null, .int 0, .int 0, .int 0, .int 0]))) H locs := hI
  have f0 : (mw_up w b (.inr (cAM, [.ref p1, .null, .int 0, .int 0, .int 0, .int 0]))) b = some (.inr (cAM, [.ref p1, .null, .int 0, .int 0, .int 0, .int 0])) := mw_up_s _ _ _
  refine lv_aload_n hx hb d_AN_init_9 rfl (lv_at hl 0 rfl) ?_
  refine lv_aload_n hx hb d_AN_init_10 rfl (lv_at hl 2 rfl) ?_
  refine mw_put K hI gp_AN_15_cAM (Or.inr hin) f0 rfl rfl (by simp) d_AN_init_11 (fun H locs hI => ?_)
  rw [mw_uu] at hI
  have hI : mw_I D mk_cl w s.heap (mw_up w b (.inr (cAM, [.ref p1, .ref p2, .int 0, .int 0, .int 0, .int 0]))) H locs := hI
  have f0 : (mw_up w b (.inr (cAM, [.ref p1, .ref p2, .int 0, .int 0, .int 0, .int 0]))) b = some (.inr (cAM, [.ref p1, .ref p2, .int 0, .int 0, .int 0, .int 0])) := mw_up_s _ _ _
  refine lv_aload_n hx hb d_AN_init_14 rfl (lv_at hl 0 rfl) ?_
  refine lv_iload_n hx hb d_AN_init_15 rfl (lv_at hl 3 rfl) ?_
  refine mw_put K hI gp_AN_18_cAM (Or.inr hin) f0 rfl rfl (by simp) d_AN_init_16 (fun H locs hI => ?_)
  rw [mw_uu] at hI
  have hI : mw_I D mk_cl w s.heap (mw_up w b (.inr (cAM, [.ref p1, .ref p2, .int v, .int 0, .int 0, .int 0]))) H locs := hI
  have f0 : (mw_up w b (.inr (cAM, [.ref p1, .ref p2, .int v, .int 0, .int 0, .int 0]))) b = some (.inr (cAM, [.ref p1, .ref p2, .int v, .int 0, .int 0, .int 0])) := mw_up_s _ _ _
  exact mw_vret K hI hr hlk ⟨rfl, rfl⟩ d_AN_init_19
set_option maxRecDepth 100000 in
set_option maxHeartbeats 4000000 in
theorem c_AN_init_TM (l : Launch) (D : va_G) (dA : Nat → ClassId) {w : mw_W} {b p1 p2 : Nat} {v : Int32} (f0 : w b = some (.inr (cTM, [.null, .null, .int 0, .int 0, .int 0, .int 0, .null, .null, .int 0, .int 0, .int 0]))) : CT l D dA y_AN_init (Cond.code y_AN_init b_AN_init 4 none :: Ts) 1 14 0 0 [.ref b, .ref p1, .ref p2, .int v] w (fun r w' => r = .inl none ∧ w' = mw_up w b (.inr (cTM, [.ref p1, .ref p2, .int v, .int 0, .int 0, .int 0, .null, .null, .int 0, .int 0, .int 0]))) := by
  refine mw_meth (by decide) mk_tb (Nat.le_of_ble_eq_true rfl) ?_
  intro p e s m below meth c K hr hlk hce hnm hP0 hSy ls hl
  have hl : lv_has ls 4 [(0, .ref b), (1, .ref p1), (2, .ref p2), (3, .int v)] := hl
  obtain ⟨hx, hb, hml, hown, hts, hK, hTb⟩ := id K
  have hI := mw_I.start hP0
  have hin : meth.name = "<init>" := hnm
  refine lv_aload_n hx hb d_AN_init_0 rfl (lv_at hl 0 rfl) ?_
  refine W.objInit hx hb hown (hts _ tw_239) (hts _ tw_43) (hts _ tw_44) rfl (by rw [hml]; exact hl.1) rfl d_AN_init_1 (Nat.le_of_ble_eq_true rfl) (Nat.le_of_ble_eq_true rfl) ?_
  refine W.eq (g2 := F0 m 4 ls []) rfl ?_
  refine lv_aload_n hx hb d_AN_init_4 rfl (lv_at hl 0 rfl) ?_
  refine lv_aload_n hx hb d_AN_init_5 rfl (lv_at hl 1 rfl) ?_
  refine mw_put K hI gp_AN_9_cTM (Or.inr hin) f0 rfl rfl (by simp) d_AN_init_6 (fun H locs hI => ?_)
  have hI : mw_I D mk_cl w s.heap (mw_up w b (.inr (cTM, [.ref p1, .null, .int 0, .int 0, .int 0, .int 0, .null, .null, .int 0, .int 0, .int 0]))) H locs := hI
  have f0 : (mw_up w b (.inr (cTM, [.ref p1, .null, .int 0, .int 0, .int 0, .int 0, .null, .null, .int 0, .int 0, .int 0]))) b = some (.inr (cTM, [.ref p1, .null, .int 0, .int 0, .int 0, .int 0, .null, .null, .int 0, .int 0, .int 0])) := mw_up_s _ _ _
  refine lv_aload_n hx hb d_AN_init_9 rfl (lv_at hl 0 rfl) ?_
  refine lv_aload_n hx hb d_AN_init_10 rfl (lv_at hl 2 rfl) ?_
  refine mw_put K hI gp_AN_15_cTM (Or.inr hin) f0 rfl rfl (by simp) d_AN_init_11 (fun H locs hI => ?_)
  rw [mw_uu] at hI
  have hI : mw_I D mk_cl w s.heap (mw_up w b (.inr (cTM, [.ref p1, .ref p2, .int 0, .int 0, .int 0, .int 0, .null, .null, .int 0, .int 0, .int 0]))) H locs := hI
  have f0 : (mw_up w b (.inr (cTM, [.ref p1, .ref p2, .int 0, .int 0, .int 0, .int 0, .null, .null, .int 0, .int 0, .int 0]))) b = some (.inr (cTM, [.ref p1, .ref p2, .int 0, .int 0, .int 0, .int 0, .null, .null, .int 0, .int 0, .int 0])) := mw_up_s _ _ _
  refine lv_aload_n hx hb d_AN_init_14 rfl (lv_at hl 0 rfl) ?_
  refine lv_iload_n hx hb d_AN_init_15 rfl (lv_at hl 3 rfl) ?_
  refine mw_put K hI gp_AN_18_cTM (Or.inr hin) f0 rfl rfl (by simp) d_AN_init_16 (fun H locs hI => ?_)
  rw [mw_uu] at hI
  have hI : mw_I D mk_cl w s.heap (mw_up w b (.inr (cTM, [.ref p1, .ref p2, .int v, .int 0, .int 0, .int 0, .null, .null, .int 0, .int 0, .int 0]))) H locs := hI
  have f0 : (mw_up w b (.inr (cTM, [.ref p1, .ref p2, .int v, .int 0, .int 0, .int 0, .null, .null, .int 0, .int 0, .int 0]))) b = some (.inr (cTM, [.ref p1, .ref p2, .int v, .int 0, .int 0, .int 0, .null, .null, .int 0, .int 0, .int 0])) := mw_up_s _ _ _
  exact mw_vret K hI hr hlk ⟨rfl, rfl⟩ d_AN_init_19
set_option maxRecDepth 100000 in
set_option maxHeartbeats 4000000 in
theorem c_AN_init_RM (l : Launch) (D : va_G) (dA : Nat → ClassId) {w : mw_W} {b p1 p2 : Nat} {v : Int32} (f0 : w b = some (.inr (cRM, [.null, .null, .int 0, .int 0, .long 0, .long 0, .int 0, .int 0]))) : CT l D dA y_AN_init (Cond.code y_AN_init b_AN_init 4 none :: Ts) 1 14 0 0 [.ref b, .ref p1, .ref p2, .int v] w (fun r w' => r = .inl none ∧ w' = mw_up w b (.inr (cRM, [.ref p1, .ref p2, .int v, .int 0, .long 0, .long 0, .int 0, .int 0]))) := by
  refine mw_meth (by decide) mk_tb (Nat.le_of_ble_eq_true rfl) ?_
  intro p e s m below meth c K hr hlk hce hnm hP0 hSy ls hl
  have hl : lv_has ls 4 [(0, .ref b), (1, .ref p1), (2, .ref p2), (3, .int v)] := hl
  obtain ⟨hx, hb, hml, hown, hts, hK, hTb⟩ := id K
  have hI := mw_I.start hP0
  have hin : meth.name = "<init>" := hnm
  refine lv_aload_n hx hb d_AN_init_0 rfl (lv_at hl 0 rfl) ?_
  refine W.objInit hx hb hown (hts _ tw_239) (hts _ tw_43) (hts _ tw_44) rfl (by rw [hml]; exact hl.1) rfl d_AN_init_1 (Nat.le_of_ble_eq_true rfl) (Nat.le_of_ble_eq_true rfl) ?_
  refine W.eq (g2 := F0 m 4 ls []) rfl ?_
  refine lv_aload_n hx hb d_AN_init_4 rfl (lv_at hl 0 rfl) ?_
  refine lv_aload_n hx hb d_AN_init_5 rfl (lv_at hl 1 rfl) ?_
  refine mw_put K hI gp_AN_9_cRM (Or.inr hin) f0 rfl rfl (by simp) d_AN_init_6 (fun H locs hI => ?_)
  have hI : mw_I D mk_cl w s.heap (mw_up w b (.inr (cRM, [.ref p1, .null, .int 0, .int 0, .long 0, .long 0, .int 0, .int 0]))) H locs := hI
  have f0 : (mw_up w b (.inr (cRM, [.ref p1, .null, .int 0, .int 0, .long 0, .long 0, .int 0, .int 0]))) b = some (.inr (cRM, [.ref p1, .null, .int 0, .int 0, .long 0, .long 0, .int 0, .int 0])) := mw_up_s _ _ _
  refine lv_aload_n hx hb d_AN_init_9 rfl (lv_at hl 0 rfl) ?_
  refine lv_aload_n hx hb d_AN_init_10 rfl (lv_at hl 2 rfl) ?_
  refine mw_put K hI gp_AN_15_cRM (Or.inr hin) f0 rfl rfl (by simp) d_AN_init_11 (fun H locs hI => ?_)
  rw [mw_uu] at hI
  have hI : mw_I D mk_cl w s.heap (mw_up w b (.inr (cRM, [.ref p1, .ref p2, .int 0, .int 0, .long 0, .long 0, .int 0, .int 0]))) H locs := hI
  have f0 : (mw_up w b (.inr (cRM, [.ref p1, .ref p2, .int 0, .int 0, .long 0, .long 0, .int 0, .int 0]))) b = some (.inr (cRM, [.ref p1, .ref p2, .int 0, .int 0, .long 0, .long 0, .int 0, .int 0])) := mw_up_s _ _ _
  refine lv_aload_n hx hb d_AN_init_14 rfl (lv_at hl 0 rfl) ?_
  refine lv_iload_n hx hb d_AN_init_15 rfl (lv_at hl 3 rfl) ?_
  refine mw_put K hI gp_AN_18_cRM (Or.inr hin) f0 rfl rfl (by simp) d_AN_init_16 (fun H locs hI => ?_)
  rw [mw_uu] at hI
  have hI : mw_I D mk_cl w s.heap (mw_up w b (.inr (cRM, [.ref p1, .ref p2, .int v, .int 0, .long 0, .long 0, .int 0, .int 0]))) H locs := hI
  have f0 : (mw_up w b (.inr (cRM, [.ref p1, .ref p2, .int v, .int 0, .long 0, .long 0, .int 0, .int 0]))) b = some (.inr (cRM, [.ref p1, .ref p2, .int v, .int 0, .long 0, .long 0, .int 0, .int 0])) := mw_up_s _ _ _
  exact mw_vret K hI hr hlk ⟨rfl, rfl⟩ d_AN_init_19
