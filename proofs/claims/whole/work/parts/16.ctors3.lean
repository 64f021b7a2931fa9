/-! ### TableMap(), MapStore() -/
set_option maxRecDepth 100000 in
set_option maxHeartbeats 4000000 in
theorem c_TM_init (l : Launch) (D : va_G) (dA : Nat → ClassId) {w : mw_W} {b p1 p2 kz n : Nat} {v k2 : Int32} (f0 : w b = some (.inr (cTM, [.null, .null, .int 0, .int 0, .int 0, .int 0, .null, .null, .int 0, .int 0, .int 0]))) (hkz : kz ≤ 64) (hn : n ≤ 4096) : CT l D dA y_TM_init (Cond.code y_TM_init b_TM_init 7 none :: Ts) 3 70 3 (n + 2 + (kz + 7) / 8) [.ref b, .ref p1, .ref p2, .int v, .int (nI kz), .int k2, .int (nI n)] w (fun r w' => r = .inl none ∧ ∃ ka ak ax, w ka = none ∧ w ak = none ∧ w ax = none ∧ w' b = some (.inr (cTM, [.ref p1, .ref p2, .int v, .int (nI kz), .int k2, .int (nI n), .ref ka, .ref ak, .int (nI 0), .int (nI 0), .int (nI 0)])) ∧ w' ka = some (.inl (dA tBY, n, .inr (.inr (.inr (.inr (fun _ => none)))))) ∧ by_ok dA w' ak ax kz (fun _ => 0) ∧ ∀ (q : Nat) (y : va_E), w q = some y → q ≠ b → w' q = some y) := by
  refine mw_meth (by decide) mk_tb (Nat.le_of_ble_eq_true rfl) ?_
  intro p e s m below meth c K hr hlk hce hnm hP0 hSy ls hl
  have hl : lv_has ls 7 [(0, .ref b), (1, .ref p1), (2, .ref p2), (3, .int v), (4, .int (nI kz)), (5, .int k2), (6, .int (nI n))] := hl
  obtain ⟨hx, hb, hml, hown, hts, hK, hTb⟩ := id K
  have hI := mw_I.start hP0
  have hin : meth.name = "<init>" := hnm
  have hF : ∀ (q : Nat) (y : va_E), w q = some y → q ≠ b → w q = some y := fun q y h1 _ => h1
  refine lv_aload_n hx hb d_TM_init_0 rfl (lv_at hl 0 rfl) ?_
  refine lv_aload_n hx hb d_TM_init_1 rfl (lv_at hl 1 rfl) ?_
  refine lv_aload_n hx hb d_TM_init_2 rfl (lv_at hl 2 rfl) ?_
  refine lv_iload_n hx hb d_TM_init_3 rfl (lv_at hl 3 rfl) ?_
  refine lv_iload hx hb d_TM_init_4 (lv_at hl 4 rfl) ?_
  refine lv_iload hx hb d_TM_init_6 (lv_at hl 5 rfl) ?_
  refine lv_iload hx hb d_TM_init_8 (lv_at hl 6 rfl) ?_
  refine mw_call (rest := []) K hSy hP0 hI (c_EM_init_TM l D dA f0) (mx_invI hx hown rfl (hts _ tw_287) (hts _ tw_234) (hts _ tw_235) (by decide) (g := F0 m 10 ls [.int (nI n), .int k2, .int (nI kz), .int v, .ref p2, .ref p1, .ref b]) rfl (a := b) (argsL := [.ref p1, .ref p2, .int v, .int (nI kz), .int k2, .int (nI n)]) (rest := []) np_EM_init rfl (by rw [hb]; exact d_TM_init_10)) hl.1 d_TM_init_10 ⟨Nat.le_of_ble_eq_true rfl, Nat.le_of_ble_eq_true rfl⟩ (Or.inl ⟨_, _, List.mem_cons_self⟩) (mk_ws tw_235 hts) (fun a9 U9 h9 => Ts_warm hts _ tw_31 a9 U9 h9) ⟨Nat.le_of_ble_eq_true rfl, by dsimp only; omega⟩ (fun v w' H locs hq hI => ?_) (fun k x w' H locs hq hI hX => ?_)
  · obtain ⟨hq1, hq2⟩ := hq
    cases hq1
    rw [hq2] at hI
    refine W.eq (g2 := F0 m 13 ls []) rfl ?_
    have hI : mw_I D mk_cl w s.heap (mw_up w b (.inr (cTM, [.ref p1, .ref p2, .int v, .int (nI kz), .int k2, .int (nI n), .null, .null, .int 0, .int 0, .int 0]))) H _ := hI
    have hF : ∀ (q : Nat) (y : va_E), w q = some y → q ≠ b → (mw_up w b (.inr (cTM, [.ref p1, .ref p2, .int v, .int (nI kz), .int k2, .int (nI n), .null, .null, .int 0, .int 0, .int 0]))) q = some y := fun q y h1 h2 => by rw [mw_up_n _ _ (h2)]; exact hF q y h1 h2
    have f0 : (mw_up w b (.inr (cTM, [.ref p1, .ref p2, .int v, .int (nI kz), .int k2, .int (nI n), .null, .null, .int 0, .int 0, .int 0]))) b = some (.inr (cTM, [.ref p1, .ref p2, .int v, .int (nI kz), .int k2, .int (nI n), .null, .null, .int 0, .int 0, .int 0])) := mw_up_s _ _ _
    generalize (mw_up w b (.inr (cTM, [.ref p1, .ref p2, .int v, .int (nI kz), .int k2, .int (nI n), .null, .null, .int 0, .int 0, .int 0]))) = wm1 at hI  hF f0
    refine lv_aload_n hx hb d_TM_init_13 rfl (lv_at hl 0 rfl) ?_
    refine lv_iconst (v := nI 0) hx hb d_TM_init_14 (by decide) ?_
    refine mw_put K hI gp_TM_9_cTM (Or.inl ⟨_, rfl, rfl⟩) f0 rfl rfl (by simp) d_TM_init_15 (fun H locs hI => ?_)
    have hI : mw_I D mk_cl w s.heap (mw_up wm1 b (.inr (cTM, [.ref p1, .ref p2, .int v, .int (nI kz), .int k2, .int (nI n), .null, .null, .int (nI 0), .int 0, .int 0]))) H _ := hI
    have hF : ∀ (q : Nat) (y : va_E), w q = some y → q ≠ b → (mw_up wm1 b (.inr (cTM, [.ref p1, .ref p2, .int v, .int (nI kz), .int k2, .int (nI n), .null, .null, .int (nI 0), .int 0, .int 0]))) q = some y := fun q y h1 h2 => by rw [mw_up_n _ _ (h2)]; exact hF q y h1 h2
    have f0 : (mw_up wm1 b (.inr (cTM, [.ref p1, .ref p2, .int v, .int (nI kz), .int k2, .int (nI n), .null, .null, .int (nI 0), .int 0, .int 0]))) b = some (.inr (cTM, [.ref p1, .ref p2, .int v, .int (nI kz), .int k2, .int (nI n), .null, .null, .int (nI 0), .int 0, .int 0])) := mw_up_s _ _ _
    generalize (mw_up wm1 b (.inr (cTM, [.ref p1, .ref p2, .int v, .int (nI kz), .int k2, .int (nI n), .null, .null, .int (nI 0), .int 0, .int 0]))) = wm2 at hI  hF f0
    refine lv_aload_n hx hb d_TM_init_18 rfl (lv_at hl 0 rfl) ?_
    refine lv_iconst (v := nI 0) hx hb d_TM_init_19 (by decide) ?_
    refine mw_put K hI gp_TM_15_cTM (Or.inl ⟨_, rfl, rfl⟩) f0 rfl rfl (by simp) d_TM_init_20 (fun H locs hI => ?_)
    have hI : mw_I D mk_cl w s.heap (mw_up wm2 b (.inr (cTM, [.ref p1, .ref p2, .int v, .int (nI kz), .int k2, .int (nI n), .null, .null, .int (nI 0), .int (nI 0), .int 0]))) H _ := hI
    have hF : ∀ (q : Nat) (y : va_E), w q = some y → q ≠ b → (mw_up wm2 b (.inr (cTM, [.ref p1, .ref p2, .int v, .int (nI kz), .int k2, .int (nI n), .null, .null, .int (nI 0), .int (nI 0), .int 0]))) q = some y := fun q y h1 h2 => by rw [mw_up_n _ _ (h2)]; exact hF q y h1 h2
    have f0 : (mw_up wm2 b (.inr (cTM, [.ref p1, .ref p2, .int v, .int (nI kz), .int k2, .int (nI n), .null, .null, .int (nI 0), .int (nI 0), .int 0]))) b = some (.inr (cTM, [.ref p1, .ref p2, .int v, .int (nI kz), .int k2, .int (nI n), .null, .null, .int (nI 0), .int (nI 0), .int 0])) := mw_up_s _ _ _
    generalize (mw_up wm2 b (.inr (cTM, [.ref p1, .ref p2, .int v, .int (nI kz), .int k2, .int (nI n), .null, .null, .int (nI 0), .int (nI 0), .int 0]))) = wm3 at hI  hF f0
    refine lv_aload_n hx hb d_TM_init_23 rfl (lv_at hl 0 rfl) ?_
    refine lv_iconst (v := nI 0) hx hb d_TM_init_24 (by decide) ?_
    refine mw_put K hI gp_TM_18_cTM (Or.inl ⟨_, rfl, rfl⟩) f0 rfl rfl (by simp) d_TM_init_25 (fun H locs hI => ?_)
    have hI : mw_I D mk_cl w s.heap (mw_up wm3 b (.inr (cTM, [.ref p1, .ref p2, .int v, .int (nI kz), .int k2, .int (nI n), .null, .null, .int (nI 0), .int (nI 0), .int (nI 0)]))) H _ := hI
    have hF : ∀ (q : Nat) (y : va_E), w q = some y → q ≠ b → (mw_up wm3 b (.inr (cTM, [.ref p1, .ref p2, .int v, .int (nI kz), .int k2, .int (nI n), .null, .null, .int (nI 0), .int (nI 0), .int (nI 0)]))) q = some y := fun q y h1 h2 => by rw [mw_up_n _ _ (h2)]; exact hF q y h1 h2
    have f0 : (mw_up wm3 b (.inr (cTM, [.ref p1, .ref p2, .int v, .int (nI kz), .int k2, .int (nI n), .null, .null, .int (nI 0), .int (nI 0), .int (nI 0)]))) b = some (.inr (cTM, [.ref p1, .ref p2, .int v, .int (nI kz), .int k2, .int (nI n), .null, .null, .int (nI 0), .int (nI 0), .int (nI 0)])) := mw_up_s _ _ _
    generalize (mw_up wm3 b (.inr (cTM, [.ref p1, .ref p2, .int v, .int (nI kz), .int k2, .int (nI n), .null, .null, .int (nI 0), .int (nI 0), .int (nI 0)]))) = wm4 at hI  hF f0
    refine lv_aload_n hx hb d_TM_init_28 rfl (lv_at hl 0 rfl) ?_
    refine lv_iload hx hb d_TM_init_29 (lv_at hl 6 rfl) ?_
    refine mw_newq K hI tBY tw_288 tw_289 rfl (nI_pos (by omega)) (nI_clamp (by omega)) (by omega) (Nat.le_of_ble_eq_true rfl) (by dsimp only; omega) d_TM_init_31 (fun ka H hq hI => ?_)
    refine W.widen (k := 1) (n := n) (by omega) (by omega) ?_
    have hq_ka := hq
    have hw_ka : w ka = none := mw_nn hF f0 hq_ka
    have hI : mw_I D mk_cl w s.heap (mw_up wm4 ka (.inl (dA tBY, n, .inr (.inr (.inr (.inr (fun _ => none))))))) H _ := hI
    have ne_b_ka : b ≠ ka := mw_neN f0 hq_ka
    have f0 : (mw_up wm4 ka (.inl (dA tBY, n, .inr (.inr (.inr (.inr (fun _ => none))))))) b = some (.inr (cTM, [.ref p1, .ref p2, .int v, .int (nI kz), .int k2, .int (nI n), .null, .null, .int (nI 0), .int (nI 0), .int (nI 0)])) := by rw [mw_up_n _ _ (ne_b_ka)]; exact f0
    have hF : ∀ (q : Nat) (y : va_E), w q = some y → q ≠ b → (mw_up wm4 ka (.inl (dA tBY, n, .inr (.inr (.inr (.inr (fun _ => none))))))) q = some y := fun q y h1 h2 => by rw [mw_up_n _ _ (mw_neN h1 hw_ka)]; exact hF q y h1 h2
    have fk : (mw_up wm4 ka (.inl (dA tBY, n, .inr (.inr (.inr (.inr (fun _ => none))))))) ka = some (.inl (dA tBY, n, .inr (.inr (.inr (.inr (fun _ => none)))))) := mw_up_s _ _ _
    generalize (mw_up wm4 ka (.inl (dA tBY, n, .inr (.inr (.inr (.inr (fun _ => none))))))) = wm5 at hI f0 hF fk
    refine mw_put K hI gp_TM_23_cTM (Or.inr hin) f0 rfl rfl (by simp) d_TM_init_34 (fun H locs hI => ?_)
    have hI : mw_I D mk_cl w s.heap (mw_up wm5 b (.inr (cTM, [.ref p1, .ref p2, .int v, .int (nI kz), .int k2, .int (nI n), .ref ka, .null, .int (nI 0), .int (nI 0), .int (nI 0)]))) H _ := hI
    have fk : (mw_up wm5 b (.inr (cTM, [.ref p1, .ref p2, .int v, .int (nI kz), .int k2, .int (nI n), .ref ka, .null, .int (nI 0), .int (nI 0), .int (nI 0)]))) ka = some (.inl (dA tBY, n, .inr (.inr (.inr (.inr (fun _ => none)))))) := by rw [mw_up_n _ _ ((ne_b_ka).symm)]; exact fk
    have hF : ∀ (q : Nat) (y : va_E), w q = some y → q ≠ b → (mw_up wm5 b (.inr (cTM, [.ref p1, .ref p2, .int v, .int (nI kz), .int k2, .int (nI n), .ref ka, .null, .int (nI 0), .int (nI 0), .int (nI 0)]))) q = some y := fun q y h1 h2 => by rw [mw_up_n _ _ (h2)]; exact hF q y h1 h2
    have f0 : (mw_up wm5 b (.inr (cTM, [.ref p1, .ref p2, .int v, .int (nI kz), .int k2, .int (nI n), .ref ka, .null, .int (nI 0), .int (nI 0), .int (nI 0)]))) b = some (.inr (cTM, [.ref p1, .ref p2, .int v, .int (nI kz), .int k2, .int (nI n), .ref ka, .null, .int (nI 0), .int (nI 0), .int (nI 0)])) := mw_up_s _ _ _
    generalize (mw_up wm5 b (.inr (cTM, [.ref p1, .ref p2, .int v, .int (nI kz), .int k2, .int (nI n), .ref ka, .null, .int (nI 0), .int (nI 0), .int (nI 0)]))) = wm6 at hI fk hF f0
    refine lv_aload_n hx hb d_TM_init_37 rfl (lv_at hl 0 rfl) ?_
    refine mw_new K hI (ci := cBY) (fs := [.int 0, .null]) rfl tw_288 tw_46 tw_22 (by decide) (Nat.le_of_ble_eq_true rfl) (by dsimp only; omega) d_TM_init_38 (fun ak H hq hI => ?_)
    refine W.widen (k := 2) (n := n + 2) (by omega) (by omega) ?_
    have hq_ak := hq
    have hw_ak : w ak = none := mw_nn hF f0 hq_ak
    have hI : mw_I D mk_cl w s.heap (mw_up wm6 ak (.inr (cBY, [.int 0, .null]))) H _ := hI
    have ne_b_ak : b ≠ ak := mw_neN f0 hq_ak
    have f0 : (mw_up wm6 ak (.inr (cBY, [.int 0, .null]))) b = some (.inr (cTM, [.ref p1, .ref p2, .int v, .int (nI kz), .int k2, .int (nI n), .ref ka, .null, .int (nI 0), .int (nI 0), .int (nI 0)])) := by rw [mw_up_n _ _ (ne_b_ak)]; exact f0
    have ne_ka_ak : ka ≠ ak := mw_neN fk hq_ak
    have fk : (mw_up wm6 ak (.inr (cBY, [.int 0, .null]))) ka = some (.inl (dA tBY, n, .inr (.inr (.inr (.inr (fun _ => none)))))) := by rw [mw_up_n _ _ (ne_ka_ak)]; exact fk
    have hF : ∀ (q : Nat) (y : va_E), w q = some y → q ≠ b → (mw_up wm6 ak (.inr (cBY, [.int 0, .null]))) q = some y := fun q y h1 h2 => by rw [mw_up_n _ _ (mw_neN h1 hw_ak)]; exact hF q y h1 h2
    have fa : (mw_up wm6 ak (.inr (cBY, [.int 0, .null]))) ak = some (.inr (cBY, [.int 0, .null])) := mw_up_s _ _ _
    generalize (mw_up wm6 ak (.inr (cBY, [.int 0, .null]))) = wm7 at hI f0 fk hF fa
    refine lv_dup hx hb d_TM_init_41 rfl ?_
    refine lv_iload hx hb d_TM_init_42 (lv_at hl 4 rfl) ?_
    refine mw_call (rest := [.ref ak, .ref b]) K hSy hP0 hI (c_BY_init l D dA fa (n := kz) (by omega)) (mx_invI hx hown rfl (hts _ tw_290) (hts _ tw_48) (hts _ tw_49) (by decide) (g := F0 m 44 ls [.int (nI kz), .ref ak, .ref ak, .ref b]) rfl (a := ak) (argsL := [.int (nI kz)]) (rest := [.ref ak, .ref b]) np_BY_init rfl (by rw [hb]; exact d_TM_init_44)) hl.1 d_TM_init_44 ⟨Nat.le_of_ble_eq_true rfl, Nat.le_of_ble_eq_true rfl⟩ (Or.inl ⟨_, _, List.mem_cons_self⟩) (mk_ws tw_49 hts) (fun a9 U9 h9 => Ts_warm hts _ tw_22 a9 U9 h9) ⟨Nat.le_of_ble_eq_true rfl, by dsimp only; omega⟩ (fun v w' H locs hq hI => ?_) (fun k x w' H locs hq hI hX => ?_)
    · obtain ⟨hq1, ax, hq2, hq3, hq4⟩ := hq
      cases hq1
      rw [hq4] at hI
      refine W.eq (g2 := F0 m 47 ls [.ref ak, .ref b]) rfl ?_
      have hq_ax := hq2
      have hw_ax : w ax = none := mw_nn hF f0 hq_ax
      have ne_b_ax : b ≠ ax := mw_neN f0 hq_ax
      have f0 : (mw_up wm7 ax (.inl (dA tJ, (kz + 7) / 8, .inr (.inl (fun _ => 0))))) b = some (.inr (cTM, [.ref p1, .ref p2, .int v, .int (nI kz), .int k2, .int (nI n), .ref ka, .null, .int (nI 0), .int (nI 0), .int (nI 0)])) := by rw [mw_up_n _ _ (ne_b_ax)]; exact f0
      have ne_ak_ax : ak ≠ ax := mw_neN fa hq_ax
      have fa : (mw_up wm7 ax (.inl (dA tJ, (kz + 7) / 8, .inr (.inl (fun _ => 0))))) ak = some (.inr (cBY, [.int 0, .null])) := by rw [mw_up_n _ _ (ne_ak_ax)]; exact fa
      have ne_ka_ax : ka ≠ ax := mw_neN fk hq_ax
      have fk : (mw_up wm7 ax (.inl (dA tJ, (kz + 7) / 8, .inr (.inl (fun _ => 0))))) ka = some (.inl (dA tBY, n, .inr (.inr (.inr (.inr (fun _ => none)))))) := by rw [mw_up_n _ _ (ne_ka_ax)]; exact fk
      have hF : ∀ (q : Nat) (y : va_E), w q = some y → q ≠ b → (mw_up wm7 ax (.inl (dA tJ, (kz + 7) / 8, .inr (.inl (fun _ => 0))))) q = some y := fun q y h1 h2 => by rw [mw_up_n _ _ (mw_neN h1 hw_ax)]; exact hF q y h1 h2
      have fx : (mw_up wm7 ax (.inl (dA tJ, (kz + 7) / 8, .inr (.inl (fun _ => 0))))) ax = some (.inl (dA tJ, (kz + 7) / 8, .inr (.inl (fun _ => 0)))) := mw_up_s _ _ _
      generalize hwm8 : (mw_up wm7 ax (.inl (dA tJ, (kz + 7) / 8, .inr (.inl (fun _ => 0))))) = wm8 at f0 fa fk hF fx
      rw [hwm8] at hI
      have hI : mw_I D mk_cl w s.heap (mw_up wm8 ak (.inr (cBY, [.int (nI kz), .ref ax]))) H _ := hI
      have f0 : (mw_up wm8 ak (.inr (cBY, [.int (nI kz), .ref ax]))) b = some (.inr (cTM, [.ref p1, .ref p2, .int v, .int (nI kz), .int k2, .int (nI n), .ref ka, .null, .int (nI 0), .int (nI 0), .int (nI 0)])) := by rw [mw_up_n _ _ (ne_b_ak)]; exact f0
      have fk : (mw_up wm8 ak (.inr (cBY, [.int (nI kz), .ref ax]))) ka = some (.inl (dA tBY, n, .inr (.inr (.inr (.inr (fun _ => none)))))) := by rw [mw_up_n _ _ (ne_ka_ak)]; exact fk
      have fx : (mw_up wm8 ak (.inr (cBY, [.int (nI kz), .ref ax]))) ax = some (.inl (dA tJ, (kz + 7) / 8, .inr (.inl (fun _ => 0)))) := by rw [mw_up_n _ _ ((ne_ak_ax).symm)]; exact fx
      have hF : ∀ (q : Nat) (y : va_E), w q = some y → q ≠ b → (mw_up wm8 ak (.inr (cBY, [.int (nI kz), .ref ax]))) q = some y := fun q y h1 h2 => by rw [mw_up_n _ _ (mw_neN h1 hw_ak)]; exact hF q y h1 h2
      have fa : (mw_up wm8 ak (.inr (cBY, [.int (nI kz), .ref ax]))) ak = some (.inr (cBY, [.int (nI kz), .ref ax])) := mw_up_s _ _ _
      generalize (mw_up wm8 ak (.inr (cBY, [.int (nI kz), .ref ax]))) = wm9 at hI f0 fk fx hF fa
      refine mw_put K hI gp_TM_30_cTM (Or.inr hin) f0 rfl rfl (by simp) d_TM_init_47 (fun H locs hI => ?_)
      have hI : mw_I D mk_cl w s.heap (mw_up wm9 b (.inr (cTM, [.ref p1, .ref p2, .int v, .int (nI kz), .int k2, .int (nI n), .ref ka, .ref ak, .int (nI 0), .int (nI 0), .int (nI 0)]))) H _ := hI
      have fa : (mw_up wm9 b (.inr (cTM, [.ref p1, .ref p2, .int v, .int (nI kz), .int k2, .int (nI n), .ref ka, .ref ak, .int (nI 0), .int (nI 0), .int (nI 0)]))) ak = some (.inr (cBY, [.int (nI kz), .ref ax])) := by rw [mw_up_n _ _ ((ne_b_ak).symm)]; exact fa
      have fk : (mw_up wm9 b (.inr (cTM, [.ref p1, .ref p2, .int v, .int (nI kz), .int k2, .int (nI n), .ref ka, .ref ak, .int (nI 0), .int (nI 0), .int (nI 0)]))) ka = some (.inl (dA tBY, n, .inr (.inr (.inr (.inr (fun _ => none)))))) := by rw [mw_up_n _ _ ((ne_b_ka).symm)]; exact fk
      have fx : (mw_up wm9 b (.inr (cTM, [.ref p1, .ref p2, .int v, .int (nI kz), .int k2, .int (nI n), .ref ka, .ref ak, .int (nI 0), .int (nI 0), .int (nI 0)]))) ax = some (.inl (dA tJ, (kz + 7) / 8, .inr (.inl (fun _ => 0)))) := by rw [mw_up_n _ _ ((ne_b_ax).symm)]; exact fx
      have hF : ∀ (q : Nat) (y : va_E), w q = some y → q ≠ b → (mw_up wm9 b (.inr (cTM, [.ref p1, .ref p2, .int v, .int (nI kz), .int k2, .int (nI n), .ref ka, .ref ak, .int (nI 0), .int (nI 0), .int (nI 0)]))) q = some y := fun q y h1 h2 => by rw [mw_up_n _ _ (h2)]; exact hF q y h1 h2
      have f0 : (mw_up wm9 b (.inr (cTM, [.ref p1, .ref p2, .int v, .int (nI kz), .int k2, .int (nI n), .ref ka, .ref ak, .int (nI 0), .int (nI 0), .int (nI 0)]))) b = some (.inr (cTM, [.ref p1, .ref p2, .int v, .int (nI kz), .int k2, .int (nI n), .ref ka, .ref ak, .int (nI 0), .int (nI 0), .int (nI 0)])) := mw_up_s _ _ _
      generalize (mw_up wm9 b (.inr (cTM, [.ref p1, .ref p2, .int v, .int (nI kz), .int k2, .int (nI n), .ref ka, .ref ak, .int (nI 0), .int (nI 0), .int (nI 0)]))) = wm10 at hI fa fk fx hF f0
      exact mw_vret K hI hr hlk ⟨rfl, ka, ak, ax, hw_ka, hw_ak, hw_ax, f0, fk, ⟨fa, fx⟩, hF⟩ d_TM_init_50
    · exact absurd hq.1 (by simp)
  · exact absurd hq.1 (by simp)
set_option maxRecDepth 100000 in
set_option maxHeartbeats 4000000 in
theorem c_MS_init (l : Launch) (D : va_G) (dA : Nat → ClassId) {w : mw_W} {b : Nat} (f0 : w b = some (.inr (cMS, [.null, .null, .null, .int 0, .int 0]))) : CT l D dA y_MS_init (Cond.code y_MS_init b_MS_init 1 none :: Ts) 2 40 5 8324 [.ref b] w (fun r w' => r = .inl none ∧ ∃ bd xd ba xa ra, w bd = none ∧ w xd = none ∧ w ba = none ∧ w xa = none ∧ w ra = none ∧ w' b = some (.inr (cMS, [.ref bd, .ref ba, .ref ra, .int (nI 0), .int (nI 0)])) ∧ by_ok dA w' bd xd 512 (fun _ => 0) ∧ by_ok dA w' ba xa 65536 (fun _ => 0) ∧ w' ra = some (.inl (dA tAN, 64, .inr (.inr (.inr (.inr (fun _ => none)))))) ∧ ∀ (q : Nat) (y : va_E), w q = some y → q ≠ b → w' q = some y) := by
  refine mw_meth (by decide) mk_tb (Nat.le_of_ble_eq_true rfl) ?_
  intro p e s m below meth c K hr hlk hce hnm hP0 hSy ls hl
  have hl : lv_has ls 1 [(0, .ref b)] := hl
  obtain ⟨hx, hb, hml, hown, hts, hK, hTb⟩ := id K
  have hI := mw_I.start hP0
  have hin : meth.name = "<init>" := hnm
  have hF : ∀ (q : Nat) (y : va_E), w q = some y → q ≠ b → w q = some y := fun q y h1 _ => h1
  refine lv_aload_n hx hb d_MS_init_0 rfl (lv_at hl 0 rfl) ?_
  refine W.objInit hx hb hown (hts _ tw_42) (hts _ tw_43) (hts _ tw_44) rfl (by rw [hml]; exact hl.1) rfl d_MS_init_1 (Nat.le_of_ble_eq_true rfl) (Nat.le_of_ble_eq_true rfl) ?_
  refine W.eq (g2 := F0 m 4 ls []) rfl ?_
  refine lv_aload_n hx hb d_MS_init_4 rfl (lv_at hl 0 rfl) ?_
  refine mw_new K hI (ci := cBY) (fs := [.int 0, .null]) rfl tw_45 tw_46 tw_22 (by decide) (Nat.le_of_ble_eq_true rfl) (Nat.le_of_ble_eq_true rfl) d_MS_init_5 (fun bd H hq hI => ?_)
  have hq_bd := hq
  have hw_bd : w bd = none := mw_nn hF f0 hq_bd
  have hI : mw_I D mk_cl w s.heap (mw_up w bd (.inr (cBY, [.int 0, .null]))) H _ := hI
  have ne_b_bd : b ≠ bd := mw_neN f0 hq_bd
  have f0 : (mw_up w bd (.inr (cBY, [.int 0, .null]))) b = some (.inr (cMS, [.null, .null, .null, .int 0, .int 0])) := by rw [mw_up_n _ _ (ne_b_bd)]; exact f0
  have hF : ∀ (q : Nat) (y : va_E), w q = some y → q ≠ b → (mw_up w bd (.inr (cBY, [.int 0, .null]))) q = some y := fun q y h1 h2 => by rw [mw_up_n _ _ (mw_neN h1 hw_bd)]; exact hF q y h1 h2
  have fd : (mw_up w bd (.inr (cBY, [.int 0, .null]))) bd = some (.inr (cBY, [.int 0, .null])) := mw_up_s _ _ _
  generalize (mw_up w bd (.inr (cBY, [.int 0, .null]))) = wm11 at hI f0 hF fd
  refine lv_dup hx hb d_MS_init_8 rfl ?_
  refine lv_sipush (v := nI 512) hx hb d_MS_init_9 (by decide) ?_
  refine mw_call (rest := [.ref bd, .ref b]) K hSy hP0 hI (c_BY_init l D dA fd (n := 512) (by omega)) (mx_invI hx hown rfl (hts _ tw_47) (hts _ tw_48) (hts _ tw_49) (by decide) (g := F0 m 12 ls [.int (nI 512), .ref bd, .ref bd, .ref b]) rfl (a := bd) (argsL := [.int (nI 512)]) (rest := [.ref bd, .ref b]) np_BY_init rfl (by rw [hb]; exact d_MS_init_12)) hl.1 d_MS_init_12 ⟨Nat.le_of_ble_eq_true rfl, Nat.le_of_ble_eq_true rfl⟩ (Or.inl ⟨_, _, List.mem_cons_self⟩) (mk_ws tw_49 hts) (fun a9 U9 h9 => Ts_warm hts _ tw_22 a9 U9 h9) ⟨Nat.le_of_ble_eq_true rfl, Nat.le_of_ble_eq_true rfl⟩ (fun v w' H locs hq hI => ?_) (fun k x w' H locs hq hI hX => ?_)
  · obtain ⟨hq1, xd, hq2, hq3, hq4⟩ := hq
    cases hq1
    rw [hq4] at hI
    refine W.eq (g2 := F0 m 15 ls [.ref bd, .ref b]) rfl ?_
    have hq_xd := hq2
    have hw_xd : w xd = none := mw_nn hF f0 hq_xd
    have ne_b_xd : b ≠ xd := mw_neN f0 hq_xd
    have f0 : (mw_up wm11 xd (.inl (dA tJ, (512 + 7) / 8, .inr (.inl (fun _ => 0))))) b = some (.inr (cMS, [.null, .null, .null, .int 0, .int 0])) := by rw [mw_up_n _ _ (ne_b_xd)]; exact f0
    have ne_bd_xd : bd ≠ xd := mw_neN fd hq_xd
    have fd : (mw_up wm11 xd (.inl (dA tJ, (512 + 7) / 8, .inr (.inl (fun _ => 0))))) bd = some (.inr (cBY, [.int 0, .null])) := by rw [mw_up_n _ _ (ne_bd_xd)]; exact fd
    have hF : ∀ (q : Nat) (y : va_E), w q = some y → q ≠ b → (mw_up wm11 xd (.inl (dA tJ, (512 + 7) / 8, .inr (.inl (fun _ => 0))))) q = some y := fun q y h1 h2 => by rw [mw_up_n _ _ (mw_neN h1 hw_xd)]; exact hF q y h1 h2
    have fxd : (mw_up wm11 xd (.inl (dA tJ, (512 + 7) / 8, .inr (.inl (fun _ => 0))))) xd = some (.inl (dA tJ, (512 + 7) / 8, .inr (.inl (fun _ => 0)))) := mw_up_s _ _ _
    generalize hwm12 : (mw_up wm11 xd (.inl (dA tJ, (512 + 7) / 8, .inr (.inl (fun _ => 0))))) = wm12 at f0 fd hF fxd
    rw [hwm12] at hI
    have hI : mw_I D mk_cl w s.heap (mw_up wm12 bd (.inr (cBY, [.int (nI 512), .ref xd]))) H _ := hI
    have f0 : (mw_up wm12 bd (.inr (cBY, [.int (nI 512), .ref xd]))) b = some (.inr (cMS, [.null, .null, .null, .int 0, .int 0])) := by rw [mw_up_n _ _ (ne_b_bd)]; exact f0
    have fxd : (mw_up wm12 bd (.inr (cBY, [.int (nI 512), .ref xd]))) xd = some (.inl (dA tJ, (512 + 7) / 8, .inr (.inl (fun _ => 0)))) := by rw [mw_up_n _ _ ((ne_bd_xd).symm)]; exact fxd
    have hF : ∀ (q : Nat) (y : va_E), w q = some y → q ≠ b → (mw_up wm12 bd (.inr (cBY, [.int (nI 512), .ref xd]))) q = some y := fun q y h1 h2 => by rw [mw_up_n _ _ (mw_neN h1 hw_bd)]; exact hF q y h1 h2
    have fd : (mw_up wm12 bd (.inr (cBY, [.int (nI 512), .ref xd]))) bd = some (.inr (cBY, [.int (nI 512), .ref xd])) := mw_up_s _ _ _
    generalize (mw_up wm12 bd (.inr (cBY, [.int (nI 512), .ref xd]))) = wm13 at hI f0 fxd hF fd
    refine mw_put K hI gp_MS_14_cMS (Or.inr hin) f0 rfl rfl (by simp) d_MS_init_15 (fun H locs hI => ?_)
    have hI : mw_I D mk_cl w s.heap (mw_up wm13 b (.inr (cMS, [.ref bd, .null, .null, .int 0, .int 0]))) H _ := hI
    have fd : (mw_up wm13 b (.inr (cMS, [.ref bd, .null, .null, .int 0, .int 0]))) bd = some (.inr (cBY, [.int (nI 512), .ref xd])) := by rw [mw_up_n _ _ ((ne_b_bd).symm)]; exact fd
    have fxd : (mw_up wm13 b (.inr (cMS, [.ref bd, .null, .null, .int 0, .int 0]))) xd = some (.inl (dA tJ, (512 + 7) / 8, .inr (.inl (fun _ => 0)))) := by rw [mw_up_n _ _ ((ne_b_xd).symm)]; exact fxd
    have hF : ∀ (q : Nat) (y : va_E), w q = some y → q ≠ b → (mw_up wm13 b (.inr (cMS, [.ref bd, .null, .null, .int 0, .int 0]))) q = some y := fun q y h1 h2 => by rw [mw_up_n _ _ (h2)]; exact hF q y h1 h2
    have f0 : (mw_up wm13 b (.inr (cMS, [.ref bd, .null, .null, .int 0, .int 0]))) b = some (.inr (cMS, [.ref bd, .null, .null, .int 0, .int 0])) := mw_up_s _ _ _
    generalize (mw_up wm13 b (.inr (cMS, [.ref bd, .null, .null, .int 0, .int 0]))) = wm14 at hI fd fxd hF f0
    refine lv_aload_n hx hb d_MS_init_18 rfl (lv_at hl 0 rfl) ?_
    refine mw_new K hI (ci := cBY) (fs := [.int 0, .null]) rfl tw_45 tw_46 tw_22 (by decide) (Nat.le_of_ble_eq_true rfl) (Nat.le_of_ble_eq_true rfl) d_MS_init_19 (fun ba H hq hI => ?_)
    have hq_ba := hq
    have hw_ba : w ba = none := mw_nn hF f0 hq_ba
    have hI : mw_I D mk_cl w s.heap (mw_up wm14 ba (.inr (cBY, [.int 0, .null]))) H _ := hI
    have ne_b_ba : b ≠ ba := mw_neN f0 hq_ba
    have f0 : (mw_up wm14 ba (.inr (cBY, [.int 0, .null]))) b = some (.inr (cMS, [.ref bd, .null, .null, .int 0, .int 0])) := by rw [mw_up_n _ _ (ne_b_ba)]; exact f0
    have ne_bd_ba : bd ≠ ba := mw_neN fd hq_ba
    have fd : (mw_up wm14 ba (.inr (cBY, [.int 0, .null]))) bd = some (.inr (cBY, [.int (nI 512), .ref xd])) := by rw [mw_up_n _ _ (ne_bd_ba)]; exact fd
    have ne_xd_ba : xd ≠ ba := mw_neN fxd hq_ba
    have fxd : (mw_up wm14 ba (.inr (cBY, [.int 0, .null]))) xd = some (.inl (dA tJ, (512 + 7) / 8, .inr (.inl (fun _ => 0)))) := by rw [mw_up_n _ _ (ne_xd_ba)]; exact fxd
    have hF : ∀ (q : Nat) (y : va_E), w q = some y → q ≠ b → (mw_up wm14 ba (.inr (cBY, [.int 0, .null]))) q = some y := fun q y h1 h2 => by rw [mw_up_n _ _ (mw_neN h1 hw_ba)]; exact hF q y h1 h2
    have fa : (mw_up wm14 ba (.inr (cBY, [.int 0, .null]))) ba = some (.inr (cBY, [.int 0, .null])) := mw_up_s _ _ _
    generalize (mw_up wm14 ba (.inr (cBY, [.int 0, .null]))) = wm15 at hI f0 fd fxd hF fa
    refine lv_dup hx hb d_MS_init_22 rfl ?_
    refine lv_ldc (v := nI 65536) hx hb hown (hts _ tw_62) d_MS_init_23 ?_
    refine mw_call (rest := [.ref ba, .ref b]) K hSy hP0 hI (c_BY_init l D dA fa (n := 65536) (by omega)) (mx_invI hx hown rfl (hts _ tw_47) (hts _ tw_48) (hts _ tw_49) (by decide) (g := F0 m 25 ls [.int (nI 65536), .ref ba, .ref ba, .ref b]) rfl (a := ba) (argsL := [.int (nI 65536)]) (rest := [.ref ba, .ref b]) np_BY_init rfl (by rw [hb]; exact d_MS_init_25)) hl.1 d_MS_init_25 ⟨Nat.le_of_ble_eq_true rfl, Nat.le_of_ble_eq_true rfl⟩ (Or.inl ⟨_, _, List.mem_cons_self⟩) (mk_ws tw_49 hts) (fun a9 U9 h9 => Ts_warm hts _ tw_22 a9 U9 h9) ⟨Nat.le_of_ble_eq_true rfl, Nat.le_of_ble_eq_true rfl⟩ (fun v w' H locs hq hI => ?_) (fun k x w' H locs hq hI hX => ?_)
    · obtain ⟨hq1, xa, hq2, hq3, hq4⟩ := hq
      cases hq1
      rw [hq4] at hI
      refine W.eq (g2 := F0 m 28 ls [.ref ba, .ref b]) rfl ?_
      have hq_xa := hq2
      have hw_xa : w xa = none := mw_nn hF f0 hq_xa
      have ne_b_xa : b ≠ xa := mw_neN f0 hq_xa
      have f0 : (mw_up wm15 xa (.inl (dA tJ, (65536 + 7) / 8, .inr (.inl (fun _ => 0))))) b = some (.inr (cMS, [.ref bd, .null, .null, .int 0, .int 0])) := by rw [mw_up_n _ _ (ne_b_xa)]; exact f0
      have ne_bd_xa : bd ≠ xa := mw_neN fd hq_xa
      have fd : (mw_up wm15 xa (.inl (dA tJ, (65536 + 7) / 8, .inr (.inl (fun _ => 0))))) bd = some (.inr (cBY, [.int (nI 512), .ref xd])) := by rw [mw_up_n _ _ (ne_bd_xa)]; exact fd
      have ne_ba_xa : ba ≠ xa := mw_neN fa hq_xa
      have fa : (mw_up wm15 xa (.inl (dA tJ, (65536 + 7) / 8, .inr (.inl (fun _ => 0))))) ba = some (.inr (cBY, [.int 0, .null])) := by rw [mw_up_n _ _ (ne_ba_xa)]; exact fa
      have ne_xd_xa : xd ≠ xa := mw_neN fxd hq_xa
      have fxd : (mw_up wm15 xa (.inl (dA tJ, (65536 + 7) / 8, .inr (.inl (fun _ => 0))))) xd = some (.inl (dA tJ, (512 + 7) / 8, .inr (.inl (fun _ => 0)))) := by rw [mw_up_n _ _ (ne_xd_xa)]; exact fxd
      have hF : ∀ (q : Nat) (y : va_E), w q = some y → q ≠ b → (mw_up wm15 xa (.inl (dA tJ, (65536 + 7) / 8, .inr (.inl (fun _ => 0))))) q = some y := fun q y h1 h2 => by rw [mw_up_n _ _ (mw_neN h1 hw_xa)]; exact hF q y h1 h2
      have fxa : (mw_up wm15 xa (.inl (dA tJ, (65536 + 7) / 8, .inr (.inl (fun _ => 0))))) xa = some (.inl (dA tJ, (65536 + 7) / 8, .inr (.inl (fun _ => 0)))) := mw_up_s _ _ _
      generalize hwm16 : (mw_up wm15 xa (.inl (dA tJ, (65536 + 7) / 8, .inr (.inl (fun _ => 0))))) = wm16 at f0 fd fa fxd hF fxa
      rw [hwm16] at hI
      have hI : mw_I D mk_cl w s.heap (mw_up wm16 ba (.inr (cBY, [.int (nI 65536), .ref xa]))) H _ := hI
      have f0 : (mw_up wm16 ba (.inr (cBY, [.int (nI 65536), .ref xa]))) b = some (.inr (cMS, [.ref bd, .null, .null, .int 0, .int 0])) := by rw [mw_up_n _ _ (ne_b_ba)]; exact f0
      have fd : (mw_up wm16 ba (.inr (cBY, [.int (nI 65536), .ref xa]))) bd = some (.inr (cBY, [.int (nI 512), .ref xd])) := by rw [mw_up_n _ _ (ne_bd_ba)]; exact fd
      have fxd : (mw_up wm16 ba (.inr (cBY, [.int (nI 65536), .ref xa]))) xd = some (.inl (dA tJ, (512 + 7) / 8, .inr (.inl (fun _ => 0)))) := by rw [mw_up_n _ _ (ne_xd_ba)]; exact fxd
      have fxa : (mw_up wm16 ba (.inr (cBY, [.int (nI 65536), .ref xa]))) xa = some (.inl (dA tJ, (65536 + 7) / 8, .inr (.inl (fun _ => 0)))) := by rw [mw_up_n _ _ ((ne_ba_xa).symm)]; exact fxa
      have hF : ∀ (q : Nat) (y : va_E), w q = some y → q ≠ b → (mw_up wm16 ba (.inr (cBY, [.int (nI 65536), .ref xa]))) q = some y := fun q y h1 h2 => by rw [mw_up_n _ _ (mw_neN h1 hw_ba)]; exact hF q y h1 h2
      have fa : (mw_up wm16 ba (.inr (cBY, [.int (nI 65536), .ref xa]))) ba = some (.inr (cBY, [.int (nI 65536), .ref xa])) := mw_up_s _ _ _
      generalize (mw_up wm16 ba (.inr (cBY, [.int (nI 65536), .ref xa]))) = wm17 at hI f0 fd fxd fxa hF fa
      refine mw_put K hI gp_MS_19_cMS (Or.inr hin) f0 rfl rfl (by simp) d_MS_init_28 (fun H locs hI => ?_)
      have hI : mw_I D mk_cl w s.heap (mw_up wm17 b (.inr (cMS, [.ref bd, .ref ba, .null, .int 0, .int 0]))) H _ := hI
      have fd : (mw_up wm17 b (.inr (cMS, [.ref bd, .ref ba, .null, .int 0, .int 0]))) bd = some (.inr (cBY, [.int (nI 512), .ref xd])) := by rw [mw_up_n _ _ ((ne_b_bd).symm)]; exact fd
      have fa : (mw_up wm17 b (.inr (cMS, [.ref bd, .ref ba, .null, .int 0, .int 0]))) ba = some (.inr (cBY, [.int (nI 65536), .ref xa])) := by rw [mw_up_n _ _ ((ne_b_ba).symm)]; exact fa
      have fxd : (mw_up wm17 b (.inr (cMS, [.ref bd, .ref ba, .null, .int 0, .int 0]))) xd = some (.inl (dA tJ, (512 + 7) / 8, .inr (.inl (fun _ => 0)))) := by rw [mw_up_n _ _ ((ne_b_xd).symm)]; exact fxd
      have fxa : (mw_up wm17 b (.inr (cMS, [.ref bd, .ref ba, .null, .int 0, .int 0]))) xa = some (.inl (dA tJ, (65536 + 7) / 8, .inr (.inl (fun _ => 0)))) := by rw [mw_up_n _ _ ((ne_b_xa).symm)]; exact fxa
      have hF : ∀ (q : Nat) (y : va_E), w q = some y → q ≠ b → (mw_up wm17 b (.inr (cMS, [.ref bd, .ref ba, .null, .int 0, .int 0]))) q = some y := fun q y h1 h2 => by rw [mw_up_n _ _ (h2)]; exact hF q y h1 h2
      have f0 : (mw_up wm17 b (.inr (cMS, [.ref bd, .ref ba, .null, .int 0, .int 0]))) b = some (.inr (cMS, [.ref bd, .ref ba, .null, .int 0, .int 0])) := mw_up_s _ _ _
      generalize (mw_up wm17 b (.inr (cMS, [.ref bd, .ref ba, .null, .int 0, .int 0]))) = wm18 at hI fd fa fxd fxa hF f0
      refine lv_aload_n hx hb d_MS_init_31 rfl (lv_at hl 0 rfl) ?_
      refine lv_bipush (v := nI 64) hx hb d_MS_init_32 (by decide) ?_
      refine mw_newq K hI tAN tw_63 tw_64 rfl (nI_pos (by omega)) (nI_clamp (by omega)) (by omega) (Nat.le_of_ble_eq_true rfl) (Nat.le_of_ble_eq_true rfl) d_MS_init_34 (fun ra H hq hI => ?_)
      have hq_ra := hq
      have hw_ra : w ra = none := mw_nn hF f0 hq_ra
      have hI : mw_I D mk_cl w s.heap (mw_up wm18 ra (.inl (dA tAN, 64, .inr (.inr (.inr (.inr (fun _ => none))))))) H _ := hI
      have ne_b_ra : b ≠ ra := mw_neN f0 hq_ra
      have f0 : (mw_up wm18 ra (.inl (dA tAN, 64, .inr (.inr (.inr (.inr (fun _ => none))))))) b = some (.inr (cMS, [.ref bd, .ref ba, .null, .int 0, .int 0])) := by rw [mw_up_n _ _ (ne_b_ra)]; exact f0
      have ne_bd_ra : bd ≠ ra := mw_neN fd hq_ra
      have fd : (mw_up wm18 ra (.inl (dA tAN, 64, .inr (.inr (.inr (.inr (fun _ => none))))))) bd = some (.inr (cBY, [.int (nI 512), .ref xd])) := by rw [mw_up_n _ _ (ne_bd_ra)]; exact fd
      have ne_ba_ra : ba ≠ ra := mw_neN fa hq_ra
      have fa : (mw_up wm18 ra (.inl (dA tAN, 64, .inr (.inr (.inr (.inr (fun _ => none))))))) ba = some (.inr (cBY, [.int (nI 65536), .ref xa])) := by rw [mw_up_n _ _ (ne_ba_ra)]; exact fa
      have ne_xd_ra : xd ≠ ra := mw_neN fxd hq_ra
      have fxd : (mw_up wm18 ra (.inl (dA tAN, 64, .inr (.inr (.inr (.inr (fun _ => none))))))) xd = some (.inl (dA tJ, (512 + 7) / 8, .inr (.inl (fun _ => 0)))) := by rw [mw_up_n _ _ (ne_xd_ra)]; exact fxd
      have ne_xa_ra : xa ≠ ra := mw_neN fxa hq_ra
      have fxa : (mw_up wm18 ra (.inl (dA tAN, 64, .inr (.inr (.inr (.inr (fun _ => none))))))) xa = some (.inl (dA tJ, (65536 + 7) / 8, .inr (.inl (fun _ => 0)))) := by rw [mw_up_n _ _ (ne_xa_ra)]; exact fxa
      have hF : ∀ (q : Nat) (y : va_E), w q = some y → q ≠ b → (mw_up wm18 ra (.inl (dA tAN, 64, .inr (.inr (.inr (.inr (fun _ => none))))))) q = some y := fun q y h1 h2 => by rw [mw_up_n _ _ (mw_neN h1 hw_ra)]; exact hF q y h1 h2
      have fr : (mw_up wm18 ra (.inl (dA tAN, 64, .inr (.inr (.inr (.inr (fun _ => none))))))) ra = some (.inl (dA tAN, 64, .inr (.inr (.inr (.inr (fun _ => none)))))) := mw_up_s _ _ _
      generalize (mw_up wm18 ra (.inl (dA tAN, 64, .inr (.inr (.inr (.inr (fun _ => none))))))) = wm19 at hI f0 fd fa fxd fxa hF fr
      refine mw_put K hI gp_MS_24_cMS (Or.inr hin) f0 rfl rfl (by simp) d_MS_init_37 (fun H locs hI => ?_)
      have hI : mw_I D mk_cl w s.heap (mw_up wm19 b (.inr (cMS, [.ref bd, .ref ba, .ref ra, .int 0, .int 0]))) H _ := hI
      have fd : (mw_up wm19 b (.inr (cMS, [.ref bd, .ref ba, .ref ra, .int 0, .int 0]))) bd = some (.inr (cBY, [.int (nI 512), .ref xd])) := by rw [mw_up_n _ _ ((ne_b_bd).symm)]; exact fd
      have fa : (mw_up wm19 b (.inr (cMS, [.ref bd, .ref ba, .ref ra, .int 0, .int 0]))) ba = some (.inr (cBY, [.int (nI 65536), .ref xa])) := by rw [mw_up_n _ _ ((ne_b_ba).symm)]; exact fa
      have fxd : (mw_up wm19 b (.inr (cMS, [.ref bd, .ref ba, .ref ra, .int 0, .int 0]))) xd = some (.inl (dA tJ, (512 + 7) / 8, .inr (.inl (fun _ => 0)))) := by rw [mw_up_n _ _ ((ne_b_xd).symm)]; exact fxd
      have fxa : (mw_up wm19 b (.inr (cMS, [.ref bd, .ref ba, .ref ra, .int 0, .int 0]))) xa = some (.inl (dA tJ, (65536 + 7) / 8, .inr (.inl (fun _ => 0)))) := by rw [mw_up_n _ _ ((ne_b_xa).symm)]; exact fxa
      have fr : (mw_up wm19 b (.inr (cMS, [.ref bd, .ref ba, .ref ra, .int 0, .int 0]))) ra = some (.inl (dA tAN, 64, .inr (.inr (.inr (.inr (fun _ => none)))))) := by rw [mw_up_n _ _ ((ne_b_ra).symm)]; exact fr
      have hF : ∀ (q : Nat) (y : va_E), w q = some y → q ≠ b → (mw_up wm19 b (.inr (cMS, [.ref bd, .ref ba, .ref ra, .int 0, .int 0]))) q = some y := fun q y h1 h2 => by rw [mw_up_n _ _ (h2)]; exact hF q y h1 h2
      have f0 : (mw_up wm19 b (.inr (cMS, [.ref bd, .ref ba, .ref ra, .int 0, .int 0]))) b = some (.inr (cMS, [.ref bd, .ref ba, .ref ra, .int 0, .int 0])) := mw_up_s _ _ _
      generalize (mw_up wm19 b (.inr (cMS, [.ref bd, .ref ba, .ref ra, .int 0, .int 0]))) = wm20 at hI fd fa fxd fxa fr hF f0
      refine lv_aload_n hx hb d_MS_init_40 rfl (lv_at hl 0 rfl) ?_
      refine lv_iconst (v := nI 0) hx hb d_MS_init_41 (by decide) ?_
      refine mw_put K hI gp_MS_28_cMS (Or.inl ⟨_, rfl, rfl⟩) f0 rfl rfl (by simp) d_MS_init_42 (fun H locs hI => ?_)
      have hI : mw_I D mk_cl w s.heap (mw_up wm20 b (.inr (cMS, [.ref bd, .ref ba, .ref ra, .int (nI 0), .int 0]))) H _ := hI
      have fd : (mw_up wm20 b (.inr (cMS, [.ref bd, .ref ba, .ref ra, .int (nI 0), .int 0]))) bd = some (.inr (cBY, [.int (nI 512), .ref xd])) := by rw [mw_up_n _ _ ((ne_b_bd).symm)]; exact fd
      have fa : (mw_up wm20 b (.inr (cMS, [.ref bd, .ref ba, .ref ra, .int (nI 0), .int 0]))) ba = some (.inr (cBY, [.int (nI 65536), .ref xa])) := by rw [mw_up_n _ _ ((ne_b_ba).symm)]; exact fa
      have fxd : (mw_up wm20 b (.inr (cMS, [.ref bd, .ref ba, .ref ra, .int (nI 0), .int 0]))) xd = some (.inl (dA tJ, (512 + 7) / 8, .inr (.inl (fun _ => 0)))) := by rw [mw_up_n _ _ ((ne_b_xd).symm)]; exact fxd
      have fxa : (mw_up wm20 b (.inr (cMS, [.ref bd, .ref ba, .ref ra, .int (nI 0), .int 0]))) xa = some (.inl (dA tJ, (65536 + 7) / 8, .inr (.inl (fun _ => 0)))) := by rw [mw_up_n _ _ ((ne_b_xa).symm)]; exact fxa
      have fr : (mw_up wm20 b (.inr (cMS, [.ref bd, .ref ba, .ref ra, .int (nI 0), .int 0]))) ra = some (.inl (dA tAN, 64, .inr (.inr (.inr (.inr (fun _ => none)))))) := by rw [mw_up_n _ _ ((ne_b_ra).symm)]; exact fr
      have hF : ∀ (q : Nat) (y : va_E), w q = some y → q ≠ b → (mw_up wm20 b (.inr (cMS, [.ref bd, .ref ba, .ref ra, .int (nI 0), .int 0]))) q = some y := fun q y h1 h2 => by rw [mw_up_n _ _ (h2)]; exact hF q y h1 h2
      have f0 : (mw_up wm20 b (.inr (cMS, [.ref bd, .ref ba, .ref ra, .int (nI 0), .int 0]))) b = some (.inr (cMS, [.ref bd, .ref ba, .ref ra, .int (nI 0), .int 0])) := mw_up_s _ _ _
      generalize (mw_up wm20 b (.inr (cMS, [.ref bd, .ref ba, .ref ra, .int (nI 0), .int 0]))) = wm21 at hI fd fa fxd fxa fr hF f0
      refine lv_aload_n hx hb d_MS_init_45 rfl (lv_at hl 0 rfl) ?_
      refine lv_iconst (v := nI 0) hx hb d_MS_init_46 (by decide) ?_
      refine mw_put K hI gp_MS_32_cMS (Or.inl ⟨_, rfl, rfl⟩) f0 rfl rfl (by simp) d_MS_init_47 (fun H locs hI => ?_)
      have hI : mw_I D mk_cl w s.heap (mw_up wm21 b (.inr (cMS, [.ref bd, .ref ba, .ref ra, .int (nI 0), .int (nI 0)]))) H _ := hI
      have fd : (mw_up wm21 b (.inr (cMS, [.ref bd, .ref ba, .ref ra, .int (nI 0), .int (nI 0)]))) bd = some (.inr (cBY, [.int (nI 512), .ref xd])) := by rw [mw_up_n _ _ ((ne_b_bd).symm)]; exact fd
      have fa : (mw_up wm21 b (.inr (cMS, [.ref bd, .ref ba, .ref ra, .int (nI 0), .int (nI 0)]))) ba = some (.inr (cBY, [.int (nI 65536), .ref xa])) := by rw [mw_up_n _ _ ((ne_b_ba).symm)]; exact fa
      have fxd : (mw_up wm21 b (.inr (cMS, [.ref bd, .ref ba, .ref ra, .int (nI 0), .int (nI 0)]))) xd = some (.inl (dA tJ, (512 + 7) / 8, .inr (.inl (fun _ => 0)))) := by rw [mw_up_n _ _ ((ne_b_xd).symm)]; exact fxd
      have fxa : (mw_up wm21 b (.inr (cMS, [.ref bd, .ref ba, .ref ra, .int (nI 0), .int (nI 0)]))) xa = some (.inl (dA tJ, (65536 + 7) / 8, .inr (.inl (fun _ => 0)))) := by rw [mw_up_n _ _ ((ne_b_xa).symm)]; exact fxa
      have fr : (mw_up wm21 b (.inr (cMS, [.ref bd, .ref ba, .ref ra, .int (nI 0), .int (nI 0)]))) ra = some (.inl (dA tAN, 64, .inr (.inr (.inr (.inr (fun _ => none)))))) := by rw [mw_up_n _ _ ((ne_b_ra).symm)]; exact fr
      have hF : ∀ (q : Nat) (y : va_E), w q = some y → q ≠ b → (mw_up wm21 b (.inr (cMS, [.ref bd, .ref ba, .ref ra, .int (nI 0), .int (nI 0)]))) q = some y := fun q y h1 h2 => by rw [mw_up_n _ _ (h2)]; exact hF q y h1 h2
      have f0 : (mw_up wm21 b (.inr (cMS, [.ref bd, .ref ba, .ref ra, .int (nI 0), .int (nI 0)]))) b = some (.inr (cMS, [.ref bd, .ref ba, .ref ra, .int (nI 0), .int (nI 0)])) := mw_up_s _ _ _
      generalize (mw_up wm21 b (.inr (cMS, [.ref bd, .ref ba, .ref ra, .int (nI 0), .int (nI 0)]))) = wm22 at hI fd fa fxd fxa fr hF f0
      refine W.widen (k := 5) (n := 8324) (by decide) (by decide) ?_
      exact mw_vret K hI hr hlk ⟨rfl, bd, xd, ba, xa, ra, hw_bd, hw_xd, hw_ba, hw_xa, hw_ra, f0, ⟨fd, fxd⟩, ⟨fa, fxa⟩, fr, hF⟩ d_MS_init_50
    · exact absurd hq.1 (by simp)
  · exact absurd hq.1 (by simp)
