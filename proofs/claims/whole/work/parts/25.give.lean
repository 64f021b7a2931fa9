/-! ### tables: giveAsked -/
theorem d_TM_giveAsked_0 : decode b_TM_giveAsked 0 = .ok (.new 21, 3) := by decide +kernel
theorem d_TM_giveAsked_3 : decode b_TM_giveAsked 3 = .ok (.dup, 1) := by decide +kernel
theorem d_TM_giveAsked_4 : decode b_TM_giveAsked 4 = .ok (.aload_n 0, 1) := by decide +kernel
theorem d_TM_giveAsked_5 : decode b_TM_giveAsked 5 = .ok (.getfield 37, 3) := by decide +kernel
theorem d_TM_giveAsked_8 : decode b_TM_giveAsked 8 = .ok (.invokespecial 27, 3) := by decide +kernel
theorem d_TM_giveAsked_11 : decode b_TM_giveAsked 11 = .ok (.astore_n 2, 1) := by decide +kernel
theorem d_TM_giveAsked_12 : decode b_TM_giveAsked 12 = .ok (.aload_n 2, 1) := by decide +kernel
theorem d_TM_giveAsked_13 : decode b_TM_giveAsked 13 = .ok (.iconst 0, 1) := by decide +kernel
theorem d_TM_giveAsked_14 : decode b_TM_giveAsked 14 = .ok (.aload_n 0, 1) := by decide +kernel
theorem d_TM_giveAsked_15 : decode b_TM_giveAsked 15 = .ok (.getfield 30, 3) := by decide +kernel
theorem d_TM_giveAsked_18 : decode b_TM_giveAsked 18 = .ok (.iconst 0, 1) := by decide +kernel
theorem d_TM_giveAsked_19 : decode b_TM_giveAsked 19 = .ok (.aload_n 0, 1) := by decide +kernel
theorem d_TM_giveAsked_20 : decode b_TM_giveAsked 20 = .ok (.getfield 37, 3) := by decide +kernel
theorem d_TM_giveAsked_23 : decode b_TM_giveAsked 23 = .ok (.invokevirtual 40, 3) := by decide +kernel
theorem d_TM_giveAsked_26 : decode b_TM_giveAsked 26 = .ok (.aload_n 0, 1) := by decide +kernel
theorem d_TM_giveAsked_27 : decode b_TM_giveAsked 27 = .ok (.getfield 23, 3) := by decide +kernel
theorem d_TM_giveAsked_30 : decode b_TM_giveAsked 30 = .ok (.iload_n 1, 1) := by decide +kernel
theorem d_TM_giveAsked_31 : decode b_TM_giveAsked 31 = .ok (.aload_n 2, 1) := by decide +kernel
theorem d_TM_giveAsked_32 : decode b_TM_giveAsked 32 = .ok (.aastore, 1) := by decide +kernel
theorem d_TM_giveAsked_33 : decode b_TM_giveAsked 33 = .ok (.aload_n 0, 1) := by decide +kernel
theorem d_TM_giveAsked_34 : decode b_TM_giveAsked 34 = .ok (.dup, 1) := by decide +kernel
theorem d_TM_giveAsked_35 : decode b_TM_giveAsked 35 = .ok (.getfield 15, 3) := by decide +kernel
theorem d_TM_giveAsked_38 : decode b_TM_giveAsked 38 = .ok (.iconst 1, 1) := by decide +kernel
theorem d_TM_giveAsked_39 : decode b_TM_giveAsked 39 = .ok (.iadd, 1) := by decide +kernel
theorem d_TM_giveAsked_40 : decode b_TM_giveAsked 40 = .ok (.putfield 15, 3) := by decide +kernel
theorem d_TM_giveAsked_43 : decode b_TM_giveAsked 43 = .ok (.aload_n 0, 1) := by decide +kernel
theorem d_TM_giveAsked_44 : decode b_TM_giveAsked 44 = .ok (.aload_n 0, 1) := by decide +kernel
theorem d_TM_giveAsked_45 : decode b_TM_giveAsked 45 = .ok (.getfield 9, 3) := by decide +kernel
theorem d_TM_giveAsked_48 : decode b_TM_giveAsked 48 = .ok (.iload_n 1, 1) := by decide +kernel
theorem d_TM_giveAsked_49 : decode b_TM_giveAsked 49 = .ok (.iconst 1, 1) := by decide +kernel
theorem d_TM_giveAsked_50 : decode b_TM_giveAsked 50 = .ok (.iadd, 1) := by decide +kernel
theorem d_TM_giveAsked_51 : decode b_TM_giveAsked 51 = .ok (.invokestatic 69, 3) := by decide +kernel
theorem d_TM_giveAsked_54 : decode b_TM_giveAsked 54 = .ok (.putfield 9, 3) := by decide +kernel
theorem d_TM_giveAsked_57 : decode b_TM_giveAsked 57 = .ok (.aload_n 0, 1) := by decide +kernel
theorem d_TM_giveAsked_58 : decode b_TM_giveAsked 58 = .ok (.iload_n 1, 1) := by decide +kernel
theorem d_TM_giveAsked_59 : decode b_TM_giveAsked 59 = .ok (.invokevirtual 44, 3) := by decide +kernel
theorem d_TM_giveAsked_62 : decode b_TM_giveAsked 62 = .ok (.iconst (-1), 1) := by decide +kernel
theorem d_TM_giveAsked_63 : decode b_TM_giveAsked 63 = .ok (.if_icmp .eq 13, 3) := by decide +kernel
theorem d_TM_giveAsked_66 : decode b_TM_giveAsked 66 = .ok (.aload_n 0, 1) := by decide +kernel
theorem d_TM_giveAsked_67 : decode b_TM_giveAsked 67 = .ok (.dup, 1) := by decide +kernel
theorem d_TM_giveAsked_68 : decode b_TM_giveAsked 68 = .ok (.getfield 18, 3) := by decide +kernel
theorem d_TM_giveAsked_71 : decode b_TM_giveAsked 71 = .ok (.iconst 1, 1) := by decide +kernel
theorem d_TM_giveAsked_72 : decode b_TM_giveAsked 72 = .ok (.iadd, 1) := by decide +kernel
theorem d_TM_giveAsked_73 : decode b_TM_giveAsked 73 = .ok (.putfield 18, 3) := by decide +kernel
theorem d_TM_giveAsked_76 : decode b_TM_giveAsked 76 = .ok (.return_, 1) := by decide +kernel
theorem d_TM_entryForMissing_0 : decode b_TM_entryForMissing 0 = .ok (.iload_n 1, 1) := by decide +kernel
theorem d_TM_entryForMissing_1 : decode b_TM_entryForMissing 1 = .ok (.iconst 2, 1) := by decide +kernel
theorem d_TM_entryForMissing_2 : decode b_TM_entryForMissing 2 = .ok (.if_icmp .ne 6, 3) := by decide +kernel
theorem d_TM_entryForMissing_5 : decode b_TM_entryForMissing 5 = .ok (.bipush (-2), 2) := by decide +kernel
theorem d_TM_entryForMissing_7 : decode b_TM_entryForMissing 7 = .ok (.ireturn, 1) := by decide +kernel
theorem d_TM_entryForMissing_8 : decode b_TM_entryForMissing 8 = .ok (.aload_n 0, 1) := by decide +kernel
theorem d_TM_entryForMissing_9 : decode b_TM_entryForMissing 9 = .ok (.invokevirtual 48, 3) := by decide +kernel
theorem d_TM_entryForMissing_12 : decode b_TM_entryForMissing 12 = .ok (.istore_n 2, 1) := by decide +kernel
theorem d_TM_entryForMissing_13 : decode b_TM_entryForMissing 13 = .ok (.iload_n 2, 1) := by decide +kernel
theorem d_TM_entryForMissing_14 : decode b_TM_entryForMissing 14 = .ok (.iconst (-1), 1) := by decide +kernel
theorem d_TM_entryForMissing_15 : decode b_TM_entryForMissing 15 = .ok (.if_icmp .ne 6, 3) := by decide +kernel
theorem d_TM_entryForMissing_18 : decode b_TM_entryForMissing 18 = .ok (.bipush (-7), 2) := by decide +kernel
theorem d_TM_entryForMissing_20 : decode b_TM_entryForMissing 20 = .ok (.ireturn, 1) := by decide +kernel
theorem d_TM_entryForMissing_21 : decode b_TM_entryForMissing 21 = .ok (.aload_n 0, 1) := by decide +kernel
theorem d_TM_entryForMissing_22 : decode b_TM_entryForMissing 22 = .ok (.iload_n 2, 1) := by decide +kernel
theorem d_TM_entryForMissing_23 : decode b_TM_entryForMissing 23 = .ok (.invokevirtual 52, 3) := by decide +kernel
theorem d_TM_entryForMissing_26 : decode b_TM_entryForMissing 26 = .ok (.iload_n 2, 1) := by decide +kernel
theorem d_TM_entryForMissing_27 : decode b_TM_entryForMissing 27 = .ok (.ireturn, 1) := by decide +kernel
theorem mw_nn2 {w M : mw_W} {a b c : Nat} {z z2 : va_E} (F : ∀ (q : Nat) (y : va_E), w q = some y → q ≠ b → q ≠ c → M q = some y) (hb : M b = some z) (hc : M c = some z2) (hq : M a = none) : w a = none := by
  cases h : w a with
  | none => rfl
  | some y =>
    exfalso
    by_cases e : a = b
    · subst e; rw [hb] at hq; cases hq
    · by_cases e2 : a = c
      · subst e2; rw [hc] at hq; cases hq
      · rw [F a y h e e2] at hq; cases hq
theorem by_l.z (k : Nat) : ∀ j, k ≤ j → j < (k + 7) / 8 * 8 → bw_b (fun _ => (0 : Int64)) j = 0 := fun j _ _ => by
  show (0 : Int64).toUInt64.toNat / 2 ^ (8 * (j % 8)) % 256 = 0
  rw [show (0 : Int64).toUInt64.toNat = 0 from rfl, Nat.zero_div]
theorem tb_n_le (t : Nat → Option (List Nat)) : ∀ n, tb_n t n ≤ n
  | 0 => Nat.le_refl _
  | n + 1 => by have := tb_n_le t n; rw [tb_n]; split <;> omega
theorem tb_n_up (t : Nat → Option (List Nat)) {e : Nat} (k : List Nat) (he : t e = none) : ∀ {n}, e < n → tb_n (va_up t e (some k)) n = tb_n t n + 1
  | 0, h => absurd h (by omega)
  | n + 1, h => by
    rw [tb_n, tb_n]
    by_cases q : e < n
    · rw [tb_n_up t k he q, va_up_ne _ _ (by omega)]; omega
    · have e1 : e = n := by omega
      subst e1
      rw [va_up_self, he, tb_n_lo t _ (Nat.le_refl e)]; rfl
where tb_n_lo (t : Nat → Option (List Nat)) {e : Nat} (v : Option (List Nat)) : ∀ {n}, n ≤ e → tb_n (va_up t e v) n = tb_n t n
  | 0, _ => rfl
  | n + 1, h => by rw [tb_n, tb_n, tb_n_lo t v (by omega), va_up_ne _ _ (by omega)]
set_option maxRecDepth 100000 in
set_option maxHeartbeats 4000000 in
theorem c_TM_giveAsked (l : Launch) (D : va_G) (dA : Nat → ClassId) {w : mw_W} {own : as_W} {x bd xd ba xa ra : Nat} {mp : Nat → Nat} {gd ga : Nat → Int64} {S : as_S} {t : Nat} (hA : rc_A dA w own x bd xd ba xa ra mp gd ga S) (hW : wf_S t S) {i : Nat} (hi : i < nm S) (hk1 : kd (mm S i) = 1) {e0 : Nat} (he0 : e0 < en (mm S i)) (ht0 : tb (mm S i) e0 = none) (hno : ∀ e', tb (mm S i) e' ≠ some (aq (mm S i))) : CT l D dA y_TM_giveAsked (Cond.code y_TM_giveAsked b_TM_giveAsked 3 none :: Ts) 3 80 2 10 [.ref (mp i), .int (nI e0)] w (fun r w' => r = .inl none ∧ ∃ own', rc_A dA w' own' x bd xd ba xa ra mp gd ga (S_mm S i (M_tb (mm S i) (va_up (tb (mm S i)) e0 (some (aq (mm S i)))))) ∧ Fr w own w' own') := by
  refine mw_meth (by decide) mk_tb (Nat.le_of_ble_eq_true rfl) ?_
  intro p e s m below meth c K hr hlk hce hnm hP0 hSy ls hl
  have hl : lv_has ls 3 [(0, .ref (mp i)), (1, .int (nI e0))] := hl
  obtain ⟨hx, hb, hml, hown, hts, hK, hTb⟩ := id K
  have hI := mw_I.start hP0
  obtain ⟨⟨o1, o2, o3, o4, fx, fd, fa, fr, hdk, har⟩, hM⟩ := id hA
  obtain ⟨-, hwf⟩ := hW.2.2.2.2.2 i hi
  have hM0 := hM i hi
  generalize em : mm S i = mi at *
  generalize ea : mp i = a at *
  obtain ⟨om, ⟨k0, -⟩ | ⟨k0, ka, ak, ax, rch, gk, f, f0, oka, oax, fk, hbl, f1, hr1, hn1, hs1⟩ | ⟨k0, -⟩⟩ := hM0
  · rw [hk1] at k0; cases k0
  · rcases hwf with ⟨k2, -⟩ | ⟨-, b1, b2, b3, b4, b5, b6, b7, b8, b9, b10⟩ | ⟨k2, -⟩
    · rw [hk1] at k2; cases k2
    · obtain ⟨fk1, fk2⟩ := id fk
      have hkaax : ka ≠ ax := own_ne oka oax (by simp)
      have htn := tb_n_le (tb mi) (en mi)
      have f0_0 := f0
      have f1_0 := f1
      have hF : ∀ (q : Nat) (y : va_E), w q = some y → q ≠ a → q ≠ ka → w q = some y := fun q y h1 _ _ => h1
      refine mw_new K hI (ci := cBY) (fs := [.int 0, .null]) rfl tw_288 tw_46 tw_22 (by decide) (Nat.le_of_ble_eq_true rfl) (Nat.le_of_ble_eq_true rfl) d_TM_giveAsked_0 (fun kb H hq hI => ?_)
      have hq_kb := hq
      have hw_kb : w kb = none := mw_nn2 hF f0 f1 hq_kb
      have hI : mw_I D mk_cl w s.heap (mw_up w kb (.inr (cBY, [.int 0, .null]))) H _ := hI
      have ne_a_kb : a ≠ kb := mw_neN f0 hq_kb
      have f0 : (mw_up w kb (.inr (cBY, [.int 0, .null]))) a = some (.inr (cTM, [.ref bd, .ref ba, .int (nI (bg mi)), .int (nI (ks mi)), .int (nI (vs mi)), .int (nI (en mi)), .ref ka, .ref ak, .int (nI rch), .int (nI (tb_n (tb mi) (en mi))), .int (nI 0)])) := by rw [mw_up_n _ _ (ne_a_kb)]; exact f0
      have ne_ak_kb : ak ≠ kb := mw_neN fk1 hq_kb
      have fk1 : (mw_up w kb (.inr (cBY, [.int 0, .null]))) ak = some (.inr (cBY, [.int (nI (ks mi)), .ref ax])) := by rw [mw_up_n _ _ (ne_ak_kb)]; exact fk1
      have ne_ka_kb : ka ≠ kb := mw_neN f1 hq_kb
      have f1 : (mw_up w kb (.inr (cBY, [.int 0, .null]))) ka = some (.inl (dA tBY, en mi, .inr (.inr (.inr (.inr (f)))))) := by rw [mw_up_n _ _ (ne_ka_kb)]; exact f1
      have ne_ax_kb : ax ≠ kb := mw_neN fk2 hq_kb
      have fk2 : (mw_up w kb (.inr (cBY, [.int 0, .null]))) ax = some (.inl (dA tJ, (ks mi + 7) / 8, .inr (.inl (gk)))) := by rw [mw_up_n _ _ (ne_ax_kb)]; exact fk2
      have hF : ∀ (q : Nat) (y : va_E), w q = some y → q ≠ a → q ≠ ka → (mw_up w kb (.inr (cBY, [.int 0, .null]))) q = some y := fun q y h1 h2 h3 => by rw [mw_up_n _ _ (mw_neN h1 hw_kb)]; exact hF q y h1 h2 h3
      have fb : (mw_up w kb (.inr (cBY, [.int 0, .null]))) kb = some (.inr (cBY, [.int 0, .null])) := mw_up_s _ _ _
      generalize (mw_up w kb (.inr (cBY, [.int 0, .null]))) = wm1 at hI f0 fk1 f1 fk2 hF fb
      refine lv_dup hx hb d_TM_giveAsked_3 rfl ?_
      refine lv_aload_n hx hb d_TM_giveAsked_4 rfl (lv_at hl 0 rfl) ?_
      refine mw_get K hI gf_TM_37_cTM f0 rfl d_TM_giveAsked_5 ?_
      refine mw_call (rest := [.ref kb]) K hSy hP0 hI (c_BY_init l D dA fb (n := ks mi) (by omega)) (mx_invI hx hown rfl (hts _ tw_290) (hts _ tw_48) (hts _ tw_49) (by decide) (g := F0 m 8 ls [.int (nI (ks mi)), .ref kb, .ref kb]) rfl (a := kb) (argsL := [.int (nI (ks mi))]) (rest := [.ref kb]) np_BY_init rfl (by rw [hb]; exact d_TM_giveAsked_8)) hl.1 d_TM_giveAsked_8 ⟨Nat.le_of_ble_eq_true rfl, Nat.le_of_ble_eq_true rfl⟩ (Or.inl ⟨_, _, List.mem_cons_self⟩) (mk_ws tw_49 hts) (fun a9 U9 h9 => Ts_warm hts _ tw_22 a9 U9 h9) ⟨Nat.le_of_ble_eq_true rfl, by dsimp only; omega⟩ (fun v w' H locs hq hI => ?_) (fun k x w' H locs hq hI hX => ?_)
      · obtain ⟨hq1, kx, hq2, hq3, hq4⟩ := hq
        cases hq1
        rw [hq4] at hI
        refine W.widen (k := 2) (n := 10) (by omega) (by omega) ?_
        refine W.eq (g2 := F0 m 11 ls [.ref kb]) rfl ?_
        have hq_kx := hq2
        have hw_kx : w kx = none := mw_nn2 hF f0 f1 hq_kx
        have ne_a_kx : a ≠ kx := mw_neN f0 hq_kx
        have f0 : (mw_up wm1 kx (.inl (dA tJ, (ks mi + 7) / 8, .inr (.inl (fun _ => 0))))) a = some (.inr (cTM, [.ref bd, .ref ba, .int (nI (bg mi)), .int (nI (ks mi)), .int (nI (vs mi)), .int (nI (en mi)), .ref ka, .ref ak, .int (nI rch), .int (nI (tb_n (tb mi) (en mi))), .int (nI 0)])) := by rw [mw_up_n _ _ (ne_a_kx)]; exact f0
        have ne_ak_kx : ak ≠ kx := mw_neN fk1 hq_kx
        have fk1 : (mw_up wm1 kx (.inl (dA tJ, (ks mi + 7) / 8, .inr (.inl (fun _ => 0))))) ak = some (.inr (cBY, [.int (nI (ks mi)), .ref ax])) := by rw [mw_up_n _ _ (ne_ak_kx)]; exact fk1
        have ne_kb_kx : kb ≠ kx := mw_neN fb hq_kx
        have fb : (mw_up wm1 kx (.inl (dA tJ, (ks mi + 7) / 8, .inr (.inl (fun _ => 0))))) kb = some (.inr (cBY, [.int 0, .null])) := by rw [mw_up_n _ _ (ne_kb_kx)]; exact fb
        have ne_ka_kx : ka ≠ kx := mw_neN f1 hq_kx
        have f1 : (mw_up wm1 kx (.inl (dA tJ, (ks mi + 7) / 8, .inr (.inl (fun _ => 0))))) ka = some (.inl (dA tBY, en mi, .inr (.inr (.inr (.inr (f)))))) := by rw [mw_up_n _ _ (ne_ka_kx)]; exact f1
        have ne_ax_kx : ax ≠ kx := mw_neN fk2 hq_kx
        have fk2 : (mw_up wm1 kx (.inl (dA tJ, (ks mi + 7) / 8, .inr (.inl (fun _ => 0))))) ax = some (.inl (dA tJ, (ks mi + 7) / 8, .inr (.inl (gk)))) := by rw [mw_up_n _ _ (ne_ax_kx)]; exact fk2
        have hF : ∀ (q : Nat) (y : va_E), w q = some y → q ≠ a → q ≠ ka → (mw_up wm1 kx (.inl (dA tJ, (ks mi + 7) / 8, .inr (.inl (fun _ => 0))))) q = some y := fun q y h1 h2 h3 => by rw [mw_up_n _ _ (mw_neN h1 hw_kx)]; exact hF q y h1 h2 h3
        have fkx : (mw_up wm1 kx (.inl (dA tJ, (ks mi + 7) / 8, .inr (.inl (fun _ => 0))))) kx = some (.inl (dA tJ, (ks mi + 7) / 8, .inr (.inl (fun _ => 0)))) := mw_up_s _ _ _
        generalize hwm2 : (mw_up wm1 kx (.inl (dA tJ, (ks mi + 7) / 8, .inr (.inl (fun _ => 0))))) = wm2 at f0 fk1 fb f1 fk2 hF fkx
        rw [hwm2] at hI
        have hI : mw_I D mk_cl w s.heap (mw_up wm2 kb (.inr (cBY, [.int (nI (ks mi)), .ref kx]))) H _ := hI
        have f0 : (mw_up wm2 kb (.inr (cBY, [.int (nI (ks mi)), .ref kx]))) a = some (.inr (cTM, [.ref bd, .ref ba, .int (nI (bg mi)), .int (nI (ks mi)), .int (nI (vs mi)), .int (nI (en mi)), .ref ka, .ref ak, .int (nI rch), .int (nI (tb_n (tb mi) (en mi))), .int (nI 0)])) := by rw [mw_up_n _ _ (ne_a_kb)]; exact f0
        have fk1 : (mw_up wm2 kb (.inr (cBY, [.int (nI (ks mi)), .ref kx]))) ak = some (.inr (cBY, [.int (nI (ks mi)), .ref ax])) := by rw [mw_up_n _ _ (ne_ak_kb)]; exact fk1
        have f1 : (mw_up wm2 kb (.inr (cBY, [.int (nI (ks mi)), .ref kx]))) ka = some (.inl (dA tBY, en mi, .inr (.inr (.inr (.inr (f)))))) := by rw [mw_up_n _ _ (ne_ka_kb)]; exact f1
        have fk2 : (mw_up wm2 kb (.inr (cBY, [.int (nI (ks mi)), .ref kx]))) ax = some (.inl (dA tJ, (ks mi + 7) / 8, .inr (.inl (gk)))) := by rw [mw_up_n _ _ (ne_ax_kb)]; exact fk2
        have fkx : (mw_up wm2 kb (.inr (cBY, [.int (nI (ks mi)), .ref kx]))) kx = some (.inl (dA tJ, (ks mi + 7) / 8, .inr (.inl (fun _ => 0)))) := by rw [mw_up_n _ _ ((ne_kb_kx).symm)]; exact fkx
        have hF : ∀ (q : Nat) (y : va_E), w q = some y → q ≠ a → q ≠ ka → (mw_up wm2 kb (.inr (cBY, [.int (nI (ks mi)), .ref kx]))) q = some y := fun q y h1 h2 h3 => by rw [mw_up_n _ _ (mw_neN h1 hw_kb)]; exact hF q y h1 h2 h3
        have fb : (mw_up wm2 kb (.inr (cBY, [.int (nI (ks mi)), .ref kx]))) kb = some (.inr (cBY, [.int (nI (ks mi)), .ref kx])) := mw_up_s _ _ _
        generalize (mw_up wm2 kb (.inr (cBY, [.int (nI (ks mi)), .ref kx]))) = wm3 at hI f0 fk1 f1 fk2 fkx hF fb
        refine lv_astore_n (lv' := [(2, .ref kb), (0, .ref a), (1, .int (nI e0))]) hx hb d_TM_giveAsked_11 rfl hl (by decide) rfl (fun ls hl => ?_)
        refine lv_aload_n hx hb d_TM_giveAsked_12 rfl (lv_at hl 0 rfl) ?_
        refine lv_iconst (v := nI 0) hx hb d_TM_giveAsked_13 (by decide) ?_
        refine lv_aload_n hx hb d_TM_giveAsked_14 rfl (lv_at hl 1 rfl) ?_
        refine mw_get K hI gf_TM_30_cTM f0 rfl d_TM_giveAsked_15 ?_
        refine lv_iconst (v := nI 0) hx hb d_TM_giveAsked_18 (by decide) ?_
        refine lv_aload_n hx hb d_TM_giveAsked_19 rfl (lv_at hl 1 rfl) ?_
        refine mw_get K hI gf_TM_37_cTM f0 rfl d_TM_giveAsked_20 ?_
        refine mw_call (rest := []) K hSy hP0 hI (c_BY_copy l D dA (⟨fb, fkx⟩ : by_ok dA wm3 kb kx (ks mi) (fun _ => 0)) (by omega) (⟨fk1, fk2⟩ : by_ok dA wm3 ak ax (ks mi) gk) (by omega) ne_ax_kx (i := 0) (i2 := 0) (k := ks mi) (by omega) (by omega)) (mx_invV hx hown (hts _ tw_449) (hts _ tw_450) (hts _ tw_451) (hts _ tw_452) (by decide) (b := kb) (mw_rc K hI fb rfl) (g := F0 m 23 ls [.int (nI (ks mi)), .int (nI 0), .ref ak, .int (nI 0), .ref kb]) rfl (argsL := [.int (nI 0), .ref ak, .int (nI 0), .int (nI (ks mi))]) (rest := []) np_BY_copy rfl (by rw [hb]; exact d_TM_giveAsked_23)) hl.1 d_TM_giveAsked_23 ⟨Nat.le_of_ble_eq_true rfl, Nat.le_of_ble_eq_true rfl⟩ (Or.inl ⟨_, _, List.mem_cons_self⟩) (mk_ws tw_452 hts) (fun a9 U9 h9 => Ts_warm hts _ tw_22 a9 U9 h9) ⟨Nat.le_of_ble_eq_true rfl, Nat.le_of_ble_eq_true rfl⟩ (fun v w' H locs hq hI => ?_) (fun k x w' H locs hq hI hX => ?_)
        · obtain ⟨hq1, g', hq5, hq6⟩ := hq
          cases hq1
          rw [hq5] at hI
          refine W.eq (g2 := F0 m 26 ls []) rfl ?_
          have hI : mw_I D mk_cl w s.heap (mw_up wm3 kx (.inl (dA tJ, (ks mi + 7) / 8, .inr (.inl (g'))))) H _ := hI
          have f0 : (mw_up wm3 kx (.inl (dA tJ, (ks mi + 7) / 8, .inr (.inl (g'))))) a = some (.inr (cTM, [.ref bd, .ref ba, .int (nI (bg mi)), .int (nI (ks mi)), .int (nI (vs mi)), .int (nI (en mi)), .ref ka, .ref ak, .int (nI rch), .int (nI (tb_n (tb mi) (en mi))), .int (nI 0)])) := by rw [mw_up_n _ _ (ne_a_kx)]; exact f0
          have fk1 : (mw_up wm3 kx (.inl (dA tJ, (ks mi + 7) / 8, .inr (.inl (g'))))) ak = some (.inr (cBY, [.int (nI (ks mi)), .ref ax])) := by rw [mw_up_n _ _ (ne_ak_kx)]; exact fk1
          have fb : (mw_up wm3 kx (.inl (dA tJ, (ks mi + 7) / 8, .inr (.inl (g'))))) kb = some (.inr (cBY, [.int (nI (ks mi)), .ref kx])) := by rw [mw_up_n _ _ (ne_kb_kx)]; exact fb
          have f1 : (mw_up wm3 kx (.inl (dA tJ, (ks mi + 7) / 8, .inr (.inl (g'))))) ka = some (.inl (dA tBY, en mi, .inr (.inr (.inr (.inr (f)))))) := by rw [mw_up_n _ _ (ne_ka_kx)]; exact f1
          have fk2 : (mw_up wm3 kx (.inl (dA tJ, (ks mi + 7) / 8, .inr (.inl (g'))))) ax = some (.inl (dA tJ, (ks mi + 7) / 8, .inr (.inl (gk)))) := by rw [mw_up_n _ _ (ne_ax_kx)]; exact fk2
          have hF : ∀ (q : Nat) (y : va_E), w q = some y → q ≠ a → q ≠ ka → (mw_up wm3 kx (.inl (dA tJ, (ks mi + 7) / 8, .inr (.inl (g'))))) q = some y := fun q y h1 h2 h3 => by rw [mw_up_n _ _ (mw_neN h1 hw_kx)]; exact hF q y h1 h2 h3
          have fkx : (mw_up wm3 kx (.inl (dA tJ, (ks mi + 7) / 8, .inr (.inl (g'))))) kx = some (.inl (dA tJ, (ks mi + 7) / 8, .inr (.inl (g')))) := mw_up_s _ _ _
          generalize (mw_up wm3 kx (.inl (dA tJ, (ks mi + 7) / 8, .inr (.inl (g'))))) = wm4 at hI f0 fk1 fb f1 fk2 hF fkx
          have hkl : by_l g' (ks mi) (aq mi) := by
            refine ⟨hbl.1, fun j hj => ?_, fun j h1 h2 => ?_⟩
            · rw [hq6 j, if_pos (by omega)]; show bw_b gk (0 + (j - 0)) = _; rw [Nat.sub_zero, Nat.zero_add]; exact hbl.2.1 j hj
            · rw [hq6 j, if_neg (by omega)]; exact by_l.z (ks mi) j h1 h2
          refine lv_aload_n hx hb d_TM_giveAsked_26 rfl (lv_at hl 1 rfl) ?_
          refine mw_get K hI gf_TM_23_cTM f0 rfl d_TM_giveAsked_27 ?_
          refine lv_iload_n hx hb d_TM_giveAsked_30 rfl (lv_at hl 2 rfl) ?_
          refine lv_aload_n hx hb d_TM_giveAsked_31 rfl (lv_at hl 0 rfl) ?_
          refine mw_aast K hI tBY f1 rfl fb rfl ((fun comp hc => by obtain ⟨hc1, -⟩ := (hK.1 cBY _ rfl).2; cases hc.symm.trans hc1; exact va_assign (hK.1 cBY _ rfl).2)) e0 rfl (by first | assumption | omega) (by omega) d_TM_giveAsked_32 (fun H locs hI => ?_)
          have hI : mw_I D mk_cl w s.heap (mw_up wm4 ka (.inl (dA tBY, en mi, .inr (.inr (.inr (.inr (va_up f e0 (some kb)))))))) H _ := hI
          have f0 : (mw_up wm4 ka (.inl (dA tBY, en mi, .inr (.inr (.inr (.inr (va_up f e0 (some kb)))))))) a = some (.inr (cTM, [.ref bd, .ref ba, .int (nI (bg mi)), .int (nI (ks mi)), .int (nI (vs mi)), .int (nI (en mi)), .ref ka, .ref ak, .int (nI rch), .int (nI (tb_n (tb mi) (en mi))), .int (nI 0)])) := by rw [mw_up_n _ _ (mw_neA f0 f1)]; exact f0
          have fk1 : (mw_up wm4 ka (.inl (dA tBY, en mi, .inr (.inr (.inr (.inr (va_up f e0 (some kb)))))))) ak = some (.inr (cBY, [.int (nI (ks mi)), .ref ax])) := by rw [mw_up_n _ _ (mw_neA fk1 f1)]; exact fk1
          have fb : (mw_up wm4 ka (.inl (dA tBY, en mi, .inr (.inr (.inr (.inr (va_up f e0 (some kb)))))))) kb = some (.inr (cBY, [.int (nI (ks mi)), .ref kx])) := by rw [mw_up_n _ _ ((ne_ka_kb).symm)]; exact fb
          have fk2 : (mw_up wm4 ka (.inl (dA tBY, en mi, .inr (.inr (.inr (.inr (va_up f e0 (some kb)))))))) ax = some (.inl (dA tJ, (ks mi + 7) / 8, .inr (.inl (gk)))) := by rw [mw_up_n _ _ ((hkaax).symm)]; exact fk2
          have fkx : (mw_up wm4 ka (.inl (dA tBY, en mi, .inr (.inr (.inr (.inr (va_up f e0 (some kb)))))))) kx = some (.inl (dA tJ, (ks mi + 7) / 8, .inr (.inl (g')))) := by rw [mw_up_n _ _ ((ne_ka_kx).symm)]; exact fkx
          have hF : ∀ (q : Nat) (y : va_E), w q = some y → q ≠ a → q ≠ ka → (mw_up wm4 ka (.inl (dA tBY, en mi, .inr (.inr (.inr (.inr (va_up f e0 (some kb)))))))) q = some y := fun q y h1 h2 h3 => by rw [mw_up_n _ _ (h3)]; exact hF q y h1 h2 h3
          have f1 : (mw_up wm4 ka (.inl (dA tBY, en mi, .inr (.inr (.inr (.inr (va_up f e0 (some kb)))))))) ka = some (.inl (dA tBY, en mi, .inr (.inr (.inr (.inr (va_up f e0 (some kb))))))) := mw_up_s _ _ _
          generalize (mw_up wm4 ka (.inl (dA tBY, en mi, .inr (.inr (.inr (.inr (va_up f e0 (some kb)))))))) = wm5 at hI f0 fk1 fb fk2 fkx hF f1
          refine lv_aload_n hx hb d_TM_giveAsked_33 rfl (lv_at hl 1 rfl) ?_
          refine lv_dup hx hb d_TM_giveAsked_34 rfl ?_
          refine mw_get K hI gf_TM_15_cTM f0 rfl d_TM_giveAsked_35 ?_
          refine lv_iconst (v := nI 1) hx hb d_TM_giveAsked_38 (by decide) ?_
          refine lv_iadd hx hb d_TM_giveAsked_39 ?_
          refine mw_ti (nI_add _ _) ?_
          refine mw_put K hI gp_TM_15_cTM (Or.inl ⟨_, rfl, rfl⟩) f0 rfl rfl (by simp) d_TM_giveAsked_40 (fun H locs hI => ?_)
          have hI : mw_I D mk_cl w s.heap (mw_up wm5 a (.inr (cTM, [.ref bd, .ref ba, .int (nI (bg mi)), .int (nI (ks mi)), .int (nI (vs mi)), .int (nI (en mi)), .ref ka, .ref ak, .int (nI rch), .int (nI ((tb_n (tb mi) (en mi)) + 1)), .int (nI 0)]))) H _ := hI
          have fk1 : (mw_up wm5 a (.inr (cTM, [.ref bd, .ref ba, .int (nI (bg mi)), .int (nI (ks mi)), .int (nI (vs mi)), .int (nI (en mi)), .ref ka, .ref ak, .int (nI rch), .int (nI ((tb_n (tb mi) (en mi)) + 1)), .int (nI 0)]))) ak = some (.inr (cBY, [.int (nI (ks mi)), .ref ax])) := by rw [mw_up_n _ _ (mw_neC fk1 f0 (by decide))]; exact fk1
          have fb : (mw_up wm5 a (.inr (cTM, [.ref bd, .ref ba, .int (nI (bg mi)), .int (nI (ks mi)), .int (nI (vs mi)), .int (nI (en mi)), .ref ka, .ref ak, .int (nI rch), .int (nI ((tb_n (tb mi) (en mi)) + 1)), .int (nI 0)]))) kb = some (.inr (cBY, [.int (nI (ks mi)), .ref kx])) := by rw [mw_up_n _ _ ((ne_a_kb).symm)]; exact fb
          have f1 : (mw_up wm5 a (.inr (cTM, [.ref bd, .ref ba, .int (nI (bg mi)), .int (nI (ks mi)), .int (nI (vs mi)), .int (nI (en mi)), .ref ka, .ref ak, .int (nI rch), .int (nI ((tb_n (tb mi) (en mi)) + 1)), .int (nI 0)]))) ka = some (.inl (dA tBY, en mi, .inr (.inr (.inr (.inr (va_up f e0 (some kb))))))) := by rw [mw_up_n _ _ ((mw_neA f0 f1).symm)]; exact f1
          have fk2 : (mw_up wm5 a (.inr (cTM, [.ref bd, .ref ba, .int (nI (bg mi)), .int (nI (ks mi)), .int (nI (vs mi)), .int (nI (en mi)), .ref ka, .ref ak, .int (nI rch), .int (nI ((tb_n (tb mi) (en mi)) + 1)), .int (nI 0)]))) ax = some (.inl (dA tJ, (ks mi + 7) / 8, .inr (.inl (gk)))) := by rw [mw_up_n _ _ ((mw_neA f0 fk2).symm)]; exact fk2
          have fkx : (mw_up wm5 a (.inr (cTM, [.ref bd, .ref ba, .int (nI (bg mi)), .int (nI (ks mi)), .int (nI (vs mi)), .int (nI (en mi)), .ref ka, .ref ak, .int (nI rch), .int (nI ((tb_n (tb mi) (en mi)) + 1)), .int (nI 0)]))) kx = some (.inl (dA tJ, (ks mi + 7) / 8, .inr (.inl (g')))) := by rw [mw_up_n _ _ ((ne_a_kx).symm)]; exact fkx
          have hF : ∀ (q : Nat) (y : va_E), w q = some y → q ≠ a → q ≠ ka → (mw_up wm5 a (.inr (cTM, [.ref bd, .ref ba, .int (nI (bg mi)), .int (nI (ks mi)), .int (nI (vs mi)), .int (nI (en mi)), .ref ka, .ref ak, .int (nI rch), .int (nI ((tb_n (tb mi) (en mi)) + 1)), .int (nI 0)]))) q = some y := fun q y h1 h2 h3 => by rw [mw_up_n _ _ (h2)]; exact hF q y h1 h2 h3
          have f0 : (mw_up wm5 a (.inr (cTM, [.ref bd, .ref ba, .int (nI (bg mi)), .int (nI (ks mi)), .int (nI (vs mi)), .int (nI (en mi)), .ref ka, .ref ak, .int (nI rch), .int (nI ((tb_n (tb mi) (en mi)) + 1)), .int (nI 0)]))) a = some (.inr (cTM, [.ref bd, .ref ba, .int (nI (bg mi)), .int (nI (ks mi)), .int (nI (vs mi)), .int (nI (en mi)), .ref ka, .ref ak, .int (nI rch), .int (nI ((tb_n (tb mi) (en mi)) + 1)), .int (nI 0)])) := mw_up_s _ _ _
          generalize (mw_up wm5 a (.inr (cTM, [.ref bd, .ref ba, .int (nI (bg mi)), .int (nI (ks mi)), .int (nI (vs mi)), .int (nI (en mi)), .ref ka, .ref ak, .int (nI rch), .int (nI ((tb_n (tb mi) (en mi)) + 1)), .int (nI 0)]))) = wm6 at hI fk1 fb f1 fk2 fkx hF f0
          refine lv_aload_n hx hb d_TM_giveAsked_43 rfl (lv_at hl 1 rfl) ?_
          refine lv_aload_n hx hb d_TM_giveAsked_44 rfl (lv_at hl 1 rfl) ?_
          refine mw_get K hI gf_TM_9_cTM f0 rfl d_TM_giveAsked_45 ?_
          refine lv_iload_n hx hb d_TM_giveAsked_48 rfl (lv_at hl 2 rfl) ?_
          refine lv_iconst (v := nI 1) hx hb d_TM_giveAsked_49 (by decide) ?_
          refine lv_iadd hx hb d_TM_giveAsked_50 ?_
          refine mw_ti (nI_add _ _) ?_
          refine va_mmax hx hb (by rw [hml]; exact hl.1.symm) hown (hts _ tw_500) (hts _ tw_501) (hts _ tw_36) (hts _ tw_502) (Nat.le_of_ble_eq_true rfl) (Nat.le_of_ble_eq_true rfl) (Nat.le_of_ble_eq_true rfl) (Nat.le_of_ble_eq_true rfl) d_TM_giveAsked_51 ?_
          obtain ⟨r2, hr2, hr3, hr4⟩ : ∃ r2, (if nI rch < nI (e0 + 1) then nI (e0 + 1) else nI rch) = nI r2 ∧ r2 ≤ en mi ∧ rch ≤ r2 ∧ e0 < r2 := by
            by_cases hc : rch < e0 + 1
            · exact ⟨e0 + 1, if_pos ((nI_ltI (by omega) (by omega)).mpr hc), by omega, by omega, by omega⟩
            · exact ⟨rch, if_neg (fun z => hc ((nI_ltI (by omega) (by omega)).mp z)), by omega, by omega, by omega⟩
          refine mw_ti (y := nI r2) (hr2) ?_
          refine mw_put K hI gp_TM_9_cTM (Or.inl ⟨_, rfl, rfl⟩) f0 rfl rfl (by simp) d_TM_giveAsked_54 (fun H locs hI => ?_)
          have hI : mw_I D mk_cl w s.heap (mw_up wm6 a (.inr (cTM, [.ref bd, .ref ba, .int (nI (bg mi)), .int (nI (ks mi)), .int (nI (vs mi)), .int (nI (en mi)), .ref ka, .ref ak, .int (nI r2), .int (nI ((tb_n (tb mi) (en mi)) + 1)), .int (nI 0)]))) H _ := hI
          have fk1 : (mw_up wm6 a (.inr (cTM, [.ref bd, .ref ba, .int (nI (bg mi)), .int (nI (ks mi)), .int (nI (vs mi)), .int (nI (en mi)), .ref ka, .ref ak, .int (nI r2), .int (nI ((tb_n (tb mi) (en mi)) + 1)), .int (nI 0)]))) ak = some (.inr (cBY, [.int (nI (ks mi)), .ref ax])) := by rw [mw_up_n _ _ (mw_neC fk1 f0 (by decide))]; exact fk1
          have fb : (mw_up wm6 a (.inr (cTM, [.ref bd, .ref ba, .int (nI (bg mi)), .int (nI (ks mi)), .int (nI (vs mi)), .int (nI (en mi)), .ref ka, .ref ak, .int (nI r2), .int (nI ((tb_n (tb mi) (en mi)) + 1)), .int (nI 0)]))) kb = some (.inr (cBY, [.int (nI (ks mi)), .ref kx])) := by rw [mw_up_n _ _ ((ne_a_kb).symm)]; exact fb
          have f1 : (mw_up wm6 a (.inr (cTM, [.ref bd, .ref ba, .int (nI (bg mi)), .int (nI (ks mi)), .int (nI (vs mi)), .int (nI (en mi)), .ref ka, .ref ak, .int (nI r2), .int (nI ((tb_n (tb mi) (en mi)) + 1)), .int (nI 0)]))) ka = some (.inl (dA tBY, en mi, .inr (.inr (.inr (.inr (va_up f e0 (some kb))))))) := by rw [mw_up_n _ _ ((mw_neA f0 f1).symm)]; exact f1
          have fk2 : (mw_up wm6 a (.inr (cTM, [.ref bd, .ref ba, .int (nI (bg mi)), .int (nI (ks mi)), .int (nI (vs mi)), .int (nI (en mi)), .ref ka, .ref ak, .int (nI r2), .int (nI ((tb_n (tb mi) (en mi)) + 1)), .int (nI 0)]))) ax = some (.inl (dA tJ, (ks mi + 7) / 8, .inr (.inl (gk)))) := by rw [mw_up_n _ _ ((mw_neA f0 fk2).symm)]; exact fk2
          have fkx : (mw_up wm6 a (.inr (cTM, [.ref bd, .ref ba, .int (nI (bg mi)), .int (nI (ks mi)), .int (nI (vs mi)), .int (nI (en mi)), .ref ka, .ref ak, .int (nI r2), .int (nI ((tb_n (tb mi) (en mi)) + 1)), .int (nI 0)]))) kx = some (.inl (dA tJ, (ks mi + 7) / 8, .inr (.inl (g')))) := by rw [mw_up_n _ _ ((ne_a_kx).symm)]; exact fkx
          have hF : ∀ (q : Nat) (y : va_E), w q = some y → q ≠ a → q ≠ ka → (mw_up wm6 a (.inr (cTM, [.ref bd, .ref ba, .int (nI (bg mi)), .int (nI (ks mi)), .int (nI (vs mi)), .int (nI (en mi)), .ref ka, .ref ak, .int (nI r2), .int (nI ((tb_n (tb mi) (en mi)) + 1)), .int (nI 0)]))) q = some y := fun q y h1 h2 h3 => by rw [mw_up_n _ _ (h2)]; exact hF q y h1 h2 h3
          have f0 : (mw_up wm6 a (.inr (cTM, [.ref bd, .ref ba, .int (nI (bg mi)), .int (nI (ks mi)), .int (nI (vs mi)), .int (nI (en mi)), .ref ka, .ref ak, .int (nI r2), .int (nI ((tb_n (tb mi) (en mi)) + 1)), .int (nI 0)]))) a = some (.inr (cTM, [.ref bd, .ref ba, .int (nI (bg mi)), .int (nI (ks mi)), .int (nI (vs mi)), .int (nI (en mi)), .ref ka, .ref ak, .int (nI r2), .int (nI ((tb_n (tb mi) (en mi)) + 1)), .int (nI 0)])) := mw_up_s _ _ _
          generalize (mw_up wm6 a (.inr (cTM, [.ref bd, .ref ba, .int (nI (bg mi)), .int (nI (ks mi)), .int (nI (vs mi)), .int (nI (en mi)), .ref ka, .ref ak, .int (nI r2), .int (nI ((tb_n (tb mi) (en mi)) + 1)), .int (nI 0)]))) = wm7 at hI fk1 fb f1 fk2 fkx hF f0
          have hs2 : ∀ e k, tb (M_tb mi (va_up (tb mi) e0 (some (aq mi)))) e = some k → e < r2 ∧ ∃ (kb' kx' : Nat) (g : Nat → Int64), va_up f e0 (some kb) e = some kb' ∧ va_up own kx (4, i, e0) kx' = (4, i, e) ∧ by_ok dA wm7 kb' kx' (ks mi) g ∧ by_l g (ks mi) k := by
            intro e k he
            have he' : va_up (tb mi) e0 (some (aq mi)) e = some k := he
            by_cases hee : e = e0
            · subst hee
              rw [va_up_self] at he'
              cases he'
              exact ⟨hr4.2, kb, kx, g', va_up_self _ _ _, va_up_self _ _ _, ⟨fb, fkx⟩, hkl⟩
            · rw [va_up_ne _ _ hee] at he'
              obtain ⟨g1, kb', kx', g, g2, g3, g4, g5⟩ := hs1 e k he'
              refine ⟨by omega, kb', kx', g, (va_up_ne _ _ hee).trans g2, (va_up_ne _ _ (mw_neN g4.2 hw_kx)).trans g3, ⟨hF _ _ g4.1 (mw_neC g4.1 f0_0 (by decide)) (mw_neA g4.1 f1_0), hF _ _ g4.2 (mw_neA f0_0 g4.2).symm (own_ne g3 oka (by simp))⟩, g5⟩
          have hn2 : ∀ e, e < en (M_tb mi (va_up (tb mi) e0 (some (aq mi)))) → tb (M_tb mi (va_up (tb mi) e0 (some (aq mi)))) e = none → va_up f e0 (some kb) e = none := by
            intro e he ht
            have ht' : va_up (tb mi) e0 (some (aq mi)) e = none := ht
            by_cases hee : e = e0
            · rw [hee, va_up_self] at ht'; cases ht'
            · rw [va_up_ne _ _ hee] at ht' ⊢; exact hn1 e he ht'
          have hl9 : lst (fun e => decide (tb (M_tb mi (va_up (tb mi) e0 (some (aq mi)))) e = some (aq (M_tb mi (va_up (tb mi) e0 (some (aq mi)))))) && decide (nI e0 ≠ nI e)) (en (M_tb mi (va_up (tb mi) e0 (some (aq mi))))) = none := by
            refine lst_none (fun e he => ?_)
            by_cases hee : e = e0
            · subst hee; simp
            · have : tb (M_tb mi (va_up (tb mi) e0 (some (aq mi)))) e ≠ some (aq (M_tb mi (va_up (tb mi) e0 (some (aq mi))))) := by
                show va_up (tb mi) e0 (some (aq mi)) e ≠ _
                rw [va_up_ne _ _ hee]; exact hno e
              rw [decide_eq_false this]; rfl
          refine lv_aload_n hx hb d_TM_giveAsked_57 rfl (lv_at hl 1 rfl) ?_
          refine lv_iload_n hx hb d_TM_giveAsked_58 rfl (lv_at hl 2 rfl) ?_
          refine mw_call (rest := []) K hSy hP0 hI (c_TM_entryWithAsked l D dA (m0 := M_tb mi (va_up (tb mi) e0 (some (aq mi)))) f0 (⟨fk1, fk2⟩ : by_ok dA wm7 ak ax (ks mi) gk) hbl b2 b6 f1 hr3 hn2 (fun e k he => by obtain ⟨g1, kb, kx, g, g2, g3, g4, g5⟩ := hs2 e k he; exact ⟨g1, kb, kx, g, g2, g4, g5⟩) (nI e0)) (mx_invV hx hown (hts _ tw_453) (hts _ tw_455) (hts _ tw_3) (hts _ tw_456) (by decide) (b := a) (mw_rc K hI f0 rfl) (g := F0 m 59 ls [.int (nI e0), .ref a]) rfl (argsL := [.int (nI e0)]) (rest := []) np_TM_entryWithAsked rfl (by rw [hb]; exact d_TM_giveAsked_59)) hl.1 d_TM_giveAsked_59 ⟨Nat.le_of_ble_eq_true rfl, Nat.le_of_ble_eq_true rfl⟩ (Or.inl ⟨_, _, List.mem_cons_self⟩) (mk_ws tw_456 hts) (fun a9 U9 h9 => Ts_warm hts _ tw_33 a9 U9 h9) ⟨Nat.le_of_ble_eq_true rfl, Nat.le_of_ble_eq_true rfl⟩ (fun v w' H locs hq hI => ?_) (fun k x w' H locs hq hI hX => ?_)
          · obtain ⟨hq7, hq8⟩ := hq
            cases hq8
            rw [hq7] at hI
            rw [hl9]
            refine W.eq (g2 := F0 m 62 ls [.int (-1)]) rfl ?_
            refine lv_iconst (v := (-1)) hx hb d_TM_giveAsked_62 (by decide) ?_
            refine lv_icmp_eq (tgt := 76) hx hb d_TM_giveAsked_63 (by decide) (fun c63 => ?_) (fun c63 => ?_)
            ·
              refine mw_vret K hI hr hlk ⟨rfl, va_up own kx (4, i, e0), ?_, ?_⟩ d_TM_giveAsked_76
              · refine hA.map (i := i) ?_ (fun q' y hy hz => ?_) (fun q' y hy => va_up_ne _ _ (mw_neN hy hw_kx))
                · rw [ea]
                  refine ⟨(va_up_ne _ _ (mw_neN f0_0 hw_kx)).trans om, Or.inr (Or.inl ⟨hk1, ka, ak, ax, r2, gk, va_up f e0 (some kb), ?_, (va_up_ne _ _ (mw_neN f1_0 hw_kx)).trans oka, (va_up_ne _ _ (mw_neN fk.2 hw_kx)).trans oax, ⟨fk1, fk2⟩, hbl, f1, hr3, hn2, hs2⟩)⟩
                  have hn9 := tb_n_up (tb mi) (aq mi) ht0 he0
                  rw [f0, ← hn9]; rfl
                · refine hF q' y hy (fun e => ?_) (fun e => ?_)
                  · subst e
                    rcases hz with hz | ⟨fs, hz⟩
                    · exact hz (by rw [om]; exact Or.inl rfl)
                    · rw [hz] at hy; exact absurd (hy.symm.trans f0_0) (by intro z; injection z with z; injection z with z; injection z with z; exact absurd z (by decide))
                  · subst e
                    rcases hz with hz | ⟨fs, hz⟩
                    · exact hz (by rw [oka]; exact Or.inr (Or.inl rfl))
                    · rw [hz] at hy; exact absurd (hy.symm.trans f1_0) (by simp)
              · intro q' y hy
                refine ⟨va_up_ne _ _ (mw_neN hy hw_kx), ?_⟩
                by_cases e1 : q' = a
                · subst e1; exact ⟨_, f0, fun z => absurd z (by rw [om]; simp)⟩
                · by_cases e2 : q' = ka
                  · subst e2; exact ⟨_, f1, fun z => absurd z (by rw [oka]; simp)⟩
                  · exact ⟨y, hF q' y hy e1 e2, fun _ => rfl⟩
            ·
              exact absurd rfl c63
          · exact absurd hq.2 (by simp)
        · exact absurd hq.1 (by simp)
      · exact absurd hq.1 (by simp)
    · rw [hk1] at k2; cases k2
  · rw [hk1] at k0; cases k0
