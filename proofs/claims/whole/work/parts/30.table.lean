/-! ### tables: remove, next; what a kind does not do -/
theorem d_TM_free_0 : decode b_TM_free 0 = .ok (.aload_n 0, 1) := by decide +kernel
theorem d_TM_free_1 : decode b_TM_free 1 = .ok (.getfield 34, 3) := by decide +kernel
theorem d_TM_free_4 : decode b_TM_free 4 = .ok (.iload_n 1, 1) := by decide +kernel
theorem d_TM_free_5 : decode b_TM_free 5 = .ok (.aload_n 0, 1) := by decide +kernel
theorem d_TM_free_6 : decode b_TM_free 6 = .ok (.getfield 37, 3) := by decide +kernel
theorem d_TM_free_9 : decode b_TM_free 9 = .ok (.invokevirtual 55, 3) := by decide +kernel
theorem d_TM_free_12 : decode b_TM_free 12 = .ok (.aload_n 0, 1) := by decide +kernel
theorem d_TM_free_13 : decode b_TM_free 13 = .ok (.iload_n 1, 1) := by decide +kernel
theorem d_TM_free_14 : decode b_TM_free 14 = .ok (.invokevirtual 59, 3) := by decide +kernel
theorem d_TM_free_17 : decode b_TM_free 17 = .ok (.istore_n 2, 1) := by decide +kernel
theorem d_TM_free_18 : decode b_TM_free 18 = .ok (.iload_n 2, 1) := by decide +kernel
theorem d_TM_free_19 : decode b_TM_free 19 = .ok (.iconst (-1), 1) := by decide +kernel
theorem d_TM_free_20 : decode b_TM_free 20 = .ok (.if_icmp .ne 6, 3) := by decide +kernel
theorem d_TM_free_23 : decode b_TM_free 23 = .ok (.bipush (-2), 2) := by decide +kernel
theorem d_TM_free_25 : decode b_TM_free 25 = .ok (.ireturn, 1) := by decide +kernel
theorem d_TM_free_26 : decode b_TM_free 26 = .ok (.aload_n 0, 1) := by decide +kernel
theorem d_TM_free_27 : decode b_TM_free 27 = .ok (.getfield 23, 3) := by decide +kernel
theorem d_TM_free_30 : decode b_TM_free 30 = .ok (.iload_n 2, 1) := by decide +kernel
theorem d_TM_free_31 : decode b_TM_free 31 = .ok (.aconst_null, 1) := by decide +kernel
theorem d_TM_free_32 : decode b_TM_free 32 = .ok (.aastore, 1) := by decide +kernel
theorem d_TM_free_33 : decode b_TM_free 33 = .ok (.aload_n 0, 1) := by decide +kernel
theorem d_TM_free_34 : decode b_TM_free 34 = .ok (.dup, 1) := by decide +kernel
theorem d_TM_free_35 : decode b_TM_free 35 = .ok (.getfield 15, 3) := by decide +kernel
theorem d_TM_free_38 : decode b_TM_free 38 = .ok (.iconst 1, 1) := by decide +kernel
theorem d_TM_free_39 : decode b_TM_free 39 = .ok (.isub, 1) := by decide +kernel
theorem d_TM_free_40 : decode b_TM_free 40 = .ok (.putfield 15, 3) := by decide +kernel
theorem d_TM_free_43 : decode b_TM_free 43 = .ok (.iconst 0, 1) := by decide +kernel
theorem d_TM_free_44 : decode b_TM_free 44 = .ok (.ireturn, 1) := by decide +kernel
theorem d_TM_keyAfter_0 : decode b_TM_keyAfter 0 = .ok (.aload_n 0, 1) := by decide +kernel
theorem d_TM_keyAfter_1 : decode b_TM_keyAfter 1 = .ok (.getfield 34, 3) := by decide +kernel
theorem d_TM_keyAfter_4 : decode b_TM_keyAfter 4 = .ok (.iload_n 2, 1) := by decide +kernel
theorem d_TM_keyAfter_5 : decode b_TM_keyAfter 5 = .ok (.aload_n 0, 1) := by decide +kernel
theorem d_TM_keyAfter_6 : decode b_TM_keyAfter 6 = .ok (.getfield 37, 3) := by decide +kernel
theorem d_TM_keyAfter_9 : decode b_TM_keyAfter 9 = .ok (.invokevirtual 55, 3) := by decide +kernel
theorem d_TM_keyAfter_12 : decode b_TM_keyAfter 12 = .ok (.iconst (-1), 1) := by decide +kernel
theorem d_TM_keyAfter_13 : decode b_TM_keyAfter 13 = .ok (.istore_n 3, 1) := by decide +kernel
theorem d_TM_keyAfter_14 : decode b_TM_keyAfter 14 = .ok (.iload_n 1, 1) := by decide +kernel
theorem d_TM_keyAfter_15 : decode b_TM_keyAfter 15 = .ok (.iconst (-1), 1) := by decide +kernel
theorem d_TM_keyAfter_16 : decode b_TM_keyAfter 16 = .ok (.if_icmp .eq 21, 3) := by decide +kernel
theorem d_TM_keyAfter_19 : decode b_TM_keyAfter 19 = .ok (.aload_n 0, 1) := by decide +kernel
theorem d_TM_keyAfter_20 : decode b_TM_keyAfter 20 = .ok (.getfield 34, 3) := by decide +kernel
theorem d_TM_keyAfter_23 : decode b_TM_keyAfter 23 = .ok (.iload_n 1, 1) := by decide +kernel
theorem d_TM_keyAfter_24 : decode b_TM_keyAfter 24 = .ok (.aload_n 0, 1) := by decide +kernel
theorem d_TM_keyAfter_25 : decode b_TM_keyAfter 25 = .ok (.getfield 37, 3) := by decide +kernel
theorem d_TM_keyAfter_28 : decode b_TM_keyAfter 28 = .ok (.invokevirtual 55, 3) := by decide +kernel
theorem d_TM_keyAfter_31 : decode b_TM_keyAfter 31 = .ok (.aload_n 0, 1) := by decide +kernel
theorem d_TM_keyAfter_32 : decode b_TM_keyAfter 32 = .ok (.iload_n 1, 1) := by decide +kernel
theorem d_TM_keyAfter_33 : decode b_TM_keyAfter 33 = .ok (.invokevirtual 59, 3) := by decide +kernel
theorem d_TM_keyAfter_36 : decode b_TM_keyAfter 36 = .ok (.istore_n 3, 1) := by decide +kernel
theorem d_TM_keyAfter_37 : decode b_TM_keyAfter 37 = .ok (.iload_n 3, 1) := by decide +kernel
theorem d_TM_keyAfter_38 : decode b_TM_keyAfter 38 = .ok (.iconst 1, 1) := by decide +kernel
theorem d_TM_keyAfter_39 : decode b_TM_keyAfter 39 = .ok (.iadd, 1) := by decide +kernel
theorem d_TM_keyAfter_40 : decode b_TM_keyAfter 40 = .ok (.istore 4, 2) := by decide +kernel
theorem d_TM_keyAfter_42 : decode b_TM_keyAfter 42 = .ok (.iload 4, 2) := by decide +kernel
theorem d_TM_keyAfter_44 : decode b_TM_keyAfter 44 = .ok (.aload_n 0, 1) := by decide +kernel
theorem d_TM_keyAfter_45 : decode b_TM_keyAfter 45 = .ok (.getfield 9, 3) := by decide +kernel
theorem d_TM_keyAfter_48 : decode b_TM_keyAfter 48 = .ok (.if_icmp .ge 41, 3) := by decide +kernel
theorem d_TM_keyAfter_51 : decode b_TM_keyAfter 51 = .ok (.aload_n 0, 1) := by decide +kernel
theorem d_TM_keyAfter_52 : decode b_TM_keyAfter 52 = .ok (.getfield 23, 3) := by decide +kernel
theorem d_TM_keyAfter_55 : decode b_TM_keyAfter 55 = .ok (.iload 4, 2) := by decide +kernel
theorem d_TM_keyAfter_57 : decode b_TM_keyAfter 57 = .ok (.aaload, 1) := by decide +kernel
theorem d_TM_keyAfter_58 : decode b_TM_keyAfter 58 = .ok (.astore 5, 2) := by decide +kernel
theorem d_TM_keyAfter_60 : decode b_TM_keyAfter 60 = .ok (.aload 5, 2) := by decide +kernel
theorem d_TM_keyAfter_62 : decode b_TM_keyAfter 62 = .ok (.ifnull 21, 3) := by decide +kernel
theorem d_TM_keyAfter_65 : decode b_TM_keyAfter 65 = .ok (.aload_n 0, 1) := by decide +kernel
theorem d_TM_keyAfter_66 : decode b_TM_keyAfter 66 = .ok (.getfield 34, 3) := by decide +kernel
theorem d_TM_keyAfter_69 : decode b_TM_keyAfter 69 = .ok (.iload_n 2, 1) := by decide +kernel
theorem d_TM_keyAfter_70 : decode b_TM_keyAfter 70 = .ok (.aload 5, 2) := by decide +kernel
theorem d_TM_keyAfter_72 : decode b_TM_keyAfter 72 = .ok (.iconst 0, 1) := by decide +kernel
theorem d_TM_keyAfter_73 : decode b_TM_keyAfter 73 = .ok (.aload_n 0, 1) := by decide +kernel
theorem d_TM_keyAfter_74 : decode b_TM_keyAfter 74 = .ok (.getfield 37, 3) := by decide +kernel
theorem d_TM_keyAfter_77 : decode b_TM_keyAfter 77 = .ok (.invokevirtual 40, 3) := by decide +kernel
theorem d_TM_keyAfter_80 : decode b_TM_keyAfter 80 = .ok (.iload 4, 2) := by decide +kernel
theorem d_TM_keyAfter_82 : decode b_TM_keyAfter 82 = .ok (.ireturn, 1) := by decide +kernel
theorem d_TM_keyAfter_83 : decode b_TM_keyAfter 83 = .ok (.iinc 4 1, 3) := by decide +kernel
theorem d_TM_keyAfter_86 : decode b_TM_keyAfter 86 = .ok (.goto (-44), 3) := by decide +kernel
theorem d_TM_keyAfter_89 : decode b_TM_keyAfter 89 = .ok (.iconst (-1), 1) := by decide +kernel
theorem d_TM_keyAfter_90 : decode b_TM_keyAfter 90 = .ok (.ireturn, 1) := by decide +kernel
theorem d_AN_placeOf_0 : decode b_AN_placeOf 0 = .ok (.bipush (-22), 2) := by decide +kernel
theorem d_AN_placeOf_2 : decode b_AN_placeOf 2 = .ok (.ireturn, 1) := by decide +kernel
theorem d_AN_write_0 : decode b_AN_write 0 = .ok (.bipush (-22), 2) := by decide +kernel
theorem d_AN_write_2 : decode b_AN_write 2 = .ok (.ireturn, 1) := by decide +kernel
theorem d_AN_free_0 : decode b_AN_free 0 = .ok (.bipush (-22), 2) := by decide +kernel
theorem d_AN_free_2 : decode b_AN_free 2 = .ok (.ireturn, 1) := by decide +kernel
theorem d_AN_putRecord_0 : decode b_AN_putRecord 0 = .ok (.bipush (-22), 2) := by decide +kernel
theorem d_AN_putRecord_2 : decode b_AN_putRecord 2 = .ok (.ireturn, 1) := by decide +kernel
theorem d_AN_takeRecord_0 : decode b_AN_takeRecord 0 = .ok (.bipush (-22), 2) := by decide +kernel
theorem d_AN_takeRecord_2 : decode b_AN_takeRecord 2 = .ok (.ireturn, 1) := by decide +kernel
theorem d_AN_keyAfter_0 : decode b_AN_keyAfter 0 = .ok (.bipush (-22), 2) := by decide +kernel
theorem d_AN_keyAfter_2 : decode b_AN_keyAfter 2 = .ok (.ireturn, 1) := by decide +kernel
theorem tb_n_l2 (t : Nat → Option (List Nat)) {e : Nat} (v : Option (List Nat)) : ∀ {n}, n ≤ e → tb_n (va_up t e v) n = tb_n t n
  | 0, _ => rfl
  | n + 1, h => by rw [tb_n, tb_n, tb_n_l2 t v (by omega), va_up_ne _ _ (by omega)]
theorem tb_n_dn (t : Nat → Option (List Nat)) {e : Nat} {k : List Nat} (he : t e = some k) : ∀ {n}, e < n → tb_n (va_up t e none) n + 1 = tb_n t n
  | 0, h => absurd h (by omega)
  | n + 1, h => by
    rw [tb_n, tb_n]
    by_cases q : e < n
    · have := tb_n_dn t he q
      rw [va_up_ne _ _ (by omega)]; omega
    · have e1 : e = n := by omega
      subst e1
      rw [va_up_self, he, tb_n_l2 t _ (Nat.le_refl e)]; rfl
theorem fnd_is {m : as_M} {k : List Nat} {e : Nat} (h : fnd m k = some e) : e < en m ∧ tb m e = some k := by
  obtain ⟨h1, h2, -⟩ := lst_is h
  exact ⟨h1, of_decide_eq_true h2⟩
set_option maxRecDepth 100000 in
set_option maxHeartbeats 4000000 in
theorem c_TM_free (l : Launch) (D : va_G) (dA : Nat → ClassId) (hL : mw_L l) {w : mw_W} {own : as_W} {x bd xd ba xa ra : Nat} {mp : Nat → Nat} {gd ga : Nat → Int64} {S : as_S} {t : Nat} (hA : rc_A dA w own x bd xd ba xa ra mp gd ga S) (hW : wf_S t S) {i : Nat} (hi : i < nm S) (hk : kd (mm S i) = 1) (k : Int32) : CT l D dA y_TM_free (Cond.code y_TM_free b_TM_free 3 (some .int) :: Ts) 7 110 1 6 [.ref (mp i), .int k] w (PC dA w own x bd xd ba xa ra mp (sp_free S i k)) := by
  refine mw_meth (by decide) mk_tb (Nat.le_of_ble_eq_true rfl) ?_
  intro p e s m below meth c K hr hlk hce hnm hP0 hSy ls hl
  have hl : lv_has ls 3 [(0, .ref (mp i)), (1, .int k)] := hl
  obtain ⟨hx, hb, hml, hown, hts, hK, hTb⟩ := id K
  have hI := mw_I.start hP0
  obtain ⟨⟨o1, o2, o3, o4, fx, fd, fa, fr, hdk, har⟩, hM⟩ := id hA
  have hwf := hW.2.2.2.2.2 i hi
  obtain ⟨b1, b2, b3, b4, b5, b6, b7, b8⟩ := wf_E hwf (Or.inr hk)
  obtain ⟨ka, ak, rch, wk, f0⟩ := rc_TM (hA.2 i hi) hk
  obtain ⟨mi, em⟩ : ∃ mi, mi = mm S i := ⟨_, rfl⟩
  rw [← em] at f0
  refine lv_aload_n hx hb d_TM_free_0 rfl (lv_at hl 0 rfl) ?_
  refine mw_get K hI gf_TM_34_cTM f0 rfl d_TM_free_1 ?_
  refine lv_iload_n hx hb d_TM_free_4 rfl (lv_at hl 1 rfl) ?_
  refine lv_aload_n hx hb d_TM_free_5 rfl (lv_at hl 0 rfl) ?_
  refine mw_get K hI gf_TM_37_cTM f0 rfl d_TM_free_6 ?_
  refine mw_call (rest := []) K hSy hP0 hI (c_BY_demand l D dA hL fd (by decide) k (k := ks mi) (by rw [em]; omega)) (mx_invV hx hown (hts _ tw_522) (hts _ tw_373) (hts _ tw_374) (hts _ tw_375) (by decide) (b := bd) (mw_rc K hI fd.1 rfl) (g := F0 m 9 ls [.int (nI (ks mi)), .int k, .ref bd]) rfl (argsL := [.int k, .int (nI (ks mi))]) (rest := []) np_BY_demand rfl (by rw [hb]; exact d_TM_free_9)) hl.1 d_TM_free_9 ⟨Nat.le_of_ble_eq_true rfl, Nat.le_of_ble_eq_true rfl⟩ (Or.inl ⟨_, _, List.mem_cons_self⟩) (mk_ws tw_375 hts) (fun a9 U9 h9 => Ts_warm hts _ tw_22 a9 U9 h9) ⟨Nat.le_of_ble_eq_true rfl, Nat.le_of_ble_eq_true rfl⟩ (fun v w' H locs hq hI => ?_) (fun k x w' H locs hq hI hX => ?_)
  · obtain ⟨hq1, ⟨hq2, hq3, hq4⟩ | ⟨-, hq4⟩⟩ := hq
    · cases hq4
      rw [hq1] at hI
      rw [em] at hq3
      obtain ⟨e1, e2⟩ := inD_nI ⟨hq2, hq3⟩ (by decide)
      have hsp : sp_free S i k = _ := if_pos ⟨hq2, hq3⟩
      refine W.eq (g2 := F0 m 12 ls []) rfl ?_
      rw [e1] at hl
      refine lv_aload_n hx hb d_TM_free_12 rfl (lv_at hl 0 rfl) ?_
      refine lv_iload_n hx hb d_TM_free_13 rfl (lv_at hl 1 rfl) ?_
      refine mw_call (rest := []) K hSy hP0 hI (c_TM_entryOf2 l D dA hA hW hi hk (q := k.toNatClampNeg) e2) (mx_invV hx hown (hts _ tw_523) (hts _ tw_447) (hts _ tw_804) (hts _ tw_448) (by decide) (b := (mp i)) (mw_rc K hI f0 rfl) (g := F0 m 14 ls [.int (nI k.toNatClampNeg), .ref (mp i)]) rfl (argsL := [.int (nI k.toNatClampNeg)]) (rest := []) np_TM_entryOf rfl (by rw [hb]; exact d_TM_free_14)) hl.1 d_TM_free_14 ⟨Nat.le_of_ble_eq_true rfl, Nat.le_of_ble_eq_true rfl⟩ (Or.inl ⟨_, _, List.mem_cons_self⟩) (mk_ws tw_448 hts) (fun a9 U9 h9 => Ts_warm hts _ tw_33 a9 U9 h9) ⟨Nat.le_of_ble_eq_true rfl, Nat.le_of_ble_eq_true rfl⟩ (fun v w' H locs hq hI => ?_) (fun k x w' H locs hq hI hX => ?_)
      · obtain ⟨hq5, hA2, hF2⟩ := hq
        cases hq5
        refine W.eq (g2 := F0 m 17 ls [.int (oI (ent S i k.toNatClampNeg))]) rfl ?_
        obtain ⟨n1, n2, n3, n4, n5⟩ := lk_nm S i k.toNatClampNeg
        have hi2 : i < nm (lk S i k.toNatClampNeg) := by rw [n1]; exact hi
        have hk2 : kd (mm (lk S i k.toNatClampNeg) i) = 1 := by show (mm (lk S i k.toNatClampNeg) i).1.1 = _; rw [(n5 i).1]; exact hk
        have hen2 : en (mm (lk S i k.toNatClampNeg) i) = en (mm S i) := by show (mm (lk S i k.toNatClampNeg) i).1.2.2.2.1 = _; rw [(n5 i).1]
        cases he : ent S i k.toNatClampNeg with
        | none =>
          rw [he] at hsp
          refine mw_ti (y := (-1)) (rfl) ?_
          refine lv_istore_n (lv' := [(2, .int (-1)), (0, .ref (mp i)), (1, .int (nI k.toNatClampNeg))]) hx hb d_TM_free_17 rfl hl (by decide) rfl (fun ls hl => ?_)
          refine lv_iload_n hx hb d_TM_free_18 rfl (lv_at hl 0 rfl) ?_
          refine lv_iconst (v := (-1)) hx hb d_TM_free_19 (by decide) ?_
          refine lv_icmp_ne (tgt := 26) hx hb d_TM_free_20 (by decide) (fun c20 => ?_) (fun c20 => ?_)
          ·
            exact absurd rfl c20
          ·
            refine lv_bipush (v := (-2)) hx hb d_TM_free_23 (by decide) ?_
            refine mw_iret K hI hr hlk ?_ d_TM_free_25
            rw [hsp]
            exact ⟨rfl, own, gd, ga, hA2, hF2⟩
        | some e0 =>
          have hlt := ent_lt he
          rw [he] at hsp
          have hke : ∃ ky, tb (mm (lk S i k.toNatClampNeg) i) e0 = some ky := by
            rw [ent_1 _ hk] at he
            exact ⟨_, (congrFun (n5 i).2 e0).trans (fnd_is he).2⟩
          generalize eS2 : lk S i k.toNatClampNeg = S2 at *
          obtain ⟨ky, hke⟩ := hke
          obtain ⟨om, ⟨k0, -⟩ | ⟨k0, ka, ak, ax, rch, gk, ff, f0, oka, oax, fk, hbl, f1, hr1, hn1, hs1⟩ | ⟨k0, -⟩⟩ := hA2.2 i hi2
          · rw [hk2] at k0; cases k0
          · obtain ⟨mi, em⟩ : ∃ mi, mi = mm S2 i := ⟨_, rfl⟩
            rw [← em] at f0 f1 hke hn1 hs1 fk hbl hr1 hk2 hen2
            have htd := tb_n_dn (tb mi) hke (n := en mi) (by omega)
            have htn := tb_n_le (tb mi) (en mi)
            have f0_0 := f0
            have f1_0 := f1
            generalize ea : mp i = a at *
            refine mw_ti (y := nI e0) (rfl) ?_
            refine lv_istore_n (lv' := [(2, .int (nI e0)), (0, .ref a), (1, .int (nI k.toNatClampNeg))]) hx hb d_TM_free_17 rfl hl (by decide) rfl (fun ls hl => ?_)
            refine lv_iload_n hx hb d_TM_free_18 rfl (lv_at hl 0 rfl) ?_
            refine lv_iconst (v := (-1)) hx hb d_TM_free_19 (by decide) ?_
            refine lv_icmp_ne (tgt := 26) hx hb d_TM_free_20 (by decide) (fun c20 => ?_) (fun c20 => ?_)
            ·
              refine lv_aload_n hx hb d_TM_free_26 rfl (lv_at hl 1 rfl) ?_
              refine mw_get K hI gf_TM_23_cTM f0 rfl d_TM_free_27 ?_
              refine lv_iload_n hx hb d_TM_free_30 rfl (lv_at hl 0 rfl) ?_
              refine lv_null hx hb d_TM_free_31 ?_
              refine mw_aastN K hI tBY f1 rfl e0 rfl (by first | assumption | omega) (by omega) d_TM_free_32 (fun H locs hI => ?_)
              have hI : mw_I D mk_cl w s.heap (mw_up w' ka (.inl (dA tBY, en mi, .inr (.inr (.inr (.inr (va_up ff e0 none))))))) H _ := hI
              have f0 : (mw_up w' ka (.inl (dA tBY, en mi, .inr (.inr (.inr (.inr (va_up ff e0 none))))))) a = some (.inr (cTM, [.ref bd, .ref ba, .int (nI (bg mi)), .int (nI (ks mi)), .int (nI (vs mi)), .int (nI (en mi)), .ref ka, .ref ak, .int (nI rch), .int (nI (tb_n (tb mi) (en mi))), .int (nI 0)])) := by rw [mw_up_n _ _ (mw_neA f0 f1)]; exact f0
              have f1 : (mw_up w' ka (.inl (dA tBY, en mi, .inr (.inr (.inr (.inr (va_up ff e0 none))))))) ka = some (.inl (dA tBY, en mi, .inr (.inr (.inr (.inr (va_up ff e0 none)))))) := mw_up_s _ _ _
              refine lv_aload_n hx hb d_TM_free_33 rfl (lv_at hl 1 rfl) ?_
              refine lv_dup hx hb d_TM_free_34 rfl ?_
              refine mw_get K hI gf_TM_15_cTM f0 rfl d_TM_free_35 ?_
              refine lv_iconst (v := nI 1) hx hb d_TM_free_38 (by decide) ?_
              refine lv_isub hx hb d_TM_free_39 ?_
              refine mw_ti (pk_sub (by omega)) ?_
              refine mw_put K hI gp_TM_15_cTM (Or.inl ⟨_, rfl, rfl⟩) f0 rfl rfl (by simp) d_TM_free_40 (fun H locs hI => ?_)
              have hI : mw_I D mk_cl w s.heap (mw_up (mw_up w' ka (.inl (dA tBY, en mi, .inr (.inr (.inr (.inr (va_up ff e0 none))))))) a (.inr (cTM, [.ref bd, .ref ba, .int (nI (bg mi)), .int (nI (ks mi)), .int (nI (vs mi)), .int (nI (en mi)), .ref ka, .ref ak, .int (nI rch), .int (nI ((tb_n (tb mi) (en mi)) - 1)), .int (nI 0)]))) H _ := hI
              have f1 : (mw_up (mw_up w' ka (.inl (dA tBY, en mi, .inr (.inr (.inr (.inr (va_up ff e0 none))))))) a (.inr (cTM, [.ref bd, .ref ba, .int (nI (bg mi)), .int (nI (ks mi)), .int (nI (vs mi)), .int (nI (en mi)), .ref ka, .ref ak, .int (nI rch), .int (nI ((tb_n (tb mi) (en mi)) - 1)), .int (nI 0)]))) ka = some (.inl (dA tBY, en mi, .inr (.inr (.inr (.inr (va_up ff e0 none)))))) := by rw [mw_up_n _ _ ((mw_neA f0 f1).symm)]; exact f1
              have f0 : (mw_up (mw_up w' ka (.inl (dA tBY, en mi, .inr (.inr (.inr (.inr (va_up ff e0 none))))))) a (.inr (cTM, [.ref bd, .ref ba, .int (nI (bg mi)), .int (nI (ks mi)), .int (nI (vs mi)), .int (nI (en mi)), .ref ka, .ref ak, .int (nI rch), .int (nI ((tb_n (tb mi) (en mi)) - 1)), .int (nI 0)]))) a = some (.inr (cTM, [.ref bd, .ref ba, .int (nI (bg mi)), .int (nI (ks mi)), .int (nI (vs mi)), .int (nI (en mi)), .ref ka, .ref ak, .int (nI rch), .int (nI ((tb_n (tb mi) (en mi)) - 1)), .int (nI 0)])) := mw_up_s _ _ _
              refine lv_iconst (v := nI 0) hx hb d_TM_free_43 (by decide) ?_
              refine mw_iret K hI hr hlk ?_ d_TM_free_44
              rw [hsp]
              have nea : ∀ {q' : Nat} {y : va_E}, w' q' = some y → (¬ roleI i (own q') ∨ ∃ fs, y = .inr (cBY, fs)) → q' ≠ a := fun {q' y} hy hz e => by
                subst e
                rcases hz with hz | ⟨fs, hz⟩
                · exact hz (by rw [om]; exact Or.inl rfl)
                · rw [hz] at hy; exact absurd (hy.symm.trans f0_0) (by intro z; injection z with z; injection z with z; injection z with z; exact absurd z (by decide))
              have neka : ∀ {q' : Nat} {y : va_E}, w' q' = some y → (¬ roleI i (own q') ∨ ∃ fs, y = .inr (cBY, fs)) → q' ≠ ka := fun {q' y} hy hz e => by
                subst e
                rcases hz with hz | ⟨fs, hz⟩
                · exact hz (by rw [oka]; exact Or.inr (Or.inl rfl))
                · rw [hz] at hy; exact absurd (hy.symm.trans f1_0) (by simp)
              refine ⟨rfl, own, gd, ga, ?_, ?_⟩
              · refine hA2.map (i := i) (own' := own) ?_ (fun q' y hy hz => by rw [mw_up_n _ _ (nea hy hz), mw_up_n _ _ (neka hy hz)]; exact hy) (fun _ _ _ => rfl)
                rw [ea, ← em]
                have kb9 : ∀ {b x n : Nat} {g : Nat → Int64}, by_ok dA w' b x n g → (own x).1 ≠ 7 → (own x).1 ≠ 5 → by_ok dA (mw_up (mw_up w' ka (.inl (dA tBY, en mi, .inr (.inr (.inr (.inr (va_up ff e0 none))))))) a (.inr (cTM, [.ref bd, .ref ba, .int (nI (bg mi)), .int (nI (ks mi)), .int (nI (vs mi)), .int (nI (en mi)), .ref ka, .ref ak, .int (nI rch), .int (nI ((tb_n (tb mi) (en mi)) - 1)), .int (nI 0)]))) b x n g := fun {b x n g} hb h7 h5 => by
                  refine ⟨?_, ?_⟩
                  · rw [mw_up_n _ _ (nea hb.1 (Or.inr ⟨_, rfl⟩)), mw_up_n _ _ (neka hb.1 (Or.inr ⟨_, rfl⟩))]; exact hb.1
                  · rw [mw_up_n _ _ (fun z => h7 (by rw [z, om])), mw_up_n _ _ (fun z => h5 (by rw [z, oka]))]; exact hb.2
                refine ⟨om, Or.inr (Or.inl ⟨hk2, ka, ak, ax, rch, gk, va_up ff e0 none, ?_, oka, oax, kb9 fk (by rw [oax]; simp) (by rw [oax]; simp), hbl, f1, hr1, fun e he ht => ?_, fun e k' he => ?_⟩)⟩
                · rw [f0]
                  have : tb_n (tb mi) (en mi) - 1 = tb_n (va_up (tb mi) e0 none) (en mi) := by omega
                  rw [this]; rfl
                · have ht' : va_up (tb mi) e0 none e = none := ht
                  by_cases hee : e = e0
                  · rw [hee, va_up_self]
                  · rw [va_up_ne _ _ hee] at ht' ⊢; exact hn1 e he ht'
                · have he' : va_up (tb mi) e0 none e = some k' := he
                  by_cases hee : e = e0
                  · rw [hee, va_up_self] at he'; cases he'
                  · rw [va_up_ne _ _ hee] at he'
                    obtain ⟨g1, kb', kx', g, g2, g3, g4, g5⟩ := hs1 e k' he'
                    exact ⟨g1, kb', kx', g, (va_up_ne _ _ hee).trans g2, g3, kb9 g4 (by rw [g3]; simp) (by rw [g3]; simp), g5⟩
              · refine hF2.trans ((Fr.up f1_0 (by rw [oka]; simp)).trans (Fr.up (y0 := .inr (cTM, [.ref bd, .ref ba, .int (nI (bg mi)), .int (nI (ks mi)), .int (nI (vs mi)), .int (nI (en mi)), .ref ka, .ref ak, .int (nI rch), .int (nI (tb_n (tb mi) (en mi))), .int (nI 0)])) ?_ (by rw [om]; simp)))
                rw [mw_up_n _ _ (mw_neA f0_0 f1_0)]; exact f0_0
            ·
              exact absurd c20.symm (neg_ne (by omega))
          · rw [hk2] at k0; cases k0
      · exact absurd hq.1 (by simp)
    · cases hq4
  · obtain ⟨hq1, ⟨-, -, hq4⟩ | ⟨hq2, hq4⟩⟩ := hq
    · cases hq4
    · cases hq4
      rw [hq1] at hI
      rw [em] at hq2
      refine mw_on hI hce hlk hX ?_
      unfold sp_free
      rw [if_neg hq2]
      exact ⟨rfl, own, gd, ga, hA, Fr.rf w own⟩
