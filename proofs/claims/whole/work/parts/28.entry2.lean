/-! ### arrays and tables: find, update -/
set_option maxRecDepth 100000 in
set_option maxHeartbeats 4000000 in
theorem c_EM_placeOf_AM (l : Launch) (D : va_G) (dA : Nat → ClassId) (hL : mw_L l) {w : mw_W} {own : as_W} {x bd xd ba xa ra : Nat} {mp : Nat → Nat} {gd ga : Nat → Int64} {S : as_S} {t : Nat} (hA : rc_A dA w own x bd xd ba xa ra mp gd ga S) (hW : wf_S t S) {i : Nat} (hi : i < nm S) (hk : kd (mm S i) = 0) (k : Int32) : CT l D dA y_EM_placeOf (Cond.code y_EM_placeOf b_EM_placeOf 3 (some .int) :: Ts) 7 110 1 6 [.ref (mp i), .int k] w (PC dA w own x bd xd ba xa ra mp (sp_find S i k)) := by
  refine mw_meth (by decide) mk_tb (Nat.le_of_ble_eq_true rfl) ?_
  intro p e s m below meth c K hr hlk hce hnm hP0 hSy ls hl
  have hl : lv_has ls 3 [(0, .ref (mp i)), (1, .int k)] := hl
  obtain ⟨hx, hb, hml, hown, hts, hK, hTb⟩ := id K
  have hI := mw_I.start hP0
  obtain ⟨⟨o1, o2, o3, o4, fx, fd, fa, fr, hdk, har⟩, hM⟩ := id hA
  have hwf := hW.2.2.2.2.2 i hi
  obtain ⟨b1, b2, b3, b4, b5, b6, b7, b8⟩ := wf_E hwf (Or.inl hk)
  have f0 := rc_AM (hA.2 i hi) hk (wf_E hwf (Or.inl hk)).2.2.2.2.2.2.2
  obtain ⟨mi, em⟩ : ∃ mi, mi = mm S i := ⟨_, rfl⟩
  rw [← em] at f0
  refine lv_aload_n hx hb d_EM_placeOf_0 rfl (lv_at hl 0 rfl) ?_
  refine mw_get K hI gf_EM_21_cAM f0 rfl d_EM_placeOf_1 ?_
  refine lv_iload_n hx hb d_EM_placeOf_4 rfl (lv_at hl 1 rfl) ?_
  refine lv_aload_n hx hb d_EM_placeOf_5 rfl (lv_at hl 0 rfl) ?_
  refine mw_get K hI gf_EM_9_cAM f0 rfl d_EM_placeOf_6 ?_
  refine mw_call (rest := []) K hSy hP0 hI (c_BY_demand l D dA hL fd (by decide) k (k := ks mi) (by rw [em]; omega)) (mx_invV hx hown (hts _ tw_438) (hts _ tw_373) (hts _ tw_374) (hts _ tw_375) (by decide) (b := bd) (mw_rc K hI fd.1 rfl) (g := F0 m 9 ls [.int (nI (ks mi)), .int k, .ref bd]) rfl (argsL := [.int k, .int (nI (ks mi))]) (rest := []) np_BY_demand rfl (by rw [hb]; exact d_EM_placeOf_9)) hl.1 d_EM_placeOf_9 ⟨Nat.le_of_ble_eq_true rfl, Nat.le_of_ble_eq_true rfl⟩ (Or.inl ⟨_, _, List.mem_cons_self⟩) (mk_ws tw_375 hts) (fun a9 U9 h9 => Ts_warm hts _ tw_22 a9 U9 h9) ⟨Nat.le_of_ble_eq_true rfl, Nat.le_of_ble_eq_true rfl⟩ (fun v w' H locs hq hI => ?_) (fun k x w' H locs hq hI hX => ?_)
  · obtain ⟨hq1, ⟨hq2, hq3, hq4⟩ | ⟨-, hq4⟩⟩ := hq
    · cases hq4
      rw [hq1] at hI
      rw [em] at hq3
      obtain ⟨e1, e2⟩ := inD_nI ⟨hq2, hq3⟩ (by decide)
      have hsp : sp_find S i k = _ := if_pos ⟨hq2, hq3⟩
      have hin2 : inD k (ks (mm S i)) 512 := ⟨hq2, hq3⟩
      refine W.eq (g2 := F0 m 12 ls []) rfl ?_
      rw [e1] at hl
      refine lv_aload_n hx hb d_EM_placeOf_12 rfl (lv_at hl 0 rfl) ?_
      refine lv_iload_n hx hb d_EM_placeOf_13 rfl (lv_at hl 1 rfl) ?_
      refine mw_call (rest := []) K hSy hP0 hI (c_AM_entryOf l D dA hA hW hi hk (q := k.toNatClampNeg) e2) (mx_invU (y := y_AM_entryOf) hx hown (hts _ tw_439) (hts _ tw_441) (va_Decl.abs (va_Nw.of rfl (hts _ tw_440))) (by decide) (hts _ tw_442) (hts _ tw_443) (b := (mp i)) (mw_rc K hI f0 rfl) (g := F0 m 14 ls [.int (nI k.toNatClampNeg), .ref (mp i)]) rfl (argsL := [.int (nI k.toNatClampNeg)]) (rest := []) np_EM_entryOf rfl (by rw [hb]; exact d_EM_placeOf_14)) hl.1 d_EM_placeOf_14 ⟨Nat.le_of_ble_eq_true rfl, Nat.le_of_ble_eq_true rfl⟩ (Or.inl ⟨_, _, List.mem_cons_self⟩) (mk_ws tw_444 hts) (fun a9 U9 h9 => Ts_warm hts _ tw_32 a9 U9 h9) ⟨Nat.le_of_ble_eq_true rfl, Nat.le_of_ble_eq_true rfl⟩ (fun v w' H locs hq hI => ?_) (fun k x w' H locs hq hI hX => ?_)
      · obtain ⟨hq5, hA2, hF2⟩ := hq
        cases hq5
        refine W.eq (g2 := F0 m 17 ls [.int (oI (ent S i k.toNatClampNeg))]) rfl ?_
        obtain ⟨n1, n2, n3, n4, n5⟩ := lk_nm S i k.toNatClampNeg
        have hi2 : i < nm (lk S i k.toNatClampNeg) := by rw [n1]; exact hi
        have hW2 := hW.ofL (q := k.toNatClampNeg) hi
        have hwf2 := hW2.2.2.2.2.2 i hi2
        have hk2 : kd (mm (lk S i k.toNatClampNeg) i) = 0 := by show (mm (lk S i k.toNatClampNeg) i).1.1 = _; rw [(n5 i).1]; exact hk
        have f02 := rc_AM (hA2.2 i hi2) hk2 (wf_E hwf2 (Or.inl hk2)).2.2.2.2.2.2.2
        have hlt : ∀ e, ent S i k.toNatClampNeg = some e → e < en (mm S i) := fun e he => ent_lt he
        cases he : ent S i k.toNatClampNeg with
        | none =>
          refine mw_ti (y := (-1)) (rfl) ?_
          refine lv_istore_n (lv' := [(2, .int (-1)), (0, .ref (mp i)), (1, .int (nI k.toNatClampNeg))]) hx hb d_EM_placeOf_17 rfl hl (by decide) rfl (fun ls hl => ?_)
          refine lv_iload_n hx hb d_EM_placeOf_18 rfl (lv_at hl 0 rfl) ?_
          refine lv_iconst (v := (-1)) hx hb d_EM_placeOf_19 (by decide) ?_
          refine lv_icmp_ne (tgt := 27) hx hb d_EM_placeOf_20 (by decide) (fun c20 => ?_) (fun c20 => ?_)
          ·
            exact absurd rfl c20
          ·
            refine lv_iconst (v := (-1)) hx hb d_EM_placeOf_23 (by decide) ?_
            refine lv_goto (tgt := 32) hx hb d_EM_placeOf_24 (by decide) ?_
            refine mw_iret K hI hr hlk ?_ d_EM_placeOf_32
            rw [hsp, he]
            exact ⟨rfl, own, gd, ga, hA2, hF2⟩
        | some e0 =>
          have hlt := hlt e0 he
          refine mw_ti (y := nI e0) (rfl) ?_
          refine lv_istore_n (lv' := [(2, .int (nI e0)), (0, .ref (mp i)), (1, .int (nI k.toNatClampNeg))]) hx hb d_EM_placeOf_17 rfl hl (by decide) rfl (fun ls hl => ?_)
          refine lv_iload_n hx hb d_EM_placeOf_18 rfl (lv_at hl 0 rfl) ?_
          refine lv_iconst (v := (-1)) hx hb d_EM_placeOf_19 (by decide) ?_
          refine lv_icmp_ne (tgt := 27) hx hb d_EM_placeOf_20 (by decide) (fun c20 => ?_) (fun c20 => ?_)
          ·
            refine lv_aload_n hx hb d_EM_placeOf_27 rfl (lv_at hl 1 rfl) ?_
            refine lv_iload_n hx hb d_EM_placeOf_28 rfl (lv_at hl 0 rfl) ?_
            refine mw_call (rest := []) K hSy hP0 hI (c_EM_placeOfEntry_AM l D dA hA2 hW2 hi2 hk2 (e0 := e0) (by show e0 < (mm (lk S i k.toNatClampNeg) i).1.2.2.2.1; rw [(n5 i).1]; exact hlt)) (mx_invP hx hown (hts _ tw_461) (hts _ tw_463) (hts _ tw_462) (hts _ tw_435) rfl (hts _ tw_464) (by decide) (b := (mp i)) (mw_rc K hI f02 rfl) (g := F0 m 29 ls [.int (nI e0), .ref (mp i)]) rfl (argsL := [.int (nI e0)]) (rest := []) np_EM_placeOfEntry rfl (by rw [hb]; exact d_EM_placeOf_29)) hl.1 d_EM_placeOf_29 ⟨Nat.le_of_ble_eq_true rfl, Nat.le_of_ble_eq_true rfl⟩ (Or.inl ⟨_, _, List.mem_cons_self⟩) (mk_ws tw_464 hts) (fun a9 U9 h9 => Ts_warm hts _ tw_31 a9 U9 h9) ⟨Nat.le_of_ble_eq_true rfl, Nat.le_of_ble_eq_true rfl⟩ (fun v w' H locs hq hI => ?_) (fun k x w' H locs hq hI hX => ?_)
            · obtain ⟨hq7, hq8⟩ := hq
              cases hq7
              rw [hq8] at hI
              refine W.eq (g2 := F0 m 32 ls [.int (nI (plc (mm (lk S i k.toNatClampNeg) i) e0))]) rfl ?_
              refine mw_ti (y := nI (plc (mm S i) e0)) ((by rw [plc_1 (n5 i).1])) ?_
              refine mw_iret K hI hr hlk ?_ d_EM_placeOf_32
              rw [hsp, he]
              exact ⟨rfl, own, gd, ga, hA2, hF2⟩
            · exact absurd hq.1 (by simp)
          ·
            exact absurd c20.symm (neg_ne (by omega))
      · exact absurd hq.1 (by simp)
    · cases hq4
  · obtain ⟨hq1, ⟨-, -, hq4⟩ | ⟨hq2, hq4⟩⟩ := hq
    · cases hq4
    · cases hq4
      rw [hq1] at hI
      rw [em] at hq2
      refine mw_on hI hce hlk hX ?_
      unfold sp_find
      rw [if_neg hq2]
      exact ⟨rfl, own, gd, ga, hA, Fr.rf w own⟩
set_option maxRecDepth 100000 in
set_option maxHeartbeats 4000000 in
theorem c_EM_placeOf_TM (l : Launch) (D : va_G) (dA : Nat → ClassId) (hL : mw_L l) {w : mw_W} {own : as_W} {x bd xd ba xa ra : Nat} {mp : Nat → Nat} {gd ga : Nat → Int64} {S : as_S} {t : Nat} (hA : rc_A dA w own x bd xd ba xa ra mp gd ga S) (hW : wf_S t S) {i : Nat} (hi : i < nm S) (hk : kd (mm S i) = 1) (k : Int32) : CT l D dA y_EM_placeOf (Cond.code y_EM_placeOf b_EM_placeOf 3 (some .int) :: Ts) 7 110 1 6 [.ref (mp i), .int k] w (PC dA w own x bd xd ba xa ra mp (sp_find S i k)) := by
  refine mw_meth (by decide) mk_tb (Nat.le_of_ble_eq_true rfl) ?_
  intro p e s m below meth c K hr hlk hce hnm hP0 hSy ls hl
  have hl : lv_has ls 3 [(0, .ref (mp i)), (1, .int k)] := hl
  obtain ⟨hx, hb, hml, hown, hts, hK, hTb⟩ := id K
  have hI := mw_I.start hP0
  obtain ⟨⟨o1, o2, o3, o4, fx, fd, fa, fr, hdk, har⟩, hM⟩ := id hA
  have hwf := hW.2.2.2.2.2 i hi
  obtain ⟨b1, b2, b3, b4, b5, b6, b7, b8⟩ := wf_E hwf (Or.inr hk)
  obtain ⟨ka, ak, rch, wk, f0⟩ := rc_TM (hA.2 i hi) hk
  obtain ⟨mi, em⟩ : ∃ mi, mi = mm S i := ⟨_, rfl⟩
  rw [← em] at f0
  refine lv_aload_n hx hb d_EM_placeOf_0 rfl (lv_at hl 0 rfl) ?_
  refine mw_get K hI gf_EM_21_cTM f0 rfl d_EM_placeOf_1 ?_
  refine lv_iload_n hx hb d_EM_placeOf_4 rfl (lv_at hl 1 rfl) ?_
  refine lv_aload_n hx hb d_EM_placeOf_5 rfl (lv_at hl 0 rfl) ?_
  refine mw_get K hI gf_EM_9_cTM f0 rfl d_EM_placeOf_6 ?_
  refine mw_call (rest := []) K hSy hP0 hI (c_BY_demand l D dA hL fd (by decide) k (k := ks mi) (by rw [em]; omega)) (mx_invV hx hown (hts _ tw_438) (hts _ tw_373) (hts _ tw_374) (hts _ tw_375) (by decide) (b := bd) (mw_rc K hI fd.1 rfl) (g := F0 m 9 ls [.int (nI (ks mi)), .int k, .ref bd]) rfl (argsL := [.int k, .int (nI (ks mi))]) (rest := []) np_BY_demand rfl (by rw [hb]; exact d_EM_placeOf_9)) hl.1 d_EM_placeOf_9 ⟨Nat.le_of_ble_eq_true rfl, Nat.le_of_ble_eq_true rfl⟩ (Or.inl ⟨_, _, List.mem_cons_self⟩) (mk_ws tw_375 hts) (fun a9 U9 h9 => Ts_warm hts _ tw_22 a9 U9 h9) ⟨Nat.le_of_ble_eq_true rfl, Nat.le_of_ble_eq_true rfl⟩ (fun v w' H locs hq hI => ?_) (fun k x w' H locs hq hI hX => ?_)
  · obtain ⟨hq1, ⟨hq2, hq3, hq4⟩ | ⟨-, hq4⟩⟩ := hq
    · cases hq4
      rw [hq1] at hI
      rw [em] at hq3
      obtain ⟨e1, e2⟩ := inD_nI ⟨hq2, hq3⟩ (by decide)
      have hsp : sp_find S i k = _ := if_pos ⟨hq2, hq3⟩
      have hin2 : inD k (ks (mm S i)) 512 := ⟨hq2, hq3⟩
      refine W.eq (g2 := F0 m 12 ls []) rfl ?_
      rw [e1] at hl
      refine lv_aload_n hx hb d_EM_placeOf_12 rfl (lv_at hl 0 rfl) ?_
      refine lv_iload_n hx hb d_EM_placeOf_13 rfl (lv_at hl 1 rfl) ?_
      refine mw_call (rest := []) K hSy hP0 hI (c_TM_entryOf2 l D dA hA hW hi hk (q := k.toNatClampNeg) e2) (mx_invU (y := y_TM_entryOf) hx hown (hts _ tw_439) (hts _ tw_441) (va_Decl.abs (va_Nw.of rfl (hts _ tw_440))) (by decide) (hts _ tw_446) (hts _ tw_447) (b := (mp i)) (mw_rc K hI f0 rfl) (g := F0 m 14 ls [.int (nI k.toNatClampNeg), .ref (mp i)]) rfl (argsL := [.int (nI k.toNatClampNeg)]) (rest := []) np_EM_entryOf rfl (by rw [hb]; exact d_EM_placeOf_14)) hl.1 d_EM_placeOf_14 ⟨Nat.le_of_ble_eq_true rfl, Nat.le_of_ble_eq_true rfl⟩ (Or.inl ⟨_, _, List.mem_cons_self⟩) (mk_ws tw_448 hts) (fun a9 U9 h9 => Ts_warm hts _ tw_33 a9 U9 h9) ⟨Nat.le_of_ble_eq_true rfl, Nat.le_of_ble_eq_true rfl⟩ (fun v w' H locs hq hI => ?_) (fun k x w' H locs hq hI hX => ?_)
      · obtain ⟨hq5, hA2, hF2⟩ := hq
        cases hq5
        refine W.eq (g2 := F0 m 17 ls [.int (oI (ent S i k.toNatClampNeg))]) rfl ?_
        obtain ⟨n1, n2, n3, n4, n5⟩ := lk_nm S i k.toNatClampNeg
        have hi2 : i < nm (lk S i k.toNatClampNeg) := by rw [n1]; exact hi
        have hW2 := hW.ofL (q := k.toNatClampNeg) hi
        have hwf2 := hW2.2.2.2.2.2 i hi2
        have hk2 : kd (mm (lk S i k.toNatClampNeg) i) = 1 := by show (mm (lk S i k.toNatClampNeg) i).1.1 = _; rw [(n5 i).1]; exact hk
        obtain ⟨ka2, ak2, rch2, wk2, f02⟩ := rc_TM (hA2.2 i hi2) hk2
        have hlt : ∀ e, ent S i k.toNatClampNeg = some e → e < en (mm S i) := fun e he => ent_lt he
        cases he : ent S i k.toNatClampNeg with
        | none =>
          refine mw_ti (y := (-1)) (rfl) ?_
          refine lv_istore_n (lv' := [(2, .int (-1)), (0, .ref (mp i)), (1, .int (nI k.toNatClampNeg))]) hx hb d_EM_placeOf_17 rfl hl (by decide) rfl (fun ls hl => ?_)
          refine lv_iload_n hx hb d_EM_placeOf_18 rfl (lv_at hl 0 rfl) ?_
          refine lv_iconst (v := (-1)) hx hb d_EM_placeOf_19 (by decide) ?_
          refine lv_icmp_ne (tgt := 27) hx hb d_EM_placeOf_20 (by decide) (fun c20 => ?_) (fun c20 => ?_)
          ·
            exact absurd rfl c20
          ·
            refine lv_iconst (v := (-1)) hx hb d_EM_placeOf_23 (by decide) ?_
            refine lv_goto (tgt := 32) hx hb d_EM_placeOf_24 (by decide) ?_
            refine mw_iret K hI hr hlk ?_ d_EM_placeOf_32
            rw [hsp, he]
            exact ⟨rfl, own, gd, ga, hA2, hF2⟩
        | some e0 =>
          have hlt := hlt e0 he
          refine mw_ti (y := nI e0) (rfl) ?_
          refine lv_istore_n (lv' := [(2, .int (nI e0)), (0, .ref (mp i)), (1, .int (nI k.toNatClampNeg))]) hx hb d_EM_placeOf_17 rfl hl (by decide) rfl (fun ls hl => ?_)
          refine lv_iload_n hx hb d_EM_placeOf_18 rfl (lv_at hl 0 rfl) ?_
          refine lv_iconst (v := (-1)) hx hb d_EM_placeOf_19 (by decide) ?_
          refine lv_icmp_ne (tgt := 27) hx hb d_EM_placeOf_20 (by decide) (fun c20 => ?_) (fun c20 => ?_)
          ·
            refine lv_aload_n hx hb d_EM_placeOf_27 rfl (lv_at hl 1 rfl) ?_
            refine lv_iload_n hx hb d_EM_placeOf_28 rfl (lv_at hl 0 rfl) ?_
            refine mw_call (rest := []) K hSy hP0 hI (c_EM_placeOfEntry_TM l D dA hA2 hW2 hi2 hk2 (e0 := e0) (by show e0 < (mm (lk S i k.toNatClampNeg) i).1.2.2.2.1; rw [(n5 i).1]; exact hlt)) (mx_invP hx hown (hts _ tw_461) (hts _ tw_463) (hts _ tw_462) (hts _ tw_467) rfl (hts _ tw_464) (by decide) (b := (mp i)) (mw_rc K hI f02 rfl) (g := F0 m 29 ls [.int (nI e0), .ref (mp i)]) rfl (argsL := [.int (nI e0)]) (rest := []) np_EM_placeOfEntry rfl (by rw [hb]; exact d_EM_placeOf_29)) hl.1 d_EM_placeOf_29 ⟨Nat.le_of_ble_eq_true rfl, Nat.le_of_ble_eq_true rfl⟩ (Or.inl ⟨_, _, List.mem_cons_self⟩) (mk_ws tw_464 hts) (fun a9 U9 h9 => Ts_warm hts _ tw_31 a9 U9 h9) ⟨Nat.le_of_ble_eq_true rfl, Nat.le_of_ble_eq_true rfl⟩ (fun v w' H locs hq hI => ?_) (fun k x w' H locs hq hI hX => ?_)
            · obtain ⟨hq7, hq8⟩ := hq
              cases hq7
              rw [hq8] at hI
              refine W.eq (g2 := F0 m 32 ls [.int (nI (plc (mm (lk S i k.toNatClampNeg) i) e0))]) rfl ?_
              refine mw_ti (y := nI (plc (mm S i) e0)) ((by rw [plc_1 (n5 i).1])) ?_
              refine mw_iret K hI hr hlk ?_ d_EM_placeOf_32
              rw [hsp, he]
              exact ⟨rfl, own, gd, ga, hA2, hF2⟩
            · exact absurd hq.1 (by simp)
          ·
            exact absurd c20.symm (neg_ne (by omega))
      · exact absurd hq.1 (by simp)
    · cases hq4
  · obtain ⟨hq1, ⟨-, -, hq4⟩ | ⟨hq2, hq4⟩⟩ := hq
    · cases hq4
    · cases hq4
      rw [hq1] at hI
      rw [em] at hq2
      refine mw_on hI hce hlk hX ?_
      unfold sp_find
      rw [if_neg hq2]
      exact ⟨rfl, own, gd, ga, hA, Fr.rf w own⟩
