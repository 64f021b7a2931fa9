/-! ### the model: find, remove, used -/
theorem RepM.ofL {dA : Nat → ClassId} {w : mw_W} {own : as_W} {y : Nat} {A : Nat → Nat} {cd : Int32} {fe fk : Nat → Nat} {ec kc : Nat} {fi : Nat → Nat → Int32} {fl : Nat → Nat → Int64} {S : as_S} (hw : mo_W dA w own y A cd (nI (gv S)) (nI (nm S)) (nI ec) (nI kc) (nI 0) fi fl) (hR : mo_R fe fk ec kc fi fl S) (i q : Nat) : RepM dA w own y cd (lk S i q) := ⟨A, fe, fk, ec, kc, fi, fl, by rw [(lk_nm S i q).2.2.2.1, (lk_nm S i q).1]; exact hw, hR.ofL i q⟩
set_option maxRecDepth 100000 in
set_option maxHeartbeats 4000000 in
theorem c_MO_find (l : Launch) (D : va_G) (dA : Nat → ClassId) {w : mw_W} {own : as_W} {y t : Nat} {cd : Int32} {S : as_S} (hM : RepM dA w own y cd S) (hW : wf_S t S) (q k : Int32) : CT l D dA y_MO_find (Cond.code y_MO_find b_MO_find 4 (some .int) :: Ts) 3 100 0 0 [.ref y, .int q, .int k] w (MM dA w own y kO (sp_FIND S q k)) := by
  refine mw_meth (by decide) mk_tb (Nat.le_of_ble_eq_true rfl) ?_
  intro p e s m below meth c K hr hlk hce hnm hP0 hSy ls hl
  have hl : lv_has ls 4 [(0, .ref y), (1, .int q), (2, .int k)] := hl
  obtain ⟨hx, hb, hml, hown, hts, hK, hTb⟩ := id K
  have hI := mw_I.start hP0
  obtain ⟨A, fe, fk, ec, kc, fi, fl, hw, hR⟩ := hM
  have hF := FrM.rf w own
  have h64 := hW.1
  refine lv_aload_n hx hb d_MO_find_0 rfl (lv_at hl 0 rfl) ?_
  refine lv_iload_n hx hb d_MO_find_1 rfl (lv_at hl 1 rfl) ?_
  refine mw_call (rest := []) K hSy hP0 hI (c_MO_noMap l D dA hw hW.1 q) (mx_invV hx hown (hts _ tw_694) (hts _ tw_696) (hts _ tw_8) (hts _ tw_697) (by decide) (b := y) (mw_rc K hI hw.o rfl) (g := F0 m 2 ls [.int q, .ref y]) rfl (argsL := [.int q]) (rest := []) np_MO_noMap rfl (by rw [hb]; exact d_MO_find_2)) hl.1 d_MO_find_2 ⟨Nat.le_of_ble_eq_true rfl, Nat.le_of_ble_eq_true rfl⟩ (Or.inl ⟨_, _, List.mem_cons_self⟩) (mk_ws tw_697 hts) (fun a9 U9 h9 => Ts_warm hts _ tw_23 a9 U9 h9) ⟨Nat.le_of_ble_eq_true rfl, Nat.le_of_ble_eq_true rfl⟩ (fun v w' H locs hq hI => ?_) (fun k x w' H locs hq hI hX => ?_)
  · obtain ⟨hF, ⟨h1, h2, hq1, hw⟩ | ⟨h1, hq1, hw⟩⟩ := hq
    · cases hq1
      have hsp : sp_FIND S q k = _ := if_pos ⟨h1, h2⟩
      obtain ⟨e1, hi⟩ := inM_nI ⟨h1, h2⟩ hW.1
      refine W.eq (g2 := F0 m 5 ls [.int (nI 0)]) rfl ?_
      rw [e1] at hl
      generalize q.toNatClampNeg = i at *
      have hwf := hW.2.2.2.2.2 i hi
      obtain ⟨⟨r1, r2, r3, r4, r5⟩, r11, r12, r13, r14⟩ := hR.2.2.1 i hi
      have hkk : kd (mm S i) = 0 ∨ kd (mm S i) = 1 ∨ kd (mm S i) = 2 := by
        obtain ⟨-, ⟨k0, -⟩ | ⟨k0, -⟩ | ⟨k0, -⟩⟩ := hwf
        · exact Or.inl k0
        · exact Or.inr (Or.inl k0)
        · exact Or.inr (Or.inr k0)
      refine lv_if_eq (tgt := 10) hx hb d_MO_find_5 (by decide) (fun c5 => ?_) (fun c5 => ?_)
      ·
        refine lv_aload_n hx hb d_MO_find_10 rfl (lv_at hl 0 rfl) ?_
        refine mw_get K hI gf_MO_17_cMO hw.o rfl d_MO_find_11 ?_
        refine lv_iload_n hx hb d_MO_find_14 rfl (lv_at hl 1 rfl) ?_
        refine mw_iald K hI tI hw.a2 rfl i rfl (by first | assumption | omega) (by omega) d_MO_find_15 ?_
        refine mw_ti (y := nI (kd (mm S i))) (r1) ?_
        refine lv_iconst (v := nI 2) hx hb d_MO_find_16 (by decide) ?_
        refine lv_icmp_ne (tgt := 23) hx hb d_MO_find_17 (by decide) (fun c17 => ?_) (fun c17 => ?_)
        ·
          have hk2 : kd (mm S i) ≠ 2 := fun z => c17 (by rw [z])
          have hk : kd (mm S i) = 0 ∨ kd (mm S i) = 1 := by omega
          obtain ⟨b1, b2, b3, b4, b5, b6, b7, b8⟩ := wf_E hwf hk
          have hsp := hsp.trans (if_neg hk2)
          have fin : inD k (ks (mm S i)) 512 → ∀ (w1 : mw_W), FrM w own w1 → mo_W dA w1 own y A (nI 0) (nI (gv S)) (nI (nm S)) (nI ec) (nI kc) (nI 0) fi fl → ∀ (H : Heap) (locs : List Loc), mw_I D mk_cl w s.heap w1 H locs → ∀ ls : Array Slot, lv_has ls 4 [(0, .ref y), (1, .int (nI i))] → W p l e { frames := 3, cells := 0, slots := 0, locals := 100 } s m ([.ref y, .int q, .int k] : List Value).toArray below meth c H locs 0 0 (mx_Q below (mw_Qc D mk_cl w s.heap.size (MM dA w own y kO (sp_FIND S q k))) ([.ref y, .int q, .int k] : List Value).toArray s 0 0 (mw_A w s.heap.size)) (F0 m 78 ls [.int (oI (ent S i k.toNatClampNeg))]) := by
            intro hin w1 hF hw H locs hI ls hl
            have hsp := hsp.trans (if_pos hin)
            cases he : ent S i k.toNatClampNeg with
            | none =>
              rw [he] at hsp
              refine mw_ti (y := (-1)) (rfl) ?_
              refine lv_istore_n (lv' := [(3, .int (-1)), (0, .ref y), (1, .int (nI i))]) hx hb d_MO_find_78 rfl hl (by decide) rfl (fun ls hl => ?_)
              refine lv_iload_n hx hb d_MO_find_79 rfl (lv_at hl 0 rfl) ?_
              refine lv_if_ge (tgt := 87) hx hb d_MO_find_80 (by decide) (fun c80 => ?_) (fun c80 => ?_)
              ·
                exact absurd c80 (by decide)
              ·
                refine lv_iconst (v := (-1)) hx hb d_MO_find_83 (by decide) ?_
                refine lv_goto (tgt := 93) hx hb d_MO_find_84 (by decide) ?_
                refine mw_iret K hI hr hlk ?_ d_MO_find_93
                rw [hsp]
                exact ⟨_, _, rfl, RepM.ofL hw hR i _, hF, fun u hu => by cases hu; exact ⟨rfl, rfl⟩, fun k hk => by cases hk⟩
            | some e0 =>
              have hlt := ent_lt he
              rw [he] at hsp
              refine mw_ti (y := nI e0) (rfl) ?_
              refine lv_istore_n (lv' := [(3, .int (nI e0)), (0, .ref y), (1, .int (nI i))]) hx hb d_MO_find_78 rfl hl (by decide) rfl (fun ls hl => ?_)
              refine lv_iload_n hx hb d_MO_find_79 rfl (lv_at hl 0 rfl) ?_
              refine lv_if_ge (tgt := 87) hx hb d_MO_find_80 (by decide) (fun c80 => ?_) (fun c80 => ?_)
              ·
                refine lv_aload_n hx hb d_MO_find_87 rfl (lv_at hl 1 rfl) ?_
                refine lv_iload_n hx hb d_MO_find_88 rfl (lv_at hl 2 rfl) ?_
                refine lv_iload_n hx hb d_MO_find_89 rfl (lv_at hl 0 rfl) ?_
                refine mw_call (rest := []) K hSy hP0 hI (c_MO_placeOf l D dA hw hR hW hi hk hlt) (mx_invV hx hown (hts _ tw_748) (hts _ tw_750) (hts _ tw_13) (hts _ tw_751) (by decide) (b := y) (mw_rc K hI hw.o rfl) (g := F0 m 90 ls [.int (nI e0), .int (nI i), .ref y]) rfl (argsL := [.int (nI i), .int (nI e0)]) (rest := []) np_MO_placeOf rfl (by rw [hb]; exact d_MO_find_90)) hl.1 d_MO_find_90 ⟨Nat.le_of_ble_eq_true rfl, Nat.le_of_ble_eq_true rfl⟩ (Or.inl ⟨_, _, List.mem_cons_self⟩) (mk_ws tw_751 hts) (fun a9 U9 h9 => Ts_warm hts _ tw_23 a9 U9 h9) ⟨Nat.le_of_ble_eq_true rfl, Nat.le_of_ble_eq_true rfl⟩ (fun v w' H locs hq hI => ?_) (fun k x w' H locs hq hI hX => ?_)
                · obtain ⟨hq1, hq2⟩ := hq
                  cases hq1
                  rw [hq2] at hI
                  refine W.eq (g2 := F0 m 93 ls [.int (nI (plc (mm S i) e0))]) rfl ?_
                  refine mw_iret K hI hr hlk ?_ d_MO_find_93
                  rw [hsp]
                  exact ⟨_, _, rfl, RepM.ofL hw hR i _, hF, fun u hu => by cases hu; exact ⟨rfl, rfl⟩, fun k hk => by cases hk⟩
                · exact absurd hq.1 (by simp)
              ·
                exact absurd (nI_pos' (by omega)) c80
          refine lv_aload_n hx hb d_MO_find_23 rfl (lv_at hl 0 rfl) ?_
          refine lv_iload_n hx hb d_MO_find_24 rfl (lv_at hl 2 rfl) ?_
          refine lv_aload_n hx hb d_MO_find_25 rfl (lv_at hl 0 rfl) ?_
          refine mw_get K hI gf_MO_21_cMO hw.o rfl d_MO_find_26 ?_
          refine lv_iload_n hx hb d_MO_find_29 rfl (lv_at hl 1 rfl) ?_
          refine mw_iald K hI tI hw.a3 rfl i rfl (by first | assumption | omega) (by omega) d_MO_find_30 ?_
          refine mw_ti (y := nI (ks (mm S i))) (r2) ?_
          refine mp_call (rest := [.ref y]) hb hml (c_MO_isDesk l k (n := ks (mm S i)) (by omega)) (mx_invS hx hown (hts _ tw_706) (hts _ tw_707) (hts _ tw_23) (hts _ tw_708) (by decide) (g := F0 m 31 ls [.int (nI (ks (mm S i))), .int k, .ref y]) rfl (argsL := [.int k, .int (nI (ks (mm S i)))]) (rest := [.ref y]) np_MO_isDesk rfl (by rw [hb]; exact d_MO_find_31)) hl.1 d_MO_find_31 ⟨Nat.le_of_ble_eq_true rfl, Nat.le_of_ble_eq_true rfl⟩ (Or.inl ⟨_, _, List.mem_cons_self⟩) (mk_ws tw_708 hts) (fun a9 U9 h9 => Ts_warm hts _ tw_23 a9 U9 h9) (by first | exact ⟨Nat.le_of_ble_eq_true rfl, Nat.le_of_ble_eq_true rfl⟩ | assumption) (fun v hv => ?_)
          subst hv
          refine W.eq (g2 := F0 m 34 ls [.int (if inD k (ks (mm S i)) 512 then 1 else 0), .ref y]) rfl ?_
          refine lv_if_eq (tgt := 41) hx hb d_MO_find_34 (by decide) (fun c34 => ?_) (fun c34 => ?_)
          ·
            rw [if10.1] at c34
            have hsp := hsp.trans (if_neg c34)
            refine lv_iconst (v := nI 1) hx hb d_MO_find_41 (by decide) ?_
            refine mw_put K hI gp_MO_60_cMO (Or.inl ⟨_, rfl, rfl⟩) hw.o rfl rfl (by simp) d_MO_find_42 (fun H locs hI => ?_)
            obtain ⟨wn1, hI, hF, hw⟩ := mo_W.seto (cd' := (nI 1)) (g' := nI (gv S)) (n' := nI (nm S)) (ec' := nI ec) (kc' := nI kc) (br' := nI 0) hw hI hF
            refine lv_aload_n hx hb d_MO_find_45 rfl (lv_at hl 0 rfl) ?_
            refine mw_get K hI gf_MO_60_cMO hw.o rfl d_MO_find_46 ?_
            refine lv_if_le (tgt := 54) hx hb d_MO_find_49 (by decide) (fun c49 => ?_) (fun c49 => ?_)
            ·
              exact absurd c49 (by decide)
            ·
              refine lv_iconst (v := nI 0) hx hb d_MO_find_52 (by decide) ?_
              refine mw_iret K hI hr hlk ?_ d_MO_find_53
              rw [hsp]
              exact ⟨_, _, rfl, ⟨A, fe, fk, ec, kc, fi, fl, hw, hR⟩, hF, (fun u hu => by cases hu), fun k hk => by cases hk; rfl⟩
          ·
            rw [if10.2] at c34
            obtain ⟨e3, e4⟩ := inD_nI c34 (by decide)
            rw [e3] at hl
            refine lv_iconst (v := nI 0) hx hb d_MO_find_37 (by decide) ?_
            refine lv_goto (tgt := 42) hx hb d_MO_find_38 (by decide) ?_
            refine mw_put K hI gp_MO_60_cMO (Or.inl ⟨_, rfl, rfl⟩) hw.o rfl rfl (by simp) d_MO_find_42 (fun H locs hI => ?_)
            obtain ⟨wn2, hI, hF, hw⟩ := mo_W.seto (cd' := (nI 0)) (g' := nI (gv S)) (n' := nI (nm S)) (ec' := nI ec) (kc' := nI kc) (br' := nI 0) hw hI hF
            refine lv_aload_n hx hb d_MO_find_45 rfl (lv_at hl 0 rfl) ?_
            refine mw_get K hI gf_MO_60_cMO hw.o rfl d_MO_find_46 ?_
            refine lv_if_le (tgt := 54) hx hb d_MO_find_49 (by decide) (fun c49 => ?_) (fun c49 => ?_)
            ·
              refine lv_aload_n hx hb d_MO_find_54 rfl (lv_at hl 0 rfl) ?_
              refine mw_get K hI gf_MO_17_cMO hw.o rfl d_MO_find_55 ?_
              refine lv_iload_n hx hb d_MO_find_58 rfl (lv_at hl 1 rfl) ?_
              refine mw_iald K hI tI hw.a2 rfl i rfl (by first | assumption | omega) (by omega) d_MO_find_59 ?_
              refine mw_ti (y := nI (kd (mm S i))) (r1) ?_
              refine lv_if_ne (tgt := 72) hx hb d_MO_find_60 (by decide) (fun c60 => ?_) (fun c60 => ?_)
              ·
                have hk1 : kd (mm S i) = 1 := by rcases hk with h | h; exact absurd (by rw [h]; rfl) c60; exact h
                refine lv_aload_n hx hb d_MO_find_72 rfl (lv_at hl 0 rfl) ?_
                refine lv_iload_n hx hb d_MO_find_73 rfl (lv_at hl 1 rfl) ?_
                refine lv_iload_n hx hb d_MO_find_74 rfl (lv_at hl 2 rfl) ?_
                refine mw_call (rest := []) K hSy hP0 hI (c_MO_entryOf l D dA hw hR hW hi hk1 (q := k.toNatClampNeg) e4) (mx_invV hx hown (hts _ tw_740) (hts _ tw_742) (hts _ tw_11) (hts _ tw_743) (by decide) (b := y) (mw_rc K hI hw.o rfl) (g := F0 m 75 ls [.int (nI k.toNatClampNeg), .int (nI i), .ref y]) rfl (argsL := [.int (nI i), .int (nI k.toNatClampNeg)]) (rest := []) np_MO_entryOf rfl (by rw [hb]; exact d_MO_find_75)) hl.1 d_MO_find_75 ⟨Nat.le_of_ble_eq_true rfl, Nat.le_of_ble_eq_true rfl⟩ (Or.inl ⟨_, _, List.mem_cons_self⟩) (mk_ws tw_743 hts) (fun a9 U9 h9 => Ts_warm hts _ tw_23 a9 U9 h9) ⟨Nat.le_of_ble_eq_true rfl, Nat.le_of_ble_eq_true rfl⟩ (fun v w' H locs hq hI => ?_) (fun k x w' H locs hq hI hX => ?_)
                · obtain ⟨hq5, hF2, hw⟩ := hq
                  cases hq5
                  refine W.eq (g2 := F0 m 78 ls [.int (oI (fnd (mm S i) (kyL (dk S) k.toNatClampNeg (ks (mm S i)))))]) rfl ?_
                  refine mw_ti (y := oI (ent S i k.toNatClampNeg)) ((by rw [ent_1 _ hk1])) ?_
                  exact fin c34 _ (hF.trans hF2) hw H locs hI ls (lv_sub hl [0, 1] rfl)
                · exact absurd hq.1 (by simp)
              ·
                have hk0 : kd (mm S i) = 0 := (nI_eq (by omega) (by decide)).mp (c60.trans nI_0.symm)
                refine lv_aload_n hx hb d_MO_find_63 rfl (lv_at hl 0 rfl) ?_
                refine lv_iload_n hx hb d_MO_find_64 rfl (lv_at hl 1 rfl) ?_
                refine lv_iload_n hx hb d_MO_find_65 rfl (lv_at hl 2 rfl) ?_
                refine mw_call (rest := []) K hSy hP0 hI (c_MO_entryOfArray l D dA hw hR hW hi hk0 (q := k.toNatClampNeg) e4) (mx_invV hx hown (hts _ tw_736) (hts _ tw_738) (hts _ tw_10) (hts _ tw_739) (by decide) (b := y) (mw_rc K hI hw.o rfl) (g := F0 m 66 ls [.int (nI k.toNatClampNeg), .int (nI i), .ref y]) rfl (argsL := [.int (nI i), .int (nI k.toNatClampNeg)]) (rest := []) np_MO_entryOfArray rfl (by rw [hb]; exact d_MO_find_66)) hl.1 d_MO_find_66 ⟨Nat.le_of_ble_eq_true rfl, Nat.le_of_ble_eq_true rfl⟩ (Or.inl ⟨_, _, List.mem_cons_self⟩) (mk_ws tw_739 hts) (fun a9 U9 h9 => Ts_warm hts _ tw_23 a9 U9 h9) ⟨Nat.le_of_ble_eq_true rfl, Nat.le_of_ble_eq_true rfl⟩ (fun v w' H locs hq hI => ?_) (fun k x w' H locs hq hI hX => ?_)
                · obtain ⟨hq5, hq6⟩ := hq
                  cases hq5
                  rw [hq6] at hI
                  refine W.eq (g2 := F0 m 69 ls [.int (oI (ent S i k.toNatClampNeg))]) rfl ?_
                  refine lv_goto (tgt := 78) hx hb d_MO_find_69 (by decide) ?_
                  exact fin c34 _ hF hw H locs hI ls (lv_sub hl [0, 1] rfl)
                · exact absurd hq.1 (by simp)
            ·
              exact absurd (by decide) c49
        ·
          have hk2 : kd (mm S i) = 2 := (nI_eq (by omega) (by decide)).mp c17
          have hsp := hsp.trans (if_pos hk2)
          refine lv_bipush (v := (-22)) hx hb d_MO_find_20 (by decide) ?_
          refine mw_iret K hI hr hlk ?_ d_MO_find_22
          rw [hsp]
          exact ⟨_, _, rfl, ⟨A, fe, fk, ec, kc, fi, fl, hw, hR⟩, hF, fun u hu => by cases hu; exact ⟨rfl, rfl⟩, fun k hk => by cases hk⟩
      ·
        exact absurd (by decide) c5
    · cases hq1
      have hsp : sp_FIND S q k = _ := if_neg h1
      refine W.eq (g2 := F0 m 5 ls [.int (nI 1)]) rfl ?_
      refine lv_if_eq (tgt := 10) hx hb d_MO_find_5 (by decide) (fun c5 => ?_) (fun c5 => ?_)
      ·
        exact absurd c5 (by decide)
      ·
        refine lv_iconst (v := nI 0) hx hb d_MO_find_8 (by decide) ?_
        refine mw_iret K hI hr hlk ?_ d_MO_find_9
        rw [hsp]
        exact ⟨_, _, rfl, ⟨A, fe, fk, ec, kc, fi, fl, hw, hR⟩, hF, (fun u hu => by cases hu), fun k hk => by cases hk; rfl⟩
  · obtain ⟨hF, ⟨h1, h2, hq1, hw⟩ | ⟨h1, hq1, hw⟩⟩ := hq <;> cases hq1

set_option maxRecDepth 100000 in
set_option maxHeartbeats 4000000 in
theorem c_MO_remove (l : Launch) (D : va_G) (dA : Nat → ClassId) {w : mw_W} {own : as_W} {y t : Nat} {cd : Int32} {S : as_S} (hM : RepM dA w own y cd S) (hW : wf_S t S) (q k : Int32) : CT l D dA y_MO_remove (Cond.code y_MO_remove b_MO_remove 4 (some .int) :: Ts) 3 100 0 0 [.ref y, .int q, .int k] w (MM dA w own y kO (sp_REM S q k)) := by
  refine mw_meth (by decide) mk_tb (Nat.le_of_ble_eq_true rfl) ?_
  intro p e s m below meth c K hr hlk hce hnm hP0 hSy ls hl
  have hl : lv_has ls 4 [(0, .ref y), (1, .int q), (2, .int k)] := hl
  obtain ⟨hx, hb, hml, hown, hts, hK, hTb⟩ := id K
  have hI := mw_I.start hP0
  obtain ⟨A, fe, fk, ec, kc, fi, fl, hw, hR⟩ := hM
  have hF := FrM.rf w own
  have h64 := hW.1
  refine lv_aload_n hx hb d_MO_remove_0 rfl (lv_at hl 0 rfl) ?_
  refine lv_iload_n hx hb d_MO_remove_1 rfl (lv_at hl 1 rfl) ?_
  refine mw_call (rest := []) K hSy hP0 hI (c_MO_noMap l D dA hw hW.1 q) (mx_invV hx hown (hts _ tw_694) (hts _ tw_696) (hts _ tw_8) (hts _ tw_697) (by decide) (b := y) (mw_rc K hI hw.o rfl) (g := F0 m 2 ls [.int q, .ref y]) rfl (argsL := [.int q]) (rest := []) np_MO_noMap rfl (by rw [hb]; exact d_MO_remove_2)) hl.1 d_MO_remove_2 ⟨Nat.le_of_ble_eq_true rfl, Nat.le_of_ble_eq_true rfl⟩ (Or.inl ⟨_, _, List.mem_cons_self⟩) (mk_ws tw_697 hts) (fun a9 U9 h9 => Ts_warm hts _ tw_23 a9 U9 h9) ⟨Nat.le_of_ble_eq_true rfl, Nat.le_of_ble_eq_true rfl⟩ (fun v w' H locs hq hI => ?_) (fun k x w' H locs hq hI hX => ?_)
  · obtain ⟨hF, ⟨h1, h2, hq1, hw⟩ | ⟨h1, hq1, hw⟩⟩ := hq
    · cases hq1
      have hsp : sp_REM S q k = _ := if_pos ⟨h1, h2⟩
      obtain ⟨e1, hi⟩ := inM_nI ⟨h1, h2⟩ hW.1
      refine W.eq (g2 := F0 m 5 ls [.int (nI 0)]) rfl ?_
      rw [e1] at hl
      generalize q.toNatClampNeg = i at *
      have hwf := hW.2.2.2.2.2 i hi
      obtain ⟨⟨r1, r2, r3, r4, r5⟩, r11, r12, r13, r14⟩ := hR.2.2.1 i hi
      have hkk : kd (mm S i) = 0 ∨ kd (mm S i) = 1 ∨ kd (mm S i) = 2 := by
        obtain ⟨-, ⟨k0, -⟩ | ⟨k0, -⟩ | ⟨k0, -⟩⟩ := hwf
        · exact Or.inl k0
        · exact Or.inr (Or.inl k0)
        · exact Or.inr (Or.inr k0)
      refine lv_if_eq (tgt := 10) hx hb d_MO_remove_5 (by decide) (fun c5 => ?_) (fun c5 => ?_)
      ·
        refine lv_aload_n hx hb d_MO_remove_10 rfl (lv_at hl 0 rfl) ?_
        refine mw_get K hI gf_MO_17_cMO hw.o rfl d_MO_remove_11 ?_
        refine lv_iload_n hx hb d_MO_remove_14 rfl (lv_at hl 1 rfl) ?_
        refine mw_iald K hI tI hw.a2 rfl i rfl (by first | assumption | omega) (by omega) d_MO_remove_15 ?_
        refine mw_ti (y := nI (kd (mm S i))) (r1) ?_
        refine lv_iconst (v := nI 1) hx hb d_MO_remove_16 (by decide) ?_
        refine lv_icmp_eq (tgt := 23) hx hb d_MO_remove_17 (by decide) (fun c17 => ?_) (fun c17 => ?_)
        ·
          have hk : kd (mm S i) = 1 := (nI_eq (by omega) (by decide)).mp c17
          obtain ⟨b1, b2, b3, b4, b5, b6, b7, b8⟩ := wf_E hwf (Or.inr hk)
          obtain ⟨t1, t2, t3, t4, t5, t6⟩ := hR.2.2.2.2.1 i hi hk
          obtain ⟨hec, hkc⟩ := mo_ec hR hW
          have hsp := hsp.trans (if_pos hk)
          refine lv_aload_n hx hb d_MO_remove_23 rfl (lv_at hl 0 rfl) ?_
          refine lv_iload_n hx hb d_MO_remove_24 rfl (lv_at hl 2 rfl) ?_
          refine lv_aload_n hx hb d_MO_remove_25 rfl (lv_at hl 0 rfl) ?_
          refine mw_get K hI gf_MO_21_cMO hw.o rfl d_MO_remove_26 ?_
          refine lv_iload_n hx hb d_MO_remove_29 rfl (lv_at hl 1 rfl) ?_
          refine mw_iald K hI tI hw.a3 rfl i rfl (by first | assumption | omega) (by omega) d_MO_remove_30 ?_
          refine mw_ti (y := nI (ks (mm S i))) (r2) ?_
          refine mp_call (rest := [.ref y]) hb hml (c_MO_isDesk l k (n := ks (mm S i)) (by omega)) (mx_invS hx hown (hts _ tw_706) (hts _ tw_707) (hts _ tw_23) (hts _ tw_708) (by decide) (g := F0 m 31 ls [.int (nI (ks (mm S i))), .int k, .ref y]) rfl (argsL := [.int k, .int (nI (ks (mm S i)))]) (rest := [.ref y]) np_MO_isDesk rfl (by rw [hb]; exact d_MO_remove_31)) hl.1 d_MO_remove_31 ⟨Nat.le_of_ble_eq_true rfl, Nat.le_of_ble_eq_true rfl⟩ (Or.inl ⟨_, _, List.mem_cons_self⟩) (mk_ws tw_708 hts) (fun a9 U9 h9 => Ts_warm hts _ tw_23 a9 U9 h9) (by first | exact ⟨Nat.le_of_ble_eq_true rfl, Nat.le_of_ble_eq_true rfl⟩ | assumption) (fun v hv => ?_)
          subst hv
          refine W.eq (g2 := F0 m 34 ls [.int (if inD k (ks (mm S i)) 512 then 1 else 0), .ref y]) rfl ?_
          refine lv_if_eq (tgt := 41) hx hb d_MO_remove_34 (by decide) (fun c34 => ?_) (fun c34 => ?_)
          ·
            rw [if10.1] at c34
            have hsp := hsp.trans (if_neg c34)
            refine lv_iconst (v := nI 1) hx hb d_MO_remove_41 (by decide) ?_
            refine mw_put K hI gp_MO_60_cMO (Or.inl ⟨_, rfl, rfl⟩) hw.o rfl rfl (by simp) d_MO_remove_42 (fun H locs hI => ?_)
            obtain ⟨wn3, hI, hF, hw⟩ := mo_W.seto (cd' := (nI 1)) (g' := nI (gv S)) (n' := nI (nm S)) (ec' := nI ec) (kc' := nI kc) (br' := nI 0) hw hI hF
            refine lv_aload_n hx hb d_MO_remove_45 rfl (lv_at hl 0 rfl) ?_
            refine mw_get K hI gf_MO_60_cMO hw.o rfl d_MO_remove_46 ?_
            refine lv_if_le (tgt := 54) hx hb d_MO_remove_49 (by decide) (fun c49 => ?_) (fun c49 => ?_)
            ·
              exact absurd c49 (by decide)
            ·
              refine lv_iconst (v := nI 0) hx hb d_MO_remove_52 (by decide) ?_
              refine mw_iret K hI hr hlk ?_ d_MO_remove_53
              rw [hsp]
              exact ⟨_, _, rfl, ⟨A, fe, fk, ec, kc, fi, fl, hw, hR⟩, hF, (fun u hu => by cases hu), fun k hk => by cases hk; rfl⟩
          ·
            rw [if10.2] at c34
            obtain ⟨e3, e4⟩ := inD_nI c34 (by decide)
            have hsp := hsp.trans (if_pos c34)
            rw [e3] at hl
            refine lv_iconst (v := nI 0) hx hb d_MO_remove_37 (by decide) ?_
            refine lv_goto (tgt := 42) hx hb d_MO_remove_38 (by decide) ?_
            refine mw_put K hI gp_MO_60_cMO (Or.inl ⟨_, rfl, rfl⟩) hw.o rfl rfl (by simp) d_MO_remove_42 (fun H locs hI => ?_)
            obtain ⟨wn4, hI, hF, hw⟩ := mo_W.seto (cd' := (nI 0)) (g' := nI (gv S)) (n' := nI (nm S)) (ec' := nI ec) (kc' := nI kc) (br' := nI 0) hw hI hF
            refine lv_aload_n hx hb d_MO_remove_45 rfl (lv_at hl 0 rfl) ?_
            refine mw_get K hI gf_MO_60_cMO hw.o rfl d_MO_remove_46 ?_
            refine lv_if_le (tgt := 54) hx hb d_MO_remove_49 (by decide) (fun c49 => ?_) (fun c49 => ?_)
            ·
              refine lv_aload_n hx hb d_MO_remove_54 rfl (lv_at hl 0 rfl) ?_
              refine lv_iload_n hx hb d_MO_remove_55 rfl (lv_at hl 1 rfl) ?_
              refine lv_iload_n hx hb d_MO_remove_56 rfl (lv_at hl 2 rfl) ?_
              refine mw_call (rest := []) K hSy hP0 hI (c_MO_entryOf l D dA hw hR hW hi hk (q := k.toNatClampNeg) e4) (mx_invV hx hown (hts _ tw_740) (hts _ tw_742) (hts _ tw_11) (hts _ tw_743) (by decide) (b := y) (mw_rc K hI hw.o rfl) (g := F0 m 57 ls [.int (nI k.toNatClampNeg), .int (nI i), .ref y]) rfl (argsL := [.int (nI i), .int (nI k.toNatClampNeg)]) (rest := []) np_MO_entryOf rfl (by rw [hb]; exact d_MO_remove_57)) hl.1 d_MO_remove_57 ⟨Nat.le_of_ble_eq_true rfl, Nat.le_of_ble_eq_true rfl⟩ (Or.inl ⟨_, _, List.mem_cons_self⟩) (mk_ws tw_743 hts) (fun a9 U9 h9 => Ts_warm hts _ tw_23 a9 U9 h9) ⟨Nat.le_of_ble_eq_true rfl, Nat.le_of_ble_eq_true rfl⟩ (fun v w' H locs hq hI => ?_) (fun k x w' H locs hq hI hX => ?_)
              · obtain ⟨hq5, hF2, hw⟩ := hq
                cases hq5
                have hF := hF.trans hF2
                rw [← ent_1 _ hk]
                refine W.eq (g2 := F0 m 60 ls [.int (oI (ent S i k.toNatClampNeg))]) rfl ?_
                cases he : ent S i k.toNatClampNeg with
                | none =>
                  rw [he] at hsp
                  refine mw_ti (y := (-1)) (rfl) ?_
                  refine lv_istore_n (lv' := [(3, .int (-1)), (0, .ref y), (1, .int (nI i)), (2, .int (nI k.toNatClampNeg))]) hx hb d_MO_remove_60 rfl hl (by decide) rfl (fun ls hl => ?_)
                  refine lv_iload_n hx hb d_MO_remove_61 rfl (lv_at hl 0 rfl) ?_
                  refine lv_if_ge (tgt := 68) hx hb d_MO_remove_62 (by decide) (fun c62 => ?_) (fun c62 => ?_)
                  ·
                    exact absurd c62 (by decide)
                  ·
                    refine lv_bipush (v := (-2)) hx hb d_MO_remove_65 (by decide) ?_
                    refine mw_iret K hI hr hlk ?_ d_MO_remove_67
                    rw [hsp]
                    exact ⟨_, _, rfl, RepM.ofL hw hR i _, hF, fun u hu => by cases hu; exact ⟨rfl, rfl⟩, fun k hk => by cases hk⟩
                | some e0 =>
                  have hlt := ent_lt he
                  rw [he] at hsp
                  refine mw_ti (y := nI e0) (rfl) ?_
                  refine lv_istore_n (lv' := [(3, .int (nI e0)), (0, .ref y), (1, .int (nI i)), (2, .int (nI k.toNatClampNeg))]) hx hb d_MO_remove_60 rfl hl (by decide) rfl (fun ls hl => ?_)
                  refine lv_iload_n hx hb d_MO_remove_61 rfl (lv_at hl 0 rfl) ?_
                  refine lv_if_ge (tgt := 68) hx hb d_MO_remove_62 (by decide) (fun c62 => ?_) (fun c62 => ?_)
                  ·
                    refine lv_aload_n hx hb d_MO_remove_68 rfl (lv_at hl 1 rfl) ?_
                    refine mw_get K hI gf_MO_39_cMO hw.o rfl d_MO_remove_69 ?_
                    refine lv_aload_n hx hb d_MO_remove_72 rfl (lv_at hl 1 rfl) ?_
                    refine mw_get K hI gf_MO_33_cMO hw.o rfl d_MO_remove_73 ?_
                    refine lv_iload_n hx hb d_MO_remove_76 rfl (lv_at hl 2 rfl) ?_
                    refine mw_iald K hI tI hw.a7 rfl i rfl (by first | assumption | omega) (by omega) d_MO_remove_77 ?_
                    refine mw_ti (y := nI (fe i)) (t1) ?_
                    refine lv_iload_n hx hb d_MO_remove_78 rfl (lv_at hl 0 rfl) ?_
                    refine lv_iadd hx hb d_MO_remove_79 ?_
                    refine mw_ti (nI_add _ _) ?_
                    refine lv_iconst (v := nI 0) hx hb d_MO_remove_80 (by decide) ?_
                    refine mw_zast K hI tZ hw.a9 rfl (fe i + e0) rfl (by first | assumption | omega) (by omega) d_MO_remove_81 (fun H locs hI => ?_)
                    obtain ⟨wn5, fn5, hI, hF, hw, hfn5⟩ := hw.seti (f := upd (fi 9) (fe i + e0) (vp_nar .boolean (nI 0))) 9 (by decide) hI hF rfl
                    refine lv_iconst (v := nI 0) hx hb d_MO_remove_82 (by decide) ?_
                    refine mw_iret K hI hr hlk ?_ d_MO_remove_83
                    rw [hsp]
                    refine ⟨_, _, rfl, ⟨A, fe, fk, ec, kc, fn5, fl, ?_, ?_⟩, hF, fun u hu => by cases hu; exact ⟨rfl, rfl⟩, fun k hk => by cases hk⟩
                    · show mo_W dA _ own y A (nI 0) (nI (gv (lk S i k.toNatClampNeg))) (nI (nm (lk S i k.toNatClampNeg))) _ _ _ _ _
                      rw [(lk_nm S i k.toNatClampNeg).2.2.2.1, (lk_nm S i k.toNatClampNeg).1]; exact hw
                    · have hL := hR.ofL i k.toNatClampNeg
                      obtain ⟨n1, n2, n3, n4, n5⟩ := lk_nm S i k.toNatClampNeg
                      refine hL.tab (by rw [n1]; exact hi) (by show (mm (lk S i k.toNatClampNeg) i).1.1 = 1; rw [(n5 i).1]; exact hk) (by show e0 < (mm (lk S i k.toNatClampNeg) i).1.2.2.2.1; rw [(n5 i).1]; exact hlt) (fun p => ?_) (fun p _ => ?_) (fun k hk => by cases hk) (fun z hz _ => ?_)
                      · rw [hfn5, va_up_self]; rfl
                      · rw [hfn5, va_up_ne _ _ (by decide)]
                      · rw [hfn5, va_up_ne _ _ hz]
                  ·
                    exact absurd (nI_pos' (by omega)) c62
              · exact absurd hq.1 (by simp)
            ·
              exact absurd (by decide) c49
        ·
          have hk2 : kd (mm S i) ≠ 1 := fun z => c17 (by rw [z])
          have hsp := hsp.trans (if_neg hk2)
          refine lv_bipush (v := (-22)) hx hb d_MO_remove_20 (by decide) ?_
          refine mw_iret K hI hr hlk ?_ d_MO_remove_22
          rw [hsp]
          exact ⟨_, _, rfl, ⟨A, fe, fk, ec, kc, fi, fl, hw, hR⟩, hF, fun u hu => by cases hu; exact ⟨rfl, rfl⟩, fun k hk => by cases hk⟩
      ·
        exact absurd (by decide) c5
    · cases hq1
      have hsp : sp_REM S q k = _ := if_neg h1
      refine W.eq (g2 := F0 m 5 ls [.int (nI 1)]) rfl ?_
      refine lv_if_eq (tgt := 10) hx hb d_MO_remove_5 (by decide) (fun c5 => ?_) (fun c5 => ?_)
      ·
        exact absurd c5 (by decide)
      ·
        refine lv_iconst (v := nI 0) hx hb d_MO_remove_8 (by decide) ?_
        refine mw_iret K hI hr hlk ?_ d_MO_remove_9
        rw [hsp]
        exact ⟨_, _, rfl, ⟨A, fe, fk, ec, kc, fi, fl, hw, hR⟩, hF, (fun u hu => by cases hu), fun k hk => by cases hk; rfl⟩
  · obtain ⟨hF, ⟨h1, h2, hq1, hw⟩ | ⟨h1, hq1, hw⟩⟩ := hq <;> cases hq1

