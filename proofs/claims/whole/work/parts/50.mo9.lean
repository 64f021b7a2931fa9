/-! ### the model: take -/
set_option maxRecDepth 100000 in
set_option maxHeartbeats 4000000 in
theorem c_MO_take (l : Launch) (D : va_G) (dA : Nat → ClassId) {w : mw_W} {own : as_W} {y t : Nat} {cd : Int32} {S : as_S} (hM : RepM dA w own y cd S) (hW : wf_S t S) (ht : t ≤ 512) (q a : Int32) : CT l D dA y_MO_take (Cond.code y_MO_take b_MO_take 7 (some .int) :: Ts) 3 120 0 0 [.ref y, .int q, .int a] w (MM dA w own y kO (sp_TAKE S q a)) := by
  refine mw_meth (by decide) mk_tb (Nat.le_of_ble_eq_true rfl) ?_
  intro p e s m below meth c K hr hlk hce hnm hP0 hSy ls hl
  have hl : lv_has ls 7 [(0, .ref y), (1, .int q), (2, .int a)] := hl
  obtain ⟨hx, hb, hml, hown, hts, hK, hTb⟩ := id K
  have hI := mw_I.start hP0
  obtain ⟨A, fe, fk, ec, kc, fi, fl, hw, hR⟩ := hM
  have hF := FrM.rf w own
  have h64 := hW.1
  refine lv_aload_n hx hb d_MO_take_0 rfl (lv_at hl 0 rfl) ?_
  refine lv_iload_n hx hb d_MO_take_1 rfl (lv_at hl 1 rfl) ?_
  refine mw_call (rest := []) K hSy hP0 hI (c_MO_noMap l D dA hw hW.1 q) (mx_invV hx hown (hts _ tw_694) (hts _ tw_696) (hts _ tw_8) (hts _ tw_697) (by decide) (b := y) (mw_rc K hI hw.o rfl) (g := F0 m 2 ls [.int q, .ref y]) rfl (argsL := [.int q]) (rest := []) np_MO_noMap rfl (by rw [hb]; exact d_MO_take_2)) hl.1 d_MO_take_2 ⟨Nat.le_of_ble_eq_true rfl, Nat.le_of_ble_eq_true rfl⟩ (Or.inl ⟨_, _, List.mem_cons_self⟩) (mk_ws tw_697 hts) (fun a9 U9 h9 => Ts_warm hts _ tw_23 a9 U9 h9) ⟨Nat.le_of_ble_eq_true rfl, Nat.le_of_ble_eq_true rfl⟩ (fun v w' H locs hq hI => ?_) (fun k x w' H locs hq hI hX => ?_)
  · obtain ⟨hF, ⟨h1, h2, hq1, hw⟩ | ⟨h1, hq1, hw⟩⟩ := hq
    · cases hq1
      have hsp : sp_TAKE S q a = _ := if_pos ⟨h1, h2⟩
      obtain ⟨e1, hi⟩ := inM_nI ⟨h1, h2⟩ hW.1
      refine W.eq (g2 := F0 m 5 ls [.int (nI 0)]) rfl ?_
      rw [e1] at hl
      generalize q.toNatClampNeg = i at *
      have hwf := hW.2.2.2.2.2 i hi
      obtain ⟨⟨r1, r2, r3, r4, r5⟩, r11, r12, r13, r14⟩ := hR.2.2.1 i hi
      have hkk : kd (mm S i) = 0 ∨ kd (mm S i) = 1 ∨ kd (mm S i) = 2 := by
        obtain ⟨-, ⟨k0, -⟩ | ⟨k0, -⟩ | ⟨k0, -⟩⟩ := hwf
        · exact Or.inl k0
        · exact Or.inr (Or.inl k0)
        · exact Or.inr (Or.inr k0)
      refine lv_if_eq (tgt := 10) hx hb d_MO_take_5 (by decide) (fun c5 => ?_) (fun c5 => ?_)
      ·
        have bad : ¬ (kd (mm S i) = 2 ∧ ¬ bk (mm S i) = true) → ∀ (H : Heap) (locs : List Loc), mw_I D mk_cl w s.heap w' H locs → ∀ ls : Array Slot, lv_has ls 7 [] → W p l e { frames := 3, cells := 0, slots := 0, locals := 120 } s m ([.ref y, .int q, .int a] : List Value).toArray below meth c H locs 0 0 (mx_Q below (mw_Qc D mk_cl w s.heap.size (MM dA w own y kO (sp_TAKE S q a))) ([.ref y, .int q, .int a] : List Value).toArray s 0 0 (mw_A w s.heap.size)) (F0 m 29 ls []) := by
          intro hn H locs hI ls hl
          have hsp : sp_TAKE S q a = (S, .inl (-22)) := by
            by_cases h2 : kd (mm S i) = 2
            · exact (hsp.trans (if_pos h2)).trans (if_pos (Decidable.byContradiction (fun h => hn ⟨h2, h⟩)))
            · exact hsp.trans (if_neg h2)
          refine lv_bipush (v := (-22)) hx hb d_MO_take_29 (by decide) ?_
          refine mw_iret K hI hr hlk ?_ d_MO_take_31
          rw [hsp]
          exact ⟨_, _, rfl, ⟨A, fe, fk, ec, kc, fi, fl, hw, hR⟩, hF, fun u hu => by cases hu; exact ⟨rfl, rfl⟩, fun k hk => by cases hk⟩
        refine lv_aload_n hx hb d_MO_take_10 rfl (lv_at hl 0 rfl) ?_
        refine mw_get K hI gf_MO_17_cMO hw.o rfl d_MO_take_11 ?_
        refine lv_iload_n hx hb d_MO_take_14 rfl (lv_at hl 1 rfl) ?_
        refine mw_iald K hI tI hw.a2 rfl i rfl (by first | assumption | omega) (by omega) d_MO_take_15 ?_
        refine mw_ti (y := nI (kd (mm S i))) (r1) ?_
        refine lv_iconst (v := nI 2) hx hb d_MO_take_16 (by decide) ?_
        refine lv_icmp_ne (tgt := 29) hx hb d_MO_take_17 (by decide) (fun c17 => ?_) (fun c17 => ?_)
        ·
          exact bad (fun h => c17 (by rw [h.1])) H locs hI ls (lv_sub hl [] rfl)
        ·
          have hk : kd (mm S i) = 2 := (nI_eq (by omega) (by decide)).mp c17
          obtain ⟨z1, z2, z3, z4, z5, z6, z7, z8, z9⟩ := wf_R hwf hk
          have p8 := p2_8 z2
          have hsp := hsp.trans (if_pos hk)
          refine lv_aload_n hx hb d_MO_take_20 rfl (lv_at hl 0 rfl) ?_
          refine mw_get K hI gf_MO_57_cMO hw.o rfl d_MO_take_21 ?_
          refine lv_iload_n hx hb d_MO_take_24 rfl (lv_at hl 1 rfl) ?_
          refine mw_zald K hI tZ hw.a14 rfl i rfl (by first | assumption | omega) (by omega) d_MO_take_25 ?_
          refine mw_ti (y := nI (if bk (mm S i) = true then 1 else 0)) (r14) ?_
          refine lv_if_eq (tgt := 32) hx hb d_MO_take_26 (by decide) (fun c26 => ?_) (fun c26 => ?_)
          ·
            have hb0 : ¬ bk (mm S i) = true := fun z => by rw [if_pos z] at c26; exact absurd c26 (by decide)
            have hsp := hsp.trans (if_neg hb0)
            refine lv_aload_n hx hb d_MO_take_32 rfl (lv_at hl 0 rfl) ?_
            refine mw_get K hI gf_MO_47_cMO hw.o rfl d_MO_take_33 ?_
            refine lv_iload_n hx hb d_MO_take_36 rfl (lv_at hl 1 rfl) ?_
            refine mw_lald K hI tJ hw.a11 rfl i rfl (by first | assumption | omega) (by omega) d_MO_take_37 ?_
            refine mw_tl (y := lN (hd (mm S i))) (r11) ?_
            refine lv_aload_n hx hb d_MO_take_38 rfl (lv_at hl 0 rfl) ?_
            refine mw_get K hI gf_MO_51_cMO hw.o rfl d_MO_take_39 ?_
            refine lv_iload_n hx hb d_MO_take_42 rfl (lv_at hl 1 rfl) ?_
            refine mw_lald K hI tJ hw.a12 rfl i rfl (by first | assumption | omega) (by omega) d_MO_take_43 ?_
            refine mw_tl (y := lN (tl (mm S i))) (r12) ?_
            refine W.lcmp hx hb d_MO_take_44 ?_
            refine lv_if_ne (tgt := 51) hx hb d_MO_take_45 (by decide) (fun c45 => ?_) (fun c45 => ?_)
            ·
              have hne : ¬ hd (mm S i) = tl (mm S i) := fun z => by rw [z] at c45; exact c45 ((lg_cmp_eq _ _).mpr rfl)
              have hsp := hsp.trans (if_neg hne)
              obtain ⟨z, ez⟩ : ∃ z, z = szR S i := ⟨_, rfl⟩
              rw [← ez] at hsp
              have hzlt : z < 2 ^ 32 := by rw [ez]; exact bw_n_lt hW.2.2.2.2.1 4 _
              have brk : ¬ (1 ≤ z ∧ z ≤ 256 ∧ up8 (8 + z) ≤ hd (mm S i) - tl (mm S i)) → ∀ (H : Heap) (locs : List Loc), mw_I D mk_cl w s.heap w' H locs → ∀ ls : Array Slot, lv_has ls 7 [(0, .ref y), (1, .int (nI i))] → W p l e { frames := 3, cells := 0, slots := 0, locals := 120 } s m ([.ref y, .int q, .int a] : List Value).toArray below meth c H locs 0 0 (mx_Q below (mw_Qc D mk_cl w s.heap.size (MM dA w own y kO (sp_TAKE S q a))) ([.ref y, .int q, .int a] : List Value).toArray s 0 0 (mw_A w s.heap.size)) (F0 m 103 ls []) := by
                intro hn H locs hI ls hl
                have hsp := hsp.trans (if_neg hn)
                refine lv_aload_n hx hb d_MO_take_103 rfl (lv_at hl 0 rfl) ?_
                refine mw_get K hI gf_MO_57_cMO hw.o rfl d_MO_take_104 ?_
                refine lv_iload_n hx hb d_MO_take_107 rfl (lv_at hl 1 rfl) ?_
                refine lv_iconst (v := nI 1) hx hb d_MO_take_108 (by decide) ?_
                refine mw_zast K hI tZ hw.a14 rfl i rfl (by first | assumption | omega) (by omega) d_MO_take_109 (fun H locs hI => ?_)
                obtain ⟨wn1, fn1, hI, hF, hw, hfn1⟩ := hw.seti (f := upd (fi 14) i (vp_nar .boolean (nI 1))) 14 (by decide) hI hF rfl
                refine lv_bipush (v := (-22)) hx hb d_MO_take_110 (by decide) ?_
                refine mw_iret K hI hr hlk ?_ d_MO_take_112
                rw [hsp]
                refine ⟨_, _, rfl, ⟨A, fe, fk, ec, kc, _, _, hw, ?_⟩, hF, fun u hu => by cases hu; exact ⟨rfl, rfl⟩, fun k hk => by cases hk⟩
                refine hR.ring hi (fun p => ?_) (fun p => ?_) (fun p => ?_) (fun p => ?_) (fun b _ hb14 => ?_)
                · by_cases h9 : p = i
                  · rw [if_pos h9, h9]; exact r11
                  · rw [if_neg h9]
                · by_cases h9 : p = i
                  · rw [if_pos h9, h9]; exact r12
                  · rw [if_neg h9]
                · rw [hfn1, va_up_ne _ _ (by decide)]
                  by_cases h9 : p = i
                  · rw [if_pos h9, h9]; exact r13
                  · rw [if_neg h9]
                · rw [hfn1, va_up_self]; rfl
                · rw [hfn1, va_up_ne _ _ hb14]
              refine lv_aload_n hx hb d_MO_take_51 rfl (lv_at hl 0 rfl) ?_
              refine lv_iload_n hx hb d_MO_take_52 rfl (lv_at hl 1 rfl) ?_
              refine lv_aload_n hx hb d_MO_take_53 rfl (lv_at hl 0 rfl) ?_
              refine mw_get K hI gf_MO_51_cMO hw.o rfl d_MO_take_54 ?_
              refine lv_iload_n hx hb d_MO_take_57 rfl (lv_at hl 1 rfl) ?_
              refine mw_lald K hI tJ hw.a12 rfl i rfl (by first | assumption | omega) (by omega) d_MO_take_58 ?_
              refine mw_tl (y := lN (tl (mm S i))) (r12) ?_
              refine mw_call (rest := []) K hSy hP0 hI (c_MO_numberInRing l D dA hw hR hW hi hk (cc := tl (mm S i)) (by omega) z7) (mx_invV hx hown (hts _ tw_788) (hts _ tw_790) (hts _ tw_19) (hts _ tw_791) (by decide) (b := y) (mw_rc K hI hw.o rfl) (g := F0 m 59 ls [.long (lN (tl (mm S i))), .int (nI i), .ref y]) rfl (argsL := [.int (nI i), .long (lN (tl (mm S i)))]) (rest := []) np_MO_numberInRing rfl (by rw [hb]; exact d_MO_take_59)) hl.1 d_MO_take_59 ⟨Nat.le_of_ble_eq_true rfl, Nat.le_of_ble_eq_true rfl⟩ (Or.inl ⟨_, _, List.mem_cons_self⟩) (mk_ws tw_791 hts) (fun a9 U9 h9 => Ts_warm hts _ tw_23 a9 U9 h9) ⟨Nat.le_of_ble_eq_true rfl, Nat.le_of_ble_eq_true rfl⟩ (fun v w' H locs hq hI => ?_) (fun k x w' H locs hq hI hX => ?_)
              · obtain ⟨hq1, hq2⟩ := hq
                cases hq1
                rw [hq2] at hI
                refine W.eq (g2 := F0 m 62 ls [.long (lN (bw_n (ar S) (bg (mm S i) + tl (mm S i) % en (mm S i)) 4))]) rfl ?_
                refine mw_tl (y := lN z) ((by rw [ez]; rfl)) ?_
                refine lv_lstore_n (lv' := [(3, .long (lN z)), (0, .ref y), (1, .int (nI i)), (2, .int a)]) hx hb d_MO_take_62 rfl hl (by decide) rfl (fun ls hl => ?_)
                refine lv_lload_n hx hb d_MO_take_63 rfl (lv_at hl 0 rfl) ?_
                refine lv_lconst (v := lN 1) hx hb d_MO_take_64 (by decide) ?_
                refine W.lcmp hx hb d_MO_take_65 ?_
                refine lv_if_lt (tgt := 103) hx hb d_MO_take_66 (by decide) (fun c66 => ?_) (fun c66 => ?_)
                ·
                  rw [lg_cmp_lt, lN_ltL (by omega) (by decide)] at c66
                  exact brk (fun h => by omega) H locs hI ls (lv_sub hl [1, 2] rfl)
                ·
                  rw [lg_cmp_lt, lN_ltL (by omega) (by decide)] at c66
                  refine lv_lload_n hx hb d_MO_take_69 rfl (lv_at hl 0 rfl) ?_
                  refine lv_ldc2 (v := lN 256) hx hb hown (hts _ tw_712) d_MO_take_70 ?_
                  refine W.lcmp hx hb d_MO_take_73 ?_
                  refine lv_if_gt (tgt := 103) hx hb d_MO_take_74 (by decide) (fun c74 => ?_) (fun c74 => ?_)
                  ·
                    rw [lg_cmp_gt, lN_ltL (by decide) (by omega)] at c74
                    exact brk (fun h => by omega) H locs hI ls (lv_sub hl [1, 2] rfl)
                  ·
                    rw [lg_cmp_gt, lN_ltL (by decide) (by omega)] at c74
                    have u8 := up8_ge (8 + z)
                    have u88 := up8_8 z
                    refine lv_bipush (v := nI 8) hx hb d_MO_take_77 (by decide) ?_
                    refine lv_lload_n hx hb d_MO_take_79 rfl (lv_at hl 0 rfl) ?_
                    refine lv_l2i hx hb d_MO_take_80 rfl ?_
                    refine mw_ti (lN_i _) ?_
                    refine mp_call (rest := [.int (nI 8)]) hb hml (c_MO_filled l (n := z) (by omega)) (mx_invS hx hown (hts _ tw_683) (hts _ tw_684) (hts _ tw_23) (hts _ tw_685) (by decide) (g := F0 m 81 ls [.int (nI z), .int (nI 8)]) rfl (argsL := [.int (nI z)]) (rest := [.int (nI 8)]) np_MO_filled rfl (by rw [hb]; exact d_MO_take_81)) hl.1 d_MO_take_81 ⟨Nat.le_of_ble_eq_true rfl, Nat.le_of_ble_eq_true rfl⟩ (Or.inl ⟨_, _, List.mem_cons_self⟩) (mk_ws tw_685 hts) (fun a9 U9 h9 => Ts_warm hts _ tw_23 a9 U9 h9) (by first | exact ⟨Nat.le_of_ble_eq_true rfl, Nat.le_of_ble_eq_true rfl⟩ | assumption) (fun v hv => ?_)
                    subst hv
                    refine W.eq (g2 := F0 m 84 ls [.int (nI (up8 z)), .int (nI 8)]) rfl ?_
                    refine lv_iadd hx hb d_MO_take_84 ?_
                    refine mw_ti (nI_add _ _) ?_
                    refine mw_ti (y := nI (up8 (8 + z))) ((by rw [u88])) ?_
                    refine lv_i2l hx hb d_MO_take_85 rfl ?_
                    refine mw_tl (nI_l (by omega)) ?_
                    refine lv_aload_n hx hb d_MO_take_86 rfl (lv_at hl 1 rfl) ?_
                    refine mw_get K hI gf_MO_47_cMO hw.o rfl d_MO_take_87 ?_
                    refine lv_iload_n hx hb d_MO_take_90 rfl (lv_at hl 2 rfl) ?_
                    refine mw_lald K hI tJ hw.a11 rfl i rfl (by first | assumption | omega) (by omega) d_MO_take_91 ?_
                    refine mw_tl (y := lN (hd (mm S i))) (r11) ?_
                    refine lv_aload_n hx hb d_MO_take_92 rfl (lv_at hl 1 rfl) ?_
                    refine mw_get K hI gf_MO_51_cMO hw.o rfl d_MO_take_93 ?_
                    refine lv_iload_n hx hb d_MO_take_96 rfl (lv_at hl 2 rfl) ?_
                    refine mw_lald K hI tJ hw.a12 rfl i rfl (by first | assumption | omega) (by omega) d_MO_take_97 ?_
                    refine mw_tl (y := lN (tl (mm S i))) (r12) ?_
                    refine lv_lsub hx hb d_MO_take_98 ?_
                    refine mw_tl (lN_sub (by omega)) ?_
                    refine W.lcmp hx hb d_MO_take_99 ?_
                    refine lv_if_le (tgt := 113) hx hb d_MO_take_100 (by decide) (fun c100 => ?_) (fun c100 => ?_)
                    ·
                      rw [lg_cmp_le, lN_leL (by omega) (by omega)] at c100
                      have hsp := hsp.trans (if_pos ⟨by omega, by omega, c100⟩)
                      refine lv_lload_n hx hb d_MO_take_113 rfl (lv_at hl 0 rfl) ?_
                      refine lv_l2i hx hb d_MO_take_114 rfl ?_
                      refine mw_ti (lN_i _) ?_
                      refine lv_istore (lv' := [(5, .int (nI z)), (3, .long (lN z)), (0, .ref y), (1, .int (nI i)), (2, .int a)]) hx hb d_MO_take_115 hl (by decide) rfl (fun ls hl => ?_)
                      refine lv_aload_n hx hb d_MO_take_117 rfl (lv_at hl 2 rfl) ?_
                      refine lv_iload_n hx hb d_MO_take_118 rfl (lv_at hl 4 rfl) ?_
                      refine lv_iload hx hb d_MO_take_119 (lv_at hl 0 rfl) ?_
                      refine mp_call (rest := [.ref y]) hb hml (c_MO_isDesk l a (n := z) (by omega)) (mx_invS hx hown (hts _ tw_706) (hts _ tw_707) (hts _ tw_23) (hts _ tw_708) (by decide) (g := F0 m 121 ls [.int (nI z), .int a, .ref y]) rfl (argsL := [.int a, .int (nI z)]) (rest := [.ref y]) np_MO_isDesk rfl (by rw [hb]; exact d_MO_take_121)) hl.1 d_MO_take_121 ⟨Nat.le_of_ble_eq_true rfl, Nat.le_of_ble_eq_true rfl⟩ (Or.inl ⟨_, _, List.mem_cons_self⟩) (mk_ws tw_708 hts) (fun a9 U9 h9 => Ts_warm hts _ tw_23 a9 U9 h9) (by first | exact ⟨Nat.le_of_ble_eq_true rfl, Nat.le_of_ble_eq_true rfl⟩ | assumption) (fun v hv => ?_)
                      subst hv
                      refine W.eq (g2 := F0 m 124 ls [.int (if inD a z 512 then 1 else 0), .ref y]) rfl ?_
                      refine lv_if_eq (tgt := 131) hx hb d_MO_take_124 (by decide) (fun c124 => ?_) (fun c124 => ?_)
                      ·
                        rw [if10.1] at c124
                        have hsp := hsp.trans (if_neg c124)
                        refine lv_iconst (v := nI 1) hx hb d_MO_take_131 (by decide) ?_
                        refine mw_put K hI gp_MO_60_cMO (Or.inl ⟨_, rfl, rfl⟩) hw.o rfl rfl (by simp) d_MO_take_132 (fun H locs hI => ?_)
                        obtain ⟨wn2, hI, hF, hw⟩ := mo_W.seto (cd' := (nI 1)) (g' := nI (gv S)) (n' := nI (nm S)) (ec' := nI ec) (kc' := nI kc) (br' := nI 0) hw hI hF
                        refine lv_aload_n hx hb d_MO_take_135 rfl (lv_at hl 2 rfl) ?_
                        refine mw_get K hI gf_MO_60_cMO hw.o rfl d_MO_take_136 ?_
                        refine lv_if_le (tgt := 144) hx hb d_MO_take_139 (by decide) (fun c139 => ?_) (fun c139 => ?_)
                        ·
                          exact absurd c139 (by decide)
                        ·
                          refine lv_iconst (v := nI 0) hx hb d_MO_take_142 (by decide) ?_
                          refine mw_iret K hI hr hlk ?_ d_MO_take_143
                          rw [hsp]
                          exact ⟨_, _, rfl, ⟨A, fe, fk, ec, kc, fi, fl, hw, hR⟩, hF, (fun u hu => by cases hu), fun k hk => by cases hk; rfl⟩
                      ·
                        rw [if10.2] at c124
                        have hsp := hsp.trans (if_pos c124)
                        obtain ⟨e6, e7⟩ := inD_nI c124 (by decide)
                        rw [e6] at hl
                        generalize a.toNatClampNeg = an at *
                        refine lv_iconst (v := nI 0) hx hb d_MO_take_127 (by decide) ?_
                        refine lv_goto (tgt := 132) hx hb d_MO_take_128 (by decide) ?_
                        refine mw_put K hI gp_MO_60_cMO (Or.inl ⟨_, rfl, rfl⟩) hw.o rfl rfl (by simp) d_MO_take_132 (fun H locs hI => ?_)
                        obtain ⟨wn3, hI, hF, hw⟩ := mo_W.seto (cd' := (nI 0)) (g' := nI (gv S)) (n' := nI (nm S)) (ec' := nI ec) (kc' := nI kc) (br' := nI 0) hw hI hF
                        refine lv_aload_n hx hb d_MO_take_135 rfl (lv_at hl 2 rfl) ?_
                        refine mw_get K hI gf_MO_60_cMO hw.o rfl d_MO_take_136 ?_
                        refine lv_if_le (tgt := 144) hx hb d_MO_take_139 (by decide) (fun c139 => ?_) (fun c139 => ?_)
                        ·
                          have hloop : ∀ (n9 j : Nat), j + n9 = z → ∀ (w1 : mw_W) (fi1 : Nat → Nat → Int32), FrM w own w1 → mo_W dA w1 own y A (nI 0) (nI (gv S)) (nI (nm S)) (nI ec) (nI kc) (nI 0) fi1 fl → mo_R fe fk ec kc fi1 fl (S_dk S (cpy (dk S) an (fun j' => ar S (bg (mm S i) + (tl (mm S i) + 8 + j') % en (mm S i))) 0 j)) → ∀ (H : Heap) (locs : List Loc), mw_I D mk_cl w s.heap w1 H locs → ∀ ls : Array Slot, lv_has ls 7 [(6, .int (nI j)), (5, .int (nI z)), (0, .ref y), (1, .int (nI i)), (2, .int (nI an))] → W p l e { frames := 3, cells := 0, slots := 0, locals := 120 } s m ([.ref y, .int q, .int a] : List Value).toArray below meth c H locs 0 0 (mx_Q below (mw_Qc D mk_cl w s.heap.size (MM dA w own y kO (sp_TAKE S q a))) ([.ref y, .int q, .int a] : List Value).toArray s 0 0 (mw_A w s.heap.size)) (F0 m 147 ls []) := by
                            intro n9
                            induction n9 with
                            | zero =>
                              intro j hj w1 fi1 hF hw hR1 H locs hI ls hl
                              have s12 := (hR1.2.2.1 i hi).2.2.1
                              refine lv_iload hx hb d_MO_take_147 (lv_at hl 0 rfl) ?_
                              refine lv_iload hx hb d_MO_take_149 (lv_at hl 1 rfl) ?_
                              refine lv_icmp_ge (tgt := 193) hx hb d_MO_take_151 (by decide) (fun c151 => ?_) (fun c151 => ?_)
                              ·
                                refine lv_aload_n hx hb d_MO_take_193 rfl (lv_at hl 2 rfl) ?_
                                refine mw_get K hI gf_MO_51_cMO hw.o rfl d_MO_take_194 ?_
                                refine lv_iload_n hx hb d_MO_take_197 rfl (lv_at hl 3 rfl) ?_
                                refine lv_dup2_11 hx hb d_MO_take_198 rfl rfl ?_
                                refine mw_lald K hI tJ hw.a12 rfl i rfl (by first | assumption | omega) (by omega) d_MO_take_199 ?_
                                refine mw_tl (y := lN (tl (mm S i))) (s12) ?_
                                refine lv_bipush (v := nI 8) hx hb d_MO_take_200 (by decide) ?_
                                refine lv_iload hx hb d_MO_take_202 (lv_at hl 1 rfl) ?_
                                refine mp_call (rest := [.int (nI 8), .long (lN (tl (mm S i))), .int (nI i), .ref (A 12)]) hb hml (c_MO_filled l (n := z) (by omega)) (mx_invS hx hown (hts _ tw_683) (hts _ tw_684) (hts _ tw_23) (hts _ tw_685) (by decide) (g := F0 m 204 ls [.int (nI z), .int (nI 8), .long (lN (tl (mm S i))), .int (nI i), .ref (A 12)]) rfl (argsL := [.int (nI z)]) (rest := [.int (nI 8), .long (lN (tl (mm S i))), .int (nI i), .ref (A 12)]) np_MO_filled rfl (by rw [hb]; exact d_MO_take_204)) hl.1 d_MO_take_204 ⟨Nat.le_of_ble_eq_true rfl, Nat.le_of_ble_eq_true rfl⟩ (Or.inl ⟨_, _, List.mem_cons_self⟩) (mk_ws tw_685 hts) (fun a9 U9 h9 => Ts_warm hts _ tw_23 a9 U9 h9) (by first | exact ⟨Nat.le_of_ble_eq_true rfl, Nat.le_of_ble_eq_true rfl⟩ | assumption) (fun v hv => ?_)
                                subst hv
                                refine W.eq (g2 := F0 m 207 ls [.int (nI (up8 z)), .int (nI 8), .long (lN (tl (mm S i))), .int (nI i), .ref (A 12)]) rfl ?_
                                refine lv_iadd hx hb d_MO_take_207 ?_
                                refine mw_ti (nI_add _ _) ?_
                                refine mw_ti (y := nI (up8 (8 + z))) ((by rw [u88])) ?_
                                refine lv_i2l hx hb d_MO_take_208 rfl ?_
                                refine mw_tl (nI_l (by omega)) ?_
                                refine lv_ladd hx hb d_MO_take_209 ?_
                                refine mw_tl (lN_add _ _) ?_
                                refine mw_last K hI tJ hw.a12 rfl i rfl (by first | assumption | omega) (by omega) d_MO_take_210 (fun H locs hI => ?_)
                                obtain ⟨wn4, fn4, hI, hF, hw, hfn4⟩ := hw.setl (f := vp_updL (fl 12) i (lN ((tl (mm S i)) + (up8 (8 + z))))) 12 (by decide) hI hF rfl
                                refine lv_iload hx hb d_MO_take_211 (lv_at hl 1 rfl) ?_
                                refine mw_iret K hI hr hlk ?_ d_MO_take_213
                                rw [hsp]
                                refine ⟨_, _, rfl, ⟨A, fe, fk, ec, kc, _, _, hw, ?_⟩, hF, fun u hu => by cases hu; exact ⟨rfl, rfl⟩, fun k hk => by cases hk⟩
                                rw [show j = z by omega] at hR1
                                refine hR1.ring hi (fun p => ?_) (fun p => ?_) (fun p => ?_) (fun p => ?_) (fun b _ _ => rfl)
                                · rw [hfn4, va_up_ne _ _ (by decide)]
                                  by_cases h9 : p = i
                                  · rw [if_pos h9, h9]; exact (hR1.2.2.1 i hi).2.1
                                  · rw [if_neg h9]
                                · rw [hfn4, va_up_self]; rfl
                                · by_cases h9 : p = i
                                  · rw [if_pos h9, h9]; exact (hR1.2.2.1 i hi).2.2.2.1
                                  · rw [if_neg h9]
                                · by_cases h9 : p = i
                                  · rw [if_pos h9, h9]; exact (hR1.2.2.1 i hi).2.2.2.2
                                  · rw [if_neg h9]
                              ·
                                exact absurd (nI_le (by omega) (by omega)) c151
                            | succ n9 ih =>
                              intro j hj w1 fi1 hF hw hR1 H locs hI ls hl
                              have s12 := (hR1.2.2.1 i hi).2.2.1
                              have hW1 := hW.ofD (cpy_lt hW.2.2.2.1 (d := fun j' => ar S (bg (mm S i) + (tl (mm S i) + 8 + j') % en (mm S i))) (fun _ => hW.2.2.2.2.1 _) an 0 j)
                              have hpl : bg (mm S i) + (tl (mm S i) + 8 + j) % en (mm S i) < 65536 := by
                                have := Nat.mod_lt (tl (mm S i) + 8 + j) (show 0 < en (mm S i) by omega)
                                omega
                              refine lv_iload hx hb d_MO_take_147 (lv_at hl 0 rfl) ?_
                              refine lv_iload hx hb d_MO_take_149 (lv_at hl 1 rfl) ?_
                              refine lv_icmp_ge (tgt := 193) hx hb d_MO_take_151 (by decide) (fun c151 => ?_) (fun c151 => ?_)
                              ·
                                exact absurd c151 (nI_ge (by omega) (by omega))
                              ·
                                refine lv_aload_n hx hb d_MO_take_154 rfl (lv_at hl 2 rfl) ?_
                                refine mw_get K hI gf_MO_7_cMO hw.o rfl d_MO_take_155 ?_
                                refine lv_iload_n hx hb d_MO_take_158 rfl (lv_at hl 4 rfl) ?_
                                refine lv_iload hx hb d_MO_take_159 (lv_at hl 0 rfl) ?_
                                refine lv_iadd hx hb d_MO_take_161 ?_
                                refine mw_ti (nI_add _ _) ?_
                                refine lv_aload_n hx hb d_MO_take_162 rfl (lv_at hl 2 rfl) ?_
                                refine mw_get K hI gf_MO_14_cMO hw.o rfl d_MO_take_163 ?_
                                refine lv_aload_n hx hb d_MO_take_166 rfl (lv_at hl 2 rfl) ?_
                                refine lv_iload_n hx hb d_MO_take_167 rfl (lv_at hl 3 rfl) ?_
                                refine lv_aload_n hx hb d_MO_take_168 rfl (lv_at hl 2 rfl) ?_
                                refine mw_get K hI gf_MO_51_cMO hw.o rfl d_MO_take_169 ?_
                                refine lv_iload_n hx hb d_MO_take_172 rfl (lv_at hl 3 rfl) ?_
                                refine mw_lald K hI tJ hw.a12 rfl i rfl (by first | assumption | omega) (by omega) d_MO_take_173 ?_
                                refine mw_tl (y := lN (tl (mm S i))) (s12) ?_
                                refine lv_ldc2 (v := lN 8) hx hb hown (hts _ tw_792) d_MO_take_174 ?_
                                refine lv_ladd hx hb d_MO_take_177 ?_
                                refine mw_tl (lN_add _ _) ?_
                                refine lv_iload hx hb d_MO_take_178 (lv_at hl 0 rfl) ?_
                                refine lv_i2l hx hb d_MO_take_180 rfl ?_
                                refine mw_tl (nI_l (by omega)) ?_
                                refine lv_ladd hx hb d_MO_take_181 ?_
                                refine mw_tl (lN_add _ _) ?_
                                refine mw_call (rest := [.ref (A 1), .int (nI (an + j)), .ref (A 0)]) K hSy hP0 hI (c_MO_ringPlace l D dA (S := S_dk S (cpy (dk S) an (fun j' => ar S (bg (mm S i) + (tl (mm S i) + 8 + j') % en (mm S i))) 0 j)) hw hR1 hW1 hi hk (cc := tl (mm S i) + 8 + j) (by omega)) (mx_invV hx hown (hts _ tw_780) (hts _ tw_782) (hts _ tw_18) (hts _ tw_783) (by decide) (b := y) (mw_rc K hI hw.o rfl) (g := F0 m 182 ls [.long (lN (((tl (mm S i)) + 8) + j)), .int (nI i), .ref y, .ref (A 1), .int (nI (an + j)), .ref (A 0)]) rfl (argsL := [.int (nI i), .long (lN (((tl (mm S i)) + 8) + j))]) (rest := [.ref (A 1), .int (nI (an + j)), .ref (A 0)]) np_MO_ringPlace rfl (by rw [hb]; exact d_MO_take_182)) hl.1 d_MO_take_182 ⟨Nat.le_of_ble_eq_true rfl, Nat.le_of_ble_eq_true rfl⟩ (Or.inl ⟨_, _, List.mem_cons_self⟩) (mk_ws tw_783 hts) (fun a9 U9 h9 => Ts_warm hts _ tw_23 a9 U9 h9) ⟨Nat.le_of_ble_eq_true rfl, Nat.le_of_ble_eq_true rfl⟩ (fun v w' H locs hq hI => ?_) (fun k x w' H locs hq hI hX => ?_)
                                · obtain ⟨hq1, hq2⟩ := hq
                                  cases hq1
                                  rw [hq2] at hI
                                  refine W.eq (g2 := F0 m 185 ls [.int (nI (bg (mm S i) + (tl (mm S i) + 8 + j) % en (mm S i))), .ref (A 1), .int (nI (an + j)), .ref (A 0)]) rfl ?_
                                  refine mw_bald K hI tB hw.a1 rfl (bg (mm S i) + (tl (mm S i) + 8 + j) % en (mm S i)) rfl (by first | assumption | omega) (by omega) d_MO_take_185 ?_
                                  refine mw_ti (y := sB (ar S (bg (mm S i) + (tl (mm S i) + 8 + j) % en (mm S i)))) (hR1.2.1 _ hpl) ?_
                                  refine mw_bast K hI tB hw.a0 rfl (an + j) rfl (by first | assumption | omega) (by omega) d_MO_take_186 (fun H locs hI => ?_)
                                  obtain ⟨wn5, fn5, hI, hF, hw, hfn5⟩ := hw.seti (f := upd (fi1 0) (an + j) (vp_nar .byte (sB (ar S (bg (mm S i) + (tl (mm S i) + 8 + j) % en (mm S i)))))) 0 (by decide) hI hF rfl
                                  refine lv_iinc (v := nI (j + 1)) (lv' := [(6, .int (nI (j + 1))), (5, .int (nI z)), (0, .ref y), (1, .int (nI i)), (2, .int (nI an))]) hx hb d_MO_take_187 hl (k := 0) rfl (nI_add _ _) (by decide) rfl (fun ls hl => ?_)
                                  refine lv_goto (tgt := 147) hx hb d_MO_take_190 (by decide) ?_
                                  refine ih (j + 1) (by omega) _ _ hF hw ?_ H locs hI ls (lv_sub hl [0, 1, 2, 3, 4] rfl)
                                  rw [hfn5]
                                  refine hR1.desk (d := cpy (dk S) an (fun j' => ar S (bg (mm S i) + (tl (mm S i) + 8 + j') % en (mm S i))) 0 (j + 1)) (fun p hp => ?_)
                                  rw [sB_nar (hW.2.2.2.2.1 _)]
                                  show (if p = an + j then sB (ar S (bg (mm S i) + (tl (mm S i) + 8 + j) % en (mm S i))) else fi1 0 p) = _
                                  rw [hR1.1 p hp]
                                  show (if p = an + j then sB (ar S (bg (mm S i) + (tl (mm S i) + 8 + j) % en (mm S i))) else sB (cpy (dk S) an (fun j' => ar S (bg (mm S i) + (tl (mm S i) + 8 + j') % en (mm S i))) 0 j p)) = _
                                  unfold cpy
                                  by_cases e : p = an + j
                                  · rw [if_pos e, if_pos (by omega), e, Nat.add_sub_cancel_left, Nat.zero_add]
                                  · rw [if_neg e]
                                    by_cases e2 : an ≤ p ∧ p < an + j
                                    · rw [if_pos e2, if_pos (by omega)]
                                    · rw [if_neg e2, if_neg (by omega)]
                                · exact absurd hq.1 (by simp)
                          refine lv_iconst (v := nI 0) hx hb d_MO_take_144 (by decide) ?_
                          refine lv_istore (lv' := [(6, .int (nI 0)), (5, .int (nI z)), (3, .long (lN z)), (0, .ref y), (1, .int (nI i)), (2, .int (nI an))]) hx hb d_MO_take_145 hl (by decide) rfl (fun ls hl => ?_)
                          refine hloop z 0 (by omega) _ fi hF hw ?_ H locs hI ls (lv_sub hl [0, 1, 3, 4, 5] rfl)
                          have : cpy (dk S) an (fun j' => ar S (bg (mm S i) + (tl (mm S i) + 8 + j') % en (mm S i))) 0 0 = dk S := by funext p; unfold cpy; rw [if_neg (by omega)]
                          rw [this]; exact hR
                        ·
                          exact absurd (by decide) c139
                    ·
                      rw [lg_cmp_le, lN_leL (by omega) (by omega)] at c100
                      exact brk (fun h => c100 h.2.2) H locs hI ls (lv_sub hl [1, 2] rfl)
              · exact absurd hq.1 (by simp)
            ·
              have he : hd (mm S i) = tl (mm S i) := (lN_eqL (by omega) (by omega)).mp ((lg_cmp_eq _ _).mp c45)
              have hsp := hsp.trans (if_pos he)
              refine lv_bipush (v := (-2)) hx hb d_MO_take_48 (by decide) ?_
              refine mw_iret K hI hr hlk ?_ d_MO_take_50
              rw [hsp]
              exact ⟨_, _, rfl, ⟨A, fe, fk, ec, kc, fi, fl, hw, hR⟩, hF, fun u hu => by cases hu; exact ⟨rfl, rfl⟩, fun k hk => by cases hk⟩
          ·
            refine bad (fun h => ?_) H locs hI ls (lv_sub hl [] rfl)
            have hb1 : bk (mm S i) = false := by simpa using h.2
            rw [hb1] at c26
            exact absurd (by decide) c26
      ·
        exact absurd (by decide) c5
    · cases hq1
      have hsp : sp_TAKE S q a = _ := if_neg h1
      refine W.eq (g2 := F0 m 5 ls [.int (nI 1)]) rfl ?_
      refine lv_if_eq (tgt := 10) hx hb d_MO_take_5 (by decide) (fun c5 => ?_) (fun c5 => ?_)
      ·
        exact absurd c5 (by decide)
      ·
        refine lv_iconst (v := nI 0) hx hb d_MO_take_8 (by decide) ?_
        refine mw_iret K hI hr hlk ?_ d_MO_take_9
        rw [hsp]
        exact ⟨_, _, rfl, ⟨A, fe, fk, ec, kc, fi, fl, hw, hR⟩, hF, (fun u hu => by cases hu), fun k hk => by cases hk; rfl⟩
  · obtain ⟨hF, ⟨h1, h2, hq1, hw⟩ | ⟨h1, hq1, hw⟩⟩ := hq <;> cases hq1

