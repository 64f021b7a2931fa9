/-! ### rings: take -/
theorem within_l {n a b : Nat} (hn : n < 2 ^ 63) (ha : a < 2 ^ 31) (hb : b < 2 ^ 31) : (if (nI a).toInt64 ≤ lN n ∧ lN n ≤ (nI b).toInt64 then (1 : Int32) else 0) = if a ≤ n ∧ n ≤ b then 1 else 0 := by
  simp only [nI_l ha, nI_l hb, lN_leL (show a < 2 ^ 63 by omega) hn, lN_leL hn (show b < 2 ^ 63 by omega)]
set_option maxRecDepth 100000 in
set_option maxHeartbeats 4000000 in
theorem c_RM_takeRecord (l : Launch) (D : va_G) (dA : Nat → ClassId) (hL : mw_L l) {w : mw_W} {own : as_W} {x bd xd ba xa ra : Nat} {mp : Nat → Nat} {gd ga : Nat → Int64} {S : as_S} {t : Nat} (hA : rc_A dA w own x bd xd ba xa ra mp gd ga S) (hW : wf_S t S) {i : Nat} (hi : i < nm S) (ht : t ≤ 512) (hk : kd (mm S i) = 2) (a : Int32) : CT l D dA y_RM_takeRecord (Cond.code y_RM_takeRecord b_RM_takeRecord 6 (some .int) :: Ts) 7 140 1 6 [.ref (mp i), .int a] w (PC dA w own x bd xd ba xa ra mp (sp_take S i a)) := by
  refine mw_meth (by decide) mk_tb (Nat.le_of_ble_eq_true rfl) ?_
  intro p e s m below meth c K hr hlk hce hnm hP0 hSy ls hl
  have hl : lv_has ls 6 [(0, .ref (mp i)), (1, .int a)] := hl
  obtain ⟨hx, hb, hml, hown, hts, hK, hTb⟩ := id K
  have hI := mw_I.start hP0
  obtain ⟨⟨o1, o2, o3, o4, fx, fd, fa, fr, hdk, har⟩, hM⟩ := id hA
  obtain ⟨r1, r2, r3, r4, r5, r6, r7, r8, r9⟩ := wf_R (hW.2.2.2.2.2 i hi) hk
  obtain ⟨om, f0⟩ := rc_RM (hA.2 i hi) hk
  obtain ⟨mi, em⟩ : ∃ mi, mi = mm S i := ⟨_, rfl⟩
  rw [← em] at f0 r1 r2 r3 r4 r5 r6 r7 r8 r9 hk
  have p8 := p2_8 r2
  have hm8 := mod8 r7 p8.1 (by omega)
  obtain ⟨z, ez⟩ : ∃ z, z = szR S i := ⟨_, rfl⟩
  have ez2 : z = bw_n (ar S) (bg mi + tl mi % en mi) 4 := by rw [ez, em]; rfl
  have hzlt : z < 2 ^ 32 := by rw [ez2]; exact bw_n_lt hW.2.2.2.2.1 4 _
  have hsp : sp_take S i a = if bk mi = true then (S, .inl (-22)) else if hd mi = tl mi then (S, .inl (-2)) else if 1 ≤ z ∧ z ≤ 256 ∧ up8 (8 + z) ≤ hd mi - tl mi then (if inD a z 512 then (S_mm (S_dk S (cpy (dk S) a.toNatClampNeg (fun j => ar S (bg mi + (tl mi + 8 + j) % en mi)) 0 z)) i (M_rg mi (hd mi) (tl mi + up8 (8 + z)) (rc mi) (bk mi)), .inl (nI z)) else (S, .inr 2)) else (S_mm S i (M_rg mi (hd mi) (tl mi) (rc mi) true), .inl (-22)) := by rw [em, ez]; rfl
  have f0_0 := f0
  have hA_0 := hA
  generalize ea : mp i = a1 at *
  have hup : ∀ g1, (mw_up w xd (by_a dA 512 g1)) a1 = some (.inr (cRM, [.ref bd, .ref ba, .int (nI (bg mi)), .int (nI (en mi)), .long (lN (hd mi)), .long (lN (tl mi)), .int (nI (rc mi)), .int (nI (if bk mi = true then 1 else 0))])) := fun g1 => (mw_up_n _ _ (mw_neA f0 fd.2)).trans f0
  have hau : ∀ g1, by_ok dA (mw_up w xd (by_a dA 512 g1)) ba xa 65536 ga := fun g1 => fa.keep (mw_neA fa.1 fd.2) (own_ne o3 o2 (by decide))
  have hbrk : ∀ (H : Heap) (locs : List Loc), mw_I D mk_cl w s.heap w H locs → ∀ ls : Array Slot, lv_has ls 6 [(0, .ref a1)] → ¬ bk mi = true → ¬ hd mi = tl mi → ¬ (1 ≤ z ∧ z ≤ 256 ∧ up8 (8 + z) ≤ hd mi - tl mi) → W p l e { frames := 7, cells := 1, slots := 6, locals := 140 } s m ([.ref a1, .int a] : List Value).toArray below meth c H locs 0 0 (mx_Q below (mw_Qc D mk_cl w s.heap.size (PC dA w own x bd xd ba xa ra mp (sp_take S i a))) ([.ref a1, .int a] : List Value).toArray s 1 6 (mw_A w s.heap.size)) (F0 m 72 ls []) := by
    intro H locs hI ls hl h1 h2 h3
    refine lv_aload_n hx hb d_RM_takeRecord_72 rfl (lv_at hl 0 rfl) ?_
    refine lv_iconst (v := nI 1) hx hb d_RM_takeRecord_73 (by decide) ?_
    refine mw_put K hI gp_RM_22_cRM (Or.inl ⟨_, rfl, rfl⟩) f0 (v := .int (nI 1)) (by decide) (by decide) (by simp) d_RM_takeRecord_74 (fun H locs hI => ?_)
    have hI : mw_I D mk_cl w s.heap (mw_up w a1 (.inr (cRM, [.ref bd, .ref ba, .int (nI (bg mi)), .int (nI (en mi)), .long (lN (hd mi)), .long (lN (tl mi)), .int (nI (rc mi)), .int (nI 1)]))) H _ := hI
    have f0 : (mw_up w a1 (.inr (cRM, [.ref bd, .ref ba, .int (nI (bg mi)), .int (nI (en mi)), .long (lN (hd mi)), .long (lN (tl mi)), .int (nI (rc mi)), .int (nI 1)]))) a1 = some (.inr (cRM, [.ref bd, .ref ba, .int (nI (bg mi)), .int (nI (en mi)), .long (lN (hd mi)), .long (lN (tl mi)), .int (nI (rc mi)), .int (nI 1)])) := mw_up_s _ _ _
    refine lv_bipush (v := (-22)) hx hb d_RM_takeRecord_77 (by decide) ?_
    refine W.widen (k := 1) (n := 6) (by decide) (by decide) ?_
    refine mw_iret K hI hr hlk ?_ d_RM_takeRecord_79
    rw [hsp, if_neg h1, if_neg h2, if_neg h3]
    refine ⟨rfl, own, gd, ga, ?_, Fr.up f0_0 (by rw [om]; simp)⟩
    refine hA_0.map (i := i) (own' := own) ?_ (fun q' y hy hz => ?_) (fun _ _ _ => rfl)
    · rw [ea]
      exact ⟨om, Or.inr (Or.inr ⟨hk, f0⟩)⟩
    · rw [mw_up_n _ _ ?_]
      · exact hy
      · intro e
        subst e
        rcases hz with hz | ⟨fs, hz⟩
        · exact hz (by rw [om]; exact Or.inl rfl)
        · rw [hz] at hy; exact absurd (hy.symm.trans f0_0) (by intro z; injection z with z; injection z with z; injection z with z; exact absurd z (by decide))
  refine lv_aload_n hx hb d_RM_takeRecord_0 rfl (lv_at hl 0 rfl) ?_
  refine mw_get K hI gf_RM_22_cRM f0 rfl d_RM_takeRecord_1 ?_
  refine lv_if_eq (tgt := 10) hx hb d_RM_takeRecord_4 (by decide) (fun c4 => ?_) (fun c4 => ?_)
  ·
    have hb0 : ¬ bk mi = true := fun z => by rw [if_pos z] at c4; exact absurd c4 (by decide)
    refine lv_aload_n hx hb d_RM_takeRecord_10 rfl (lv_at hl 0 rfl) ?_
    refine mw_get K hI gf_RM_9_cRM f0 rfl d_RM_takeRecord_11 ?_
    refine lv_aload_n hx hb d_RM_takeRecord_14 rfl (lv_at hl 0 rfl) ?_
    refine mw_get K hI gf_RM_15_cRM f0 rfl d_RM_takeRecord_15 ?_
    refine W.lcmp hx hb d_RM_takeRecord_18 ?_
    refine lv_if_ne (tgt := 25) hx hb d_RM_takeRecord_19 (by decide) (fun c19 => ?_) (fun c19 => ?_)
    ·
      have hne : ¬ hd mi = tl mi := fun z => by rw [z] at c19; exact c19 ((lg_cmp_eq _ _).mpr rfl)
      refine lv_aload_n hx hb d_RM_takeRecord_25 rfl (lv_at hl 0 rfl) ?_
      refine mw_get K hI gf_RM_51_cRM f0 rfl d_RM_takeRecord_26 ?_
      refine lv_aload_n hx hb d_RM_takeRecord_29 rfl (lv_at hl 0 rfl) ?_
      refine lv_aload_n hx hb d_RM_takeRecord_30 rfl (lv_at hl 0 rfl) ?_
      refine mw_get K hI gf_RM_15_cRM f0 rfl d_RM_takeRecord_31 ?_
      refine mw_call (rest := [.ref ba]) K hSy hP0 hI (c_RM_placeOfCount l D dA f0 r2 (cc := tl mi) (by omega)) (mx_invV hx hown (hts _ tw_549) (hts _ tw_551) (hts _ tw_7) (hts _ tw_552) (by decide) (b := a1) (mw_rc K hI f0 rfl) (g := F0 m 34 ls [.long (lN (tl mi)), .ref a1, .ref ba]) rfl (argsL := [.long (lN (tl mi))]) (rest := [.ref ba]) np_RM_placeOfCount rfl (by rw [hb]; exact d_RM_takeRecord_34)) hl.1 d_RM_takeRecord_34 ⟨Nat.le_of_ble_eq_true rfl, Nat.le_of_ble_eq_true rfl⟩ (Or.inl ⟨_, _, List.mem_cons_self⟩) (mk_ws tw_552 hts) (fun a9 U9 h9 => Ts_warm hts _ tw_34 a9 U9 h9) ⟨Nat.le_of_ble_eq_true rfl, Nat.le_of_ble_eq_true rfl⟩ (fun v w' H locs hq hI => ?_) (fun k x w' H locs hq hI hX => ?_)
      · obtain ⟨hq1, hq2⟩ := hq
        cases hq1
        rw [hq2] at hI
        refine W.eq (g2 := F0 m 37 ls [.int (nI (bg mi + tl mi % en mi)), .ref ba]) rfl ?_
        refine lv_iconst (v := nI 4) hx hb d_RM_takeRecord_37 (by decide) ?_
        refine mw_call (rest := []) K hSy hP0 hI (c_BY_number l D dA fa (by decide) (i := bg mi + tl mi % en mi) (k := 4) (by decide) (by omega)) (mx_invV hx hown (hts _ tw_573) (hts _ tw_380) (hts _ tw_381) (hts _ tw_382) (by decide) (b := ba) (mw_rc K hI fa.1 rfl) (g := F0 m 38 ls [.int (nI 4), .int (nI (bg mi + tl mi % en mi)), .ref ba]) rfl (argsL := [.int (nI (bg mi + tl mi % en mi)), .int (nI 4)]) (rest := []) np_BY_number rfl (by rw [hb]; exact d_RM_takeRecord_38)) hl.1 d_RM_takeRecord_38 ⟨Nat.le_of_ble_eq_true rfl, Nat.le_of_ble_eq_true rfl⟩ (Or.inl ⟨_, _, List.mem_cons_self⟩) (mk_ws tw_382 hts) (fun a9 U9 h9 => Ts_warm hts _ tw_22 a9 U9 h9) ⟨Nat.le_of_ble_eq_true rfl, Nat.le_of_ble_eq_true rfl⟩ (fun v w' H locs hq hI => ?_) (fun k x w' H locs hq hI hX => ?_)
        · obtain ⟨hq5, hq6⟩ := hq
          cases hq5
          rw [hq6] at hI
          refine W.eq (g2 := F0 m 41 ls [.long (lN (bw_n (bw_b ga) (bg mi + tl mi % en mi) 4))]) rfl ?_
          refine mw_tl (y := lN z) ((by rw [bw_n_congr 4 _ (fun j h1 h2 => har j (by omega)), ez2])) ?_
          refine lv_lstore_n (lv' := [(2, .long (lN z)), (0, .ref a1), (1, .int a)]) hx hb d_RM_takeRecord_41 rfl hl (by decide) rfl (fun ls hl => ?_)
          refine lv_lload_n hx hb d_RM_takeRecord_42 rfl (lv_at hl 0 rfl) ?_
          refine lv_iconst (v := nI 1) hx hb d_RM_takeRecord_43 (by decide) ?_
          refine lv_sipush (v := nI 256) hx hb d_RM_takeRecord_44 (by decide) ?_
          refine mp_call (rest := []) hb hml (c_MS_within l (lN z) (nI 1) (nI 256)) (mx_invSN hx hown (hts _ tw_539) (hts _ tw_183) (hts _ tw_21) (hts _ tw_184) (by decide) (g := F0 m 47 ls [.int (nI 256), .int (nI 1), .long (lN z)]) rfl (argsL := [.long (lN z), .int (nI 1), .int (nI 256)]) (rest := []) np_MS_within rfl (by rw [hb]; exact d_RM_takeRecord_47)) hl.1 d_RM_takeRecord_47 ⟨Nat.le_of_ble_eq_true rfl, Nat.le_of_ble_eq_true rfl⟩ (Or.inl ⟨_, _, List.mem_cons_self⟩) (mk_ws tw_184 hts) (fun a9 U9 h9 => Ts_warm hts _ tw_21 a9 U9 h9) (by first | exact ⟨Nat.le_of_ble_eq_true rfl, Nat.le_of_ble_eq_true rfl⟩ | assumption) (fun v hv => ?_)
          subst hv
          refine W.eq (g2 := F0 m 50 ls [.int (if (nI 1).toInt64 ≤ lN z ∧ lN z ≤ (nI 256).toInt64 then 1 else 0)]) rfl ?_
          rw [within_l (n := z) (a := 1) (b := 256) (by omega) (by decide) (by decide)]
          refine lv_if_eq (tgt := 72) hx hb d_RM_takeRecord_50 (by decide) (fun c50 => ?_) (fun c50 => ?_)
          ·
            rw [if10.1] at c50
            exact hbrk H locs hI ls (lv_sub hl [1] rfl) hb0 hne (fun q => c50 ⟨q.1, q.2.1⟩)
          ·
            rw [if10.2] at c50
            have u8 := up8_ge (8 + z)
            refine lv_lload_n hx hb d_RM_takeRecord_53 rfl (lv_at hl 0 rfl) ?_
            refine lv_l2i hx hb d_RM_takeRecord_54 rfl ?_
            refine mw_ti (lN_i _) ?_
            refine mp_call (rest := []) hb hml (c_RM_bytesOfRecord l (n := z) (by omega)) (mx_invS hx hown (hts _ tw_541) (hts _ tw_542) (hts _ tw_34) (hts _ tw_543) (by decide) (g := F0 m 55 ls [.int (nI z)]) rfl (argsL := [.int (nI z)]) (rest := []) np_RM_bytesOfRecord rfl (by rw [hb]; exact d_RM_takeRecord_55)) hl.1 d_RM_takeRecord_55 ⟨Nat.le_of_ble_eq_true rfl, Nat.le_of_ble_eq_true rfl⟩ (Or.inl ⟨_, _, List.mem_cons_self⟩) (mk_ws tw_543 hts) (fun a9 U9 h9 => Ts_warm hts _ tw_34 a9 U9 h9) (by first | exact ⟨Nat.le_of_ble_eq_true rfl, Nat.le_of_ble_eq_true rfl⟩ | assumption) (fun v hv => ?_)
            subst hv
            refine W.eq (g2 := F0 m 58 ls [.int (nI (up8 (8 + z)))]) rfl ?_
            refine lv_i2l hx hb d_RM_takeRecord_58 rfl ?_
            refine mw_tl (nI_l (by omega)) ?_
            refine lv_aload_n hx hb d_RM_takeRecord_59 rfl (lv_at hl 1 rfl) ?_
            refine mw_get K hI gf_RM_9_cRM f0 rfl d_RM_takeRecord_60 ?_
            refine lv_aload_n hx hb d_RM_takeRecord_63 rfl (lv_at hl 1 rfl) ?_
            refine mw_get K hI gf_RM_15_cRM f0 rfl d_RM_takeRecord_64 ?_
            refine lv_lsub hx hb d_RM_takeRecord_67 ?_
            refine mw_tl (lN_sub (by omega)) ?_
            refine W.lcmp hx hb d_RM_takeRecord_68 ?_
            refine lv_if_le (tgt := 80) hx hb d_RM_takeRecord_69 (by decide) (fun c69 => ?_) (fun c69 => ?_)
            ·
              rw [lg_cmp_le, lN_leL (by omega) (by omega)] at c69
              have hsp := ((hsp.trans (if_neg hb0)).trans (if_neg hne)).trans (if_pos ⟨c50.1, c50.2, c69⟩)
              refine lv_lload_n hx hb d_RM_takeRecord_80 rfl (lv_at hl 0 rfl) ?_
              refine lv_l2i hx hb d_RM_takeRecord_81 rfl ?_
              refine mw_ti (lN_i _) ?_
              refine lv_istore (lv' := [(4, .int (nI z)), (2, .long (lN z)), (0, .ref a1), (1, .int a)]) hx hb d_RM_takeRecord_82 hl (by decide) rfl (fun ls hl => ?_)
              refine lv_aload_n hx hb d_RM_takeRecord_84 rfl (lv_at hl 2 rfl) ?_
              refine mw_get K hI gf_RM_33_cRM f0 rfl d_RM_takeRecord_85 ?_
              refine lv_iload_n hx hb d_RM_takeRecord_88 rfl (lv_at hl 3 rfl) ?_
              refine lv_iload hx hb d_RM_takeRecord_89 (lv_at hl 0 rfl) ?_
              refine mw_call (rest := []) K hSy hP0 hI (c_BY_demand l D dA hL fd (by decide) a (k := z) (by omega)) (mx_invV hx hown (hts _ tw_540) (hts _ tw_373) (hts _ tw_374) (hts _ tw_375) (by decide) (b := bd) (mw_rc K hI fd.1 rfl) (g := F0 m 91 ls [.int (nI z), .int a, .ref bd]) rfl (argsL := [.int a, .int (nI z)]) (rest := []) np_BY_demand rfl (by rw [hb]; exact d_RM_takeRecord_91)) hl.1 d_RM_takeRecord_91 ⟨Nat.le_of_ble_eq_true rfl, Nat.le_of_ble_eq_true rfl⟩ (Or.inl ⟨_, _, List.mem_cons_self⟩) (mk_ws tw_375 hts) (fun a9 U9 h9 => Ts_warm hts _ tw_22 a9 U9 h9) ⟨Nat.le_of_ble_eq_true rfl, Nat.le_of_ble_eq_true rfl⟩ (fun v w' H locs hq hI => ?_) (fun k x w' H locs hq hI hX => ?_)
              · obtain ⟨hq1, ⟨hq2, hq3, hq4⟩ | ⟨-, hq4⟩⟩ := hq
                · cases hq4
                  rw [hq1] at hI
                  obtain ⟨e1, e2⟩ := inD_nI ⟨hq2, hq3⟩ (by decide)
                  have hsp := hsp.trans (if_pos ⟨hq2, hq3⟩)
                  refine W.eq (g2 := F0 m 94 ls []) rfl ?_
                  rw [e1] at hl
                  generalize a.toNatClampNeg = q at *
                  have hloop : ∀ (n9 j : Nat), j + n9 = z → ∀ (g1 : Nat → Int64), by_w gd g1 q j (fun j => bw_b ga (bg mi + (tl mi + 8 + j) % en mi)) → ∀ (H : Heap) (locs : List Loc), mw_I D mk_cl w s.heap (mw_up w xd (by_a dA 512 g1)) H locs → ∀ ls : Array Slot, lv_has ls 6 [(5, .int (nI j)), (0, .ref a1), (1, .int (nI q)), (4, .int (nI z))] → W p l e { frames := 7, cells := 1, slots := 6, locals := 140 } s m ([.ref a1, .int a] : List Value).toArray below meth c H locs 1 6 (mx_Q below (mw_Qc D mk_cl w s.heap.size (PC dA w own x bd xd ba xa ra mp (sp_take S i a))) ([.ref a1, .int a] : List Value).toArray s 1 6 (mw_A w s.heap.size)) (F0 m 97 ls []) := by
                    intro n9
                    induction n9 with
                    | zero =>
                      intro j hj g1 hg H locs hI ls hl
                      have f1 := hup g1
                      have f1_0 := f1
                      have hA1 := hA_0.desk g1 (cpy (dk S) q (fun j => ar S (bg mi + (tl mi + 8 + j) % en mi)) 0 z) (fun y hy => by
                        rw [hg y]
                        unfold cpy
                        have e9 : j = z := by omega
                        rw [e9]
                        split
                        · rw [Nat.zero_add]
                          refine har _ ?_
                          have := Nat.mod_lt (tl mi + 8 + (y - q)) (show 0 < en mi by omega)
                          omega
                        · exact hdk y hy)
                      generalize ew : mw_up w xd (by_a dA 512 g1) = w1 at *
                      refine lv_iload hx hb d_RM_takeRecord_97 (lv_at hl 0 rfl) ?_
                      refine lv_iload hx hb d_RM_takeRecord_99 (lv_at hl 3 rfl) ?_
                      refine lv_icmp_ge (tgt := 145) hx hb d_RM_takeRecord_101 (by decide) (fun c101 => ?_) (fun c101 => ?_)
                      ·
                        refine lv_aload_n hx hb d_RM_takeRecord_145 rfl (lv_at hl 1 rfl) ?_
                        refine lv_dup hx hb d_RM_takeRecord_146 rfl ?_
                        refine mw_get K hI gf_RM_15_cRM f1 rfl d_RM_takeRecord_147 ?_
                        refine lv_iload hx hb d_RM_takeRecord_150 (lv_at hl 3 rfl) ?_
                        refine mp_call (rest := [.long (lN (tl mi)), .ref a1]) hb hml (c_RM_bytesOfRecord l (n := z) (by omega)) (mx_invS hx hown (hts _ tw_541) (hts _ tw_542) (hts _ tw_34) (hts _ tw_543) (by decide) (g := F0 m 152 ls [.int (nI z), .long (lN (tl mi)), .ref a1]) rfl (argsL := [.int (nI z)]) (rest := [.long (lN (tl mi)), .ref a1]) np_RM_bytesOfRecord rfl (by rw [hb]; exact d_RM_takeRecord_152)) hl.1 d_RM_takeRecord_152 ⟨Nat.le_of_ble_eq_true rfl, Nat.le_of_ble_eq_true rfl⟩ (Or.inl ⟨_, _, List.mem_cons_self⟩) (mk_ws tw_543 hts) (fun a9 U9 h9 => Ts_warm hts _ tw_34 a9 U9 h9) (by first | exact ⟨Nat.le_of_ble_eq_true rfl, Nat.le_of_ble_eq_true rfl⟩ | assumption) (fun v hv => ?_)
                        subst hv
                        refine W.eq (g2 := F0 m 155 ls [.int (nI (up8 (8 + z))), .long (lN (tl mi)), .ref a1]) rfl ?_
                        refine lv_i2l hx hb d_RM_takeRecord_155 rfl ?_
                        refine mw_tl (nI_l (by omega)) ?_
                        refine lv_ladd hx hb d_RM_takeRecord_156 ?_
                        refine mw_tl (lN_add _ _) ?_
                        refine mw_put K hI gp_RM_15_cRM (Or.inl ⟨_, rfl, rfl⟩) f1 rfl rfl (by simp) d_RM_takeRecord_157 (fun H locs hI => ?_)
                        have hI : mw_I D mk_cl w s.heap (mw_up w1 a1 (.inr (cRM, [.ref bd, .ref ba, .int (nI (bg mi)), .int (nI (en mi)), .long (lN (hd mi)), .long (lN ((tl mi) + (up8 (8 + z)))), .int (nI (rc mi)), .int (nI (if bk mi = true then 1 else 0))]))) H _ := hI
                        have f1 : (mw_up w1 a1 (.inr (cRM, [.ref bd, .ref ba, .int (nI (bg mi)), .int (nI (en mi)), .long (lN (hd mi)), .long (lN ((tl mi) + (up8 (8 + z)))), .int (nI (rc mi)), .int (nI (if bk mi = true then 1 else 0))]))) a1 = some (.inr (cRM, [.ref bd, .ref ba, .int (nI (bg mi)), .int (nI (en mi)), .long (lN (hd mi)), .long (lN ((tl mi) + (up8 (8 + z)))), .int (nI (rc mi)), .int (nI (if bk mi = true then 1 else 0))])) := mw_up_s _ _ _
                        refine lv_iload hx hb d_RM_takeRecord_160 (lv_at hl 3 rfl) ?_
                        refine mw_iret K hI hr hlk ?_ d_RM_takeRecord_162
                        rw [hsp]
                        refine ⟨rfl, own, g1, ga, ?_, ?_⟩
                        · refine hA1.map (i := i) (own' := own) ?_ (fun q' y hy hz => ?_) (fun _ _ _ => rfl)
                          · rw [ea]
                            exact ⟨om, Or.inr (Or.inr ⟨hk, f1⟩)⟩
                          · rw [mw_up_n _ _ ?_]
                            · exact hy
                            · intro e
                              subst e
                              rcases hz with hz | ⟨fs, hz⟩
                              · exact hz (by rw [om]; exact Or.inl rfl)
                              · rw [hz] at hy; exact absurd (hy.symm.trans f1_0) (by intro z; injection z with z; injection z with z; injection z with z; exact absurd z (by decide))
                        · refine Fr.trans ?_ (Fr.up f1_0 (by rw [om]; simp))
                          rw [← ew]; exact Fr.up fd.2 (by rw [o2]; decide)
                      ·
                        exact absurd (nI_le (by omega) (by omega)) c101
                    | succ n9 ih =>
                      intro j hj g1 hg H locs hI ls hl
                      have f1 := hup g1
                      have fa1 := hau g1
                      have fd1 := fd.up g1
                      have hpl : bg mi + (tl mi + 8 + j) % en mi < 65536 := by
                        have := Nat.mod_lt (tl mi + 8 + j) (show 0 < en mi by omega)
                        omega
                      refine lv_iload hx hb d_RM_takeRecord_97 (lv_at hl 0 rfl) ?_
                      refine lv_iload hx hb d_RM_takeRecord_99 (lv_at hl 3 rfl) ?_
                      refine lv_icmp_ge (tgt := 145) hx hb d_RM_takeRecord_101 (by decide) (fun c101 => ?_) (fun c101 => ?_)
                      ·
                        exact absurd c101 (nI_ge (by omega) (by omega))
                      ·
                        refine lv_aload_n hx hb d_RM_takeRecord_104 rfl (lv_at hl 1 rfl) ?_
                        refine mw_get K hI gf_RM_33_cRM f1 rfl d_RM_takeRecord_105 ?_
                        refine lv_iload_n hx hb d_RM_takeRecord_108 rfl (lv_at hl 2 rfl) ?_
                        refine lv_iload hx hb d_RM_takeRecord_109 (lv_at hl 0 rfl) ?_
                        refine lv_iadd hx hb d_RM_takeRecord_111 ?_
                        refine mw_ti (nI_add _ _) ?_
                        refine lv_aload_n hx hb d_RM_takeRecord_112 rfl (lv_at hl 1 rfl) ?_
                        refine mw_get K hI gf_RM_51_cRM f1 rfl d_RM_takeRecord_113 ?_
                        refine lv_aload_n hx hb d_RM_takeRecord_116 rfl (lv_at hl 1 rfl) ?_
                        refine lv_aload_n hx hb d_RM_takeRecord_117 rfl (lv_at hl 1 rfl) ?_
                        refine mw_get K hI gf_RM_15_cRM f1 rfl d_RM_takeRecord_118 ?_
                        refine lv_ldc2 (v := lN 8) hx hb hown (hts _ tw_555) d_RM_takeRecord_121 ?_
                        refine lv_ladd hx hb d_RM_takeRecord_124 ?_
                        refine mw_tl (lN_add _ _) ?_
                        refine lv_iload hx hb d_RM_takeRecord_125 (lv_at hl 0 rfl) ?_
                        refine lv_i2l hx hb d_RM_takeRecord_127 rfl ?_
                        refine mw_tl (nI_l (by omega)) ?_
                        refine lv_ladd hx hb d_RM_takeRecord_128 ?_
                        refine mw_tl (lN_add _ _) ?_
                        refine mw_call (rest := [.ref ba, .int (nI (q + j)), .ref bd]) K hSy hP0 hI (c_RM_placeOfCount l D dA f1 r2 (cc := tl mi + 8 + j) (by omega)) (mx_invV hx hown (hts _ tw_549) (hts _ tw_551) (hts _ tw_7) (hts _ tw_552) (by decide) (b := a1) (mw_rc K hI f1 rfl) (g := F0 m 129 ls [.long (lN (((tl mi) + 8) + j)), .ref a1, .ref ba, .int (nI (q + j)), .ref bd]) rfl (argsL := [.long (lN (((tl mi) + 8) + j))]) (rest := [.ref ba, .int (nI (q + j)), .ref bd]) np_RM_placeOfCount rfl (by rw [hb]; exact d_RM_takeRecord_129)) hl.1 d_RM_takeRecord_129 ⟨Nat.le_of_ble_eq_true rfl, Nat.le_of_ble_eq_true rfl⟩ (Or.inl ⟨_, _, List.mem_cons_self⟩) (mk_ws tw_552 hts) (fun a9 U9 h9 => Ts_warm hts _ tw_34 a9 U9 h9) ⟨Nat.le_of_ble_eq_true rfl, Nat.le_of_ble_eq_true rfl⟩ (fun v w' H locs hq hI => ?_) (fun k x w' H locs hq hI hX => ?_)
                        · obtain ⟨hq1, hq2⟩ := hq
                          cases hq1
                          rw [hq2] at hI
                          refine W.eq (g2 := F0 m 132 ls [.int (nI (bg mi + (tl mi + 8 + j) % en mi)), .ref ba, .int (nI (q + j)), .ref bd]) rfl ?_
                          refine mw_call (rest := [.int (nI (q + j)), .ref bd]) K hSy hP0 hI (c_BY_byteAt l D dA fa1 (by decide) (i := bg mi + (tl mi + 8 + j) % en mi) hpl) (mx_invV hx hown (hts _ tw_554) (hts _ tw_384) (hts _ tw_385) (hts _ tw_386) (by decide) (b := ba) (mw_rc K hI fa1.1 rfl) (g := F0 m 132 ls [.int (nI (bg mi + (tl mi + 8 + j) % en mi)), .ref ba, .int (nI (q + j)), .ref bd]) rfl (argsL := [.int (nI (bg mi + (tl mi + 8 + j) % en mi))]) (rest := [.int (nI (q + j)), .ref bd]) np_BY_byteAt rfl (by rw [hb]; exact d_RM_takeRecord_132)) hl.1 d_RM_takeRecord_132 ⟨Nat.le_of_ble_eq_true rfl, Nat.le_of_ble_eq_true rfl⟩ (Or.inl ⟨_, _, List.mem_cons_self⟩) (mk_ws tw_386 hts) (fun a9 U9 h9 => Ts_warm hts _ tw_22 a9 U9 h9) ⟨Nat.le_of_ble_eq_true rfl, Nat.le_of_ble_eq_true rfl⟩ (fun v w' H locs hq hI => ?_) (fun k x w' H locs hq hI hX => ?_)
                          · obtain ⟨hq1, hq2⟩ := hq
                            cases hq1
                            rw [hq2] at hI
                            have hb9 := bw_lt ga (bg mi + (tl mi + 8 + j) % en mi)
                            refine W.eq (g2 := F0 m 135 ls [.int (nI (bw_b ga (bg mi + (tl mi + 8 + j) % en mi))), .int (nI (q + j)), .ref bd]) rfl ?_
                            refine lv_i2l hx hb d_RM_takeRecord_135 rfl ?_
                            refine mw_tl (nI_l (by omega)) ?_
                            refine mw_call (rest := []) K hSy hP0 hI (c_BY_setByte l D dA fd1 (by decide) (i := q + j) (by omega) (lN (bw_b ga (bg mi + (tl mi + 8 + j) % en mi)))) (mx_invV hx hown (hts _ tw_556) (hts _ tw_402) (hts _ tw_403) (hts _ tw_404) (by decide) (b := bd) (mw_rc K hI fd1.1 rfl) (g := F0 m 136 ls [.long (lN (bw_b ga (bg mi + (tl mi + 8 + j) % en mi))), .int (nI (q + j)), .ref bd]) rfl (argsL := [.int (nI (q + j)), .long (lN (bw_b ga (bg mi + (tl mi + 8 + j) % en mi)))]) (rest := []) np_BY_setByte rfl (by rw [hb]; exact d_RM_takeRecord_136)) hl.1 d_RM_takeRecord_136 ⟨Nat.le_of_ble_eq_true rfl, Nat.le_of_ble_eq_true rfl⟩ (Or.inl ⟨_, _, List.mem_cons_self⟩) (mk_ws tw_404 hts) (fun a9 U9 h9 => Ts_warm hts _ tw_22 a9 U9 h9) ⟨Nat.le_of_ble_eq_true rfl, Nat.le_of_ble_eq_true rfl⟩ (fun v w' H locs hq hI => ?_) (fun k x w' H locs hq hI hX => ?_)
                            · obtain ⟨hq1, hq2⟩ := hq
                              cases hq1
                              rw [hq2, mw_uu] at hI
                              refine W.eq (g2 := F0 m 139 ls []) rfl ?_
                              refine lv_iinc (v := nI (j + 1)) (lv' := [(5, .int (nI (j + 1))), (0, .ref a1), (1, .int (nI q)), (4, .int (nI z))]) hx hb d_RM_takeRecord_139 hl (k := 0) rfl (nI_add _ _) (by decide) rfl (fun ls hl => ?_)
                              refine lv_goto (tgt := 97) hx hb d_RM_takeRecord_142 (by decide) ?_
                              refine ih (j + 1) (by omega) _ (hg.s ?_) H locs hI ls (lv_sub hl [0, 1, 2, 3] rfl)
                              rw [uN_lN (by omega), Nat.mod_eq_of_lt hb9]
                            · exact absurd hq.1 (by simp)
                          · exact absurd hq.1 (by simp)
                        · exact absurd hq.1 (by simp)
                  have hI : mw_I D mk_cl w s.heap (mw_up w xd (by_a dA 512 gd)) H locs := by rw [← mw_self fd.2]; exact hI
                  refine lv_iconst (v := nI 0) hx hb d_RM_takeRecord_94 (by decide) ?_
                  refine lv_istore (lv' := [(5, .int (nI 0)), (4, .int (nI z)), (2, .long (lN z)), (0, .ref a1), (1, .int (nI q))]) hx hb d_RM_takeRecord_95 hl (by decide) rfl (fun ls hl => ?_)
                  exact hloop z 0 (by omega) gd (by_w.z gd q _) H locs hI ls (lv_sub hl [0, 3, 4, 1] rfl)
                · cases hq4
              · obtain ⟨hq1, ⟨-, -, hq4⟩ | ⟨hq2, hq4⟩⟩ := hq
                · cases hq4
                · cases hq4
                  rw [hq1] at hI
                  refine mw_on hI hce hlk hX ?_
                  have hsp := hsp.trans (if_neg hq2)
                  rw [hsp]
                  exact ⟨rfl, own, gd, ga, hA_0, Fr.rf w own⟩
            ·
              rw [lg_cmp_le, lN_leL (by omega) (by omega)] at c69
              exact hbrk H locs hI ls (lv_sub hl [1] rfl) hb0 hne (fun q => c69 q.2.2)
        · exact absurd hq.1 (by simp)
      · exact absurd hq.1 (by simp)
    ·
      have he : hd mi = tl mi := by
        have h9 : lg_cmp (lN (hd mi)) (lN (tl mi)) = 0 := c19
        exact (lN_eqL (by omega) (by omega)).mp ((lg_cmp_eq _ _).mp h9)
      have hsp := (hsp.trans (if_neg hb0)).trans (if_pos he)
      refine lv_bipush (v := (-2)) hx hb d_RM_takeRecord_22 (by decide) ?_
      refine W.widen (k := 1) (n := 6) (by decide) (by decide) ?_
      refine mw_iret K hI hr hlk ?_ d_RM_takeRecord_24
      rw [hsp]
      exact ⟨rfl, own, gd, ga, hA_0, Fr.rf w own⟩
  ·
    have hb0 : bk mi = true := by
      cases hbk : bk mi with
      | true => rfl
      | false => rw [hbk] at c4; exact absurd (by decide) c4
    have hsp := hsp.trans (if_pos hb0)
    refine lv_bipush (v := (-22)) hx hb d_RM_takeRecord_7 (by decide) ?_
    refine W.widen (k := 1) (n := 6) (by decide) (by decide) ?_
    refine mw_iret K hI hr hlk ?_ d_RM_takeRecord_9
    rw [hsp]
    exact ⟨rfl, own, gd, ga, hA_0, Fr.rf w own⟩
