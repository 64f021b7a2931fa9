/-! ### the model: update, next -/
theorem d_MO_next_0 : decode b_MO_next 0 = .ok (.aload_n 0, 1) := by decide +kernel
theorem d_MO_next_1 : decode b_MO_next 1 = .ok (.iload_n 1, 1) := by decide +kernel
theorem d_MO_next_2 : decode b_MO_next 2 = .ok (.invokevirtual 92, 3) := by decide +kernel
theorem d_MO_next_5 : decode b_MO_next 5 = .ok (.ifCond .eq 5, 3) := by decide +kernel
theorem d_MO_next_8 : decode b_MO_next 8 = .ok (.iconst 0, 1) := by decide +kernel
theorem d_MO_next_9 : decode b_MO_next 9 = .ok (.ireturn, 1) := by decide +kernel
theorem d_MO_next_10 : decode b_MO_next 10 = .ok (.aload_n 0, 1) := by decide +kernel
theorem d_MO_next_11 : decode b_MO_next 11 = .ok (.getfield 17, 3) := by decide +kernel
theorem d_MO_next_14 : decode b_MO_next 14 = .ok (.iload_n 1, 1) := by decide +kernel
theorem d_MO_next_15 : decode b_MO_next 15 = .ok (.iaload, 1) := by decide +kernel
theorem d_MO_next_16 : decode b_MO_next 16 = .ok (.iconst 1, 1) := by decide +kernel
theorem d_MO_next_17 : decode b_MO_next 17 = .ok (.if_icmp .eq 6, 3) := by decide +kernel
theorem d_MO_next_20 : decode b_MO_next 20 = .ok (.bipush (-22), 2) := by decide +kernel
theorem d_MO_next_22 : decode b_MO_next 22 = .ok (.ireturn, 1) := by decide +kernel
theorem d_MO_next_23 : decode b_MO_next 23 = .ok (.aload_n 0, 1) := by decide +kernel
theorem d_MO_next_24 : decode b_MO_next 24 = .ok (.iload_n 2, 1) := by decide +kernel
theorem d_MO_next_25 : decode b_MO_next 25 = .ok (.iconst (-1), 1) := by decide +kernel
theorem d_MO_next_26 : decode b_MO_next 26 = .ok (.if_icmp .eq 16, 3) := by decide +kernel
theorem d_MO_next_29 : decode b_MO_next 29 = .ok (.iload_n 2, 1) := by decide +kernel
theorem d_MO_next_30 : decode b_MO_next 30 = .ok (.aload_n 0, 1) := by decide +kernel
theorem d_MO_next_31 : decode b_MO_next 31 = .ok (.getfield 21, 3) := by decide +kernel
theorem d_MO_next_34 : decode b_MO_next 34 = .ok (.iload_n 1, 1) := by decide +kernel
theorem d_MO_next_35 : decode b_MO_next 35 = .ok (.iaload, 1) := by decide +kernel
theorem d_MO_next_36 : decode b_MO_next 36 = .ok (.invokestatic 97, 3) := by decide +kernel
theorem d_MO_next_39 : decode b_MO_next 39 = .ok (.ifCond .eq 20, 3) := by decide +kernel
theorem d_MO_next_42 : decode b_MO_next 42 = .ok (.iload_n 3, 1) := by decide +kernel
theorem d_MO_next_43 : decode b_MO_next 43 = .ok (.aload_n 0, 1) := by decide +kernel
theorem d_MO_next_44 : decode b_MO_next 44 = .ok (.getfield 21, 3) := by decide +kernel
theorem d_MO_next_47 : decode b_MO_next 47 = .ok (.iload_n 1, 1) := by decide +kernel
theorem d_MO_next_48 : decode b_MO_next 48 = .ok (.iaload, 1) := by decide +kernel
theorem d_MO_next_49 : decode b_MO_next 49 = .ok (.invokestatic 97, 3) := by decide +kernel
theorem d_MO_next_52 : decode b_MO_next 52 = .ok (.ifCond .eq 7, 3) := by decide +kernel
theorem d_MO_next_55 : decode b_MO_next 55 = .ok (.iconst 0, 1) := by decide +kernel
theorem d_MO_next_56 : decode b_MO_next 56 = .ok (.goto 4, 3) := by decide +kernel
theorem d_MO_next_59 : decode b_MO_next 59 = .ok (.iconst 1, 1) := by decide +kernel
theorem d_MO_next_60 : decode b_MO_next 60 = .ok (.putfield 60, 3) := by decide +kernel
theorem d_MO_next_63 : decode b_MO_next 63 = .ok (.aload_n 0, 1) := by decide +kernel
theorem d_MO_next_64 : decode b_MO_next 64 = .ok (.getfield 60, 3) := by decide +kernel
theorem d_MO_next_67 : decode b_MO_next 67 = .ok (.ifCond .le 5, 3) := by decide +kernel
theorem d_MO_next_70 : decode b_MO_next 70 = .ok (.iconst 0, 1) := by decide +kernel
theorem d_MO_next_71 : decode b_MO_next 71 = .ok (.ireturn, 1) := by decide +kernel
theorem d_MO_next_72 : decode b_MO_next 72 = .ok (.iload_n 2, 1) := by decide +kernel
theorem d_MO_next_73 : decode b_MO_next 73 = .ok (.iconst (-1), 1) := by decide +kernel
theorem d_MO_next_74 : decode b_MO_next 74 = .ok (.if_icmp .ne 7, 3) := by decide +kernel
theorem d_MO_next_77 : decode b_MO_next 77 = .ok (.iconst 0, 1) := by decide +kernel
theorem d_MO_next_78 : decode b_MO_next 78 = .ok (.goto 11, 3) := by decide +kernel
theorem d_MO_next_81 : decode b_MO_next 81 = .ok (.aload_n 0, 1) := by decide +kernel
theorem d_MO_next_82 : decode b_MO_next 82 = .ok (.iload_n 1, 1) := by decide +kernel
theorem d_MO_next_83 : decode b_MO_next 83 = .ok (.iload_n 2, 1) := by decide +kernel
theorem d_MO_next_84 : decode b_MO_next 84 = .ok (.invokevirtual 122, 3) := by decide +kernel
theorem d_MO_next_87 : decode b_MO_next 87 = .ok (.iconst 1, 1) := by decide +kernel
theorem d_MO_next_88 : decode b_MO_next 88 = .ok (.iadd, 1) := by decide +kernel
theorem d_MO_next_89 : decode b_MO_next 89 = .ok (.istore 4, 2) := by decide +kernel
theorem d_MO_next_91 : decode b_MO_next 91 = .ok (.iload 4, 2) := by decide +kernel
theorem d_MO_next_93 : decode b_MO_next 93 = .ok (.aload_n 0, 1) := by decide +kernel
theorem d_MO_next_94 : decode b_MO_next 94 = .ok (.getfield 27, 3) := by decide +kernel
theorem d_MO_next_97 : decode b_MO_next 97 = .ok (.iload_n 1, 1) := by decide +kernel
theorem d_MO_next_98 : decode b_MO_next 98 = .ok (.iaload, 1) := by decide +kernel
theorem d_MO_next_99 : decode b_MO_next 99 = .ok (.if_icmp .ge 26, 3) := by decide +kernel
theorem d_MO_next_102 : decode b_MO_next 102 = .ok (.aload_n 0, 1) := by decide +kernel
theorem d_MO_next_103 : decode b_MO_next 103 = .ok (.getfield 39, 3) := by decide +kernel
theorem d_MO_next_106 : decode b_MO_next 106 = .ok (.aload_n 0, 1) := by decide +kernel
theorem d_MO_next_107 : decode b_MO_next 107 = .ok (.getfield 33, 3) := by decide +kernel
theorem d_MO_next_110 : decode b_MO_next 110 = .ok (.iload_n 1, 1) := by decide +kernel
theorem d_MO_next_111 : decode b_MO_next 111 = .ok (.iaload, 1) := by decide +kernel
theorem d_MO_next_112 : decode b_MO_next 112 = .ok (.iload 4, 2) := by decide +kernel
theorem d_MO_next_114 : decode b_MO_next 114 = .ok (.iadd, 1) := by decide +kernel
theorem d_MO_next_115 : decode b_MO_next 115 = .ok (.baload, 1) := by decide +kernel
theorem d_MO_next_116 : decode b_MO_next 116 = .ok (.ifCond .ne 9, 3) := by decide +kernel
theorem d_MO_next_119 : decode b_MO_next 119 = .ok (.iinc 4 1, 3) := by decide +kernel
theorem d_MO_next_122 : decode b_MO_next 122 = .ok (.goto (-31), 3) := by decide +kernel
theorem d_MO_next_125 : decode b_MO_next 125 = .ok (.iload 4, 2) := by decide +kernel
theorem d_MO_next_127 : decode b_MO_next 127 = .ok (.aload_n 0, 1) := by decide +kernel
theorem d_MO_next_128 : decode b_MO_next 128 = .ok (.getfield 27, 3) := by decide +kernel
theorem d_MO_next_131 : decode b_MO_next 131 = .ok (.iload_n 1, 1) := by decide +kernel
theorem d_MO_next_132 : decode b_MO_next 132 = .ok (.iaload, 1) := by decide +kernel
theorem d_MO_next_133 : decode b_MO_next 133 = .ok (.if_icmp .ne 5, 3) := by decide +kernel
theorem d_MO_next_136 : decode b_MO_next 136 = .ok (.iconst (-1), 1) := by decide +kernel
theorem d_MO_next_137 : decode b_MO_next 137 = .ok (.ireturn, 1) := by decide +kernel
theorem d_MO_next_138 : decode b_MO_next 138 = .ok (.iconst 0, 1) := by decide +kernel
theorem d_MO_next_139 : decode b_MO_next 139 = .ok (.istore 5, 2) := by decide +kernel
theorem d_MO_next_141 : decode b_MO_next 141 = .ok (.iload 5, 2) := by decide +kernel
theorem d_MO_next_143 : decode b_MO_next 143 = .ok (.aload_n 0, 1) := by decide +kernel
theorem d_MO_next_144 : decode b_MO_next 144 = .ok (.getfield 21, 3) := by decide +kernel
theorem d_MO_next_147 : decode b_MO_next 147 = .ok (.iload_n 1, 1) := by decide +kernel
theorem d_MO_next_148 : decode b_MO_next 148 = .ok (.iaload, 1) := by decide +kernel
theorem d_MO_next_149 : decode b_MO_next 149 = .ok (.if_icmp .ge 42, 3) := by decide +kernel
theorem d_MO_next_152 : decode b_MO_next 152 = .ok (.aload_n 0, 1) := by decide +kernel
theorem d_MO_next_153 : decode b_MO_next 153 = .ok (.getfield 7, 3) := by decide +kernel
theorem d_MO_next_156 : decode b_MO_next 156 = .ok (.iload_n 3, 1) := by decide +kernel
theorem d_MO_next_157 : decode b_MO_next 157 = .ok (.iload 5, 2) := by decide +kernel
theorem d_MO_next_159 : decode b_MO_next 159 = .ok (.iadd, 1) := by decide +kernel
theorem d_MO_next_160 : decode b_MO_next 160 = .ok (.aload_n 0, 1) := by decide +kernel
theorem d_MO_next_161 : decode b_MO_next 161 = .ok (.getfield 44, 3) := by decide +kernel
theorem d_MO_next_164 : decode b_MO_next 164 = .ok (.aload_n 0, 1) := by decide +kernel
theorem d_MO_next_165 : decode b_MO_next 165 = .ok (.getfield 36, 3) := by decide +kernel
theorem d_MO_next_168 : decode b_MO_next 168 = .ok (.iload_n 1, 1) := by decide +kernel
theorem d_MO_next_169 : decode b_MO_next 169 = .ok (.iaload, 1) := by decide +kernel
theorem d_MO_next_170 : decode b_MO_next 170 = .ok (.iload 4, 2) := by decide +kernel
theorem d_MO_next_172 : decode b_MO_next 172 = .ok (.aload_n 0, 1) := by decide +kernel
theorem d_MO_next_173 : decode b_MO_next 173 = .ok (.getfield 21, 3) := by decide +kernel
theorem d_MO_next_176 : decode b_MO_next 176 = .ok (.iload_n 1, 1) := by decide +kernel
theorem d_MO_next_177 : decode b_MO_next 177 = .ok (.iaload, 1) := by decide +kernel
theorem d_MO_next_178 : decode b_MO_next 178 = .ok (.imul, 1) := by decide +kernel
theorem d_MO_next_179 : decode b_MO_next 179 = .ok (.iadd, 1) := by decide +kernel
theorem d_MO_next_180 : decode b_MO_next 180 = .ok (.iload 5, 2) := by decide +kernel
theorem d_MO_next_182 : decode b_MO_next 182 = .ok (.iadd, 1) := by decide +kernel
theorem d_MO_next_183 : decode b_MO_next 183 = .ok (.baload, 1) := by decide +kernel
theorem d_MO_next_184 : decode b_MO_next 184 = .ok (.bastore, 1) := by decide +kernel
theorem d_MO_next_185 : decode b_MO_next 185 = .ok (.iinc 5 1, 3) := by decide +kernel
theorem d_MO_next_188 : decode b_MO_next 188 = .ok (.goto (-47), 3) := by decide +kernel
theorem d_MO_next_191 : decode b_MO_next 191 = .ok (.iload 4, 2) := by decide +kernel
theorem d_MO_next_193 : decode b_MO_next 193 = .ok (.ireturn, 1) := by decide +kernel
set_option maxRecDepth 100000 in
set_option maxHeartbeats 4000000 in
theorem c_MO_update (l : Launch) (D : va_G) (dA : Nat → ClassId) {w : mw_W} {own : as_W} {y t : Nat} {cd : Int32} {S : as_S} (hM : RepM dA w own y cd S) (hW : wf_S t S) (q k v f : Int32) : CT l D dA y_MO_update (Cond.code y_MO_update b_MO_update 5 (some .int) :: Ts) 4 140 0 0 [.ref y, .int q, .int k, .int v, .int f] w (MM dA w own y kO (sp_UPD S q k v f)) := by
  refine mw_meth (by decide) mk_tb (Nat.le_of_ble_eq_true rfl) ?_
  intro p e s m below meth c K hr hlk hce hnm hP0 hSy ls hl
  have hl : lv_has ls 5 [(0, .ref y), (1, .int q), (2, .int k), (3, .int v), (4, .int f)] := hl
  obtain ⟨hx, hb, hml, hown, hts, hK, hTb⟩ := id K
  have hI := mw_I.start hP0
  obtain ⟨A, fe, fk, ec, kc, fi, fl, hw, hR⟩ := hM
  have hF := FrM.rf w own
  have h64 := hW.1
  refine lv_aload_n hx hb d_MO_update_0 rfl (lv_at hl 0 rfl) ?_
  refine lv_iload_n hx hb d_MO_update_1 rfl (lv_at hl 1 rfl) ?_
  refine mw_call (rest := []) K hSy hP0 hI (c_MO_noMap l D dA hw hW.1 q) (mx_invV hx hown (hts _ tw_694) (hts _ tw_696) (hts _ tw_8) (hts _ tw_697) (by decide) (b := y) (mw_rc K hI hw.o rfl) (g := F0 m 2 ls [.int q, .ref y]) rfl (argsL := [.int q]) (rest := []) np_MO_noMap rfl (by rw [hb]; exact d_MO_update_2)) hl.1 d_MO_update_2 ⟨Nat.le_of_ble_eq_true rfl, Nat.le_of_ble_eq_true rfl⟩ (Or.inl ⟨_, _, List.mem_cons_self⟩) (mk_ws tw_697 hts) (fun a9 U9 h9 => Ts_warm hts _ tw_23 a9 U9 h9) ⟨Nat.le_of_ble_eq_true rfl, Nat.le_of_ble_eq_true rfl⟩ (fun v w' H locs hq hI => ?_) (fun k x w' H locs hq hI hX => ?_)
  · obtain ⟨hF, ⟨h1, h2, hq1, hw⟩ | ⟨h1, hq1, hw⟩⟩ := hq
    · cases hq1
      have hsp : sp_UPD S q k v f = _ := if_pos ⟨h1, h2⟩
      obtain ⟨e1, hi⟩ := inM_nI ⟨h1, h2⟩ hW.1
      refine W.eq (g2 := F0 m 5 ls [.int (nI 0)]) rfl ?_
      rw [e1] at hl
      generalize q.toNatClampNeg = i at *
      have hwf := hW.2.2.2.2.2 i hi
      obtain ⟨⟨r1, r2, r3, r4, r5⟩, r11, r12, r13, r14⟩ := hR.2.2.1 i hi
      have hkk : kd (mm S i) = 0 ∨ kd (mm S i) = 1 ∨ kd (mm S i) = 2 := by
        obtain ⟨-, ⟨k0, -⟩ | ⟨k0, -⟩ | ⟨k0, -⟩⟩ := hwf
        · exact Or.inl k0
        · exact Or.inr (Or.inl k0)
        · exact Or.inr (Or.inr k0)
      refine lv_if_eq (tgt := 10) hx hb d_MO_update_5 (by decide) (fun c5 => ?_) (fun c5 => ?_)
      ·
        refine lv_aload_n hx hb d_MO_update_10 rfl (lv_at hl 0 rfl) ?_
        refine mw_get K hI gf_MO_17_cMO hw.o rfl d_MO_update_11 ?_
        refine lv_iload_n hx hb d_MO_update_14 rfl (lv_at hl 1 rfl) ?_
        refine mw_iald K hI tI hw.a2 rfl i rfl (by first | assumption | omega) (by omega) d_MO_update_15 ?_
        refine mw_ti (y := nI (kd (mm S i))) (r1) ?_
        refine lv_iconst (v := nI 2) hx hb d_MO_update_16 (by decide) ?_
        refine lv_icmp_ne (tgt := 23) hx hb d_MO_update_17 (by decide) (fun c17 => ?_) (fun c17 => ?_)
        ·
          have hk2 : kd (mm S i) ≠ 2 := fun z => c17 (by rw [z])
          have hk : kd (mm S i) = 0 ∨ kd (mm S i) = 1 := by omega
          obtain ⟨b1, b2, b3, b4, b5, b6, b7, b8⟩ := wf_E hwf hk
          have hsp := hsp.trans (if_neg hk2)
          have bad : ¬ (inD k (ks (mm S i)) 512 ∧ inD v (vs (mm S i)) 512) → ∀ (H : Heap) (locs : List Loc), mw_I D mk_cl w s.heap w' H locs → ∀ ls : Array Slot, lv_has ls 5 [(0, .ref y)] → W p l e { frames := 4, cells := 0, slots := 0, locals := 140 } s m ([.ref y, .int q, .int k, .int v, .int f] : List Value).toArray below meth c H locs 0 0 (mx_Q below (mw_Qc D mk_cl w s.heap.size (MM dA w own y kO (sp_UPD S q k v f))) ([.ref y, .int q, .int k, .int v, .int f] : List Value).toArray s 0 0 (mw_A w s.heap.size)) (F0 m 54 ls [.ref y]) := by
            intro hn H locs hI ls hl
            have hsp := hsp.trans (if_neg hn)
            refine lv_iconst (v := nI 1) hx hb d_MO_update_54 (by decide) ?_
            refine mw_put K hI gp_MO_60_cMO (Or.inl ⟨_, rfl, rfl⟩) hw.o rfl rfl (by simp) d_MO_update_55 (fun H locs hI => ?_)
            obtain ⟨wn1, hI, hF, hw⟩ := mo_W.seto (cd' := (nI 1)) (g' := nI (gv S)) (n' := nI (nm S)) (ec' := nI ec) (kc' := nI kc) (br' := nI 0) hw hI hF
            refine lv_aload_n hx hb d_MO_update_58 rfl (lv_at hl 0 rfl) ?_
            refine mw_get K hI gf_MO_60_cMO hw.o rfl d_MO_update_59 ?_
            refine lv_if_le (tgt := 67) hx hb d_MO_update_62 (by decide) (fun c62 => ?_) (fun c62 => ?_)
            ·
              exact absurd c62 (by decide)
            ·
              refine lv_iconst (v := nI 0) hx hb d_MO_update_65 (by decide) ?_
              refine mw_iret K hI hr hlk ?_ d_MO_update_66
              rw [hsp]
              exact ⟨_, _, rfl, ⟨A, fe, fk, ec, kc, fi, fl, hw, hR⟩, hF, (fun u hu => by cases hu), fun k hk => by cases hk; rfl⟩
          refine lv_aload_n hx hb d_MO_update_23 rfl (lv_at hl 0 rfl) ?_
          refine lv_iload_n hx hb d_MO_update_24 rfl (lv_at hl 2 rfl) ?_
          refine lv_aload_n hx hb d_MO_update_25 rfl (lv_at hl 0 rfl) ?_
          refine mw_get K hI gf_MO_21_cMO hw.o rfl d_MO_update_26 ?_
          refine lv_iload_n hx hb d_MO_update_29 rfl (lv_at hl 1 rfl) ?_
          refine mw_iald K hI tI hw.a3 rfl i rfl (by first | assumption | omega) (by omega) d_MO_update_30 ?_
          refine mw_ti (y := nI (ks (mm S i))) (r2) ?_
          refine mp_call (rest := [.ref y]) hb hml (c_MO_isDesk l k (n := ks (mm S i)) (by omega)) (mx_invS hx hown (hts _ tw_706) (hts _ tw_707) (hts _ tw_23) (hts _ tw_708) (by decide) (g := F0 m 31 ls [.int (nI (ks (mm S i))), .int k, .ref y]) rfl (argsL := [.int k, .int (nI (ks (mm S i)))]) (rest := [.ref y]) np_MO_isDesk rfl (by rw [hb]; exact d_MO_update_31)) hl.1 d_MO_update_31 ⟨Nat.le_of_ble_eq_true rfl, Nat.le_of_ble_eq_true rfl⟩ (Or.inl ⟨_, _, List.mem_cons_self⟩) (mk_ws tw_708 hts) (fun a9 U9 h9 => Ts_warm hts _ tw_23 a9 U9 h9) (by first | exact ⟨Nat.le_of_ble_eq_true rfl, Nat.le_of_ble_eq_true rfl⟩ | assumption) (fun v hv => ?_)
          subst hv
          refine W.eq (g2 := F0 m 34 ls [.int (if inD k (ks (mm S i)) 512 then 1 else 0), .ref y]) rfl ?_
          refine lv_if_eq (tgt := 54) hx hb d_MO_update_34 (by decide) (fun c34 => ?_) (fun c34 => ?_)
          ·
            rw [if10.1] at c34
            exact bad (fun z => c34 z.1) H locs hI ls (lv_sub hl [0] rfl)
          ·
            rw [if10.2] at c34
            refine lv_iload_n hx hb d_MO_update_37 rfl (lv_at hl 3 rfl) ?_
            refine lv_aload_n hx hb d_MO_update_38 rfl (lv_at hl 0 rfl) ?_
            refine mw_get K hI gf_MO_24_cMO hw.o rfl d_MO_update_39 ?_
            refine lv_iload_n hx hb d_MO_update_42 rfl (lv_at hl 1 rfl) ?_
            refine mw_iald K hI tI hw.a4 rfl i rfl (by first | assumption | omega) (by omega) d_MO_update_43 ?_
            refine mw_ti (y := nI (vs (mm S i))) (r3) ?_
            refine mp_call (rest := [.ref y]) hb hml (c_MO_isDesk l v (n := vs (mm S i)) (by omega)) (mx_invS hx hown (hts _ tw_706) (hts _ tw_707) (hts _ tw_23) (hts _ tw_708) (by decide) (g := F0 m 44 ls [.int (nI (vs (mm S i))), .int v, .ref y]) rfl (argsL := [.int v, .int (nI (vs (mm S i)))]) (rest := [.ref y]) np_MO_isDesk rfl (by rw [hb]; exact d_MO_update_44)) hl.1 d_MO_update_44 ⟨Nat.le_of_ble_eq_true rfl, Nat.le_of_ble_eq_true rfl⟩ (Or.inl ⟨_, _, List.mem_cons_self⟩) (mk_ws tw_708 hts) (fun a9 U9 h9 => Ts_warm hts _ tw_23 a9 U9 h9) (by first | exact ⟨Nat.le_of_ble_eq_true rfl, Nat.le_of_ble_eq_true rfl⟩ | assumption) (fun v hv => ?_)
            subst hv
            refine W.eq (g2 := F0 m 47 ls [.int (if inD v (vs (mm S i)) 512 then 1 else 0), .ref y]) rfl ?_
            refine lv_if_eq (tgt := 54) hx hb d_MO_update_47 (by decide) (fun c47 => ?_) (fun c47 => ?_)
            ·
              rw [if10.1] at c47
              exact bad (fun z => c47 z.2) H locs hI ls (lv_sub hl [0] rfl)
            ·
              rw [if10.2] at c47
              obtain ⟨e3, e4⟩ := inD_nI c34 (by decide)
              obtain ⟨e5, e6⟩ := inD_nI c47 (by decide)
              rw [e3, e5] at hl
              refine lv_iconst (v := nI 0) hx hb d_MO_update_50 (by decide) ?_
              refine lv_goto (tgt := 55) hx hb d_MO_update_51 (by decide) ?_
              refine mw_put K hI gp_MO_60_cMO (Or.inl ⟨_, rfl, rfl⟩) hw.o rfl rfl (by simp) d_MO_update_55 (fun H locs hI => ?_)
              obtain ⟨wn2, hI, hF, hw⟩ := mo_W.seto (cd' := (nI 0)) (g' := nI (gv S)) (n' := nI (nm S)) (ec' := nI ec) (kc' := nI kc) (br' := nI 0) hw hI hF
              refine lv_aload_n hx hb d_MO_update_58 rfl (lv_at hl 0 rfl) ?_
              refine mw_get K hI gf_MO_60_cMO hw.o rfl d_MO_update_59 ?_
              refine lv_if_le (tgt := 67) hx hb d_MO_update_62 (by decide) (fun c62 => ?_) (fun c62 => ?_)
              ·
                refine lv_iload hx hb d_MO_update_67 (lv_at hl 4 rfl) ?_
                refine lv_iconst (v := nI 0) hx hb d_MO_update_69 (by decide) ?_
                refine lv_iconst (v := nI 2) hx hb d_MO_update_70 (by decide) ?_
                refine mp_call (rest := []) hb hml (c_MO_isIn l f (nI 0) (nI 2)) (mx_invS hx hown (hts _ tw_677) (hts _ tw_678) (hts _ tw_23) (hts _ tw_679) (by decide) (g := F0 m 71 ls [.int (nI 2), .int (nI 0), .int f]) rfl (argsL := [.int f, .int (nI 0), .int (nI 2)]) (rest := []) np_MO_isIn rfl (by rw [hb]; exact d_MO_update_71)) hl.1 d_MO_update_71 ⟨Nat.le_of_ble_eq_true rfl, Nat.le_of_ble_eq_true rfl⟩ (Or.inl ⟨_, _, List.mem_cons_self⟩) (mk_ws tw_679 hts) (fun a9 U9 h9 => Ts_warm hts _ tw_23 a9 U9 h9) (by first | exact ⟨Nat.le_of_ble_eq_true rfl, Nat.le_of_ble_eq_true rfl⟩ | assumption) (fun v hv => ?_)
                subst hv
                refine W.eq (g2 := F0 m 74 ls [.int (if (nI 0).toInt ≤ f.toInt ∧ f.toInt ≤ (nI 2).toInt then 1 else 0)]) rfl ?_
                rw [inB_i f (a := 0) (b := 2) (by decide) (by decide)]
                refine lv_if_ne (tgt := 80) hx hb d_MO_update_74 (by decide) (fun c74 => ?_) (fun c74 => ?_)
                ·
                  rw [if10.2] at c74
                  have hsp := hsp.trans (sp_upd_core ⟨c34, c47⟩ c74)
                  refine lv_aload_n hx hb d_MO_update_80 rfl (lv_at hl 0 rfl) ?_
                  refine mw_get K hI gf_MO_17_cMO hw.o rfl d_MO_update_81 ?_
                  refine lv_iload_n hx hb d_MO_update_84 rfl (lv_at hl 1 rfl) ?_
                  refine mw_iald K hI tI hw.a2 rfl i rfl (by first | assumption | omega) (by omega) d_MO_update_85 ?_
                  refine mw_ti (y := nI (kd (mm S i))) (r1) ?_
                  refine lv_if_ne (tgt := 101) hx hb d_MO_update_86 (by decide) (fun c86 => ?_) (fun c86 => ?_)
                  ·
                    have hk1 : kd (mm S i) = 1 := by rcases hk with h | h; exact absurd (by rw [h]; rfl) c86; exact h
                    refine lv_aload_n hx hb d_MO_update_101 rfl (lv_at hl 0 rfl) ?_
                    refine lv_iload_n hx hb d_MO_update_102 rfl (lv_at hl 1 rfl) ?_
                    refine lv_iload_n hx hb d_MO_update_103 rfl (lv_at hl 2 rfl) ?_
                    refine lv_iload_n hx hb d_MO_update_104 rfl (lv_at hl 3 rfl) ?_
                    refine lv_iload hx hb d_MO_update_105 (lv_at hl 4 rfl) ?_
                    refine mw_call (rest := []) K hSy hP0 hI (c_MO_updateTable l D dA hw hR hW hi hk1 (k := k.toNatClampNeg) (v := v.toNatClampNeg) e4 e6 f) (mx_invV hx hown (hts _ tw_764) (hts _ tw_766) (hts _ tw_16) (hts _ tw_767) (by decide) (b := y) (mw_rc K hI hw.o rfl) (g := F0 m 107 ls [.int f, .int (nI v.toNatClampNeg), .int (nI k.toNatClampNeg), .int (nI i), .ref y]) rfl (argsL := [.int (nI i), .int (nI k.toNatClampNeg), .int (nI v.toNatClampNeg), .int f]) (rest := []) np_MO_updateTable rfl (by rw [hb]; exact d_MO_update_107)) hl.1 d_MO_update_107 ⟨Nat.le_of_ble_eq_true rfl, Nat.le_of_ble_eq_true rfl⟩ (Or.inl ⟨_, _, List.mem_cons_self⟩) (mk_ws tw_767 hts) (fun a9 U9 h9 => Ts_warm hts _ tw_23 a9 U9 h9) ⟨Nat.le_of_ble_eq_true rfl, Nat.le_of_ble_eq_true rfl⟩ (fun v w' H locs hq hI => ?_) (fun k x w' H locs hq hI hX => ?_)
                    · obtain ⟨u, hq5, hq6, hF2, hM⟩ := hq
                      cases hq5
                      refine W.eq (g2 := F0 m 110 ls [.int u]) rfl ?_
                      refine mw_iret K hI hr hlk ?_ d_MO_update_110
                      rw [hsp]
                      exact ⟨_, _, rfl, hM, hF.trans hF2, fun u2 hu => by rw [hq6] at hu; cases hu; exact ⟨rfl, rfl⟩, fun k hk => by rw [hq6] at hk; cases hk⟩
                    · obtain ⟨u, hq5, -⟩ := hq
                      cases hq5
                  ·
                    have hk0 : kd (mm S i) = 0 := (nI_eq (by omega) (by decide)).mp (c86.trans nI_0.symm)
                    refine lv_aload_n hx hb d_MO_update_89 rfl (lv_at hl 0 rfl) ?_
                    refine lv_iload_n hx hb d_MO_update_90 rfl (lv_at hl 1 rfl) ?_
                    refine lv_iload_n hx hb d_MO_update_91 rfl (lv_at hl 2 rfl) ?_
                    refine lv_iload_n hx hb d_MO_update_92 rfl (lv_at hl 3 rfl) ?_
                    refine lv_iload hx hb d_MO_update_93 (lv_at hl 4 rfl) ?_
                    refine mw_call (rest := []) K hSy hP0 hI (c_MO_updateArray l D dA hw hR hW hi hk0 (k := k.toNatClampNeg) (v := v.toNatClampNeg) e4 e6 f) (mx_invV hx hown (hts _ tw_756) (hts _ tw_758) (hts _ tw_14) (hts _ tw_759) (by decide) (b := y) (mw_rc K hI hw.o rfl) (g := F0 m 95 ls [.int f, .int (nI v.toNatClampNeg), .int (nI k.toNatClampNeg), .int (nI i), .ref y]) rfl (argsL := [.int (nI i), .int (nI k.toNatClampNeg), .int (nI v.toNatClampNeg), .int f]) (rest := []) np_MO_updateArray rfl (by rw [hb]; exact d_MO_update_95)) hl.1 d_MO_update_95 ⟨Nat.le_of_ble_eq_true rfl, Nat.le_of_ble_eq_true rfl⟩ (Or.inl ⟨_, _, List.mem_cons_self⟩) (mk_ws tw_759 hts) (fun a9 U9 h9 => Ts_warm hts _ tw_23 a9 U9 h9) ⟨Nat.le_of_ble_eq_true rfl, Nat.le_of_ble_eq_true rfl⟩ (fun v w' H locs hq hI => ?_) (fun k x w' H locs hq hI hX => ?_)
                    · obtain ⟨u, hq5, hq6, hF2, hM⟩ := hq
                      cases hq5
                      refine W.eq (g2 := F0 m 98 ls [.int u]) rfl ?_
                      refine lv_goto (tgt := 110) hx hb d_MO_update_98 (by decide) ?_
                      refine mw_iret K hI hr hlk ?_ d_MO_update_110
                      rw [hsp]
                      exact ⟨_, _, rfl, hM, hF.trans hF2, fun u2 hu => by rw [hq6] at hu; cases hu; exact ⟨rfl, rfl⟩, fun k hk => by rw [hq6] at hk; cases hk⟩
                    · obtain ⟨u, hq5, -⟩ := hq
                      cases hq5
                ·
                  rw [if10.1] at c74
                  have hsp := (hsp.trans (if_pos ⟨c34, c47⟩)).trans (if_neg c74)
                  refine lv_bipush (v := (-22)) hx hb d_MO_update_77 (by decide) ?_
                  refine mw_iret K hI hr hlk ?_ d_MO_update_79
                  rw [hsp]
                  exact ⟨_, _, rfl, ⟨A, fe, fk, ec, kc, fi, fl, hw, hR⟩, hF, fun u hu => by cases hu; exact ⟨rfl, rfl⟩, fun k hk => by cases hk⟩
              ·
                exact absurd (by decide) c62
        ·
          have hk2 : kd (mm S i) = 2 := (nI_eq (by omega) (by decide)).mp c17
          have hsp := hsp.trans (if_pos hk2)
          refine lv_bipush (v := (-22)) hx hb d_MO_update_20 (by decide) ?_
          refine mw_iret K hI hr hlk ?_ d_MO_update_22
          rw [hsp]
          exact ⟨_, _, rfl, ⟨A, fe, fk, ec, kc, fi, fl, hw, hR⟩, hF, fun u hu => by cases hu; exact ⟨rfl, rfl⟩, fun k hk => by cases hk⟩
      ·
        exact absurd (by decide) c5
    · cases hq1
      have hsp : sp_UPD S q k v f = _ := if_neg h1
      refine W.eq (g2 := F0 m 5 ls [.int (nI 1)]) rfl ?_
      refine lv_if_eq (tgt := 10) hx hb d_MO_update_5 (by decide) (fun c5 => ?_) (fun c5 => ?_)
      ·
        exact absurd c5 (by decide)
      ·
        refine lv_iconst (v := nI 0) hx hb d_MO_update_8 (by decide) ?_
        refine mw_iret K hI hr hlk ?_ d_MO_update_9
        rw [hsp]
        exact ⟨_, _, rfl, ⟨A, fe, fk, ec, kc, fi, fl, hw, hR⟩, hF, (fun u hu => by cases hu), fun k hk => by cases hk; rfl⟩
  · obtain ⟨hF, ⟨h1, h2, hq1, hw⟩ | ⟨h1, hq1, hw⟩⟩ := hq <;> cases hq1

set_option maxRecDepth 100000 in
set_option maxHeartbeats 4000000 in
theorem c_MO_next (l : Launch) (D : va_G) (dA : Nat → ClassId) {w : mw_W} {own : as_W} {y t : Nat} {cd : Int32} {S : as_S} (hM : RepM dA w own y cd S) (hW : wf_S t S) (q k to : Int32) : CT l D dA y_MO_next (Cond.code y_MO_next b_MO_next 6 (some .int) :: Ts) 3 100 0 0 [.ref y, .int q, .int k, .int to] w (MM dA w own y kO (sp_NEXT S q k to)) := by
  refine mw_meth (by decide) mk_tb (Nat.le_of_ble_eq_true rfl) ?_
  intro p e s m below meth c K hr hlk hce hnm hP0 hSy ls hl
  have hl : lv_has ls 6 [(0, .ref y), (1, .int q), (2, .int k), (3, .int to)] := hl
  obtain ⟨hx, hb, hml, hown, hts, hK, hTb⟩ := id K
  have hI := mw_I.start hP0
  obtain ⟨A, fe, fk, ec, kc, fi, fl, hw, hR⟩ := hM
  have hF := FrM.rf w own
  have h64 := hW.1
  refine lv_aload_n hx hb d_MO_next_0 rfl (lv_at hl 0 rfl) ?_
  refine lv_iload_n hx hb d_MO_next_1 rfl (lv_at hl 1 rfl) ?_
  refine mw_call (rest := []) K hSy hP0 hI (c_MO_noMap l D dA hw hW.1 q) (mx_invV hx hown (hts _ tw_694) (hts _ tw_696) (hts _ tw_8) (hts _ tw_697) (by decide) (b := y) (mw_rc K hI hw.o rfl) (g := F0 m 2 ls [.int q, .ref y]) rfl (argsL := [.int q]) (rest := []) np_MO_noMap rfl (by rw [hb]; exact d_MO_next_2)) hl.1 d_MO_next_2 ⟨Nat.le_of_ble_eq_true rfl, Nat.le_of_ble_eq_true rfl⟩ (Or.inl ⟨_, _, List.mem_cons_self⟩) (mk_ws tw_697 hts) (fun a9 U9 h9 => Ts_warm hts _ tw_23 a9 U9 h9) ⟨Nat.le_of_ble_eq_true rfl, Nat.le_of_ble_eq_true rfl⟩ (fun v w' H locs hq hI => ?_) (fun k x w' H locs hq hI hX => ?_)
  · obtain ⟨hF, ⟨h1, h2, hq1, hw⟩ | ⟨h1, hq1, hw⟩⟩ := hq
    · cases hq1
      have hsp : sp_NEXT S q k to = _ := if_pos ⟨h1, h2⟩
      obtain ⟨e1, hi⟩ := inM_nI ⟨h1, h2⟩ hW.1
      refine W.eq (g2 := F0 m 5 ls [.int (nI 0)]) rfl ?_
      rw [e1] at hl
      generalize q.toNatClampNeg = i at *
      have hwf := hW.2.2.2.2.2 i hi
      obtain ⟨⟨r1, r2, r3, r4, r5⟩, r11, r12, r13, r14⟩ := hR.2.2.1 i hi
      have hkk : kd (mm S i) = 0 ∨ kd (mm S i) = 1 ∨ kd (mm S i) = 2 := by
        obtain ⟨-, ⟨k0, -⟩ | ⟨k0, -⟩ | ⟨k0, -⟩⟩ := hwf
        · exact Or.inl k0
        · exact Or.inr (Or.inl k0)
        · exact Or.inr (Or.inr k0)
      refine lv_if_eq (tgt := 10) hx hb d_MO_next_5 (by decide) (fun c5 => ?_) (fun c5 => ?_)
      ·
        refine lv_aload_n hx hb d_MO_next_10 rfl (lv_at hl 0 rfl) ?_
        refine mw_get K hI gf_MO_17_cMO hw.o rfl d_MO_next_11 ?_
        refine lv_iload_n hx hb d_MO_next_14 rfl (lv_at hl 1 rfl) ?_
        refine mw_iald K hI tI hw.a2 rfl i rfl (by first | assumption | omega) (by omega) d_MO_next_15 ?_
        refine mw_ti (y := nI (kd (mm S i))) (r1) ?_
        refine lv_iconst (v := nI 1) hx hb d_MO_next_16 (by decide) ?_
        refine lv_icmp_eq (tgt := 23) hx hb d_MO_next_17 (by decide) (fun c17 => ?_) (fun c17 => ?_)
        ·
          have hk : kd (mm S i) = 1 := (nI_eq (by omega) (by decide)).mp c17
          obtain ⟨b1, b2, b3, b4, b5, b6, b7, b8⟩ := wf_E hwf (Or.inr hk)
          obtain ⟨hec, hkc⟩ := mo_ec hR hW
          have hsp := hsp.trans (if_pos hk)
          have bad : ¬ (inD to (ks (mm S i)) 512 ∧ (k = -1 ∨ inD k (ks (mm S i)) 512)) → ∀ (H : Heap) (locs : List Loc), mw_I D mk_cl w s.heap w' H locs → ∀ ls : Array Slot, lv_has ls 6 [(0, .ref y)] → W p l e { frames := 3, cells := 0, slots := 0, locals := 100 } s m ([.ref y, .int q, .int k, .int to] : List Value).toArray below meth c H locs 0 0 (mx_Q below (mw_Qc D mk_cl w s.heap.size (MM dA w own y kO (sp_NEXT S q k to))) ([.ref y, .int q, .int k, .int to] : List Value).toArray s 0 0 (mw_A w s.heap.size)) (F0 m 59 ls [.ref y]) := by
            intro hn H locs hI ls hl
            have hsp := hsp.trans (if_neg hn)
            refine lv_iconst (v := nI 1) hx hb d_MO_next_59 (by decide) ?_
            refine mw_put K hI gp_MO_60_cMO (Or.inl ⟨_, rfl, rfl⟩) hw.o rfl rfl (by simp) d_MO_next_60 (fun H locs hI => ?_)
            obtain ⟨wn3, hI, hF, hw⟩ := mo_W.seto (cd' := (nI 1)) (g' := nI (gv S)) (n' := nI (nm S)) (ec' := nI ec) (kc' := nI kc) (br' := nI 0) hw hI hF
            refine lv_aload_n hx hb d_MO_next_63 rfl (lv_at hl 0 rfl) ?_
            refine mw_get K hI gf_MO_60_cMO hw.o rfl d_MO_next_64 ?_
            refine lv_if_le (tgt := 72) hx hb d_MO_next_67 (by decide) (fun c67 => ?_) (fun c67 => ?_)
            ·
              exact absurd c67 (by decide)
            ·
              refine lv_iconst (v := nI 0) hx hb d_MO_next_70 (by decide) ?_
              refine mw_iret K hI hr hlk ?_ d_MO_next_71
              rw [hsp]
              exact ⟨_, _, rfl, ⟨A, fe, fk, ec, kc, fi, fl, hw, hR⟩, hF, (fun u hu => by cases hu), fun k hk => by cases hk; rfl⟩
          have fin : ∀ {S2 : as_S} {w1 : mw_W} {s0 : Nat}, FrM w own w1 → mo_W dA w1 own y A (nI 0) (nI (gv S2)) (nI (nm S2)) (nI ec) (nI kc) (nI 0) fi fl → mo_R fe fk ec kc fi fl S2 → wf_S t S2 → i < nm S2 → (mm S2 i).1 = (mm S i).1 → dk S2 = dk S → s0 ≤ en (mm S i) → to.toNatClampNeg + ks (mm S i) ≤ 512 → sp_NEXT S q k to = nxK S2 i s0 to.toNatClampNeg → ∀ (H : Heap) (locs : List Loc), mw_I D mk_cl w s.heap w1 H locs → ∀ ls : Array Slot, lv_has ls 6 [(4, .int (nI s0)), (0, .ref y), (1, .int (nI i)), (3, .int (nI to.toNatClampNeg))] → W p l e { frames := 3, cells := 0, slots := 0, locals := 100 } s m ([.ref y, .int q, .int k, .int to] : List Value).toArray below meth c H locs 0 0 (mx_Q below (mw_Qc D mk_cl w s.heap.size (MM dA w own y kO (sp_NEXT S q k to))) ([.ref y, .int q, .int k, .int to] : List Value).toArray s 0 0 (mw_A w s.heap.size)) (F0 m 91 ls []) := by
            intro S2 w1 s0 hF hw hR hW2 hi2 h21 hd2 hs0 hto hsp
            have g1a : kd (mm S2 i) = 1 := by show (mm S2 i).1.1 = 1; rw [h21]; exact hk
            have g1b : ks (mm S2 i) = ks (mm S i) := by show (mm S2 i).1.2.1 = (mm S i).1.2.1; rw [h21]
            have g1c : en (mm S2 i) = en (mm S i) := by show (mm S2 i).1.2.2.2.1 = (mm S i).1.2.2.2.1; rw [h21]
            obtain ⟨⟨z1, z2, z3, z4, z5⟩, -⟩ := hR.2.2.1 i hi2
            obtain ⟨t1, t2, t3, t4, t5, t6⟩ := hR.2.2.2.2.1 i hi2 g1a
            rw [g1b] at z2 t4 t6
            rw [g1c] at z4 t3 t4 t5 t6
            have hsp : sp_NEXT S q k to = (match nxE (mm S2 i) s0 with | none => (S2, .inl (-1)) | some e => (S_dk S2 (cpy (dk S2) to.toNatClampNeg (fun j => ((tb (mm S2 i) e).getD []).getD j 0) 0 (ks (mm S2 i))), .inl (nI e))) := hsp
            have end1 : ∀ (j : Nat), j ≤ en (mm S i) → s0 ≤ j → (∀ e, e < j → (decide (s0 ≤ e) && (tb (mm S2 i) e).isSome) = false) → (j < en (mm S i) → ∃ ky, tb (mm S2 i) j = some ky) → ∀ (H : Heap) (locs : List Loc), mw_I D mk_cl w s.heap w1 H locs → ∀ ls : Array Slot, lv_has ls 6 [(4, .int (nI j)), (0, .ref y), (1, .int (nI i)), (3, .int (nI to.toNatClampNeg))] → W p l e { frames := 3, cells := 0, slots := 0, locals := 100 } s m ([.ref y, .int q, .int k, .int to] : List Value).toArray below meth c H locs 0 0 (mx_Q below (mw_Qc D mk_cl w s.heap.size (MM dA w own y kO (sp_NEXT S q k to))) ([.ref y, .int q, .int k, .int to] : List Value).toArray s 0 0 (mw_A w s.heap.size)) (F0 m 125 ls []) := by
              intro j hj hsj hlo hky H locs hI ls hl
              refine lv_iload hx hb d_MO_next_125 (lv_at hl 0 rfl) ?_
              refine lv_aload_n hx hb d_MO_next_127 rfl (lv_at hl 1 rfl) ?_
              refine mw_get K hI gf_MO_27_cMO hw.o rfl d_MO_next_128 ?_
              refine lv_iload_n hx hb d_MO_next_131 rfl (lv_at hl 2 rfl) ?_
              refine mw_iald K hI tI hw.a5 rfl i rfl (by first | assumption | omega) (by omega) d_MO_next_132 ?_
              refine mw_ti (y := nI (en (mm S i))) (z4) ?_
              refine lv_icmp_ne (tgt := 138) hx hb d_MO_next_133 (by decide) (fun c133 => ?_) (fun c133 => ?_)
              ·
                have hjl : j < en (mm S i) := by
                  rcases Nat.lt_or_ge j (en (mm S i)) with h | h
                  · exact h
                  · exact absurd (by rw [show j = en (mm S i) by omega]) c133
                obtain ⟨ky, hky⟩ := hky hjl
                have hn : nxE (mm S2 i) s0 = some j := lst_some (by rw [hky]; simp; exact hsj) hlo (by omega)
                rw [hn] at hsp
                have hmu := mul_in (k := ks (mm S i)) hjl
                have hcl : ∀ (n9 z : Nat), z + n9 = ks (mm S i) → ∀ (w2 : mw_W) (fi1 : Nat → Nat → Int32), FrM w own w2 → mo_W dA w2 own y A (nI 0) (nI (gv S2)) (nI (nm S2)) (nI ec) (nI kc) (nI 0) fi1 fl → mo_R fe fk ec kc fi1 fl (S_dk S2 (cpy (dk S2) to.toNatClampNeg (fun j' => ((tb (mm S2 i) j).getD []).getD j' 0) 0 z)) → (∀ a, a ≠ 0 → fi1 a = fi a) → ∀ (H : Heap) (locs : List Loc), mw_I D mk_cl w s.heap w2 H locs → ∀ ls : Array Slot, lv_has ls 6 [(5, .int (nI z)), (4, .int (nI j)), (0, .ref y), (1, .int (nI i)), (3, .int (nI to.toNatClampNeg))] → W p l e { frames := 3, cells := 0, slots := 0, locals := 100 } s m ([.ref y, .int q, .int k, .int to] : List Value).toArray below meth c H locs 0 0 (mx_Q below (mw_Qc D mk_cl w s.heap.size (MM dA w own y kO (sp_NEXT S q k to))) ([.ref y, .int q, .int k, .int to] : List Value).toArray s 0 0 (mw_A w s.heap.size)) (F0 m 141 ls []) := by
                  intro n9
                  induction n9 with
                  | zero =>
                    intro z hz w2 fi1 hF hw hR1 go H locs hI ls hl
                    have y3 : fi1 3 i = nI (ks (mm S i)) := by rw [go 3 (by decide)]; exact z2
                    refine lv_iload hx hb d_MO_next_141 (lv_at hl 0 rfl) ?_
                    refine lv_aload_n hx hb d_MO_next_143 rfl (lv_at hl 2 rfl) ?_
                    refine mw_get K hI gf_MO_21_cMO hw.o rfl d_MO_next_144 ?_
                    refine lv_iload_n hx hb d_MO_next_147 rfl (lv_at hl 3 rfl) ?_
                    refine mw_iald K hI tI hw.a3 rfl i rfl (by first | assumption | omega) (by omega) d_MO_next_148 ?_
                    refine mw_ti (y := nI (ks (mm S i))) (y3) ?_
                    refine lv_icmp_ge (tgt := 191) hx hb d_MO_next_149 (by decide) (fun c149 => ?_) (fun c149 => ?_)
                    ·
                      refine lv_iload hx hb d_MO_next_191 (lv_at hl 1 rfl) ?_
                      refine mw_iret K hI hr hlk ?_ d_MO_next_193
                      rw [hsp, g1b]
                      refine ⟨_, _, rfl, ⟨A, fe, fk, ec, kc, fi1, fl, hw, ?_⟩, hF, fun u hu => by cases hu; exact ⟨rfl, rfl⟩, fun k hk => by cases hk⟩
                      rw [show z = ks (mm S i) by omega] at hR1
                      exact hR1
                    ·
                      exact absurd (nI_le (by omega) (by omega)) c149
                  | succ n9 ih =>
                    intro z hz w2 fi1 hF hw hR1 go H locs hI ls hl
                    have y3 : fi1 3 i = nI (ks (mm S i)) := by rw [go 3 (by decide)]; exact z2
                    have y8 : fi1 8 i = nI (fk i) := by rw [go 8 (by decide)]; exact t2
                    obtain ⟨f1, f2⟩ := t6 j ky hjl hky z (by omega)
                    have y10 : fi1 10 (fk i + j * ks (mm S i) + z) = sB (ky.getD z 0) := by rw [go 10 (by decide)]; exact f1
                    refine lv_iload hx hb d_MO_next_141 (lv_at hl 0 rfl) ?_
                    refine lv_aload_n hx hb d_MO_next_143 rfl (lv_at hl 2 rfl) ?_
                    refine mw_get K hI gf_MO_21_cMO hw.o rfl d_MO_next_144 ?_
                    refine lv_iload_n hx hb d_MO_next_147 rfl (lv_at hl 3 rfl) ?_
                    refine mw_iald K hI tI hw.a3 rfl i rfl (by first | assumption | omega) (by omega) d_MO_next_148 ?_
                    refine mw_ti (y := nI (ks (mm S i))) (y3) ?_
                    refine lv_icmp_ge (tgt := 191) hx hb d_MO_next_149 (by decide) (fun c149 => ?_) (fun c149 => ?_)
                    ·
                      exact absurd c149 (nI_ge (by omega) (by omega))
                    ·
                      refine lv_aload_n hx hb d_MO_next_152 rfl (lv_at hl 2 rfl) ?_
                      refine mw_get K hI gf_MO_7_cMO hw.o rfl d_MO_next_153 ?_
                      refine lv_iload_n hx hb d_MO_next_156 rfl (lv_at hl 4 rfl) ?_
                      refine lv_iload hx hb d_MO_next_157 (lv_at hl 0 rfl) ?_
                      refine lv_iadd hx hb d_MO_next_159 ?_
                      refine mw_ti (nI_add _ _) ?_
                      refine lv_aload_n hx hb d_MO_next_160 rfl (lv_at hl 2 rfl) ?_
                      refine mw_get K hI gf_MO_44_cMO hw.o rfl d_MO_next_161 ?_
                      refine lv_aload_n hx hb d_MO_next_164 rfl (lv_at hl 2 rfl) ?_
                      refine mw_get K hI gf_MO_36_cMO hw.o rfl d_MO_next_165 ?_
                      refine lv_iload_n hx hb d_MO_next_168 rfl (lv_at hl 3 rfl) ?_
                      refine mw_iald K hI tI hw.a8 rfl i rfl (by first | assumption | omega) (by omega) d_MO_next_169 ?_
                      refine mw_ti (y := nI (fk i)) (y8) ?_
                      refine lv_iload hx hb d_MO_next_170 (lv_at hl 1 rfl) ?_
                      refine lv_aload_n hx hb d_MO_next_172 rfl (lv_at hl 2 rfl) ?_
                      refine mw_get K hI gf_MO_21_cMO hw.o rfl d_MO_next_173 ?_
                      refine lv_iload_n hx hb d_MO_next_176 rfl (lv_at hl 3 rfl) ?_
                      refine mw_iald K hI tI hw.a3 rfl i rfl (by first | assumption | omega) (by omega) d_MO_next_177 ?_
                      refine mw_ti (y := nI (ks (mm S i))) (y3) ?_
                      refine lv_imul hx hb d_MO_next_178 ?_
                      refine mw_ti (pk_mul _ _) ?_
                      refine lv_iadd hx hb d_MO_next_179 ?_
                      refine mw_ti (nI_add _ _) ?_
                      refine lv_iload hx hb d_MO_next_180 (lv_at hl 0 rfl) ?_
                      refine lv_iadd hx hb d_MO_next_182 ?_
                      refine mw_ti (nI_add _ _) ?_
                      refine mw_bald K hI tB hw.a10 rfl (((fk i) + (j * (ks (mm S i)))) + z) rfl (by first | assumption | omega) (by omega) d_MO_next_183 ?_
                      refine mw_ti (y := sB (ky.getD z 0)) (y10) ?_
                      refine mw_bast K hI tB hw.a0 rfl (to.toNatClampNeg + z) rfl (by first | assumption | omega) (by omega) d_MO_next_184 (fun H locs hI => ?_)
                      obtain ⟨wn4, fn4, hI, hF, hw, hfn4⟩ := hw.seti (f := upd (fi1 0) (to.toNatClampNeg + z) (vp_nar .byte (sB (ky.getD z 0)))) 0 (by decide) hI hF rfl
                      refine lv_iinc (v := nI (z + 1)) (lv' := [(5, .int (nI (z + 1))), (4, .int (nI j)), (0, .ref y), (1, .int (nI i)), (3, .int (nI to.toNatClampNeg))]) hx hb d_MO_next_185 hl (k := 0) rfl (nI_add _ _) (by decide) rfl (fun ls hl => ?_)
                      refine lv_goto (tgt := 141) hx hb d_MO_next_188 (by decide) ?_
                      refine ih (z + 1) (by omega) _ _ hF hw ?_ (fun a ha => ?_) H locs hI ls (lv_sub hl [0, 1, 2, 3, 4] rfl)
                      · rw [hfn4]
                        refine hR1.desk (d := cpy (dk S2) to.toNatClampNeg (fun j' => ((tb (mm S2 i) j).getD []).getD j' 0) 0 (z + 1)) (fun p hp => ?_)
                        rw [sB_nar f2]
                        show (if p = to.toNatClampNeg + z then sB (ky.getD z 0) else fi1 0 p) = _
                        rw [hR1.1 p hp]
                        show (if p = to.toNatClampNeg + z then sB (ky.getD z 0) else sB (cpy (dk S2) to.toNatClampNeg (fun j' => ((tb (mm S2 i) j).getD []).getD j' 0) 0 z p)) = _
                        unfold cpy
                        rw [hky]
                        by_cases e : p = to.toNatClampNeg + z
                        · rw [if_pos e, if_pos (by omega), e, Nat.add_sub_cancel_left, Nat.zero_add]; rfl
                        · rw [if_neg e]
                          by_cases e2 : to.toNatClampNeg ≤ p ∧ p < to.toNatClampNeg + z
                          · rw [if_pos e2, if_pos (by omega)]
                          · rw [if_neg e2, if_neg (by omega)]
                      · rw [hfn4, va_up_ne _ _ ha]; exact go a ha
                refine lv_iconst (v := nI 0) hx hb d_MO_next_138 (by decide) ?_
                refine lv_istore (lv' := [(5, .int (nI 0)), (4, .int (nI j)), (0, .ref y), (1, .int (nI i)), (3, .int (nI to.toNatClampNeg))]) hx hb d_MO_next_139 hl (by decide) rfl (fun ls hl => ?_)
                refine hcl (ks (mm S i)) 0 (by omega) w1 fi hF hw ?_ (fun _ _ => rfl) H locs hI ls (lv_sub hl [0, 1, 2, 3, 4] rfl)
                have : cpy (dk S2) to.toNatClampNeg (fun j' => ((tb (mm S2 i) j).getD []).getD j' 0) 0 0 = dk S2 := by funext p; unfold cpy; rw [if_neg (by omega)]
                rw [this]; exact hR
              ·
                have hje : j = en (mm S i) := (nI_eq (by omega) (by omega)).mp c133
                have hn : nxE (mm S2 i) s0 = none := lst_none (fun e he => hlo e (by omega))
                rw [hn] at hsp
                refine lv_iconst (v := (-1)) hx hb d_MO_next_136 (by decide) ?_
                refine mw_iret K hI hr hlk ?_ d_MO_next_137
                rw [hsp]
                exact ⟨_, _, rfl, ⟨A, fe, fk, ec, kc, fi, fl, hw, hR⟩, hF, fun u hu => by cases hu; exact ⟨rfl, rfl⟩, fun k hk => by cases hk⟩
            have hloop : ∀ (n9 j : Nat), j + n9 = en (mm S i) → s0 ≤ j → (∀ e, e < j → (decide (s0 ≤ e) && (tb (mm S2 i) e).isSome) = false) → ∀ (H : Heap) (locs : List Loc), mw_I D mk_cl w s.heap w1 H locs → ∀ ls : Array Slot, lv_has ls 6 [(4, .int (nI j)), (0, .ref y), (1, .int (nI i)), (3, .int (nI to.toNatClampNeg))] → W p l e { frames := 3, cells := 0, slots := 0, locals := 100 } s m ([.ref y, .int q, .int k, .int to] : List Value).toArray below meth c H locs 0 0 (mx_Q below (mw_Qc D mk_cl w s.heap.size (MM dA w own y kO (sp_NEXT S q k to))) ([.ref y, .int q, .int k, .int to] : List Value).toArray s 0 0 (mw_A w s.heap.size)) (F0 m 91 ls []) := by
              intro n9
              induction n9 with
              | zero =>
                intro j hj hsj hlo H locs hI ls hl
                refine lv_iload hx hb d_MO_next_91 (lv_at hl 0 rfl) ?_
                refine lv_aload_n hx hb d_MO_next_93 rfl (lv_at hl 1 rfl) ?_
                refine mw_get K hI gf_MO_27_cMO hw.o rfl d_MO_next_94 ?_
                refine lv_iload_n hx hb d_MO_next_97 rfl (lv_at hl 2 rfl) ?_
                refine mw_iald K hI tI hw.a5 rfl i rfl (by first | assumption | omega) (by omega) d_MO_next_98 ?_
                refine mw_ti (y := nI (en (mm S i))) (z4) ?_
                refine lv_icmp_ge (tgt := 125) hx hb d_MO_next_99 (by decide) (fun c99 => ?_) (fun c99 => ?_)
                ·
                  exact end1 j (by omega) hsj hlo (fun h => absurd h (by omega)) H locs hI ls hl
                ·
                  exact absurd (nI_le (by omega) (by omega)) c99
              | succ n9 ih =>
                intro j hj hsj hlo H locs hI ls hl
                have t5j := t5 j (by omega)
                refine lv_iload hx hb d_MO_next_91 (lv_at hl 0 rfl) ?_
                refine lv_aload_n hx hb d_MO_next_93 rfl (lv_at hl 1 rfl) ?_
                refine mw_get K hI gf_MO_27_cMO hw.o rfl d_MO_next_94 ?_
                refine lv_iload_n hx hb d_MO_next_97 rfl (lv_at hl 2 rfl) ?_
                refine mw_iald K hI tI hw.a5 rfl i rfl (by first | assumption | omega) (by omega) d_MO_next_98 ?_
                refine mw_ti (y := nI (en (mm S i))) (z4) ?_
                refine lv_icmp_ge (tgt := 125) hx hb d_MO_next_99 (by decide) (fun c99 => ?_) (fun c99 => ?_)
                ·
                  exact absurd c99 (nI_ge (by omega) (by omega))
                ·
                  refine lv_aload_n hx hb d_MO_next_102 rfl (lv_at hl 1 rfl) ?_
                  refine mw_get K hI gf_MO_39_cMO hw.o rfl d_MO_next_103 ?_
                  refine lv_aload_n hx hb d_MO_next_106 rfl (lv_at hl 1 rfl) ?_
                  refine mw_get K hI gf_MO_33_cMO hw.o rfl d_MO_next_107 ?_
                  refine lv_iload_n hx hb d_MO_next_110 rfl (lv_at hl 2 rfl) ?_
                  refine mw_iald K hI tI hw.a7 rfl i rfl (by first | assumption | omega) (by omega) d_MO_next_111 ?_
                  refine mw_ti (y := nI (fe i)) (t1) ?_
                  refine lv_iload hx hb d_MO_next_112 (lv_at hl 0 rfl) ?_
                  refine lv_iadd hx hb d_MO_next_114 ?_
                  refine mw_ti (nI_add _ _) ?_
                  refine mw_zald K hI tZ hw.a9 rfl ((fe i) + j) rfl (by first | assumption | omega) (by omega) d_MO_next_115 ?_
                  cases ht : tb (mm S2 i) j with
                  | none =>
                    refine mw_ti (y := nI 0) ((by rw [t5j, ht]; rfl)) ?_
                    refine lv_if_ne (tgt := 125) hx hb d_MO_next_116 (by decide) (fun c116 => ?_) (fun c116 => ?_)
                    ·
                      exact absurd (by decide) c116
                    ·
                      refine lv_iinc (v := nI (j + 1)) (lv' := [(4, .int (nI (j + 1))), (0, .ref y), (1, .int (nI i)), (3, .int (nI to.toNatClampNeg))]) hx hb d_MO_next_119 hl (k := 0) rfl (nI_add _ _) (by decide) rfl (fun ls hl => ?_)
                      refine lv_goto (tgt := 91) hx hb d_MO_next_122 (by decide) ?_
                      exact ih (j + 1) (by omega) (by omega) (lt_s hlo (by rw [ht]; simp)) H locs hI ls (lv_sub hl [0, 1, 2, 3] rfl)
                  | some ky =>
                    refine mw_ti (y := nI 1) ((by rw [t5j, ht]; rfl)) ?_
                    refine lv_if_ne (tgt := 125) hx hb d_MO_next_116 (by decide) (fun c116 => ?_) (fun c116 => ?_)
                    ·
                      exact end1 j (by omega) hsj hlo (fun _ => ⟨ky, ht⟩) H locs hI ls hl
                    ·
                      exact absurd c116 (by decide)
            intro H locs hI ls hl
            exact hloop (en (mm S i) - s0) s0 (by omega) (Nat.le_refl _) (fun e he => by rw [decide_eq_false (by omega)]; rfl) H locs hI ls hl
          have go2 : (k = -1 ∨ inD k (ks (mm S i)) 512) → inD to (ks (mm S i)) 512 → ∀ (H : Heap) (locs : List Loc), mw_I D mk_cl w s.heap w' H locs → ∀ ls : Array Slot, lv_has ls 6 [(0, .ref y), (1, .int (nI i)), (2, .int k), (3, .int to)] → W p l e { frames := 3, cells := 0, slots := 0, locals := 100 } s m ([.ref y, .int q, .int k, .int to] : List Value).toArray below meth c H locs 0 0 (mx_Q below (mw_Qc D mk_cl w s.heap.size (MM dA w own y kO (sp_NEXT S q k to))) ([.ref y, .int q, .int k, .int to] : List Value).toArray s 0 0 (mw_A w s.heap.size)) (F0 m 55 ls [.ref y]) := by
            intro hkd hto H locs hI ls hl
            have hsp := hsp.trans (if_pos ⟨hto, hkd⟩)
            obtain ⟨e5, e6⟩ := inD_nI hto (by decide)
            rw [e5] at hl
            refine lv_iconst (v := nI 0) hx hb d_MO_next_55 (by decide) ?_
            refine lv_goto (tgt := 60) hx hb d_MO_next_56 (by decide) ?_
            refine mw_put K hI gp_MO_60_cMO (Or.inl ⟨_, rfl, rfl⟩) hw.o rfl rfl (by simp) d_MO_next_60 (fun H locs hI => ?_)
            obtain ⟨wn5, hI, hF, hw⟩ := mo_W.seto (cd' := (nI 0)) (g' := nI (gv S)) (n' := nI (nm S)) (ec' := nI ec) (kc' := nI kc) (br' := nI 0) hw hI hF
            refine lv_aload_n hx hb d_MO_next_63 rfl (lv_at hl 0 rfl) ?_
            refine mw_get K hI gf_MO_60_cMO hw.o rfl d_MO_next_64 ?_
            refine lv_if_le (tgt := 72) hx hb d_MO_next_67 (by decide) (fun c67 => ?_) (fun c67 => ?_)
            ·
              refine lv_iload_n hx hb d_MO_next_72 rfl (lv_at hl 2 rfl) ?_
              refine lv_iconst (v := (-1)) hx hb d_MO_next_73 (by decide) ?_
              refine lv_icmp_ne (tgt := 81) hx hb d_MO_next_74 (by decide) (fun c74 => ?_) (fun c74 => ?_)
              ·
                have hkin : inD k (ks (mm S i)) 512 := by rcases hkd with h | h; exact absurd h c74; exact h
                have hsp := hsp.trans (if_neg c74)
                obtain ⟨e7, e8⟩ := inD_nI hkin (by decide)
                rw [e7] at hl
                refine lv_aload_n hx hb d_MO_next_81 rfl (lv_at hl 0 rfl) ?_
                refine lv_iload_n hx hb d_MO_next_82 rfl (lv_at hl 1 rfl) ?_
                refine lv_iload_n hx hb d_MO_next_83 rfl (lv_at hl 2 rfl) ?_
                refine mw_call (rest := []) K hSy hP0 hI (c_MO_entryOf l D dA hw hR hW hi hk (q := k.toNatClampNeg) e8) (mx_invV hx hown (hts _ tw_740) (hts _ tw_742) (hts _ tw_11) (hts _ tw_743) (by decide) (b := y) (mw_rc K hI hw.o rfl) (g := F0 m 84 ls [.int (nI k.toNatClampNeg), .int (nI i), .ref y]) rfl (argsL := [.int (nI i), .int (nI k.toNatClampNeg)]) (rest := []) np_MO_entryOf rfl (by rw [hb]; exact d_MO_next_84)) hl.1 d_MO_next_84 ⟨Nat.le_of_ble_eq_true rfl, Nat.le_of_ble_eq_true rfl⟩ (Or.inl ⟨_, _, List.mem_cons_self⟩) (mk_ws tw_743 hts) (fun a9 U9 h9 => Ts_warm hts _ tw_23 a9 U9 h9) ⟨Nat.le_of_ble_eq_true rfl, Nat.le_of_ble_eq_true rfl⟩ (fun v w' H locs hq hI => ?_) (fun k x w' H locs hq hI hX => ?_)
                · obtain ⟨hq5, hF2, hw⟩ := hq
                  cases hq5
                  have hF := hF.trans hF2
                  rw [← ent_1 _ hk]
                  refine W.eq (g2 := F0 m 87 ls [.int (oI (ent S i k.toNatClampNeg))]) rfl ?_
                  obtain ⟨n1, n2, n3, n4, n5⟩ := lk_nm S i k.toNatClampNeg
                  have hW2 := hW.ofL (q := k.toNatClampNeg) hi
                  have hR2 := hR.ofL i k.toNatClampNeg
                  have hi2 : i < nm (lk S i k.toNatClampNeg) := by rw [n1]; exact hi
                  have hw2 : mo_W dA w' own y A (nI 0) (nI (gv (lk S i k.toNatClampNeg))) (nI (nm (lk S i k.toNatClampNeg))) (nI ec) (nI kc) (nI 0) fi fl := by rw [n4, n1]; exact hw
                  cases he : ent S i k.toNatClampNeg with
                  | none =>
                    rw [he] at hsp
                    refine mw_ti (y := (-1)) (rfl) ?_
                    refine lv_iconst (v := nI 1) hx hb d_MO_next_87 (by decide) ?_
                    refine lv_iadd hx hb d_MO_next_88 ?_
                    refine mw_ti (y := nI 0) (by decide) ?_
                    refine lv_istore (lv' := [(4, .int (nI 0)), (0, .ref y), (1, .int (nI i)), (2, .int (nI k.toNatClampNeg)), (3, .int (nI to.toNatClampNeg))]) hx hb d_MO_next_89 hl (by decide) rfl (fun ls hl => ?_)
                    exact fin (s0 := 0) hF hw2 hR2 hW2 hi2 (n5 i).1 n2 (by omega) e6 hsp H locs hI ls (lv_sub hl [0, 1, 2, 4] rfl)
                  | some e0 =>
                    have hlt := ent_lt he
                    rw [he] at hsp
                    refine mw_ti (y := nI e0) (rfl) ?_
                    refine lv_iconst (v := nI 1) hx hb d_MO_next_87 (by decide) ?_
                    refine lv_iadd hx hb d_MO_next_88 ?_
                    refine mw_ti (nI_add _ _) ?_
                    refine lv_istore (lv' := [(4, .int (nI (e0 + 1))), (0, .ref y), (1, .int (nI i)), (2, .int (nI k.toNatClampNeg)), (3, .int (nI to.toNatClampNeg))]) hx hb d_MO_next_89 hl (by decide) rfl (fun ls hl => ?_)
                    exact fin (s0 := e0 + 1) hF hw2 hR2 hW2 hi2 (n5 i).1 n2 (by omega) e6 hsp H locs hI ls (lv_sub hl [0, 1, 2, 4] rfl)
                · exact absurd hq.1 (by simp)
              ·
                have hsp := hsp.trans (if_pos c74)
                refine lv_iconst (v := nI 0) hx hb d_MO_next_77 (by decide) ?_
                refine lv_goto (tgt := 89) hx hb d_MO_next_78 (by decide) ?_
                refine lv_istore (lv' := [(4, .int (nI 0)), (0, .ref y), (1, .int (nI i)), (2, .int k), (3, .int (nI to.toNatClampNeg))]) hx hb d_MO_next_89 hl (by decide) rfl (fun ls hl => ?_)
                exact fin (s0 := 0) hF hw hR hW hi rfl rfl (by omega) e6 hsp H locs hI ls (lv_sub hl [0, 1, 2, 4] rfl)
            ·
              exact absurd (by decide) c67
          refine lv_aload_n hx hb d_MO_next_23 rfl (lv_at hl 0 rfl) ?_
          refine lv_iload_n hx hb d_MO_next_24 rfl (lv_at hl 2 rfl) ?_
          refine lv_iconst (v := (-1)) hx hb d_MO_next_25 (by decide) ?_
          refine lv_icmp_eq (tgt := 42) hx hb d_MO_next_26 (by decide) (fun c26 => ?_) (fun c26 => ?_)
          ·
            refine lv_iload_n hx hb d_MO_next_42 rfl (lv_at hl 3 rfl) ?_
            refine lv_aload_n hx hb d_MO_next_43 rfl (lv_at hl 0 rfl) ?_
            refine mw_get K hI gf_MO_21_cMO hw.o rfl d_MO_next_44 ?_
            refine lv_iload_n hx hb d_MO_next_47 rfl (lv_at hl 1 rfl) ?_
            refine mw_iald K hI tI hw.a3 rfl i rfl (by first | assumption | omega) (by omega) d_MO_next_48 ?_
            refine mw_ti (y := nI (ks (mm S i))) (r2) ?_
            refine mp_call (rest := [.ref y]) hb hml (c_MO_isDesk l to (n := ks (mm S i)) (by omega)) (mx_invS hx hown (hts _ tw_706) (hts _ tw_707) (hts _ tw_23) (hts _ tw_708) (by decide) (g := F0 m 49 ls [.int (nI (ks (mm S i))), .int to, .ref y]) rfl (argsL := [.int to, .int (nI (ks (mm S i)))]) (rest := [.ref y]) np_MO_isDesk rfl (by rw [hb]; exact d_MO_next_49)) hl.1 d_MO_next_49 ⟨Nat.le_of_ble_eq_true rfl, Nat.le_of_ble_eq_true rfl⟩ (Or.inl ⟨_, _, List.mem_cons_self⟩) (mk_ws tw_708 hts) (fun a9 U9 h9 => Ts_warm hts _ tw_23 a9 U9 h9) (by first | exact ⟨Nat.le_of_ble_eq_true rfl, Nat.le_of_ble_eq_true rfl⟩ | assumption) (fun v hv => ?_)
            subst hv
            refine W.eq (g2 := F0 m 52 ls [.int (if inD to (ks (mm S i)) 512 then 1 else 0), .ref y]) rfl ?_
            refine lv_if_eq (tgt := 59) hx hb d_MO_next_52 (by decide) (fun c52 => ?_) (fun c52 => ?_)
            ·
              rw [if10.1] at c52
              exact bad (fun z => c52 z.1) H locs hI ls (lv_sub hl [0] rfl)
            ·
              rw [if10.2] at c52
              exact go2 (Or.inl c26) c52 H locs hI ls hl
          ·
            refine lv_iload_n hx hb d_MO_next_29 rfl (lv_at hl 2 rfl) ?_
            refine lv_aload_n hx hb d_MO_next_30 rfl (lv_at hl 0 rfl) ?_
            refine mw_get K hI gf_MO_21_cMO hw.o rfl d_MO_next_31 ?_
            refine lv_iload_n hx hb d_MO_next_34 rfl (lv_at hl 1 rfl) ?_
            refine mw_iald K hI tI hw.a3 rfl i rfl (by first | assumption | omega) (by omega) d_MO_next_35 ?_
            refine mw_ti (y := nI (ks (mm S i))) (r2) ?_
            refine mp_call (rest := [.ref y]) hb hml (c_MO_isDesk l k (n := ks (mm S i)) (by omega)) (mx_invS hx hown (hts _ tw_706) (hts _ tw_707) (hts _ tw_23) (hts _ tw_708) (by decide) (g := F0 m 36 ls [.int (nI (ks (mm S i))), .int k, .ref y]) rfl (argsL := [.int k, .int (nI (ks (mm S i)))]) (rest := [.ref y]) np_MO_isDesk rfl (by rw [hb]; exact d_MO_next_36)) hl.1 d_MO_next_36 ⟨Nat.le_of_ble_eq_true rfl, Nat.le_of_ble_eq_true rfl⟩ (Or.inl ⟨_, _, List.mem_cons_self⟩) (mk_ws tw_708 hts) (fun a9 U9 h9 => Ts_warm hts _ tw_23 a9 U9 h9) (by first | exact ⟨Nat.le_of_ble_eq_true rfl, Nat.le_of_ble_eq_true rfl⟩ | assumption) (fun v hv => ?_)
            subst hv
            refine W.eq (g2 := F0 m 39 ls [.int (if inD k (ks (mm S i)) 512 then 1 else 0), .ref y]) rfl ?_
            refine lv_if_eq (tgt := 59) hx hb d_MO_next_39 (by decide) (fun c39 => ?_) (fun c39 => ?_)
            ·
              rw [if10.1] at c39
              exact bad (fun z => z.2.elim c26 c39) H locs hI ls (lv_sub hl [0] rfl)
            ·
              rw [if10.2] at c39
              refine lv_iload_n hx hb d_MO_next_42 rfl (lv_at hl 3 rfl) ?_
              refine lv_aload_n hx hb d_MO_next_43 rfl (lv_at hl 0 rfl) ?_
              refine mw_get K hI gf_MO_21_cMO hw.o rfl d_MO_next_44 ?_
              refine lv_iload_n hx hb d_MO_next_47 rfl (lv_at hl 1 rfl) ?_
              refine mw_iald K hI tI hw.a3 rfl i rfl (by first | assumption | omega) (by omega) d_MO_next_48 ?_
              refine mw_ti (y := nI (ks (mm S i))) (r2) ?_
              refine mp_call (rest := [.ref y]) hb hml (c_MO_isDesk l to (n := ks (mm S i)) (by omega)) (mx_invS hx hown (hts _ tw_706) (hts _ tw_707) (hts _ tw_23) (hts _ tw_708) (by decide) (g := F0 m 49 ls [.int (nI (ks (mm S i))), .int to, .ref y]) rfl (argsL := [.int to, .int (nI (ks (mm S i)))]) (rest := [.ref y]) np_MO_isDesk rfl (by rw [hb]; exact d_MO_next_49)) hl.1 d_MO_next_49 ⟨Nat.le_of_ble_eq_true rfl, Nat.le_of_ble_eq_true rfl⟩ (Or.inl ⟨_, _, List.mem_cons_self⟩) (mk_ws tw_708 hts) (fun a9 U9 h9 => Ts_warm hts _ tw_23 a9 U9 h9) (by first | exact ⟨Nat.le_of_ble_eq_true rfl, Nat.le_of_ble_eq_true rfl⟩ | assumption) (fun v hv => ?_)
              subst hv
              refine W.eq (g2 := F0 m 52 ls [.int (if inD to (ks (mm S i)) 512 then 1 else 0), .ref y]) rfl ?_
              refine lv_if_eq (tgt := 59) hx hb d_MO_next_52 (by decide) (fun c52 => ?_) (fun c52 => ?_)
              ·
                rw [if10.1] at c52
                exact bad (fun z => c52 z.1) H locs hI ls (lv_sub hl [0] rfl)
              ·
                rw [if10.2] at c52
                exact go2 (Or.inr c39) c52 H locs hI ls hl
        ·
          have hk2 : kd (mm S i) ≠ 1 := fun z => c17 (by rw [z])
          have hsp := hsp.trans (if_neg hk2)
          refine lv_bipush (v := (-22)) hx hb d_MO_next_20 (by decide) ?_
          refine mw_iret K hI hr hlk ?_ d_MO_next_22
          rw [hsp]
          exact ⟨_, _, rfl, ⟨A, fe, fk, ec, kc, fi, fl, hw, hR⟩, hF, fun u hu => by cases hu; exact ⟨rfl, rfl⟩, fun k hk => by cases hk⟩
      ·
        exact absurd (by decide) c5
    · cases hq1
      have hsp : sp_NEXT S q k to = _ := if_neg h1
      refine W.eq (g2 := F0 m 5 ls [.int (nI 1)]) rfl ?_
      refine lv_if_eq (tgt := 10) hx hb d_MO_next_5 (by decide) (fun c5 => ?_) (fun c5 => ?_)
      ·
        exact absurd c5 (by decide)
      ·
        refine lv_iconst (v := nI 0) hx hb d_MO_next_8 (by decide) ?_
        refine mw_iret K hI hr hlk ?_ d_MO_next_9
        rw [hsp]
        exact ⟨_, _, rfl, ⟨A, fe, fk, ec, kc, fi, fl, hw, hR⟩, hF, (fun u hu => by cases hu), fun k hk => by cases hk; rfl⟩
  · obtain ⟨hF, ⟨h1, h2, hq1, hw⟩ | ⟨h1, hq1, hw⟩⟩ := hq <;> cases hq1

