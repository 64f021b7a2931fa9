/-! ### the model: used, update -/
theorem d_MO_updateTable_0 : decode b_MO_updateTable 0 = .ok (.aload_n 0, 1) := by decide +kernel
theorem d_MO_updateTable_1 : decode b_MO_updateTable 1 = .ok (.iload_n 1, 1) := by decide +kernel
theorem d_MO_updateTable_2 : decode b_MO_updateTable 2 = .ok (.iload_n 2, 1) := by decide +kernel
theorem d_MO_updateTable_3 : decode b_MO_updateTable 3 = .ok (.invokevirtual 122, 3) := by decide +kernel
theorem d_MO_updateTable_6 : decode b_MO_updateTable 6 = .ok (.istore 5, 2) := by decide +kernel
theorem d_MO_updateTable_8 : decode b_MO_updateTable 8 = .ok (.iload 5, 2) := by decide +kernel
theorem d_MO_updateTable_10 : decode b_MO_updateTable 10 = .ok (.ifCond .lt 23, 3) := by decide +kernel
theorem d_MO_updateTable_13 : decode b_MO_updateTable 13 = .ok (.iload 4, 2) := by decide +kernel
theorem d_MO_updateTable_15 : decode b_MO_updateTable 15 = .ok (.iconst 1, 1) := by decide +kernel
theorem d_MO_updateTable_16 : decode b_MO_updateTable 16 = .ok (.if_icmp .ne 8, 3) := by decide +kernel
theorem d_MO_updateTable_19 : decode b_MO_updateTable 19 = .ok (.bipush (-17), 2) := by decide +kernel
theorem d_MO_updateTable_21 : decode b_MO_updateTable 21 = .ok (.goto 11, 3) := by decide +kernel
theorem d_MO_updateTable_24 : decode b_MO_updateTable 24 = .ok (.aload_n 0, 1) := by decide +kernel
theorem d_MO_updateTable_25 : decode b_MO_updateTable 25 = .ok (.iload_n 1, 1) := by decide +kernel
theorem d_MO_updateTable_26 : decode b_MO_updateTable 26 = .ok (.iload 5, 2) := by decide +kernel
theorem d_MO_updateTable_28 : decode b_MO_updateTable 28 = .ok (.iload_n 3, 1) := by decide +kernel
theorem d_MO_updateTable_29 : decode b_MO_updateTable 29 = .ok (.invokevirtual 128, 3) := by decide +kernel
theorem d_MO_updateTable_32 : decode b_MO_updateTable 32 = .ok (.ireturn, 1) := by decide +kernel
theorem d_MO_updateTable_33 : decode b_MO_updateTable 33 = .ok (.iload 4, 2) := by decide +kernel
theorem d_MO_updateTable_35 : decode b_MO_updateTable 35 = .ok (.iconst 2, 1) := by decide +kernel
theorem d_MO_updateTable_36 : decode b_MO_updateTable 36 = .ok (.if_icmp .ne 6, 3) := by decide +kernel
theorem d_MO_updateTable_39 : decode b_MO_updateTable 39 = .ok (.bipush (-2), 2) := by decide +kernel
theorem d_MO_updateTable_41 : decode b_MO_updateTable 41 = .ok (.ireturn, 1) := by decide +kernel
theorem d_MO_updateTable_42 : decode b_MO_updateTable 42 = .ok (.iconst 0, 1) := by decide +kernel
theorem d_MO_updateTable_43 : decode b_MO_updateTable 43 = .ok (.istore 5, 2) := by decide +kernel
theorem d_MO_updateTable_45 : decode b_MO_updateTable 45 = .ok (.iload 5, 2) := by decide +kernel
theorem d_MO_updateTable_47 : decode b_MO_updateTable 47 = .ok (.aload_n 0, 1) := by decide +kernel
theorem d_MO_updateTable_48 : decode b_MO_updateTable 48 = .ok (.getfield 27, 3) := by decide +kernel
theorem d_MO_updateTable_51 : decode b_MO_updateTable 51 = .ok (.iload_n 1, 1) := by decide +kernel
theorem d_MO_updateTable_52 : decode b_MO_updateTable 52 = .ok (.iaload, 1) := by decide +kernel
theorem d_MO_updateTable_53 : decode b_MO_updateTable 53 = .ok (.if_icmp .ge 26, 3) := by decide +kernel
theorem d_MO_updateTable_56 : decode b_MO_updateTable 56 = .ok (.aload_n 0, 1) := by decide +kernel
theorem d_MO_updateTable_57 : decode b_MO_updateTable 57 = .ok (.getfield 39, 3) := by decide +kernel
theorem d_MO_updateTable_60 : decode b_MO_updateTable 60 = .ok (.aload_n 0, 1) := by decide +kernel
theorem d_MO_updateTable_61 : decode b_MO_updateTable 61 = .ok (.getfield 33, 3) := by decide +kernel
theorem d_MO_updateTable_64 : decode b_MO_updateTable 64 = .ok (.iload_n 1, 1) := by decide +kernel
theorem d_MO_updateTable_65 : decode b_MO_updateTable 65 = .ok (.iaload, 1) := by decide +kernel
theorem d_MO_updateTable_66 : decode b_MO_updateTable 66 = .ok (.iload 5, 2) := by decide +kernel
theorem d_MO_updateTable_68 : decode b_MO_updateTable 68 = .ok (.iadd, 1) := by decide +kernel
theorem d_MO_updateTable_69 : decode b_MO_updateTable 69 = .ok (.baload, 1) := by decide +kernel
theorem d_MO_updateTable_70 : decode b_MO_updateTable 70 = .ok (.ifCond .eq 9, 3) := by decide +kernel
theorem d_MO_updateTable_73 : decode b_MO_updateTable 73 = .ok (.iinc 5 1, 3) := by decide +kernel
theorem d_MO_updateTable_76 : decode b_MO_updateTable 76 = .ok (.goto (-31), 3) := by decide +kernel
theorem d_MO_updateTable_79 : decode b_MO_updateTable 79 = .ok (.iload 5, 2) := by decide +kernel
theorem d_MO_updateTable_81 : decode b_MO_updateTable 81 = .ok (.aload_n 0, 1) := by decide +kernel
theorem d_MO_updateTable_82 : decode b_MO_updateTable 82 = .ok (.getfield 27, 3) := by decide +kernel
theorem d_MO_updateTable_85 : decode b_MO_updateTable 85 = .ok (.iload_n 1, 1) := by decide +kernel
theorem d_MO_updateTable_86 : decode b_MO_updateTable 86 = .ok (.iaload, 1) := by decide +kernel
theorem d_MO_updateTable_87 : decode b_MO_updateTable 87 = .ok (.if_icmp .ne 6, 3) := by decide +kernel
theorem d_MO_updateTable_90 : decode b_MO_updateTable 90 = .ok (.bipush (-7), 2) := by decide +kernel
theorem d_MO_updateTable_92 : decode b_MO_updateTable 92 = .ok (.ireturn, 1) := by decide +kernel
theorem d_MO_updateTable_93 : decode b_MO_updateTable 93 = .ok (.aload_n 0, 1) := by decide +kernel
theorem d_MO_updateTable_94 : decode b_MO_updateTable 94 = .ok (.getfield 39, 3) := by decide +kernel
theorem d_MO_updateTable_97 : decode b_MO_updateTable 97 = .ok (.aload_n 0, 1) := by decide +kernel
theorem d_MO_updateTable_98 : decode b_MO_updateTable 98 = .ok (.getfield 33, 3) := by decide +kernel
theorem d_MO_updateTable_101 : decode b_MO_updateTable 101 = .ok (.iload_n 1, 1) := by decide +kernel
theorem d_MO_updateTable_102 : decode b_MO_updateTable 102 = .ok (.iaload, 1) := by decide +kernel
theorem d_MO_updateTable_103 : decode b_MO_updateTable 103 = .ok (.iload 5, 2) := by decide +kernel
theorem d_MO_updateTable_105 : decode b_MO_updateTable 105 = .ok (.iadd, 1) := by decide +kernel
theorem d_MO_updateTable_106 : decode b_MO_updateTable 106 = .ok (.iconst 1, 1) := by decide +kernel
theorem d_MO_updateTable_107 : decode b_MO_updateTable 107 = .ok (.bastore, 1) := by decide +kernel
theorem d_MO_updateTable_108 : decode b_MO_updateTable 108 = .ok (.iconst 0, 1) := by decide +kernel
theorem d_MO_updateTable_109 : decode b_MO_updateTable 109 = .ok (.istore 6, 2) := by decide +kernel
theorem d_MO_updateTable_111 : decode b_MO_updateTable 111 = .ok (.iload 6, 2) := by decide +kernel
theorem d_MO_updateTable_113 : decode b_MO_updateTable 113 = .ok (.aload_n 0, 1) := by decide +kernel
theorem d_MO_updateTable_114 : decode b_MO_updateTable 114 = .ok (.getfield 21, 3) := by decide +kernel
theorem d_MO_updateTable_117 : decode b_MO_updateTable 117 = .ok (.iload_n 1, 1) := by decide +kernel
theorem d_MO_updateTable_118 : decode b_MO_updateTable 118 = .ok (.iaload, 1) := by decide +kernel
theorem d_MO_updateTable_119 : decode b_MO_updateTable 119 = .ok (.if_icmp .ge 42, 3) := by decide +kernel
theorem d_MO_updateTable_122 : decode b_MO_updateTable 122 = .ok (.aload_n 0, 1) := by decide +kernel
theorem d_MO_updateTable_123 : decode b_MO_updateTable 123 = .ok (.getfield 44, 3) := by decide +kernel
theorem d_MO_updateTable_126 : decode b_MO_updateTable 126 = .ok (.aload_n 0, 1) := by decide +kernel
theorem d_MO_updateTable_127 : decode b_MO_updateTable 127 = .ok (.getfield 36, 3) := by decide +kernel
theorem d_MO_updateTable_130 : decode b_MO_updateTable 130 = .ok (.iload_n 1, 1) := by decide +kernel
theorem d_MO_updateTable_131 : decode b_MO_updateTable 131 = .ok (.iaload, 1) := by decide +kernel
theorem d_MO_updateTable_132 : decode b_MO_updateTable 132 = .ok (.iload 5, 2) := by decide +kernel
theorem d_MO_updateTable_134 : decode b_MO_updateTable 134 = .ok (.aload_n 0, 1) := by decide +kernel
theorem d_MO_updateTable_135 : decode b_MO_updateTable 135 = .ok (.getfield 21, 3) := by decide +kernel
theorem d_MO_updateTable_138 : decode b_MO_updateTable 138 = .ok (.iload_n 1, 1) := by decide +kernel
theorem d_MO_updateTable_139 : decode b_MO_updateTable 139 = .ok (.iaload, 1) := by decide +kernel
theorem d_MO_updateTable_140 : decode b_MO_updateTable 140 = .ok (.imul, 1) := by decide +kernel
theorem d_MO_updateTable_141 : decode b_MO_updateTable 141 = .ok (.iadd, 1) := by decide +kernel
theorem d_MO_updateTable_142 : decode b_MO_updateTable 142 = .ok (.iload 6, 2) := by decide +kernel
theorem d_MO_updateTable_144 : decode b_MO_updateTable 144 = .ok (.iadd, 1) := by decide +kernel
theorem d_MO_updateTable_145 : decode b_MO_updateTable 145 = .ok (.aload_n 0, 1) := by decide +kernel
theorem d_MO_updateTable_146 : decode b_MO_updateTable 146 = .ok (.getfield 7, 3) := by decide +kernel
theorem d_MO_updateTable_149 : decode b_MO_updateTable 149 = .ok (.iload_n 2, 1) := by decide +kernel
theorem d_MO_updateTable_150 : decode b_MO_updateTable 150 = .ok (.iload 6, 2) := by decide +kernel
theorem d_MO_updateTable_152 : decode b_MO_updateTable 152 = .ok (.iadd, 1) := by decide +kernel
theorem d_MO_updateTable_153 : decode b_MO_updateTable 153 = .ok (.baload, 1) := by decide +kernel
theorem d_MO_updateTable_154 : decode b_MO_updateTable 154 = .ok (.bastore, 1) := by decide +kernel
theorem d_MO_updateTable_155 : decode b_MO_updateTable 155 = .ok (.iinc 6 1, 3) := by decide +kernel
theorem d_MO_updateTable_158 : decode b_MO_updateTable 158 = .ok (.goto (-47), 3) := by decide +kernel
theorem d_MO_updateTable_161 : decode b_MO_updateTable 161 = .ok (.aload_n 0, 1) := by decide +kernel
theorem d_MO_updateTable_162 : decode b_MO_updateTable 162 = .ok (.iload_n 1, 1) := by decide +kernel
theorem d_MO_updateTable_163 : decode b_MO_updateTable 163 = .ok (.iload 5, 2) := by decide +kernel
theorem d_MO_updateTable_165 : decode b_MO_updateTable 165 = .ok (.iload_n 3, 1) := by decide +kernel
theorem d_MO_updateTable_166 : decode b_MO_updateTable 166 = .ok (.invokevirtual 128, 3) := by decide +kernel
theorem d_MO_updateTable_169 : decode b_MO_updateTable 169 = .ok (.ireturn, 1) := by decide +kernel
theorem d_MO_update_0 : decode b_MO_update 0 = .ok (.aload_n 0, 1) := by decide +kernel
theorem d_MO_update_1 : decode b_MO_update 1 = .ok (.iload_n 1, 1) := by decide +kernel
theorem d_MO_update_2 : decode b_MO_update 2 = .ok (.invokevirtual 92, 3) := by decide +kernel
theorem d_MO_update_5 : decode b_MO_update 5 = .ok (.ifCond .eq 5, 3) := by decide +kernel
theorem d_MO_update_8 : decode b_MO_update 8 = .ok (.iconst 0, 1) := by decide +kernel
theorem d_MO_update_9 : decode b_MO_update 9 = .ok (.ireturn, 1) := by decide +kernel
theorem d_MO_update_10 : decode b_MO_update 10 = .ok (.aload_n 0, 1) := by decide +kernel
theorem d_MO_update_11 : decode b_MO_update 11 = .ok (.getfield 17, 3) := by decide +kernel
theorem d_MO_update_14 : decode b_MO_update 14 = .ok (.iload_n 1, 1) := by decide +kernel
theorem d_MO_update_15 : decode b_MO_update 15 = .ok (.iaload, 1) := by decide +kernel
theorem d_MO_update_16 : decode b_MO_update 16 = .ok (.iconst 2, 1) := by decide +kernel
theorem d_MO_update_17 : decode b_MO_update 17 = .ok (.if_icmp .ne 6, 3) := by decide +kernel
theorem d_MO_update_20 : decode b_MO_update 20 = .ok (.bipush (-22), 2) := by decide +kernel
theorem d_MO_update_22 : decode b_MO_update 22 = .ok (.ireturn, 1) := by decide +kernel
theorem d_MO_update_23 : decode b_MO_update 23 = .ok (.aload_n 0, 1) := by decide +kernel
theorem d_MO_update_24 : decode b_MO_update 24 = .ok (.iload_n 2, 1) := by decide +kernel
theorem d_MO_update_25 : decode b_MO_update 25 = .ok (.aload_n 0, 1) := by decide +kernel
theorem d_MO_update_26 : decode b_MO_update 26 = .ok (.getfield 21, 3) := by decide +kernel
theorem d_MO_update_29 : decode b_MO_update 29 = .ok (.iload_n 1, 1) := by decide +kernel
theorem d_MO_update_30 : decode b_MO_update 30 = .ok (.iaload, 1) := by decide +kernel
theorem d_MO_update_31 : decode b_MO_update 31 = .ok (.invokestatic 97, 3) := by decide +kernel
theorem d_MO_update_34 : decode b_MO_update 34 = .ok (.ifCond .eq 20, 3) := by decide +kernel
theorem d_MO_update_37 : decode b_MO_update 37 = .ok (.iload_n 3, 1) := by decide +kernel
theorem d_MO_update_38 : decode b_MO_update 38 = .ok (.aload_n 0, 1) := by decide +kernel
theorem d_MO_update_39 : decode b_MO_update 39 = .ok (.getfield 24, 3) := by decide +kernel
theorem d_MO_update_42 : decode b_MO_update 42 = .ok (.iload_n 1, 1) := by decide +kernel
theorem d_MO_update_43 : decode b_MO_update 43 = .ok (.iaload, 1) := by decide +kernel
theorem d_MO_update_44 : decode b_MO_update 44 = .ok (.invokestatic 97, 3) := by decide +kernel
theorem d_MO_update_47 : decode b_MO_update 47 = .ok (.ifCond .eq 7, 3) := by decide +kernel
theorem d_MO_update_50 : decode b_MO_update 50 = .ok (.iconst 0, 1) := by decide +kernel
theorem d_MO_update_51 : decode b_MO_update 51 = .ok (.goto 4, 3) := by decide +kernel
theorem d_MO_update_54 : decode b_MO_update 54 = .ok (.iconst 1, 1) := by decide +kernel
theorem d_MO_update_55 : decode b_MO_update 55 = .ok (.putfield 60, 3) := by decide +kernel
theorem d_MO_update_58 : decode b_MO_update 58 = .ok (.aload_n 0, 1) := by decide +kernel
theorem d_MO_update_59 : decode b_MO_update 59 = .ok (.getfield 60, 3) := by decide +kernel
theorem d_MO_update_62 : decode b_MO_update 62 = .ok (.ifCond .le 5, 3) := by decide +kernel
theorem d_MO_update_65 : decode b_MO_update 65 = .ok (.iconst 0, 1) := by decide +kernel
theorem d_MO_update_66 : decode b_MO_update 66 = .ok (.ireturn, 1) := by decide +kernel
theorem d_MO_update_67 : decode b_MO_update 67 = .ok (.iload 4, 2) := by decide +kernel
theorem d_MO_update_69 : decode b_MO_update 69 = .ok (.iconst 0, 1) := by decide +kernel
theorem d_MO_update_70 : decode b_MO_update 70 = .ok (.iconst 2, 1) := by decide +kernel
theorem d_MO_update_71 : decode b_MO_update 71 = .ok (.invokestatic 64, 3) := by decide +kernel
theorem d_MO_update_74 : decode b_MO_update 74 = .ok (.ifCond .ne 6, 3) := by decide +kernel
theorem d_MO_update_77 : decode b_MO_update 77 = .ok (.bipush (-22), 2) := by decide +kernel
theorem d_MO_update_79 : decode b_MO_update 79 = .ok (.ireturn, 1) := by decide +kernel
theorem d_MO_update_80 : decode b_MO_update 80 = .ok (.aload_n 0, 1) := by decide +kernel
theorem d_MO_update_81 : decode b_MO_update 81 = .ok (.getfield 17, 3) := by decide +kernel
theorem d_MO_update_84 : decode b_MO_update 84 = .ok (.iload_n 1, 1) := by decide +kernel
theorem d_MO_update_85 : decode b_MO_update 85 = .ok (.iaload, 1) := by decide +kernel
theorem d_MO_update_86 : decode b_MO_update 86 = .ok (.ifCond .ne 15, 3) := by decide +kernel
theorem d_MO_update_89 : decode b_MO_update 89 = .ok (.aload_n 0, 1) := by decide +kernel
theorem d_MO_update_90 : decode b_MO_update 90 = .ok (.iload_n 1, 1) := by decide +kernel
theorem d_MO_update_91 : decode b_MO_update 91 = .ok (.iload_n 2, 1) := by decide +kernel
theorem d_MO_update_92 : decode b_MO_update 92 = .ok (.iload_n 3, 1) := by decide +kernel
theorem d_MO_update_93 : decode b_MO_update 93 = .ok (.iload 4, 2) := by decide +kernel
theorem d_MO_update_95 : decode b_MO_update 95 = .ok (.invokevirtual 132, 3) := by decide +kernel
theorem d_MO_update_98 : decode b_MO_update 98 = .ok (.goto 12, 3) := by decide +kernel
theorem d_MO_update_101 : decode b_MO_update 101 = .ok (.aload_n 0, 1) := by decide +kernel
theorem d_MO_update_102 : decode b_MO_update 102 = .ok (.iload_n 1, 1) := by decide +kernel
theorem d_MO_update_103 : decode b_MO_update 103 = .ok (.iload_n 2, 1) := by decide +kernel
theorem d_MO_update_104 : decode b_MO_update 104 = .ok (.iload_n 3, 1) := by decide +kernel
theorem d_MO_update_105 : decode b_MO_update 105 = .ok (.iload 4, 2) := by decide +kernel
theorem d_MO_update_107 : decode b_MO_update 107 = .ok (.invokevirtual 136, 3) := by decide +kernel
theorem d_MO_update_110 : decode b_MO_update 110 = .ok (.ireturn, 1) := by decide +kernel
def sp_core (S : as_S) (i k v : Nat) (f : Int32) : as_S × (Int32 ⊕ Nat) := match ent S i k with
  | some e => if f = nI 1 then (lk S i k, .inl (-17)) else (wrE (lk S i k) i e v, .inl (nI 0))
  | none => if (sp_miss (lk S i k) i f).2 < nI 0 then ((sp_miss (lk S i k) i f).1, .inl (sp_miss (lk S i k) i f).2) else (wrE (sp_miss (lk S i k) i f).1 i (sp_miss (lk S i k) i f).2.toNatClampNeg v, .inl (nI 0))
theorem sp_upd_core {S : as_S} {i : Nat} {k v f : Int32} (h : inD k (ks (mm S i)) 512 ∧ inD v (vs (mm S i)) 512) (h2 : 0 ≤ f.toInt ∧ f.toInt ≤ 2) : sp_upd S i k v f = sp_core S i k.toNatClampNeg v.toNatClampNeg f := (if_pos h).trans (if_pos h2)
def MC (dA : Nat → ClassId) (w : mw_W) (own : as_W) (y : Nat) (cd : Int32) (sr : as_S × (Int32 ⊕ Nat)) : mw_R → mw_W → Prop := fun r w' => ∃ u : Int32, r = .inl (some (.int u)) ∧ sr.2 = .inl u ∧ FrM w own w' ∧ RepM dA w' own y cd sr.1
def cnt (m : as_M) (j : Nat) : Nat := if kd m = 0 then j else tb_n (tb m) j
theorem cnt_le (m : as_M) (j : Nat) : cnt m j ≤ j := by unfold cnt; split; exact Nat.le_refl _; exact tb_n_le _ _
set_option maxRecDepth 100000 in
set_option maxHeartbeats 4000000 in
theorem c_MO_used (l : Launch) (D : va_G) (dA : Nat → ClassId) {w : mw_W} {own : as_W} {y t : Nat} {cd : Int32} {S : as_S} (hM : RepM dA w own y cd S) (hW : wf_S t S) (q : Int32) : CT l D dA y_MO_used (Cond.code y_MO_used b_MO_used 4 (some .int) :: Ts) 1 40 0 0 [.ref y, .int q] w (MM dA w own y kO (sp_USED S q)) := by
  refine mw_meth (by decide) mk_tb (Nat.le_of_ble_eq_true rfl) ?_
  intro p e s m below meth c K hr hlk hce hnm hP0 hSy ls hl
  have hl : lv_has ls 4 [(0, .ref y), (1, .int q)] := hl
  obtain ⟨hx, hb, hml, hown, hts, hK, hTb⟩ := id K
  have hI := mw_I.start hP0
  obtain ⟨A, fe, fk, ec, kc, fi, fl, hw, hR⟩ := hM
  have hF := FrM.rf w own
  have h64 := hW.1
  refine lv_aload_n hx hb d_MO_used_0 rfl (lv_at hl 0 rfl) ?_
  refine lv_iload_n hx hb d_MO_used_1 rfl (lv_at hl 1 rfl) ?_
  refine mw_call (rest := []) K hSy hP0 hI (c_MO_noMap l D dA hw hW.1 q) (mx_invV hx hown (hts _ tw_694) (hts _ tw_696) (hts _ tw_8) (hts _ tw_697) (by decide) (b := y) (mw_rc K hI hw.o rfl) (g := F0 m 2 ls [.int q, .ref y]) rfl (argsL := [.int q]) (rest := []) np_MO_noMap rfl (by rw [hb]; exact d_MO_used_2)) hl.1 d_MO_used_2 ⟨Nat.le_of_ble_eq_true rfl, Nat.le_of_ble_eq_true rfl⟩ (Or.inl ⟨_, _, List.mem_cons_self⟩) (mk_ws tw_697 hts) (fun a9 U9 h9 => Ts_warm hts _ tw_23 a9 U9 h9) ⟨Nat.le_of_ble_eq_true rfl, Nat.le_of_ble_eq_true rfl⟩ (fun v w' H locs hq hI => ?_) (fun k x w' H locs hq hI hX => ?_)
  · obtain ⟨hF, ⟨h1, h2, hq1, hw⟩ | ⟨h1, hq1, hw⟩⟩ := hq
    · cases hq1
      have hsp : sp_USED S q = _ := if_pos ⟨h1, h2⟩
      obtain ⟨e1, hi⟩ := inM_nI ⟨h1, h2⟩ hW.1
      refine W.eq (g2 := F0 m 5 ls [.int (nI 0)]) rfl ?_
      rw [e1] at hl
      generalize q.toNatClampNeg = i at *
      have hwf := hW.2.2.2.2.2 i hi
      obtain ⟨⟨r1, r2, r3, r4, r5⟩, r11, r12, r13, r14⟩ := hR.2.2.1 i hi
      have hkk : kd (mm S i) = 0 ∨ kd (mm S i) = 1 ∨ kd (mm S i) = 2 := by
        obtain ⟨-, ⟨k0, -⟩ | ⟨k0, -⟩ | ⟨k0, -⟩⟩ := hwf
        · exact Or.inl k0
        · exact Or.inr (Or.inl k0)
        · exact Or.inr (Or.inr k0)
      refine lv_if_eq (tgt := 10) hx hb d_MO_used_5 (by decide) (fun c5 => ?_) (fun c5 => ?_)
      ·
        refine lv_aload_n hx hb d_MO_used_10 rfl (lv_at hl 0 rfl) ?_
        refine mw_get K hI gf_MO_17_cMO hw.o rfl d_MO_used_11 ?_
        refine lv_iload_n hx hb d_MO_used_14 rfl (lv_at hl 1 rfl) ?_
        refine mw_iald K hI tI hw.a2 rfl i rfl (by first | assumption | omega) (by omega) d_MO_used_15 ?_
        refine mw_ti (y := nI (kd (mm S i))) (r1) ?_
        refine lv_iconst (v := nI 2) hx hb d_MO_used_16 (by decide) ?_
        refine lv_icmp_ne (tgt := 35) hx hb d_MO_used_17 (by decide) (fun c17 => ?_) (fun c17 => ?_)
        ·
          have hk2 : kd (mm S i) ≠ 2 := fun z => c17 (by rw [z])
          have hk : kd (mm S i) = 0 ∨ kd (mm S i) = 1 := by omega
          obtain ⟨b1, b2, b3, b4, b5, b6, b7, b8⟩ := wf_E hwf hk
          obtain ⟨hec, hkc⟩ := mo_ec hR hW
          have hun : useN (mm S i) = cnt (mm S i) (en (mm S i)) := by
            unfold useN cnt
            rcases hk with h | h
            · rw [if_pos h, if_pos h]
            · rw [if_neg (by omega), if_pos h, if_neg (by omega)]
          have hloop : ∀ (n9 j : Nat), j + n9 = en (mm S i) → ∀ (H : Heap) (locs : List Loc), mw_I D mk_cl w s.heap w' H locs → ∀ ls : Array Slot, lv_has ls 4 [(3, .int (nI j)), (2, .int (nI (cnt (mm S i) j))), (0, .ref y), (1, .int (nI i))] → W p l e { frames := 1, cells := 0, slots := 0, locals := 40 } s m ([.ref y, .int q] : List Value).toArray below meth c H locs 0 0 (mx_Q below (mw_Qc D mk_cl w s.heap.size (MM dA w own y kO (sp_USED S q))) ([.ref y, .int q] : List Value).toArray s 0 0 (mw_A w s.heap.size)) (F0 m 39 ls []) := by
            intro n9
            induction n9 with
            | zero =>
              intro j hj H locs hI ls hl
              refine lv_iload_n hx hb d_MO_used_39 rfl (lv_at hl 0 rfl) ?_
              refine lv_aload_n hx hb d_MO_used_40 rfl (lv_at hl 2 rfl) ?_
              refine mw_get K hI gf_MO_27_cMO hw.o rfl d_MO_used_41 ?_
              refine lv_iload_n hx hb d_MO_used_44 rfl (lv_at hl 3 rfl) ?_
              refine mw_iald K hI tI hw.a5 rfl i rfl (by first | assumption | omega) (by omega) d_MO_used_45 ?_
              refine mw_ti (y := nI (en (mm S i))) (r4) ?_
              refine lv_icmp_ge (tgt := 88) hx hb d_MO_used_46 (by decide) (fun c46 => ?_) (fun c46 => ?_)
              ·
                refine lv_iload_n hx hb d_MO_used_88 rfl (lv_at hl 1 rfl) ?_
                refine mw_iret K hI hr hlk ?_ d_MO_used_89
                rw [hsp, show j = en (mm S i) by omega, ← hun]
                exact ⟨_, _, rfl, ⟨A, fe, fk, ec, kc, fi, fl, hw, hR⟩, hF, fun u hu => by cases hu; exact ⟨rfl, rfl⟩, fun k hk => by cases hk⟩
              ·
                exact absurd (nI_le (by omega) (by omega)) c46
            | succ n9 ih =>
              intro j hj H locs hI ls hl
              have hcl := cnt_le (mm S i) j
              refine lv_iload_n hx hb d_MO_used_39 rfl (lv_at hl 0 rfl) ?_
              refine lv_aload_n hx hb d_MO_used_40 rfl (lv_at hl 2 rfl) ?_
              refine mw_get K hI gf_MO_27_cMO hw.o rfl d_MO_used_41 ?_
              refine lv_iload_n hx hb d_MO_used_44 rfl (lv_at hl 3 rfl) ?_
              refine mw_iald K hI tI hw.a5 rfl i rfl (by first | assumption | omega) (by omega) d_MO_used_45 ?_
              refine mw_ti (y := nI (en (mm S i))) (r4) ?_
              refine lv_icmp_ge (tgt := 88) hx hb d_MO_used_46 (by decide) (fun c46 => ?_) (fun c46 => ?_)
              ·
                exact absurd c46 (nI_ge (by omega) (by omega))
              ·
                refine lv_aload_n hx hb d_MO_used_49 rfl (lv_at hl 2 rfl) ?_
                refine mw_get K hI gf_MO_17_cMO hw.o rfl d_MO_used_50 ?_
                refine lv_iload_n hx hb d_MO_used_53 rfl (lv_at hl 3 rfl) ?_
                refine mw_iald K hI tI hw.a2 rfl i rfl (by first | assumption | omega) (by omega) d_MO_used_54 ?_
                refine mw_ti (y := nI (kd (mm S i))) (r1) ?_
                refine lv_if_eq (tgt := 74) hx hb d_MO_used_55 (by decide) (fun c55 => ?_) (fun c55 => ?_)
                ·
                  have hk0 : kd (mm S i) = 0 := (nI_eq (by omega) (by decide)).mp (c55.trans nI_0.symm)
                  refine lv_iload_n hx hb d_MO_used_74 rfl (lv_at hl 1 rfl) ?_
                  refine lv_iconst (v := nI 1) hx hb d_MO_used_75 (by decide) ?_
                  refine lv_iadd hx hb d_MO_used_76 ?_
                  refine mw_ti (nI_add _ _) ?_
                  refine lv_goto (tgt := 81) hx hb d_MO_used_77 (by decide) ?_
                  refine mw_ti (y := nI (cnt (mm S i) (j + 1))) ((by unfold cnt; rw [if_pos hk0, if_pos hk0])) ?_
                  refine lv_istore_n (lv' := [(2, .int (nI (cnt (mm S i) (j + 1)))), (3, .int (nI j)), (0, .ref y), (1, .int (nI i))]) hx hb d_MO_used_81 rfl hl (by decide) rfl (fun ls hl => ?_)
                  refine lv_iinc (v := nI (j + 1)) (lv' := [(3, .int (nI (j + 1))), (2, .int (nI (cnt (mm S i) (j + 1)))), (0, .ref y), (1, .int (nI i))]) hx hb d_MO_used_82 hl (k := 1) rfl (nI_add _ _) (by decide) rfl (fun ls hl => ?_)
                  refine lv_goto (tgt := 39) hx hb d_MO_used_85 (by decide) ?_
                  exact ih (j + 1) (by omega) H locs hI ls (lv_sub hl [0, 1, 2, 3] rfl)
                ·
                  have hk1 : kd (mm S i) = 1 := by rcases hk with h | h; exact absurd (by rw [h]; rfl) c55; exact h
                  obtain ⟨t1, t2, t3, t4, t5, t6⟩ := hR.2.2.2.2.1 i hi hk1
                  refine lv_aload_n hx hb d_MO_used_58 rfl (lv_at hl 2 rfl) ?_
                  refine mw_get K hI gf_MO_39_cMO hw.o rfl d_MO_used_59 ?_
                  refine lv_aload_n hx hb d_MO_used_62 rfl (lv_at hl 2 rfl) ?_
                  refine mw_get K hI gf_MO_33_cMO hw.o rfl d_MO_used_63 ?_
                  refine lv_iload_n hx hb d_MO_used_66 rfl (lv_at hl 3 rfl) ?_
                  refine mw_iald K hI tI hw.a7 rfl i rfl (by first | assumption | omega) (by omega) d_MO_used_67 ?_
                  refine mw_ti (y := nI (fe i)) (t1) ?_
                  refine lv_iload_n hx hb d_MO_used_68 rfl (lv_at hl 0 rfl) ?_
                  refine lv_iadd hx hb d_MO_used_69 ?_
                  refine mw_ti (nI_add _ _) ?_
                  refine mw_zald K hI tZ hw.a9 rfl ((fe i) + j) rfl (by first | assumption | omega) (by omega) d_MO_used_70 ?_
                  cases ht : tb (mm S i) j with
                  | none =>
                    refine mw_ti (y := nI 0) ((by rw [t5 j (by omega), ht]; rfl)) ?_
                    refine lv_if_eq (tgt := 80) hx hb d_MO_used_71 (by decide) (fun c71 => ?_) (fun c71 => ?_)
                    ·
                      refine lv_iload_n hx hb d_MO_used_80 rfl (lv_at hl 1 rfl) ?_
                      refine mw_ti (y := nI (cnt (mm S i) (j + 1))) ((by unfold cnt; rw [if_neg (by omega), if_neg (by omega), tb_n, ht]; rfl)) ?_
                      refine lv_istore_n (lv' := [(2, .int (nI (cnt (mm S i) (j + 1)))), (3, .int (nI j)), (0, .ref y), (1, .int (nI i))]) hx hb d_MO_used_81 rfl hl (by decide) rfl (fun ls hl => ?_)
                      refine lv_iinc (v := nI (j + 1)) (lv' := [(3, .int (nI (j + 1))), (2, .int (nI (cnt (mm S i) (j + 1)))), (0, .ref y), (1, .int (nI i))]) hx hb d_MO_used_82 hl (k := 1) rfl (nI_add _ _) (by decide) rfl (fun ls hl => ?_)
                      refine lv_goto (tgt := 39) hx hb d_MO_used_85 (by decide) ?_
                      exact ih (j + 1) (by omega) H locs hI ls (lv_sub hl [0, 1, 2, 3] rfl)
                    ·
                      exact absurd (by decide) c71
                  | some ky =>
                    refine mw_ti (y := nI 1) ((by rw [t5 j (by omega), ht]; rfl)) ?_
                    refine lv_if_eq (tgt := 80) hx hb d_MO_used_71 (by decide) (fun c71 => ?_) (fun c71 => ?_)
                    ·
                      exact absurd c71 (by decide)
                    ·
                      refine lv_iload_n hx hb d_MO_used_74 rfl (lv_at hl 1 rfl) ?_
                      refine lv_iconst (v := nI 1) hx hb d_MO_used_75 (by decide) ?_
                      refine lv_iadd hx hb d_MO_used_76 ?_
                      refine mw_ti (nI_add _ _) ?_
                      refine lv_goto (tgt := 81) hx hb d_MO_used_77 (by decide) ?_
                      refine mw_ti (y := nI (cnt (mm S i) (j + 1))) ((by unfold cnt; rw [if_neg (by omega), if_neg (by omega), tb_n, ht]; rfl)) ?_
                      refine lv_istore_n (lv' := [(2, .int (nI (cnt (mm S i) (j + 1)))), (3, .int (nI j)), (0, .ref y), (1, .int (nI i))]) hx hb d_MO_used_81 rfl hl (by decide) rfl (fun ls hl => ?_)
                      refine lv_iinc (v := nI (j + 1)) (lv' := [(3, .int (nI (j + 1))), (2, .int (nI (cnt (mm S i) (j + 1)))), (0, .ref y), (1, .int (nI i))]) hx hb d_MO_used_82 hl (k := 1) rfl (nI_add _ _) (by decide) rfl (fun ls hl => ?_)
                      refine lv_goto (tgt := 39) hx hb d_MO_used_85 (by decide) ?_
                      exact ih (j + 1) (by omega) H locs hI ls (lv_sub hl [0, 1, 2, 3] rfl)
          refine lv_iconst (v := nI 0) hx hb d_MO_used_35 (by decide) ?_
          refine lv_istore_n (lv' := [(2, .int (nI 0)), (0, .ref y), (1, .int (nI i))]) hx hb d_MO_used_36 rfl hl (by decide) rfl (fun ls hl => ?_)
          refine lv_iconst (v := nI 0) hx hb d_MO_used_37 (by decide) ?_
          refine lv_istore_n (lv' := [(3, .int (nI 0)), (2, .int (nI 0)), (0, .ref y), (1, .int (nI i))]) hx hb d_MO_used_38 rfl hl (by decide) rfl (fun ls hl => ?_)
          refine hloop (en (mm S i)) 0 (by omega) H locs hI ls (lv_sub hl [0, 1, 2, 3] ?_)
          have hc0 : cnt (mm S i) 0 = 0 := by have := cnt_le (mm S i) 0; omega
          rw [hc0]; rfl
        ·
          have hk2 : kd (mm S i) = 2 := (nI_eq (by omega) (by decide)).mp c17
          obtain ⟨z1, z2, z3, z4, -⟩ := wf_R hwf hk2
          have hu : useN (mm S i) = hd (mm S i) - tl (mm S i) := (if_neg (by rw [hk2]; decide)).trans (if_neg (by rw [hk2]; decide))
          refine lv_aload_n hx hb d_MO_used_20 rfl (lv_at hl 0 rfl) ?_
          refine mw_get K hI gf_MO_47_cMO hw.o rfl d_MO_used_21 ?_
          refine lv_iload_n hx hb d_MO_used_24 rfl (lv_at hl 1 rfl) ?_
          refine mw_lald K hI tJ hw.a11 rfl i rfl (by first | assumption | omega) (by omega) d_MO_used_25 ?_
          refine mw_tl (y := lN (hd (mm S i))) (r11) ?_
          refine lv_aload_n hx hb d_MO_used_26 rfl (lv_at hl 0 rfl) ?_
          refine mw_get K hI gf_MO_51_cMO hw.o rfl d_MO_used_27 ?_
          refine lv_iload_n hx hb d_MO_used_30 rfl (lv_at hl 1 rfl) ?_
          refine mw_lald K hI tJ hw.a12 rfl i rfl (by first | assumption | omega) (by omega) d_MO_used_31 ?_
          refine mw_tl (y := lN (tl (mm S i))) (r12) ?_
          refine lv_lsub hx hb d_MO_used_32 ?_
          refine mw_tl (lN_sub (by omega)) ?_
          refine lv_l2i hx hb d_MO_used_33 rfl ?_
          refine mw_ti (lN_i _) ?_
          refine mw_iret K hI hr hlk ?_ d_MO_used_34
          rw [hsp, hu]
          exact ⟨_, _, rfl, ⟨A, fe, fk, ec, kc, fi, fl, hw, hR⟩, hF, fun u hu => by cases hu; exact ⟨rfl, rfl⟩, fun k hk => by cases hk⟩
      ·
        exact absurd (by decide) c5
    · cases hq1
      have hsp : sp_USED S q = _ := if_neg h1
      refine W.eq (g2 := F0 m 5 ls [.int (nI 1)]) rfl ?_
      refine lv_if_eq (tgt := 10) hx hb d_MO_used_5 (by decide) (fun c5 => ?_) (fun c5 => ?_)
      ·
        exact absurd c5 (by decide)
      ·
        refine lv_iconst (v := nI 0) hx hb d_MO_used_8 (by decide) ?_
        refine mw_iret K hI hr hlk ?_ d_MO_used_9
        rw [hsp]
        exact ⟨_, _, rfl, ⟨A, fe, fk, ec, kc, fi, fl, hw, hR⟩, hF, (fun u hu => by cases hu), fun k hk => by cases hk; rfl⟩
  · obtain ⟨hF, ⟨h1, h2, hq1, hw⟩ | ⟨h1, hq1, hw⟩⟩ := hq <;> cases hq1

set_option maxRecDepth 100000 in
set_option maxHeartbeats 4000000 in
theorem c_MO_updateArray (l : Launch) (D : va_G) (dA : Nat → ClassId) {w : mw_W} {own : as_W} {y t : Nat} {A : Nat → Nat} {cd : Int32} {fe fk : Nat → Nat} {ec kc : Nat} {fi : Nat → Nat → Int32} {fl : Nat → Nat → Int64} {S : as_S} (hw : mo_W dA w own y A cd (nI (gv S)) (nI (nm S)) (nI ec) (nI kc) (nI 0) fi fl) (hR : mo_R fe fk ec kc fi fl S) (hW : wf_S t S) {i : Nat} (hi : i < nm S) (hk : kd (mm S i) = 0) {k v : Nat} (hk0 : k + ks (mm S i) ≤ 512) (hv0 : v + vs (mm S i) ≤ 512) (f : Int32) : CT l D dA y_MO_updateArray (Cond.code y_MO_updateArray b_MO_updateArray 6 (some .int) :: Ts) 3 90 0 0 [.ref y, .int (nI i), .int (nI k), .int (nI v), .int f] w (MC dA w own y cd (sp_core S i k v f)) := by
  refine mw_meth (by decide) mk_tb (Nat.le_of_ble_eq_true rfl) ?_
  intro p e s m below meth c K hr hlk hce hnm hP0 hSy ls hl
  have hl : lv_has ls 6 [(0, .ref y), (1, .int (nI i)), (2, .int (nI k)), (3, .int (nI v)), (4, .int f)] := hl
  obtain ⟨hx, hb, hml, hown, hts, hK, hTb⟩ := id K
  have hI := mw_I.start hP0
  have h64 := hW.1
  have hwf := hW.2.2.2.2.2 i hi
  obtain ⟨b1, b2, b3, b4, b5, b6, b7, b8⟩ := wf_E hwf (Or.inl hk)
  have hF := FrM.rf w own
  refine lv_aload_n hx hb d_MO_updateArray_0 rfl (lv_at hl 0 rfl) ?_
  refine lv_iload_n hx hb d_MO_updateArray_1 rfl (lv_at hl 1 rfl) ?_
  refine lv_iload_n hx hb d_MO_updateArray_2 rfl (lv_at hl 2 rfl) ?_
  refine mw_call (rest := []) K hSy hP0 hI (c_MO_entryOfArray l D dA hw hR hW hi hk (q := k) hk0) (mx_invV hx hown (hts _ tw_736) (hts _ tw_738) (hts _ tw_10) (hts _ tw_739) (by decide) (b := y) (mw_rc K hI hw.o rfl) (g := F0 m 3 ls [.int (nI k), .int (nI i), .ref y]) rfl (argsL := [.int (nI i), .int (nI k)]) (rest := []) np_MO_entryOfArray rfl (by rw [hb]; exact d_MO_updateArray_3)) hl.1 d_MO_updateArray_3 ⟨Nat.le_of_ble_eq_true rfl, Nat.le_of_ble_eq_true rfl⟩ (Or.inl ⟨_, _, List.mem_cons_self⟩) (mk_ws tw_739 hts) (fun a9 U9 h9 => Ts_warm hts _ tw_23 a9 U9 h9) ⟨Nat.le_of_ble_eq_true rfl, Nat.le_of_ble_eq_true rfl⟩ (fun v w' H locs hq hI => ?_) (fun k x w' H locs hq hI hX => ?_)
  · obtain ⟨hq1, hq2⟩ := hq
    cases hq1
    rw [hq2] at hI
    refine W.eq (g2 := F0 m 6 ls [.int (oI (ent S i k))]) rfl ?_
    cases he : ent S i k with
    | none =>
      have hsp : sp_core S i k v f = (S, .inl (-7)) := by
        have hm : sp_miss S i f = (S, -7) := if_pos hk
        unfold sp_core
        rw [he, lk_0 k hk, hm]
        exact if_pos (show (-7 : Int32) < nI 0 by decide)
      refine mw_ti (y := (-1)) (rfl) ?_
      refine lv_istore (lv' := [(5, .int (-1)), (0, .ref y), (1, .int (nI i)), (2, .int (nI k)), (3, .int (nI v)), (4, .int f)]) hx hb d_MO_updateArray_6 hl (by decide) rfl (fun ls hl => ?_)
      refine lv_iload hx hb d_MO_updateArray_8 (lv_at hl 0 rfl) ?_
      refine lv_if_ge (tgt := 16) hx hb d_MO_updateArray_10 (by decide) (fun c10 => ?_) (fun c10 => ?_)
      ·
        exact absurd c10 (by decide)
      ·
        refine lv_bipush (v := (-7)) hx hb d_MO_updateArray_13 (by decide) ?_
        refine mw_iret K hI hr hlk ?_ d_MO_updateArray_15
        rw [hsp]
        exact ⟨_, rfl, rfl, hF, A, fe, fk, ec, kc, fi, fl, hw, hR⟩
    | some e0 =>
      have hlt := ent_lt he
      have hsp : sp_core S i k v f = if f = nI 1 then (S, .inl (-17)) else (wrE S i e0 v, .inl (nI 0)) := by
        unfold sp_core
        rw [he, lk_0 k hk]
      refine mw_ti (y := nI e0) (rfl) ?_
      refine lv_istore (lv' := [(5, .int (nI e0)), (0, .ref y), (1, .int (nI i)), (2, .int (nI k)), (3, .int (nI v)), (4, .int f)]) hx hb d_MO_updateArray_6 hl (by decide) rfl (fun ls hl => ?_)
      refine lv_iload hx hb d_MO_updateArray_8 (lv_at hl 0 rfl) ?_
      refine lv_if_ge (tgt := 16) hx hb d_MO_updateArray_10 (by decide) (fun c10 => ?_) (fun c10 => ?_)
      ·
        refine lv_iload hx hb d_MO_updateArray_16 (lv_at hl 5 rfl) ?_
        refine lv_iconst (v := nI 1) hx hb d_MO_updateArray_18 (by decide) ?_
        refine lv_icmp_ne (tgt := 27) hx hb d_MO_updateArray_19 (by decide) (fun c19 => ?_) (fun c19 => ?_)
        ·
          refine lv_aload_n hx hb d_MO_updateArray_27 rfl (lv_at hl 1 rfl) ?_
          refine lv_iload_n hx hb d_MO_updateArray_28 rfl (lv_at hl 2 rfl) ?_
          refine lv_iload hx hb d_MO_updateArray_29 (lv_at hl 0 rfl) ?_
          refine lv_iload_n hx hb d_MO_updateArray_31 rfl (lv_at hl 4 rfl) ?_
          refine mw_call (rest := []) K hSy hP0 hI (c_MO_write l D dA hw hR hW hi (Or.inl hk) hlt hv0) (mx_invV hx hown (hts _ tw_760) (hts _ tw_762) (hts _ tw_15) (hts _ tw_763) (by decide) (b := y) (mw_rc K hI hw.o rfl) (g := F0 m 32 ls [.int (nI v), .int (nI e0), .int (nI i), .ref y]) rfl (argsL := [.int (nI i), .int (nI e0), .int (nI v)]) (rest := []) np_MO_write rfl (by rw [hb]; exact d_MO_updateArray_32)) hl.1 d_MO_updateArray_32 ⟨Nat.le_of_ble_eq_true rfl, Nat.le_of_ble_eq_true rfl⟩ (Or.inl ⟨_, _, List.mem_cons_self⟩) (mk_ws tw_763 hts) (fun a9 U9 h9 => Ts_warm hts _ tw_23 a9 U9 h9) ⟨Nat.le_of_ble_eq_true rfl, Nat.le_of_ble_eq_true rfl⟩ (fun v w' H locs hq hI => ?_) (fun k x w' H locs hq hI hX => ?_)
          · obtain ⟨hq1, hF2, fi', hw, hR⟩ := hq
            cases hq1
            refine W.eq (g2 := F0 m 35 ls [.int (nI 0)]) rfl ?_
            refine mw_iret K hI hr hlk ?_ d_MO_updateArray_35
            rw [hsp, if_neg c19]
            exact ⟨_, rfl, rfl, hF.trans hF2, A, fe, fk, ec, kc, fi', fl, hw, hR⟩
          · exact absurd hq.1 (by simp)
        ·
          refine lv_bipush (v := (-17)) hx hb d_MO_updateArray_22 (by decide) ?_
          refine lv_goto (tgt := 35) hx hb d_MO_updateArray_24 (by decide) ?_
          refine mw_iret K hI hr hlk ?_ d_MO_updateArray_35
          rw [hsp, if_pos c19]
          exact ⟨_, rfl, rfl, hF, A, fe, fk, ec, kc, fi, fl, hw, hR⟩
      ·
        exact absurd (nI_pos' (by omega)) c10
  · exact absurd hq.1 (by simp)
set_option maxRecDepth 100000 in
set_option maxHeartbeats 4000000 in
theorem c_MO_updateTable (l : Launch) (D : va_G) (dA : Nat → ClassId) {w : mw_W} {own : as_W} {y t : Nat} {A : Nat → Nat} {cd : Int32} {fe fk : Nat → Nat} {ec kc : Nat} {fi : Nat → Nat → Int32} {fl : Nat → Nat → Int64} {S : as_S} (hw : mo_W dA w own y A cd (nI (gv S)) (nI (nm S)) (nI ec) (nI kc) (nI 0) fi fl) (hR : mo_R fe fk ec kc fi fl S) (hW : wf_S t S) {i : Nat} (hi : i < nm S) (hk : kd (mm S i) = 1) {k v : Nat} (hk0 : k + ks (mm S i) ≤ 512) (hv0 : v + vs (mm S i) ≤ 512) (f : Int32) : CT l D dA y_MO_updateTable (Cond.code y_MO_updateTable b_MO_updateTable 7 (some .int) :: Ts) 3 90 0 0 [.ref y, .int (nI i), .int (nI k), .int (nI v), .int f] w (MC dA w own y cd (sp_core S i k v f)) := by
  refine mw_meth (by decide) mk_tb (Nat.le_of_ble_eq_true rfl) ?_
  intro p e s m below meth c K hr hlk hce hnm hP0 hSy ls hl
  have hl : lv_has ls 7 [(0, .ref y), (1, .int (nI i)), (2, .int (nI k)), (3, .int (nI v)), (4, .int f)] := hl
  obtain ⟨hx, hb, hml, hown, hts, hK, hTb⟩ := id K
  have hI := mw_I.start hP0
  have h64 := hW.1
  have hwf := hW.2.2.2.2.2 i hi
  obtain ⟨b1, b2, b3, b4, b5, b6, b7, b8⟩ := wf_E hwf (Or.inr hk)
  obtain ⟨hec, hkc⟩ := mo_ec hR hW
  have hF := FrM.rf w own
  refine lv_aload_n hx hb d_MO_updateTable_0 rfl (lv_at hl 0 rfl) ?_
  refine lv_iload_n hx hb d_MO_updateTable_1 rfl (lv_at hl 1 rfl) ?_
  refine lv_iload_n hx hb d_MO_updateTable_2 rfl (lv_at hl 2 rfl) ?_
  refine mw_call (rest := []) K hSy hP0 hI (c_MO_entryOf l D dA hw hR hW hi hk (q := k) hk0) (mx_invV hx hown (hts _ tw_740) (hts _ tw_742) (hts _ tw_11) (hts _ tw_743) (by decide) (b := y) (mw_rc K hI hw.o rfl) (g := F0 m 3 ls [.int (nI k), .int (nI i), .ref y]) rfl (argsL := [.int (nI i), .int (nI k)]) (rest := []) np_MO_entryOf rfl (by rw [hb]; exact d_MO_updateTable_3)) hl.1 d_MO_updateTable_3 ⟨Nat.le_of_ble_eq_true rfl, Nat.le_of_ble_eq_true rfl⟩ (Or.inl ⟨_, _, List.mem_cons_self⟩) (mk_ws tw_743 hts) (fun a9 U9 h9 => Ts_warm hts _ tw_23 a9 U9 h9) ⟨Nat.le_of_ble_eq_true rfl, Nat.le_of_ble_eq_true rfl⟩ (fun v w' H locs hq hI => ?_) (fun k x w' H locs hq hI hX => ?_)
  · obtain ⟨hq1, hF2, hw⟩ := hq
    cases hq1
    have hF := hF.trans hF2
    rw [← ent_1 _ hk]
    refine W.eq (g2 := F0 m 6 ls [.int (oI (ent S i k))]) rfl ?_
    obtain ⟨n1, n2, n3, n4, n5⟩ := lk_nm S i k
    have hW2 := hW.ofL (q := k) hi
    have hR2 := hR.ofL i k
    have hi2 : i < nm (lk S i k) := by rw [n1]; exact hi
    have hk2 : kd (mm (lk S i k) i) = 1 := by show (mm (lk S i k) i).1.1 = _; rw [(n5 i).1]; exact hk
    have s1 : ks (mm (lk S i k) i) = ks (mm S i) := by show (mm (lk S i k) i).1.2.1 = _; rw [(n5 i).1]
    have s2 : vs (mm (lk S i k) i) = vs (mm S i) := by show (mm (lk S i k) i).1.2.2.1 = _; rw [(n5 i).1]
    have s3 : en (mm (lk S i k) i) = en (mm S i) := by show (mm (lk S i k) i).1.2.2.2.1 = _; rw [(n5 i).1]
    have s4 : aq (mm (lk S i k) i) = kyL (dk S) k (ks (mm S i)) := by rw [lk_1 k hk, S_mm_self]; rfl
    have hw : mo_W dA w' own y A cd (nI (gv (lk S i k))) (nI (nm (lk S i k))) (nI ec) (nI kc) (nI 0) fi fl := by rw [n4, n1]; exact hw
    obtain ⟨⟨z1, z2, z3, z4, z5⟩, -⟩ := hR2.2.2.1 i hi2
    obtain ⟨t1, t2, t3, t4, t5, t6⟩ := hR2.2.2.2.2.1 i hi2 hk2
    have r2 : fi 3 i = nI (ks (mm S i)) := by rw [z2, s1]
    have r4 : fi 5 i = nI (en (mm S i)) := by rw [z4, s3]
    rw [s3] at t3 t5
    rw [s1, s3] at t4
    cases he : ent S i k with
    | some e0 =>
      have hlt := ent_lt he
      have hsp : sp_core S i k v f = if f = nI 1 then (lk S i k, .inl (-17)) else (wrE (lk S i k) i e0 v, .inl (nI 0)) := by
        unfold sp_core
        rw [he]
      refine mw_ti (y := nI e0) (rfl) ?_
      refine lv_istore (lv' := [(5, .int (nI e0)), (0, .ref y), (1, .int (nI i)), (2, .int (nI k)), (3, .int (nI v)), (4, .int f)]) hx hb d_MO_updateTable_6 hl (by decide) rfl (fun ls hl => ?_)
      refine lv_iload hx hb d_MO_updateTable_8 (lv_at hl 0 rfl) ?_
      refine lv_if_lt (tgt := 33) hx hb d_MO_updateTable_10 (by decide) (fun c10 => ?_) (fun c10 => ?_)
      ·
        exact absurd c10 (nI_pos (by omega))
      ·
        refine lv_iload hx hb d_MO_updateTable_13 (lv_at hl 5 rfl) ?_
        refine lv_iconst (v := nI 1) hx hb d_MO_updateTable_15 (by decide) ?_
        refine lv_icmp_ne (tgt := 24) hx hb d_MO_updateTable_16 (by decide) (fun c16 => ?_) (fun c16 => ?_)
        ·
          refine lv_aload_n hx hb d_MO_updateTable_24 rfl (lv_at hl 1 rfl) ?_
          refine lv_iload_n hx hb d_MO_updateTable_25 rfl (lv_at hl 2 rfl) ?_
          refine lv_iload hx hb d_MO_updateTable_26 (lv_at hl 0 rfl) ?_
          refine lv_iload_n hx hb d_MO_updateTable_28 rfl (lv_at hl 4 rfl) ?_
          refine mw_call (rest := []) K hSy hP0 hI (c_MO_write l D dA hw hR2 hW2 hi2 (Or.inr hk2) (e0 := e0) (v := v) (by omega) (by omega)) (mx_invV hx hown (hts _ tw_760) (hts _ tw_762) (hts _ tw_15) (hts _ tw_763) (by decide) (b := y) (mw_rc K hI hw.o rfl) (g := F0 m 29 ls [.int (nI v), .int (nI e0), .int (nI i), .ref y]) rfl (argsL := [.int (nI i), .int (nI e0), .int (nI v)]) (rest := []) np_MO_write rfl (by rw [hb]; exact d_MO_updateTable_29)) hl.1 d_MO_updateTable_29 ⟨Nat.le_of_ble_eq_true rfl, Nat.le_of_ble_eq_true rfl⟩ (Or.inl ⟨_, _, List.mem_cons_self⟩) (mk_ws tw_763 hts) (fun a9 U9 h9 => Ts_warm hts _ tw_23 a9 U9 h9) ⟨Nat.le_of_ble_eq_true rfl, Nat.le_of_ble_eq_true rfl⟩ (fun v w' H locs hq hI => ?_) (fun k x w' H locs hq hI hX => ?_)
          · obtain ⟨hq1, hF2, fi', hw, hR⟩ := hq
            cases hq1
            refine W.eq (g2 := F0 m 32 ls [.int (nI 0)]) rfl ?_
            refine mw_iret K hI hr hlk ?_ d_MO_updateTable_32
            rw [hsp, if_neg c16]
            exact ⟨_, rfl, rfl, hF.trans hF2, A, fe, fk, ec, kc, fi', fl, hw, hR⟩
          · exact absurd hq.1 (by simp)
        ·
          refine lv_bipush (v := (-17)) hx hb d_MO_updateTable_19 (by decide) ?_
          refine lv_goto (tgt := 32) hx hb d_MO_updateTable_21 (by decide) ?_
          refine mw_iret K hI hr hlk ?_ d_MO_updateTable_32
          rw [hsp, if_pos c16]
          exact ⟨_, rfl, rfl, hF, A, fe, fk, ec, kc, fi, fl, hw, hR2⟩
    | none =>
      have hno := fnd_lk he hk2
      have hsp : sp_core S i k v f = if (sp_miss (lk S i k) i f).2 < nI 0 then ((sp_miss (lk S i k) i f).1, .inl (sp_miss (lk S i k) i f).2) else (wrE (sp_miss (lk S i k) i f).1 i (sp_miss (lk S i k) i f).2.toNatClampNeg v, .inl (nI 0)) := by
        unfold sp_core
        rw [he]
      have hms : sp_miss (lk S i k) i f = if f = nI 2 then (lk S i k, -2) else match freeE (mm (lk S i k) i) with | none => (lk S i k, -7) | some e => (gvE (lk S i k) i e, nI e) := if_neg (by rw [hk2]; decide)
      refine mw_ti (y := (-1)) (rfl) ?_
      refine lv_istore (lv' := [(5, .int (-1)), (0, .ref y), (1, .int (nI i)), (2, .int (nI k)), (3, .int (nI v)), (4, .int f)]) hx hb d_MO_updateTable_6 hl (by decide) rfl (fun ls hl => ?_)
      refine lv_iload hx hb d_MO_updateTable_8 (lv_at hl 0 rfl) ?_
      refine lv_if_lt (tgt := 33) hx hb d_MO_updateTable_10 (by decide) (fun c10 => ?_) (fun c10 => ?_)
      ·
        refine lv_iload hx hb d_MO_updateTable_33 (lv_at hl 5 rfl) ?_
        refine lv_iconst (v := nI 2) hx hb d_MO_updateTable_35 (by decide) ?_
        refine lv_icmp_ne (tgt := 42) hx hb d_MO_updateTable_36 (by decide) (fun c36 => ?_) (fun c36 => ?_)
        ·
          rw [if_neg c36] at hms
          have hdk2 : dk (lk S i k) = dk S := n2
          generalize hS2 : lk S i k = S2 at *
          have fin : ∀ (j : Nat), j ≤ en (mm S i) → (∀ e, e < j → (tb (mm S2 i) e).isNone = false) → (j < en (mm S i) → tb (mm S2 i) j = none) → ∀ (H : Heap) (locs : List Loc), mw_I D mk_cl w s.heap w' H locs → ∀ ls : Array Slot, lv_has ls 7 [(5, .int (nI j)), (0, .ref y), (1, .int (nI i)), (2, .int (nI k)), (3, .int (nI v))] → W p l e { frames := 3, cells := 0, slots := 0, locals := 90 } s m ([.ref y, .int (nI i), .int (nI k), .int (nI v), .int f] : List Value).toArray below meth c H locs 0 0 (mx_Q below (mw_Qc D mk_cl w s.heap.size (MC dA w own y cd (sp_core S i k v f))) ([.ref y, .int (nI i), .int (nI k), .int (nI v), .int f] : List Value).toArray s 0 0 (mw_A w s.heap.size)) (F0 m 79 ls []) := by
            intro j hj hlo hfree H locs hI ls hl
            refine lv_iload hx hb d_MO_updateTable_79 (lv_at hl 0 rfl) ?_
            refine lv_aload_n hx hb d_MO_updateTable_81 rfl (lv_at hl 1 rfl) ?_
            refine mw_get K hI gf_MO_27_cMO hw.o rfl d_MO_updateTable_82 ?_
            refine lv_iload_n hx hb d_MO_updateTable_85 rfl (lv_at hl 2 rfl) ?_
            refine mw_iald K hI tI hw.a5 rfl i rfl (by first | assumption | omega) (by omega) d_MO_updateTable_86 ?_
            refine mw_ti (y := nI (en (mm S i))) (r4) ?_
            refine lv_icmp_ne (tgt := 93) hx hb d_MO_updateTable_87 (by decide) (fun c87 => ?_) (fun c87 => ?_)
            ·
              have hjl : j < en (mm S i) := by
                rcases Nat.lt_or_ge j (en (mm S i)) with h | h
                · exact h
                · exact absurd (by rw [show j = en (mm S i) by omega]) c87
              have hfr : freeE (mm S2 i) = some j := lst_some (by rw [hfree hjl]; rfl) hlo (by rw [s3]; exact hjl)
              rw [hfr] at hms
              have hms : sp_miss S2 i f = (gvE S2 i j, nI j) := hms
              rw [hms, if_neg (nI_nlt (by omega) (by omega)), nI_clamp (by omega)] at hsp
              have hW3 := hW2.ofG hi2 hk2 hno (e := j) (by rw [s3]; exact hjl)
              have hmu := mul_in (k := ks (mm S i)) hjl
              obtain ⟨base, ebase⟩ : ∃ base, base = fk i + j * ks (mm S i) := ⟨_, rfl⟩
              have hkl : ∀ (n9 z : Nat), z + n9 = ks (mm S i) → ∀ (w1 : mw_W) (fi1 : Nat → Nat → Int32), FrM w own w1 → mo_W dA w1 own y A cd (nI (gv S2)) (nI (nm S2)) (nI ec) (nI kc) (nI 0) fi1 fl → (∀ p, fi1 9 p = if p = fe i + j then nI 1 else fi 9 p) → (∀ p, fi1 10 p = if base ≤ p ∧ p < base + z then sB (dk S (k + (p - base))) else fi 10 p) → (∀ a, a ≠ 9 → a ≠ 10 → fi1 a = fi a) → ∀ (H : Heap) (locs : List Loc), mw_I D mk_cl w s.heap w1 H locs → ∀ ls : Array Slot, lv_has ls 7 [(6, .int (nI z)), (5, .int (nI j)), (0, .ref y), (1, .int (nI i)), (2, .int (nI k)), (3, .int (nI v))] → W p l e { frames := 3, cells := 0, slots := 0, locals := 90 } s m ([.ref y, .int (nI i), .int (nI k), .int (nI v), .int f] : List Value).toArray below meth c H locs 0 0 (mx_Q below (mw_Qc D mk_cl w s.heap.size (MC dA w own y cd (sp_core S i k v f))) ([.ref y, .int (nI i), .int (nI k), .int (nI v), .int f] : List Value).toArray s 0 0 (mw_A w s.heap.size)) (F0 m 111 ls []) := by
                intro n9
                induction n9 with
                | zero =>
                  intro z hz w1 fi1 hF hw g9 g10 go H locs hI ls hl
                  have q2 : fi1 3 i = nI (ks (mm S i)) := by rw [go 3 (by decide) (by decide)]; exact r2
                  have hR3 : mo_R fe fk ec kc fi1 fl (gvE S2 i j) := by
                    refine hR2.tab hi2 hk2 (by rw [s3]; exact hjl) (fun p => g9 p) (fun p hp => ?_) (fun ky hky z2 hz2 => ?_) go
                    · rw [s1] at hp
                      rw [g10, if_neg (by omega)]
                    · cases hky
                      rw [s1] at hz2
                      rw [s4, kyL_get _ _ _ hz2, g10, s1, ← ebase, if_pos (by omega), Nat.add_sub_cancel_left]
                      exact ⟨rfl, hW.2.2.2.1 _⟩
                  have hi3 : i < nm (gvE S2 i j) := hi2
                  have h31 : (mm (gvE S2 i j) i).1 = (mm S2 i).1 := by unfold gvE; rw [S_mm_self]; rfl
                  have s1' : vs (mm (gvE S2 i j) i) = vs (mm S i) := by show (mm (gvE S2 i j) i).1.2.2.1 = _; rw [h31]; exact s2
                  have s3' : en (mm (gvE S2 i j) i) = en (mm S i) := by show (mm (gvE S2 i j) i).1.2.2.2.1 = _; rw [h31]; exact s3
                  refine lv_iload hx hb d_MO_updateTable_111 (lv_at hl 0 rfl) ?_
                  refine lv_aload_n hx hb d_MO_updateTable_113 rfl (lv_at hl 2 rfl) ?_
                  refine mw_get K hI gf_MO_21_cMO hw.o rfl d_MO_updateTable_114 ?_
                  refine lv_iload_n hx hb d_MO_updateTable_117 rfl (lv_at hl 3 rfl) ?_
                  refine mw_iald K hI tI hw.a3 rfl i rfl (by first | assumption | omega) (by omega) d_MO_updateTable_118 ?_
                  refine mw_ti (y := nI (ks (mm S i))) (q2) ?_
                  refine lv_icmp_ge (tgt := 161) hx hb d_MO_updateTable_119 (by decide) (fun c119 => ?_) (fun c119 => ?_)
                  ·
                    refine lv_aload_n hx hb d_MO_updateTable_161 rfl (lv_at hl 2 rfl) ?_
                    refine lv_iload_n hx hb d_MO_updateTable_162 rfl (lv_at hl 3 rfl) ?_
                    refine lv_iload hx hb d_MO_updateTable_163 (lv_at hl 1 rfl) ?_
                    refine lv_iload_n hx hb d_MO_updateTable_165 rfl (lv_at hl 5 rfl) ?_
                    refine mw_call (rest := []) K hSy hP0 hI (c_MO_write l D dA (S := gvE S2 i j) hw hR3 hW3 hi3 (Or.inr (by show (mm (gvE S2 i j) i).1.1 = 1; rw [h31]; exact hk2)) (e0 := j) (v := v) (by omega) (by omega)) (mx_invV hx hown (hts _ tw_760) (hts _ tw_762) (hts _ tw_15) (hts _ tw_763) (by decide) (b := y) (mw_rc K hI hw.o rfl) (g := F0 m 166 ls [.int (nI v), .int (nI j), .int (nI i), .ref y]) rfl (argsL := [.int (nI i), .int (nI j), .int (nI v)]) (rest := []) np_MO_write rfl (by rw [hb]; exact d_MO_updateTable_166)) hl.1 d_MO_updateTable_166 ⟨Nat.le_of_ble_eq_true rfl, Nat.le_of_ble_eq_true rfl⟩ (Or.inl ⟨_, _, List.mem_cons_self⟩) (mk_ws tw_763 hts) (fun a9 U9 h9 => Ts_warm hts _ tw_23 a9 U9 h9) ⟨Nat.le_of_ble_eq_true rfl, Nat.le_of_ble_eq_true rfl⟩ (fun v w' H locs hq hI => ?_) (fun k x w' H locs hq hI hX => ?_)
                    · obtain ⟨hq1, hF2, fi', hw, hR⟩ := hq
                      cases hq1
                      refine W.eq (g2 := F0 m 169 ls [.int (nI 0)]) rfl ?_
                      refine mw_iret K hI hr hlk ?_ d_MO_updateTable_169
                      rw [hsp]
                      exact ⟨_, rfl, rfl, hF.trans hF2, A, fe, fk, ec, kc, fi', fl, hw, hR⟩
                    · exact absurd hq.1 (by simp)
                  ·
                    exact absurd (nI_le (by omega) (by omega)) c119
                | succ n9 ih =>
                  intro z hz w1 fi1 hF hw g9 g10 go H locs hI ls hl
                  have q2 : fi1 3 i = nI (ks (mm S i)) := by rw [go 3 (by decide) (by decide)]; exact r2
                  have q8 : fi1 8 i = nI (fk i) := by rw [go 8 (by decide) (by decide)]; exact t2
                  have q0 : fi1 0 (k + z) = sB (dk S (k + z)) := by rw [go 0 (by decide) (by decide)]; exact hR.1 _ (by omega)
                  refine lv_iload hx hb d_MO_updateTable_111 (lv_at hl 0 rfl) ?_
                  refine lv_aload_n hx hb d_MO_updateTable_113 rfl (lv_at hl 2 rfl) ?_
                  refine mw_get K hI gf_MO_21_cMO hw.o rfl d_MO_updateTable_114 ?_
                  refine lv_iload_n hx hb d_MO_updateTable_117 rfl (lv_at hl 3 rfl) ?_
                  refine mw_iald K hI tI hw.a3 rfl i rfl (by first | assumption | omega) (by omega) d_MO_updateTable_118 ?_
                  refine mw_ti (y := nI (ks (mm S i))) (q2) ?_
                  refine lv_icmp_ge (tgt := 161) hx hb d_MO_updateTable_119 (by decide) (fun c119 => ?_) (fun c119 => ?_)
                  ·
                    exact absurd c119 (nI_ge (by omega) (by omega))
                  ·
                    refine lv_aload_n hx hb d_MO_updateTable_122 rfl (lv_at hl 2 rfl) ?_
                    refine mw_get K hI gf_MO_44_cMO hw.o rfl d_MO_updateTable_123 ?_
                    refine lv_aload_n hx hb d_MO_updateTable_126 rfl (lv_at hl 2 rfl) ?_
                    refine mw_get K hI gf_MO_36_cMO hw.o rfl d_MO_updateTable_127 ?_
                    refine lv_iload_n hx hb d_MO_updateTable_130 rfl (lv_at hl 3 rfl) ?_
                    refine mw_iald K hI tI hw.a8 rfl i rfl (by first | assumption | omega) (by omega) d_MO_updateTable_131 ?_
                    refine mw_ti (y := nI (fk i)) (q8) ?_
                    refine lv_iload hx hb d_MO_updateTable_132 (lv_at hl 1 rfl) ?_
                    refine lv_aload_n hx hb d_MO_updateTable_134 rfl (lv_at hl 2 rfl) ?_
                    refine mw_get K hI gf_MO_21_cMO hw.o rfl d_MO_updateTable_135 ?_
                    refine lv_iload_n hx hb d_MO_updateTable_138 rfl (lv_at hl 3 rfl) ?_
                    refine mw_iald K hI tI hw.a3 rfl i rfl (by first | assumption | omega) (by omega) d_MO_updateTable_139 ?_
                    refine mw_ti (y := nI (ks (mm S i))) (q2) ?_
                    refine lv_imul hx hb d_MO_updateTable_140 ?_
                    refine mw_ti (pk_mul _ _) ?_
                    refine lv_iadd hx hb d_MO_updateTable_141 ?_
                    refine mw_ti (nI_add _ _) ?_
                    refine lv_iload hx hb d_MO_updateTable_142 (lv_at hl 0 rfl) ?_
                    refine lv_iadd hx hb d_MO_updateTable_144 ?_
                    refine mw_ti (nI_add _ _) ?_
                    refine lv_aload_n hx hb d_MO_updateTable_145 rfl (lv_at hl 2 rfl) ?_
                    refine mw_get K hI gf_MO_7_cMO hw.o rfl d_MO_updateTable_146 ?_
                    refine lv_iload_n hx hb d_MO_updateTable_149 rfl (lv_at hl 4 rfl) ?_
                    refine lv_iload hx hb d_MO_updateTable_150 (lv_at hl 0 rfl) ?_
                    refine lv_iadd hx hb d_MO_updateTable_152 ?_
                    refine mw_ti (nI_add _ _) ?_
                    refine mw_bald K hI tB hw.a0 rfl (k + z) rfl (by first | assumption | omega) (by omega) d_MO_updateTable_153 ?_
                    refine mw_ti (y := sB (dk S (k + z))) (q0) ?_
                    refine mw_bast K hI tB hw.a10 rfl (fk i + j * ks (mm S i) + z) rfl (by first | assumption | omega) (by omega) d_MO_updateTable_154 (fun H locs hI => ?_)
                    obtain ⟨wn1, fn1, hI, hF, hw, hfn1⟩ := hw.seti (f := upd (fi1 10) (fk i + j * ks (mm S i) + z) (vp_nar .byte (sB (dk S (k + z))))) 10 (by decide) hI hF rfl
                    refine lv_iinc (v := nI (z + 1)) (lv' := [(6, .int (nI (z + 1))), (5, .int (nI j)), (0, .ref y), (1, .int (nI i)), (2, .int (nI k)), (3, .int (nI v))]) hx hb d_MO_updateTable_155 hl (k := 0) rfl (nI_add _ _) (by decide) rfl (fun ls hl => ?_)
                    refine lv_goto (tgt := 111) hx hb d_MO_updateTable_158 (by decide) ?_
                    refine ih (z + 1) (by omega) _ _ hF hw (fun p => ?_) (fun p => ?_) (fun a ha9 ha10 => ?_) H locs hI ls (lv_sub hl [0, 1, 2, 3, 4, 5] rfl)
                    · rw [hfn1, va_up_ne _ _ (by decide)]; exact g9 p
                    · rw [hfn1, va_up_self, sB_nar (hW.2.2.2.1 _)]
                      show (if p = fk i + j * ks (mm S i) + z then sB (dk S (k + z)) else fi1 10 p) = _
                      rw [← ebase]
                      by_cases e : p = base + z
                      · rw [if_pos e, if_pos (by omega), e, Nat.add_sub_cancel_left]
                      · rw [if_neg e, g10 p]
                        by_cases e2 : base ≤ p ∧ p < base + z
                        · rw [if_pos e2, if_pos (by omega)]
                        · rw [if_neg e2, if_neg (by omega)]
                    · rw [hfn1, va_up_ne _ _ ha10]; exact go a ha9 ha10
              refine lv_aload_n hx hb d_MO_updateTable_93 rfl (lv_at hl 1 rfl) ?_
              refine mw_get K hI gf_MO_39_cMO hw.o rfl d_MO_updateTable_94 ?_
              refine lv_aload_n hx hb d_MO_updateTable_97 rfl (lv_at hl 1 rfl) ?_
              refine mw_get K hI gf_MO_33_cMO hw.o rfl d_MO_updateTable_98 ?_
              refine lv_iload_n hx hb d_MO_updateTable_101 rfl (lv_at hl 2 rfl) ?_
              refine mw_iald K hI tI hw.a7 rfl i rfl (by first | assumption | omega) (by omega) d_MO_updateTable_102 ?_
              refine mw_ti (y := nI (fe i)) (t1) ?_
              refine lv_iload hx hb d_MO_updateTable_103 (lv_at hl 0 rfl) ?_
              refine lv_iadd hx hb d_MO_updateTable_105 ?_
              refine mw_ti (nI_add _ _) ?_
              refine lv_iconst (v := nI 1) hx hb d_MO_updateTable_106 (by decide) ?_
              refine mw_zast K hI tZ hw.a9 rfl (fe i + j) rfl (by first | assumption | omega) (by omega) d_MO_updateTable_107 (fun H locs hI => ?_)
              obtain ⟨wn2, fn2, hI, hF, hw, hfn2⟩ := hw.seti (f := upd (fi 9) (fe i + j) (vp_nar .boolean (nI 1))) 9 (by decide) hI hF rfl
              refine lv_iconst (v := nI 0) hx hb d_MO_updateTable_108 (by decide) ?_
              refine lv_istore (lv' := [(6, .int (nI 0)), (5, .int (nI j)), (0, .ref y), (1, .int (nI i)), (2, .int (nI k)), (3, .int (nI v))]) hx hb d_MO_updateTable_109 hl (by decide) rfl (fun ls hl => ?_)
              refine hkl (ks (mm S i)) 0 (by omega) _ _ hF hw (fun p => ?_) (fun p => ?_) (fun a ha9 _ => ?_) H locs hI ls (lv_sub hl [0, 1, 2, 3, 4, 5] rfl)
              · rw [hfn2, va_up_self]; rfl
              · rw [hfn2, va_up_ne _ _ (by decide), if_neg (by omega)]
              · rw [hfn2, va_up_ne _ _ ha9]
            ·
              have hje : j = en (mm S i) := (nI_eq (by omega) (by omega)).mp c87
              have hfr : freeE (mm S2 i) = none := lst_none (fun e he => hlo e (by rw [s3] at he; omega))
              rw [hfr] at hms
              have hms : sp_miss S2 i f = (S2, -7) := hms
              rw [hms, if_pos (show (-7 : Int32) < nI 0 by decide)] at hsp
              refine lv_bipush (v := (-7)) hx hb d_MO_updateTable_90 (by decide) ?_
              refine mw_iret K hI hr hlk ?_ d_MO_updateTable_92
              rw [hsp]
              exact ⟨_, rfl, rfl, hF, A, fe, fk, ec, kc, fi, fl, hw, hR2⟩
          have hloop : ∀ (n9 j : Nat), j + n9 = en (mm S i) → (∀ e, e < j → (tb (mm S2 i) e).isNone = false) → ∀ (H : Heap) (locs : List Loc), mw_I D mk_cl w s.heap w' H locs → ∀ ls : Array Slot, lv_has ls 7 [(5, .int (nI j)), (0, .ref y), (1, .int (nI i)), (2, .int (nI k)), (3, .int (nI v))] → W p l e { frames := 3, cells := 0, slots := 0, locals := 90 } s m ([.ref y, .int (nI i), .int (nI k), .int (nI v), .int f] : List Value).toArray below meth c H locs 0 0 (mx_Q below (mw_Qc D mk_cl w s.heap.size (MC dA w own y cd (sp_core S i k v f))) ([.ref y, .int (nI i), .int (nI k), .int (nI v), .int f] : List Value).toArray s 0 0 (mw_A w s.heap.size)) (F0 m 45 ls []) := by
            intro n9
            induction n9 with
            | zero =>
              intro j hj hlo H locs hI ls hl
              refine lv_iload hx hb d_MO_updateTable_45 (lv_at hl 0 rfl) ?_
              refine lv_aload_n hx hb d_MO_updateTable_47 rfl (lv_at hl 1 rfl) ?_
              refine mw_get K hI gf_MO_27_cMO hw.o rfl d_MO_updateTable_48 ?_
              refine lv_iload_n hx hb d_MO_updateTable_51 rfl (lv_at hl 2 rfl) ?_
              refine mw_iald K hI tI hw.a5 rfl i rfl (by first | assumption | omega) (by omega) d_MO_updateTable_52 ?_
              refine mw_ti (y := nI (en (mm S i))) (r4) ?_
              refine lv_icmp_ge (tgt := 79) hx hb d_MO_updateTable_53 (by decide) (fun c53 => ?_) (fun c53 => ?_)
              ·
                exact fin j (by omega) hlo (fun h => absurd h (by omega)) H locs hI ls hl
              ·
                exact absurd (nI_le (by omega) (by omega)) c53
            | succ n9 ih =>
              intro j hj hlo H locs hI ls hl
              have t5j := t5 j (by omega)
              refine lv_iload hx hb d_MO_updateTable_45 (lv_at hl 0 rfl) ?_
              refine lv_aload_n hx hb d_MO_updateTable_47 rfl (lv_at hl 1 rfl) ?_
              refine mw_get K hI gf_MO_27_cMO hw.o rfl d_MO_updateTable_48 ?_
              refine lv_iload_n hx hb d_MO_updateTable_51 rfl (lv_at hl 2 rfl) ?_
              refine mw_iald K hI tI hw.a5 rfl i rfl (by first | assumption | omega) (by omega) d_MO_updateTable_52 ?_
              refine mw_ti (y := nI (en (mm S i))) (r4) ?_
              refine lv_icmp_ge (tgt := 79) hx hb d_MO_updateTable_53 (by decide) (fun c53 => ?_) (fun c53 => ?_)
              ·
                exact absurd c53 (nI_ge (by omega) (by omega))
              ·
                refine lv_aload_n hx hb d_MO_updateTable_56 rfl (lv_at hl 1 rfl) ?_
                refine mw_get K hI gf_MO_39_cMO hw.o rfl d_MO_updateTable_57 ?_
                refine lv_aload_n hx hb d_MO_updateTable_60 rfl (lv_at hl 1 rfl) ?_
                refine mw_get K hI gf_MO_33_cMO hw.o rfl d_MO_updateTable_61 ?_
                refine lv_iload_n hx hb d_MO_updateTable_64 rfl (lv_at hl 2 rfl) ?_
                refine mw_iald K hI tI hw.a7 rfl i rfl (by first | assumption | omega) (by omega) d_MO_updateTable_65 ?_
                refine mw_ti (y := nI (fe i)) (t1) ?_
                refine lv_iload hx hb d_MO_updateTable_66 (lv_at hl 0 rfl) ?_
                refine lv_iadd hx hb d_MO_updateTable_68 ?_
                refine mw_ti (nI_add _ _) ?_
                refine mw_zald K hI tZ hw.a9 rfl ((fe i) + j) rfl (by first | assumption | omega) (by omega) d_MO_updateTable_69 ?_
                cases ht : tb (mm S2 i) j with
                | none =>
                  refine mw_ti (y := nI 0) ((by rw [t5j, ht]; rfl)) ?_
                  refine lv_if_eq (tgt := 79) hx hb d_MO_updateTable_70 (by decide) (fun c70 => ?_) (fun c70 => ?_)
                  ·
                    exact fin j (by omega) hlo (fun _ => ht) H locs hI ls hl
                  ·
                    exact absurd (by decide) c70
                | some ky =>
                  refine mw_ti (y := nI 1) ((by rw [t5j, ht]; rfl)) ?_
                  refine lv_if_eq (tgt := 79) hx hb d_MO_updateTable_70 (by decide) (fun c70 => ?_) (fun c70 => ?_)
                  ·
                    exact absurd c70 (by decide)
                  ·
                    refine lv_iinc (v := nI (j + 1)) (lv' := [(5, .int (nI (j + 1))), (0, .ref y), (1, .int (nI i)), (2, .int (nI k)), (3, .int (nI v))]) hx hb d_MO_updateTable_73 hl (k := 0) rfl (nI_add _ _) (by decide) rfl (fun ls hl => ?_)
                    refine lv_goto (tgt := 45) hx hb d_MO_updateTable_76 (by decide) ?_
                    exact ih (j + 1) (by omega) (lt_s hlo (by rw [ht]; rfl)) H locs hI ls (lv_sub hl [0, 1, 2, 3, 4] rfl)
          refine lv_iconst (v := nI 0) hx hb d_MO_updateTable_42 (by decide) ?_
          refine lv_istore (lv' := [(5, .int (nI 0)), (0, .ref y), (1, .int (nI i)), (2, .int (nI k)), (3, .int (nI v)), (4, .int f)]) hx hb d_MO_updateTable_43 hl (by decide) rfl (fun ls hl => ?_)
          exact hloop (en (mm S i)) 0 (by omega) lt_0 H locs hI ls (lv_sub hl [0, 1, 2, 3, 4] rfl)
        ·
          rw [if_pos c36] at hms
          rw [hms, if_pos (show (-2 : Int32) < nI 0 by decide)] at hsp
          refine lv_bipush (v := (-2)) hx hb d_MO_updateTable_39 (by decide) ?_
          refine mw_iret K hI hr hlk ?_ d_MO_updateTable_41
          rw [hsp]
          exact ⟨_, rfl, rfl, hF, A, fe, fk, ec, kc, fi, fl, hw, hR2⟩
      ·
        exact absurd (by decide) c10
  · exact absurd hq.1 (by simp)
