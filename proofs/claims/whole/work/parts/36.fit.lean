/-! ### MapStore: sizesFit, breaches -/
theorem d_MS_sizesFit_0 : decode b_MS_sizesFit 0 = .ok (.iload_n 0, 1) := by decide +kernel
theorem d_MS_sizesFit_1 : decode b_MS_sizesFit 1 = .ok (.tableswitch 138 0 2 #[27, 62, 103], 27) := by decide +kernel
theorem d_MS_sizesFit_28 : decode b_MS_sizesFit 28 = .ok (.iload_n 1, 1) := by decide +kernel
theorem d_MS_sizesFit_29 : decode b_MS_sizesFit 29 = .ok (.iconst 4, 1) := by decide +kernel
theorem d_MS_sizesFit_30 : decode b_MS_sizesFit 30 = .ok (.if_icmp .ne 31, 3) := by decide +kernel
theorem d_MS_sizesFit_33 : decode b_MS_sizesFit 33 = .ok (.iload_n 2, 1) := by decide +kernel
theorem d_MS_sizesFit_34 : decode b_MS_sizesFit 34 = .ok (.i2l, 1) := by decide +kernel
theorem d_MS_sizesFit_35 : decode b_MS_sizesFit 35 = .ok (.iconst 1, 1) := by decide +kernel
theorem d_MS_sizesFit_36 : decode b_MS_sizesFit 36 = .ok (.sipush 256, 3) := by decide +kernel
theorem d_MS_sizesFit_39 : decode b_MS_sizesFit 39 = .ok (.invokestatic 128, 3) := by decide +kernel
theorem d_MS_sizesFit_42 : decode b_MS_sizesFit 42 = .ok (.ifCond .eq 19, 3) := by decide +kernel
theorem d_MS_sizesFit_45 : decode b_MS_sizesFit 45 = .ok (.iload_n 3, 1) := by decide +kernel
theorem d_MS_sizesFit_46 : decode b_MS_sizesFit 46 = .ok (.i2l, 1) := by decide +kernel
theorem d_MS_sizesFit_47 : decode b_MS_sizesFit 47 = .ok (.iconst 1, 1) := by decide +kernel
theorem d_MS_sizesFit_48 : decode b_MS_sizesFit 48 = .ok (.sipush 4096, 3) := by decide +kernel
theorem d_MS_sizesFit_51 : decode b_MS_sizesFit 51 = .ok (.invokestatic 128, 3) := by decide +kernel
theorem d_MS_sizesFit_54 : decode b_MS_sizesFit 54 = .ok (.ifCond .eq 7, 3) := by decide +kernel
theorem d_MS_sizesFit_57 : decode b_MS_sizesFit 57 = .ok (.iconst 1, 1) := by decide +kernel
theorem d_MS_sizesFit_58 : decode b_MS_sizesFit 58 = .ok (.goto 4, 3) := by decide +kernel
theorem d_MS_sizesFit_61 : decode b_MS_sizesFit 61 = .ok (.iconst 0, 1) := by decide +kernel
theorem d_MS_sizesFit_62 : decode b_MS_sizesFit 62 = .ok (.ireturn, 1) := by decide +kernel
theorem d_MS_sizesFit_63 : decode b_MS_sizesFit 63 = .ok (.iload_n 1, 1) := by decide +kernel
theorem d_MS_sizesFit_64 : decode b_MS_sizesFit 64 = .ok (.i2l, 1) := by decide +kernel
theorem d_MS_sizesFit_65 : decode b_MS_sizesFit 65 = .ok (.iconst 1, 1) := by decide +kernel
theorem d_MS_sizesFit_66 : decode b_MS_sizesFit 66 = .ok (.bipush 64, 2) := by decide +kernel
theorem d_MS_sizesFit_68 : decode b_MS_sizesFit 68 = .ok (.invokestatic 128, 3) := by decide +kernel
theorem d_MS_sizesFit_71 : decode b_MS_sizesFit 71 = .ok (.ifCond .eq 31, 3) := by decide +kernel
theorem d_MS_sizesFit_74 : decode b_MS_sizesFit 74 = .ok (.iload_n 2, 1) := by decide +kernel
theorem d_MS_sizesFit_75 : decode b_MS_sizesFit 75 = .ok (.i2l, 1) := by decide +kernel
theorem d_MS_sizesFit_76 : decode b_MS_sizesFit 76 = .ok (.iconst 1, 1) := by decide +kernel
theorem d_MS_sizesFit_77 : decode b_MS_sizesFit 77 = .ok (.sipush 256, 3) := by decide +kernel
theorem d_MS_sizesFit_80 : decode b_MS_sizesFit 80 = .ok (.invokestatic 128, 3) := by decide +kernel
theorem d_MS_sizesFit_83 : decode b_MS_sizesFit 83 = .ok (.ifCond .eq 19, 3) := by decide +kernel
theorem d_MS_sizesFit_86 : decode b_MS_sizesFit 86 = .ok (.iload_n 3, 1) := by decide +kernel
theorem d_MS_sizesFit_87 : decode b_MS_sizesFit 87 = .ok (.i2l, 1) := by decide +kernel
theorem d_MS_sizesFit_88 : decode b_MS_sizesFit 88 = .ok (.iconst 1, 1) := by decide +kernel
theorem d_MS_sizesFit_89 : decode b_MS_sizesFit 89 = .ok (.sipush 4096, 3) := by decide +kernel
theorem d_MS_sizesFit_92 : decode b_MS_sizesFit 92 = .ok (.invokestatic 128, 3) := by decide +kernel
theorem d_MS_sizesFit_95 : decode b_MS_sizesFit 95 = .ok (.ifCond .eq 7, 3) := by decide +kernel
theorem d_MS_sizesFit_98 : decode b_MS_sizesFit 98 = .ok (.iconst 1, 1) := by decide +kernel
theorem d_MS_sizesFit_99 : decode b_MS_sizesFit 99 = .ok (.goto 4, 3) := by decide +kernel
theorem d_MS_sizesFit_102 : decode b_MS_sizesFit 102 = .ok (.iconst 0, 1) := by decide +kernel
theorem d_MS_sizesFit_103 : decode b_MS_sizesFit 103 = .ok (.ireturn, 1) := by decide +kernel
theorem d_MS_sizesFit_104 : decode b_MS_sizesFit 104 = .ok (.iload_n 1, 1) := by decide +kernel
theorem d_MS_sizesFit_105 : decode b_MS_sizesFit 105 = .ok (.ifCond .ne 32, 3) := by decide +kernel
theorem d_MS_sizesFit_108 : decode b_MS_sizesFit 108 = .ok (.iload_n 2, 1) := by decide +kernel
theorem d_MS_sizesFit_109 : decode b_MS_sizesFit 109 = .ok (.ifCond .ne 28, 3) := by decide +kernel
theorem d_MS_sizesFit_112 : decode b_MS_sizesFit 112 = .ok (.iload_n 3, 1) := by decide +kernel
theorem d_MS_sizesFit_113 : decode b_MS_sizesFit 113 = .ok (.i2l, 1) := by decide +kernel
theorem d_MS_sizesFit_114 : decode b_MS_sizesFit 114 = .ok (.bipush 64, 2) := by decide +kernel
theorem d_MS_sizesFit_116 : decode b_MS_sizesFit 116 = .ok (.sipush 16384, 3) := by decide +kernel
theorem d_MS_sizesFit_119 : decode b_MS_sizesFit 119 = .ok (.invokestatic 128, 3) := by decide +kernel
theorem d_MS_sizesFit_122 : decode b_MS_sizesFit 122 = .ok (.ifCond .eq 15, 3) := by decide +kernel
theorem d_MS_sizesFit_125 : decode b_MS_sizesFit 125 = .ok (.iload_n 3, 1) := by decide +kernel
theorem d_MS_sizesFit_126 : decode b_MS_sizesFit 126 = .ok (.invokestatic 132, 3) := by decide +kernel
theorem d_MS_sizesFit_129 : decode b_MS_sizesFit 129 = .ok (.iconst 1, 1) := by decide +kernel
theorem d_MS_sizesFit_130 : decode b_MS_sizesFit 130 = .ok (.if_icmp .ne 7, 3) := by decide +kernel
theorem d_MS_sizesFit_133 : decode b_MS_sizesFit 133 = .ok (.iconst 1, 1) := by decide +kernel
theorem d_MS_sizesFit_134 : decode b_MS_sizesFit 134 = .ok (.goto 4, 3) := by decide +kernel
theorem d_MS_sizesFit_137 : decode b_MS_sizesFit 137 = .ok (.iconst 0, 1) := by decide +kernel
theorem d_MS_sizesFit_138 : decode b_MS_sizesFit 138 = .ok (.ireturn, 1) := by decide +kernel
theorem d_MS_sizesFit_139 : decode b_MS_sizesFit 139 = .ok (.iconst 0, 1) := by decide +kernel
theorem d_MS_sizesFit_140 : decode b_MS_sizesFit 140 = .ok (.ireturn, 1) := by decide +kernel
theorem d_MS_breaches_0 : decode b_MS_breaches 0 = .ok (.iconst 0, 1) := by decide +kernel
theorem d_MS_breaches_1 : decode b_MS_breaches 1 = .ok (.istore_n 1, 1) := by decide +kernel
theorem d_MS_breaches_2 : decode b_MS_breaches 2 = .ok (.iconst 0, 1) := by decide +kernel
theorem d_MS_breaches_3 : decode b_MS_breaches 3 = .ok (.istore_n 2, 1) := by decide +kernel
theorem d_MS_breaches_4 : decode b_MS_breaches 4 = .ok (.iload_n 2, 1) := by decide +kernel
theorem d_MS_breaches_5 : decode b_MS_breaches 5 = .ok (.aload_n 0, 1) := by decide +kernel
theorem d_MS_breaches_6 : decode b_MS_breaches 6 = .ok (.getfield 28, 3) := by decide +kernel
theorem d_MS_breaches_9 : decode b_MS_breaches 9 = .ok (.if_icmp .ge 20, 3) := by decide +kernel
theorem d_MS_breaches_12 : decode b_MS_breaches 12 = .ok (.iload_n 1, 1) := by decide +kernel
theorem d_MS_breaches_13 : decode b_MS_breaches 13 = .ok (.aload_n 0, 1) := by decide +kernel
theorem d_MS_breaches_14 : decode b_MS_breaches 14 = .ok (.iload_n 2, 1) := by decide +kernel
theorem d_MS_breaches_15 : decode b_MS_breaches 15 = .ok (.invokevirtual 59, 3) := by decide +kernel
theorem d_MS_breaches_18 : decode b_MS_breaches 18 = .ok (.invokevirtual 105, 3) := by decide +kernel
theorem d_MS_breaches_21 : decode b_MS_breaches 21 = .ok (.iadd, 1) := by decide +kernel
theorem d_MS_breaches_22 : decode b_MS_breaches 22 = .ok (.istore_n 1, 1) := by decide +kernel
theorem d_MS_breaches_23 : decode b_MS_breaches 23 = .ok (.iinc 2 1, 3) := by decide +kernel
theorem d_MS_breaches_26 : decode b_MS_breaches 26 = .ok (.goto (-22), 3) := by decide +kernel
theorem d_MS_breaches_29 : decode b_MS_breaches 29 = .ok (.iload_n 1, 1) := by decide +kernel
theorem d_MS_breaches_30 : decode b_MS_breaches 30 = .ok (.ireturn, 1) := by decide +kernel
theorem bcAll_at : ∀ {k n : Nat}, bcAll k n = true → ∀ j, n ≤ j → j < n + k → bcOk j = true
  | 0, n, _, j, h1, h2 => absurd h2 (by omega)
  | k + 1, n, h, j, h1, h2 => by
    rw [bcAll, Bool.and_eq_true] at h
    by_cases e : j = n
    · rw [e]; exact h.1
    · exact bcAll_at h.2 j (by omega) (by omega)
theorem bcOk_all {n : Nat} (h1 : 64 ≤ n) (h2 : n ≤ 16384) : bcOk n = true := by
  rcases (by omega : n < 1085 ∨ (1085 ≤ n ∧ n < 2106) ∨ (2106 ≤ n ∧ n < 3127) ∨ (3127 ≤ n ∧ n < 4148) ∨ (4148 ≤ n ∧ n < 5169) ∨ (5169 ≤ n ∧ n < 6190) ∨ (6190 ≤ n ∧ n < 7211) ∨ (7211 ≤ n ∧ n < 8232) ∨ (8232 ≤ n ∧ n < 9253) ∨ (9253 ≤ n ∧ n < 10274) ∨ (10274 ≤ n ∧ n < 11295) ∨ (11295 ≤ n ∧ n < 12316) ∨ (12316 ≤ n ∧ n < 13337) ∨ (13337 ≤ n ∧ n < 14358) ∨ (14358 ≤ n ∧ n < 15379) ∨ 15379 ≤ n) with h | h | h | h | h | h | h | h | h | h | h | h | h | h | h | h
  · exact bcAll_at bcK0 n (by omega) (by omega)
  · exact bcAll_at bcK1 n (by omega) (by omega)
  · exact bcAll_at bcK2 n (by omega) (by omega)
  · exact bcAll_at bcK3 n (by omega) (by omega)
  · exact bcAll_at bcK4 n (by omega) (by omega)
  · exact bcAll_at bcK5 n (by omega) (by omega)
  · exact bcAll_at bcK6 n (by omega) (by omega)
  · exact bcAll_at bcK7 n (by omega) (by omega)
  · exact bcAll_at bcK8 n (by omega) (by omega)
  · exact bcAll_at bcK9 n (by omega) (by omega)
  · exact bcAll_at bcK10 n (by omega) (by omega)
  · exact bcAll_at bcK11 n (by omega) (by omega)
  · exact bcAll_at bcK12 n (by omega) (by omega)
  · exact bcAll_at bcK13 n (by omega) (by omega)
  · exact bcAll_at bcK14 n (by omega) (by omega)
  · exact bcAll_at bcK15 n (by omega) (by omega)
theorem p2_or {n : Nat} : (∃ p, 6 ≤ p ∧ p ≤ 14 ∧ n = 2 ^ p) ↔ (n = 64 ∨ n = 128 ∨ n = 256 ∨ n = 512 ∨ n = 1024 ∨ n = 2048 ∨ n = 4096 ∨ n = 8192 ∨ n = 16384) := by
  constructor
  · rintro ⟨p, h1, h2, rfl⟩
    rcases (by omega : p = 6 ∨ p = 7 ∨ p = 8 ∨ p = 9 ∨ p = 10 ∨ p = 11 ∨ p = 12 ∨ p = 13 ∨ p = 14) with h | h | h | h | h | h | h | h | h <;> subst h <;> decide
  · rintro (h | h | h | h | h | h | h | h | h)
    · exact ⟨6, by decide, by decide, h⟩
    · exact ⟨7, by decide, by decide, h⟩
    · exact ⟨8, by decide, by decide, h⟩
    · exact ⟨9, by decide, by decide, h⟩
    · exact ⟨10, by decide, by decide, h⟩
    · exact ⟨11, by decide, by decide, h⟩
    · exact ⟨12, by decide, by decide, h⟩
    · exact ⟨13, by decide, by decide, h⟩
    · exact ⟨14, by decide, by decide, h⟩
theorem bc_iff {n : Nat} (h1 : 64 ≤ n) (h2 : n ≤ 16384) : bcA (nI n) = nI 1 ↔ ∃ p, 6 ≤ p ∧ p ≤ 14 ∧ n = 2 ^ p := by
  have h := bcOk_all h1 h2
  unfold bcOk at h
  rw [p2_or]
  simp only [beq_iff_eq, Bool.beq_eq_decide_eq, decide_eq_true_eq] at h
  rw [Bool.eq_iff_iff] at h
  simp only [decide_eq_true_eq, Bool.or_eq_true, or_assoc] at h
  exact h
abbrev inB (z : Int32) (a b : Nat) : Prop := (a : Int) ≤ z.toInt ∧ z.toInt ≤ b
/-- a map may have these sizes -/
def fitS (k a v n : Int32) : Prop := (k = nI 0 ∧ a = nI 4 ∧ inB v 1 256 ∧ inB n 1 4096) ∨ (k = nI 1 ∧ inB a 1 64 ∧ inB v 1 256 ∧ inB n 1 4096) ∨ (k = nI 2 ∧ a = nI 0 ∧ v = nI 0 ∧ inB n 64 16384 ∧ ∃ p, 6 ≤ p ∧ p ≤ 14 ∧ n.toNatClampNeg = 2 ^ p)
theorem nI_ofI {k : Int32} {j : Nat} (hj : j < 2 ^ 31) (h : k.toInt = j) : k = nI j := Int32.toInt_inj.mp (by rw [h, nI_toInt hj])
theorem inB_nI {z : Int32} {a b : Nat} (h : inB z a b) (hb : b < 2 ^ 31) : z = nI z.toNatClampNeg ∧ a ≤ z.toNatClampNeg ∧ z.toNatClampNeg ≤ b := by
  obtain ⟨j, hj, rfl⟩ := nI_of (x := z) (by rw [Int32.lt_iff_toInt_lt, Int32.toInt_zero]; have := h.1; omega)
  rw [nI_clamp hj]
  have h1 := h.1
  have h2 := h.2
  rw [nI_toInt hj] at h1 h2
  exact ⟨rfl, by omega, by omega⟩
set_option maxRecDepth 100000 in
set_option maxHeartbeats 4000000 in
theorem c_MS_sizesFit (l : Launch) (k a v n : Int32) : mp_Ct l y_MS_sizesFit (Cond.code y_MS_sizesFit b_MS_sizesFit 4 (some .boolean) :: Ts) 1 40 [.int k, .int a, .int v, .int n] (fun u => ∃ r : Int32, u = some (.int r) ∧ ((r = 1 ∧ fitS k a v n) ∨ (r = 0 ∧ ¬ fitS k a v n))) := by
  refine mp_meth (by decide) (Nat.le_of_ble_eq_true rfl) ?_
  intro p e s m below meth c hx hb hml hown hts hr hlk ls hl
  have hl : lv_has ls 4 [(0, .int k), (1, .int a), (2, .int v), (3, .int n)] := hl
  have n01 : nI 0 ≠ nI 1 := by decide
  have n02 : nI 0 ≠ nI 2 := by decide
  have n12 : nI 1 ≠ nI 2 := by decide
  refine lv_iload_n hx hb d_MS_sizesFit_0 rfl (lv_at hl 0 rfl) ?_
  by_cases k0 : k = nI 0
  · subst k0
    refine lv_tableIn (off := 27) (tgt := 28) hx hb d_MS_sizesFit_1 (by decide) (by decide) rfl (by decide) ?_
    have hF : fitS (nI 0) a v n ↔ (a = nI 4 ∧ inB v 1 256 ∧ inB n 1 4096) := ⟨fun h => by rcases h with h | h | h; exact h.2; exact absurd h.1 n01; exact absurd h.1 n02, fun h => Or.inl ⟨rfl, h⟩⟩
    rw [hF]
    have no : ∀ ls : Array Slot, lv_has ls 4 [] → ¬ (a = nI 4 ∧ inB v 1 256 ∧ inB n 1 4096) → W p l e { frames := 1, cells := 0, slots := 0, locals := 40 } s m #[.int (nI 0), .int a, .int v, .int n] below meth c s.heap [] 0 0 (mx_Q below (fun _ st o t => ∃ v2, o = .returned v2 ∧ (∃ r : Int32, v2 = some (.int r) ∧ ((r = 1 ∧ (a = nI 4 ∧ inB v 1 256 ∧ inB n 1 4096)) ∨ (r = 0 ∧ ¬ (a = nI 4 ∧ inB v 1 256 ∧ inB n 1 4096)))) ∧ t.heap = st.heap) #[.int (nI 0), .int a, .int v, .int n] s 0 0 (fun _ => False)) (F0 m 61 ls []) := by
      intro ls hl hn
      refine lv_iconst (v := nI 0) hx hb d_MS_sizesFit_61 (by decide) ?_
      exact mp_zret hx hb hr hlk (Or.inl rfl) ⟨_, rfl, Or.inr ⟨rfl, hn⟩⟩ d_MS_sizesFit_62
    refine lv_iload_n hx hb d_MS_sizesFit_28 rfl (lv_at hl 1 rfl) ?_
    refine lv_iconst (v := nI 4) hx hb d_MS_sizesFit_29 (by decide) ?_
    refine lv_icmp_ne (tgt := 61) hx hb d_MS_sizesFit_30 (by decide) (fun c30 => ?_) (fun c30 => ?_)
    ·
      exact no ls (lv_sub hl [] rfl) (fun z => c30 z.1)
    ·
      have c30 : a = nI 4 := c30
      refine lv_iload_n hx hb d_MS_sizesFit_33 rfl (lv_at hl 2 rfl) ?_
      refine lv_i2l hx hb d_MS_sizesFit_34 rfl ?_
      refine lv_iconst (v := nI 1) hx hb d_MS_sizesFit_35 (by decide) ?_
      refine lv_sipush (v := nI 256) hx hb d_MS_sizesFit_36 (by decide) ?_
      refine mp_call (rest := []) hb hml (c_MS_within l v.toInt64 (nI 1) (nI 256)) (mx_invS hx hown (hts _ tw_182) (hts _ tw_183) (hts _ tw_21) (hts _ tw_184) (by decide) (g := F0 m 39 ls [.int (nI 256), .int (nI 1), .long (v.toInt64)]) rfl (argsL := [.long (v.toInt64), .int (nI 1), .int (nI 256)]) (rest := []) np_MS_within rfl (by rw [hb]; exact d_MS_sizesFit_39)) hl.1 d_MS_sizesFit_39 ⟨Nat.le_of_ble_eq_true rfl, Nat.le_of_ble_eq_true rfl⟩ (Or.inl ⟨_, _, List.mem_cons_self⟩) (mk_ws tw_184 hts) (fun a9 U9 h9 => Ts_warm hts _ tw_21 a9 U9 h9) (by first | exact ⟨Nat.le_of_ble_eq_true rfl, Nat.le_of_ble_eq_true rfl⟩ | assumption) (fun v hv => ?_)
      subst hv
      refine W.eq (g2 := F0 m 42 ls [.int (if (nI 1).toInt64 ≤ v.toInt64 ∧ v.toInt64 ≤ (nI 256).toInt64 then 1 else 0)]) rfl ?_
      rw [within_i v (a := 1) (b := 256) (by decide) (by decide)]
      refine lv_if_eq (tgt := 61) hx hb d_MS_sizesFit_42 (by decide) (fun c42 => ?_) (fun c42 => ?_)
      ·
        rw [if10.1] at c42
        exact no ls (lv_sub hl [] rfl) (fun z => c42 z.2.1)
      ·
        rw [if10.2] at c42
        refine lv_iload_n hx hb d_MS_sizesFit_45 rfl (lv_at hl 3 rfl) ?_
        refine lv_i2l hx hb d_MS_sizesFit_46 rfl ?_
        refine lv_iconst (v := nI 1) hx hb d_MS_sizesFit_47 (by decide) ?_
        refine lv_sipush (v := nI 4096) hx hb d_MS_sizesFit_48 (by decide) ?_
        refine mp_call (rest := []) hb hml (c_MS_within l n.toInt64 (nI 1) (nI 4096)) (mx_invS hx hown (hts _ tw_182) (hts _ tw_183) (hts _ tw_21) (hts _ tw_184) (by decide) (g := F0 m 51 ls [.int (nI 4096), .int (nI 1), .long (n.toInt64)]) rfl (argsL := [.long (n.toInt64), .int (nI 1), .int (nI 4096)]) (rest := []) np_MS_within rfl (by rw [hb]; exact d_MS_sizesFit_51)) hl.1 d_MS_sizesFit_51 ⟨Nat.le_of_ble_eq_true rfl, Nat.le_of_ble_eq_true rfl⟩ (Or.inl ⟨_, _, List.mem_cons_self⟩) (mk_ws tw_184 hts) (fun a9 U9 h9 => Ts_warm hts _ tw_21 a9 U9 h9) (by first | exact ⟨Nat.le_of_ble_eq_true rfl, Nat.le_of_ble_eq_true rfl⟩ | assumption) (fun v hv => ?_)
        subst hv
        refine W.eq (g2 := F0 m 54 ls [.int (if (nI 1).toInt64 ≤ n.toInt64 ∧ n.toInt64 ≤ (nI 4096).toInt64 then 1 else 0)]) rfl ?_
        rw [within_i n (a := 1) (b := 4096) (by decide) (by decide)]
        refine lv_if_eq (tgt := 61) hx hb d_MS_sizesFit_54 (by decide) (fun c54 => ?_) (fun c54 => ?_)
        ·
          rw [if10.1] at c54
          exact no ls (lv_sub hl [] rfl) (fun z => c54 z.2.2)
        ·
          rw [if10.2] at c54
          refine lv_iconst (v := nI 1) hx hb d_MS_sizesFit_57 (by decide) ?_
          refine lv_goto (tgt := 62) hx hb d_MS_sizesFit_58 (by decide) ?_
          exact mp_zret hx hb hr hlk (Or.inr rfl) ⟨_, rfl, Or.inl ⟨rfl, c30, c42, c54⟩⟩ d_MS_sizesFit_62
  · by_cases k1 : k = nI 1
    · subst k1
      refine lv_tableIn (off := 62) (tgt := 63) hx hb d_MS_sizesFit_1 (by decide) (by decide) rfl (by decide) ?_
      have hF : fitS (nI 1) a v n ↔ (inB a 1 64 ∧ inB v 1 256 ∧ inB n 1 4096) := ⟨fun h => by rcases h with h | h | h; exact absurd h.1 n01.symm; exact h.2; exact absurd h.1 n12, fun h => Or.inr (Or.inl ⟨rfl, h⟩)⟩
      rw [hF]
      have no : ∀ ls : Array Slot, lv_has ls 4 [] → ¬ (inB a 1 64 ∧ inB v 1 256 ∧ inB n 1 4096) → W p l e { frames := 1, cells := 0, slots := 0, locals := 40 } s m #[.int (nI 1), .int a, .int v, .int n] below meth c s.heap [] 0 0 (mx_Q below (fun _ st o t => ∃ v2, o = .returned v2 ∧ (∃ r : Int32, v2 = some (.int r) ∧ ((r = 1 ∧ (inB a 1 64 ∧ inB v 1 256 ∧ inB n 1 4096)) ∨ (r = 0 ∧ ¬ (inB a 1 64 ∧ inB v 1 256 ∧ inB n 1 4096)))) ∧ t.heap = st.heap) #[.int (nI 1), .int a, .int v, .int n] s 0 0 (fun _ => False)) (F0 m 102 ls []) := by
        intro ls hl hn
        refine lv_iconst (v := nI 0) hx hb d_MS_sizesFit_102 (by decide) ?_
        exact mp_zret hx hb hr hlk (Or.inl rfl) ⟨_, rfl, Or.inr ⟨rfl, hn⟩⟩ d_MS_sizesFit_103
      refine lv_iload_n hx hb d_MS_sizesFit_63 rfl (lv_at hl 1 rfl) ?_
      refine lv_i2l hx hb d_MS_sizesFit_64 rfl ?_
      refine lv_iconst (v := nI 1) hx hb d_MS_sizesFit_65 (by decide) ?_
      refine lv_bipush (v := nI 64) hx hb d_MS_sizesFit_66 (by decide) ?_
      refine mp_call (rest := []) hb hml (c_MS_within l a.toInt64 (nI 1) (nI 64)) (mx_invS hx hown (hts _ tw_182) (hts _ tw_183) (hts _ tw_21) (hts _ tw_184) (by decide) (g := F0 m 68 ls [.int (nI 64), .int (nI 1), .long (a.toInt64)]) rfl (argsL := [.long (a.toInt64), .int (nI 1), .int (nI 64)]) (rest := []) np_MS_within rfl (by rw [hb]; exact d_MS_sizesFit_68)) hl.1 d_MS_sizesFit_68 ⟨Nat.le_of_ble_eq_true rfl, Nat.le_of_ble_eq_true rfl⟩ (Or.inl ⟨_, _, List.mem_cons_self⟩) (mk_ws tw_184 hts) (fun a9 U9 h9 => Ts_warm hts _ tw_21 a9 U9 h9) (by first | exact ⟨Nat.le_of_ble_eq_true rfl, Nat.le_of_ble_eq_true rfl⟩ | assumption) (fun v hv => ?_)
      subst hv
      refine W.eq (g2 := F0 m 71 ls [.int (if (nI 1).toInt64 ≤ a.toInt64 ∧ a.toInt64 ≤ (nI 64).toInt64 then 1 else 0)]) rfl ?_
      rw [within_i a (a := 1) (b := 64) (by decide) (by decide)]
      refine lv_if_eq (tgt := 102) hx hb d_MS_sizesFit_71 (by decide) (fun c71 => ?_) (fun c71 => ?_)
      ·
        rw [if10.1] at c71
        exact no ls (lv_sub hl [] rfl) (fun z => c71 z.1)
      ·
        rw [if10.2] at c71
        refine lv_iload_n hx hb d_MS_sizesFit_74 rfl (lv_at hl 2 rfl) ?_
        refine lv_i2l hx hb d_MS_sizesFit_75 rfl ?_
        refine lv_iconst (v := nI 1) hx hb d_MS_sizesFit_76 (by decide) ?_
        refine lv_sipush (v := nI 256) hx hb d_MS_sizesFit_77 (by decide) ?_
        refine mp_call (rest := []) hb hml (c_MS_within l v.toInt64 (nI 1) (nI 256)) (mx_invS hx hown (hts _ tw_182) (hts _ tw_183) (hts _ tw_21) (hts _ tw_184) (by decide) (g := F0 m 80 ls [.int (nI 256), .int (nI 1), .long (v.toInt64)]) rfl (argsL := [.long (v.toInt64), .int (nI 1), .int (nI 256)]) (rest := []) np_MS_within rfl (by rw [hb]; exact d_MS_sizesFit_80)) hl.1 d_MS_sizesFit_80 ⟨Nat.le_of_ble_eq_true rfl, Nat.le_of_ble_eq_true rfl⟩ (Or.inl ⟨_, _, List.mem_cons_self⟩) (mk_ws tw_184 hts) (fun a9 U9 h9 => Ts_warm hts _ tw_21 a9 U9 h9) (by first | exact ⟨Nat.le_of_ble_eq_true rfl, Nat.le_of_ble_eq_true rfl⟩ | assumption) (fun v hv => ?_)
        subst hv
        refine W.eq (g2 := F0 m 83 ls [.int (if (nI 1).toInt64 ≤ v.toInt64 ∧ v.toInt64 ≤ (nI 256).toInt64 then 1 else 0)]) rfl ?_
        rw [within_i v (a := 1) (b := 256) (by decide) (by decide)]
        refine lv_if_eq (tgt := 102) hx hb d_MS_sizesFit_83 (by decide) (fun c83 => ?_) (fun c83 => ?_)
        ·
          rw [if10.1] at c83
          exact no ls (lv_sub hl [] rfl) (fun z => c83 z.2.1)
        ·
          rw [if10.2] at c83
          refine lv_iload_n hx hb d_MS_sizesFit_86 rfl (lv_at hl 3 rfl) ?_
          refine lv_i2l hx hb d_MS_sizesFit_87 rfl ?_
          refine lv_iconst (v := nI 1) hx hb d_MS_sizesFit_88 (by decide) ?_
          refine lv_sipush (v := nI 4096) hx hb d_MS_sizesFit_89 (by decide) ?_
          refine mp_call (rest := []) hb hml (c_MS_within l n.toInt64 (nI 1) (nI 4096)) (mx_invS hx hown (hts _ tw_182) (hts _ tw_183) (hts _ tw_21) (hts _ tw_184) (by decide) (g := F0 m 92 ls [.int (nI 4096), .int (nI 1), .long (n.toInt64)]) rfl (argsL := [.long (n.toInt64), .int (nI 1), .int (nI 4096)]) (rest := []) np_MS_within rfl (by rw [hb]; exact d_MS_sizesFit_92)) hl.1 d_MS_sizesFit_92 ⟨Nat.le_of_ble_eq_true rfl, Nat.le_of_ble_eq_true rfl⟩ (Or.inl ⟨_, _, List.mem_cons_self⟩) (mk_ws tw_184 hts) (fun a9 U9 h9 => Ts_warm hts _ tw_21 a9 U9 h9) (by first | exact ⟨Nat.le_of_ble_eq_true rfl, Nat.le_of_ble_eq_true rfl⟩ | assumption) (fun v hv => ?_)
          subst hv
          refine W.eq (g2 := F0 m 95 ls [.int (if (nI 1).toInt64 ≤ n.toInt64 ∧ n.toInt64 ≤ (nI 4096).toInt64 then 1 else 0)]) rfl ?_
          rw [within_i n (a := 1) (b := 4096) (by decide) (by decide)]
          refine lv_if_eq (tgt := 102) hx hb d_MS_sizesFit_95 (by decide) (fun c95 => ?_) (fun c95 => ?_)
          ·
            rw [if10.1] at c95
            exact no ls (lv_sub hl [] rfl) (fun z => c95 z.2.2)
          ·
            rw [if10.2] at c95
            refine lv_iconst (v := nI 1) hx hb d_MS_sizesFit_98 (by decide) ?_
            refine lv_goto (tgt := 103) hx hb d_MS_sizesFit_99 (by decide) ?_
            exact mp_zret hx hb hr hlk (Or.inr rfl) ⟨_, rfl, Or.inl ⟨rfl, c71, c83, c95⟩⟩ d_MS_sizesFit_103
    · by_cases k2 : k = nI 2
      · subst k2
        refine lv_tableIn (off := 103) (tgt := 104) hx hb d_MS_sizesFit_1 (by decide) (by decide) rfl (by decide) ?_
        have hF : fitS (nI 2) a v n ↔ (a = nI 0 ∧ v = nI 0 ∧ inB n 64 16384 ∧ ∃ p, 6 ≤ p ∧ p ≤ 14 ∧ n.toNatClampNeg = 2 ^ p) := ⟨fun h => by rcases h with h | h | h; exact absurd h.1 n02.symm; exact absurd h.1 n12.symm; exact h.2, fun h => Or.inr (Or.inr ⟨rfl, h⟩)⟩
        rw [hF]
        have no : ∀ ls : Array Slot, lv_has ls 4 [] → ¬ (a = nI 0 ∧ v = nI 0 ∧ inB n 64 16384 ∧ ∃ p, 6 ≤ p ∧ p ≤ 14 ∧ n.toNatClampNeg = 2 ^ p) → W p l e { frames := 1, cells := 0, slots := 0, locals := 40 } s m #[.int (nI 2), .int a, .int v, .int n] below meth c s.heap [] 0 0 (mx_Q below (fun _ st o t => ∃ v2, o = .returned v2 ∧ (∃ r : Int32, v2 = some (.int r) ∧ ((r = 1 ∧ (a = nI 0 ∧ v = nI 0 ∧ inB n 64 16384 ∧ ∃ p, 6 ≤ p ∧ p ≤ 14 ∧ n.toNatClampNeg = 2 ^ p)) ∨ (r = 0 ∧ ¬ (a = nI 0 ∧ v = nI 0 ∧ inB n 64 16384 ∧ ∃ p, 6 ≤ p ∧ p ≤ 14 ∧ n.toNatClampNeg = 2 ^ p)))) ∧ t.heap = st.heap) #[.int (nI 2), .int a, .int v, .int n] s 0 0 (fun _ => False)) (F0 m 137 ls []) := by
          intro ls hl hn
          refine lv_iconst (v := nI 0) hx hb d_MS_sizesFit_137 (by decide) ?_
          exact mp_zret hx hb hr hlk (Or.inl rfl) ⟨_, rfl, Or.inr ⟨rfl, hn⟩⟩ d_MS_sizesFit_138
        refine lv_iload_n hx hb d_MS_sizesFit_104 rfl (lv_at hl 1 rfl) ?_
        refine lv_if_ne (tgt := 137) hx hb d_MS_sizesFit_105 (by decide) (fun c105 => ?_) (fun c105 => ?_)
        ·
          exact no ls (lv_sub hl [] rfl) (fun z => c105 (z.1.trans nI_0))
        ·
          have c105 : a = nI 0 := by rw [nI_0]; exact c105
          refine lv_iload_n hx hb d_MS_sizesFit_108 rfl (lv_at hl 2 rfl) ?_
          refine lv_if_ne (tgt := 137) hx hb d_MS_sizesFit_109 (by decide) (fun c109 => ?_) (fun c109 => ?_)
          ·
            exact no ls (lv_sub hl [] rfl) (fun z => c109 (z.2.1.trans nI_0))
          ·
            have c109 : v = nI 0 := by rw [nI_0]; exact c109
            refine lv_iload_n hx hb d_MS_sizesFit_112 rfl (lv_at hl 3 rfl) ?_
            refine lv_i2l hx hb d_MS_sizesFit_113 rfl ?_
            refine lv_bipush (v := nI 64) hx hb d_MS_sizesFit_114 (by decide) ?_
            refine lv_sipush (v := nI 16384) hx hb d_MS_sizesFit_116 (by decide) ?_
            refine mp_call (rest := []) hb hml (c_MS_within l n.toInt64 (nI 64) (nI 16384)) (mx_invS hx hown (hts _ tw_182) (hts _ tw_183) (hts _ tw_21) (hts _ tw_184) (by decide) (g := F0 m 119 ls [.int (nI 16384), .int (nI 64), .long (n.toInt64)]) rfl (argsL := [.long (n.toInt64), .int (nI 64), .int (nI 16384)]) (rest := []) np_MS_within rfl (by rw [hb]; exact d_MS_sizesFit_119)) hl.1 d_MS_sizesFit_119 ⟨Nat.le_of_ble_eq_true rfl, Nat.le_of_ble_eq_true rfl⟩ (Or.inl ⟨_, _, List.mem_cons_self⟩) (mk_ws tw_184 hts) (fun a9 U9 h9 => Ts_warm hts _ tw_21 a9 U9 h9) (by first | exact ⟨Nat.le_of_ble_eq_true rfl, Nat.le_of_ble_eq_true rfl⟩ | assumption) (fun v hv => ?_)
            subst hv
            refine W.eq (g2 := F0 m 122 ls [.int (if (nI 64).toInt64 ≤ n.toInt64 ∧ n.toInt64 ≤ (nI 16384).toInt64 then 1 else 0)]) rfl ?_
            rw [within_i n (a := 64) (b := 16384) (by decide) (by decide)]
            refine lv_if_eq (tgt := 137) hx hb d_MS_sizesFit_122 (by decide) (fun c122 => ?_) (fun c122 => ?_)
            ·
              rw [if10.1] at c122
              exact no ls (lv_sub hl [] rfl) (fun z => c122 z.2.2.1)
            ·
              rw [if10.2] at c122
              obtain ⟨n1, n2, n3⟩ := inB_nI c122 (by decide)
              have hbi := bc_iff n2 n3
              rw [← n1] at hbi
              refine lv_iload_n hx hb d_MS_sizesFit_125 rfl (lv_at hl 3 rfl) ?_
              refine mp_call (rest := []) hb hml (c_IN_bitCount l n) (mx_invS hx hown (hts _ tw_185) (hts _ tw_186) (hts _ tw_24) (hts _ tw_187) (by decide) (g := F0 m 126 ls [.int n]) rfl (argsL := [.int n]) (rest := []) np_IN_bitCount rfl (by rw [hb]; exact d_MS_sizesFit_126)) hl.1 d_MS_sizesFit_126 ⟨Nat.le_of_ble_eq_true rfl, Nat.le_of_ble_eq_true rfl⟩ (Or.inl ⟨_, _, List.mem_cons_self⟩) (mk_ws tw_187 hts) (fun a9 U9 h9 => Ts_warm hts _ tw_24 a9 U9 h9) (by first | exact ⟨Nat.le_of_ble_eq_true rfl, Nat.le_of_ble_eq_true rfl⟩ | assumption) (fun v hv => ?_)
              subst hv
              refine W.eq (g2 := F0 m 129 ls [.int (bcA n)]) rfl ?_
              refine lv_iconst (v := nI 1) hx hb d_MS_sizesFit_129 (by decide) ?_
              refine lv_icmp_ne (tgt := 137) hx hb d_MS_sizesFit_130 (by decide) (fun c130 => ?_) (fun c130 => ?_)
              ·
                exact no ls (lv_sub hl [] rfl) (fun z => c130 (hbi.mpr z.2.2.2))
              ·
                have c130 : bcA n = nI 1 := c130
                refine lv_iconst (v := nI 1) hx hb d_MS_sizesFit_133 (by decide) ?_
                refine lv_goto (tgt := 138) hx hb d_MS_sizesFit_134 (by decide) ?_
                exact mp_zret hx hb hr hlk (Or.inr rfl) ⟨_, rfl, Or.inl ⟨rfl, c105, c109, c122, hbi.mp c130⟩⟩ d_MS_sizesFit_138
      · have hout : k.toInt < 0 ∨ 2 < k.toInt := by
          rcases (by omega : k.toInt < 0 ∨ k.toInt = 0 ∨ k.toInt = 1 ∨ k.toInt = 2 ∨ 2 < k.toInt) with h | h | h | h | h
          · exact Or.inl h
          · exact absurd (nI_ofI (j := 0) (by decide) h) k0
          · exact absurd (nI_ofI (j := 1) (by decide) h) k1
          · exact absurd (nI_ofI (j := 2) (by decide) h) k2
          · exact Or.inr h
        refine lv_tableOut (tgt := 139) hx hb d_MS_sizesFit_1 hout (by decide) ?_
        refine lv_iconst (v := nI 0) hx hb d_MS_sizesFit_139 (by decide) ?_
        exact mp_zret hx hb hr hlk (Or.inl rfl) ⟨_, rfl, Or.inr ⟨rfl, fun h => by rcases h with h | h | h; exact k0 h.1; exact k1 h.1; exact k2 h.1⟩⟩ d_MS_sizesFit_140
set_option maxRecDepth 100000 in
set_option maxHeartbeats 4000000 in
theorem c_MS_mapOf2 (l : Launch) (D : va_G) (dA : Nat → ClassId) {w : mw_W} {own : as_W} {x bd xd ba xa ra : Nat} {mp : Nat → Nat} {gd ga : Nat → Int64} {S : as_S} (hA : rc_A dA w own x bd xd ba xa ra mp gd ga S) (hn64 : nm S ≤ 64) {q : Nat} (hq0 : q < nm S) : CT l D dA y_MS_mapOf (Cond.code y_MS_mapOf b_MS_mapOf 3 (some (.object "MapStore$AnyMap")) :: Ts) 0 0 0 0 [.ref x, .int (nI q)] w (fun r w' => w' = w ∧ r = .inl (some (.ref (mp q)))) := by
  refine mw_meth (by decide) mk_tb (Nat.le_of_ble_eq_true rfl) ?_
  intro p e s m below meth c K hr hlk hce hnm hP0 hSy ls hl
  have hl : lv_has ls 3 [(0, .ref x), (1, .int (nI q))] := hl
  obtain ⟨hx, hb, hml, hown, hts, hK, hTb⟩ := id K
  have hI := mw_I.start hP0
  obtain ⟨⟨o1, o2, o3, o4, f0, fd, fa, fr, hdk, har⟩, hM⟩ := id hA
  refine lv_iload_n hx hb d_MS_mapOf_0 rfl (lv_at hl 1 rfl) ?_
  refine lv_if_lt (tgt := 12) hx hb d_MS_mapOf_1 (by decide) (fun c1 => ?_) (fun c1 => ?_)
  ·
    exact absurd c1 (nI_pos (by omega))
  ·
    refine lv_iload_n hx hb d_MS_mapOf_4 rfl (lv_at hl 1 rfl) ?_
    refine lv_aload_n hx hb d_MS_mapOf_5 rfl (lv_at hl 0 rfl) ?_
    refine mw_get K hI gf_MS_28_cMS f0 rfl d_MS_mapOf_6 ?_
    refine lv_icmp_lt (tgt := 16) hx hb d_MS_mapOf_9 (by decide) (fun c9 => ?_) (fun c9 => ?_)
    ·
      refine lv_aload_n hx hb d_MS_mapOf_16 rfl (lv_at hl 0 rfl) ?_
      refine mw_get K hI gf_MS_24_cMS f0 rfl d_MS_mapOf_17 ?_
      refine lv_iload_n hx hb d_MS_mapOf_20 rfl (lv_at hl 1 rfl) ?_
      refine mw_aald K hI tAN fr rfl q rfl (by first | assumption | omega) (by omega) d_MS_mapOf_21 ?_
      refine mw_tv (y := .ref (mp q)) ((by show va_rf (if q < nm S then some (mp q) else none) = _; rw [if_pos hq0]; rfl)) ?_
      refine lv_astore_n (lv' := [(2, .ref (mp q)), (0, .ref x), (1, .int (nI q))]) hx hb d_MS_mapOf_22 rfl hl (by decide) rfl (fun ls hl => ?_)
      refine lv_aload_n hx hb d_MS_mapOf_23 rfl (lv_at hl 0 rfl) ?_
      refine lv_ifnonnull (tgt := 37) hx hb d_MS_mapOf_24 (by decide) ?_
      refine lv_aload_n hx hb d_MS_mapOf_37 rfl (lv_at hl 0 rfl) ?_
      exact mw_aret K hI hr (Or.inl ⟨_, rfl⟩) hlk (Or.inr ⟨_, rfl⟩) ⟨rfl, rfl⟩ d_MS_mapOf_38
    ·
      exact absurd (nI_lt (by omega) (by omega)) c9
set_option maxRecDepth 100000 in
set_option maxHeartbeats 4000000 in
theorem c_MS_breaches (l : Launch) (D : va_G) (dA : Nat → ClassId) {w : mw_W} {own : as_W} {x t : Nat} {S : as_S} (hR : RepC dA w own x S) (hW : wf_S t S) : CT l D dA y_MS_breaches (Cond.code y_MS_breaches b_MS_breaches 3 (some .int) :: Ts) 1 40 0 0 [.ref x] w (fun r w' => w' = w ∧ r = .inl (some (.int (nI 0)))) := by
  refine mw_meth (by decide) mk_tb (Nat.le_of_ble_eq_true rfl) ?_
  intro p e s m below meth c K hr hlk hce hnm hP0 hSy ls hl
  have hl : lv_has ls 3 [(0, .ref x)] := hl
  obtain ⟨hx, hb, hml, hown, hts, hK, hTb⟩ := id K
  have hI := mw_I.start hP0
  obtain ⟨bd, xd, ba, xa, ra, mp, gd, ga, hA⟩ := hR
  obtain ⟨⟨o1, o2, o3, o4, f0, fd, fa, fr, hdk, har⟩, hM⟩ := id hA
  have h64 := hW.1
  have hloop : ∀ (n9 j : Nat), j + n9 = nm S → ∀ (H : Heap) (locs : List Loc), mw_I D mk_cl w s.heap w H locs → ∀ ls : Array Slot, lv_has ls 3 [(2, .int (nI j)), (1, .int (nI 0)), (0, .ref x)] → W p l e { frames := 1, cells := 0, slots := 0, locals := 40 } s m ([.ref x] : List Value).toArray below meth c H locs 0 0 (mx_Q below (mw_Qc D mk_cl w s.heap.size (fun r w' => w' = w ∧ r = .inl (some (.int (nI 0))))) ([.ref x] : List Value).toArray s 0 0 (mw_A w s.heap.size)) (F0 m 4 ls []) := by
    intro n9
    induction n9 with
    | zero =>
      intro j hj H locs hI ls hl
      refine lv_iload_n hx hb d_MS_breaches_4 rfl (lv_at hl 0 rfl) ?_
      refine lv_aload_n hx hb d_MS_breaches_5 rfl (lv_at hl 2 rfl) ?_
      refine mw_get K hI gf_MS_28_cMS f0 rfl d_MS_breaches_6 ?_
      refine lv_icmp_ge (tgt := 29) hx hb d_MS_breaches_9 (by decide) (fun c9 => ?_) (fun c9 => ?_)
      ·
        refine lv_iload_n hx hb d_MS_breaches_29 rfl (lv_at hl 1 rfl) ?_
        exact mw_iret K hI hr hlk ⟨rfl, rfl⟩ d_MS_breaches_30
      ·
        exact absurd (nI_le (by omega) (by omega)) c9
    | succ n9 ih =>
      intro j hj H locs hI ls hl
      refine lv_iload_n hx hb d_MS_breaches_4 rfl (lv_at hl 0 rfl) ?_
      refine lv_aload_n hx hb d_MS_breaches_5 rfl (lv_at hl 2 rfl) ?_
      refine mw_get K hI gf_MS_28_cMS f0 rfl d_MS_breaches_6 ?_
      refine lv_icmp_ge (tgt := 29) hx hb d_MS_breaches_9 (by decide) (fun c9 => ?_) (fun c9 => ?_)
      ·
        exact absurd c9 (nI_ge (by omega) (by omega))
      ·
        refine lv_iload_n hx hb d_MS_breaches_12 rfl (lv_at hl 1 rfl) ?_
        refine lv_aload_n hx hb d_MS_breaches_13 rfl (lv_at hl 2 rfl) ?_
        refine lv_iload_n hx hb d_MS_breaches_14 rfl (lv_at hl 0 rfl) ?_
        refine mw_call (rest := [.int (nI 0)]) K hSy hP0 hI (c_MS_mapOf2 l D dA hA h64 (q := j) (by omega)) (mx_invV hx hown (hts _ tw_89) (hts _ tw_91) (hts _ tw_0) (hts _ tw_92) (by decide) (b := x) (mw_rc K hI f0 rfl) (g := F0 m 15 ls [.int (nI j), .ref x, .int (nI 0)]) rfl (argsL := [.int (nI j)]) (rest := [.int (nI 0)]) np_MS_mapOf rfl (by rw [hb]; exact d_MS_breaches_15)) hl.1 d_MS_breaches_15 ⟨Nat.le_of_ble_eq_true rfl, Nat.le_of_ble_eq_true rfl⟩ (Or.inl ⟨_, _, List.mem_cons_self⟩) (mk_ws tw_92 hts) (fun a9 U9 h9 => Ts_warm hts _ tw_21 a9 U9 h9) ⟨Nat.le_of_ble_eq_true rfl, Nat.le_of_ble_eq_true rfl⟩ (fun v w' H locs hq hI => ?_) (fun k x w' H locs hq hI hX => ?_)
        · obtain ⟨hq1, hq2⟩ := hq
          cases hq2
          rw [hq1] at hI
          refine W.eq (g2 := F0 m 18 ls [.ref (mp j), .int (nI 0)]) rfl ?_
          have hji : j < nm S := by omega
          obtain ⟨om, ⟨k0, fm⟩ | ⟨k0, ka, ak, ax, rch, gk, ff, fm, h9⟩ | ⟨k0, fm⟩⟩ := hM j hji
          ·
            refine mw_call (rest := [.int (nI 0)]) K hSy hP0 hI (c_AN_clashes l D dA (mp j)) (mx_invU (y := y_AN_clashes) hx hown (hts _ tw_161) (hts _ tw_163) (va_Decl.of (hts _ tw_162) (hts _ tw_169)) (by decide) (hts _ tw_164) (hts _ tw_162) (b := (mp j)) (mw_rc K hI fm rfl) (g := F0 m 18 ls [.ref (mp j), .int (nI 0)]) rfl (argsL := []) (rest := [.int (nI 0)]) np_AN_clashes rfl (by rw [hb]; exact d_MS_breaches_18)) hl.1 d_MS_breaches_18 ⟨Nat.le_of_ble_eq_true rfl, Nat.le_of_ble_eq_true rfl⟩ (Or.inl ⟨_, _, List.mem_cons_self⟩) (mk_ws tw_169 hts) (fun a9 U9 h9 => Ts_warm hts _ tw_30 a9 U9 h9) ⟨Nat.le_of_ble_eq_true rfl, Nat.le_of_ble_eq_true rfl⟩ (fun v w' H locs hq hI => ?_) (fun k x w' H locs hq hI hX => ?_)
            · obtain ⟨hq1, hq2⟩ := hq
              cases hq1
              rw [hq2] at hI
              refine W.eq (g2 := F0 m 21 ls [.int (nI 0), .int (nI 0)]) rfl ?_
              refine lv_iadd hx hb d_MS_breaches_21 ?_
              refine mw_ti (nI_add _ _) ?_
              refine lv_istore_n (lv' := [(1, .int (nI (0 + 0))), (2, .int (nI j)), (0, .ref x)]) hx hb d_MS_breaches_22 rfl hl (by decide) rfl (fun ls hl => ?_)
              refine lv_iinc (v := nI (j + 1)) (lv' := [(2, .int (nI (j + 1))), (1, .int (nI (0 + 0))), (0, .ref x)]) hx hb d_MS_breaches_23 hl (k := 1) rfl (nI_add _ _) (by decide) rfl (fun ls hl => ?_)
              refine lv_goto (tgt := 4) hx hb d_MS_breaches_26 (by decide) ?_
              exact ih (j + 1) (by omega) H locs hI ls (lv_sub hl [0, 1, 2] rfl)
            · exact absurd hq.1 (by simp)
          ·
            refine mw_call (rest := [.int (nI 0)]) K hSy hP0 hI (c_TM_clashes l D dA hA hW hji k0) (mx_invU (y := y_TM_clashes) hx hown (hts _ tw_161) (hts _ tw_163) (va_Decl.of (hts _ tw_162) (hts _ tw_169)) (by decide) (hts _ tw_166) (hts _ tw_167) (b := (mp j)) (mw_rc K hI fm rfl) (g := F0 m 18 ls [.ref (mp j), .int (nI 0)]) rfl (argsL := []) (rest := [.int (nI 0)]) np_AN_clashes rfl (by rw [hb]; exact d_MS_breaches_18)) hl.1 d_MS_breaches_18 ⟨Nat.le_of_ble_eq_true rfl, Nat.le_of_ble_eq_true rfl⟩ (Or.inl ⟨_, _, List.mem_cons_self⟩) (mk_ws tw_168 hts) (fun a9 U9 h9 => Ts_warm hts _ tw_33 a9 U9 h9) ⟨Nat.le_of_ble_eq_true rfl, Nat.le_of_ble_eq_true rfl⟩ (fun v w' H locs hq hI => ?_) (fun k x w' H locs hq hI hX => ?_)
            · obtain ⟨hq1, hq2⟩ := hq
              cases hq1
              rw [hq2] at hI
              refine W.eq (g2 := F0 m 21 ls [.int (nI 0), .int (nI 0)]) rfl ?_
              refine lv_iadd hx hb d_MS_breaches_21 ?_
              refine mw_ti (nI_add _ _) ?_
              refine lv_istore_n (lv' := [(1, .int (nI (0 + 0))), (2, .int (nI j)), (0, .ref x)]) hx hb d_MS_breaches_22 rfl hl (by decide) rfl (fun ls hl => ?_)
              refine lv_iinc (v := nI (j + 1)) (lv' := [(2, .int (nI (j + 1))), (1, .int (nI (0 + 0))), (0, .ref x)]) hx hb d_MS_breaches_23 hl (k := 1) rfl (nI_add _ _) (by decide) rfl (fun ls hl => ?_)
              refine lv_goto (tgt := 4) hx hb d_MS_breaches_26 (by decide) ?_
              exact ih (j + 1) (by omega) H locs hI ls (lv_sub hl [0, 1, 2] rfl)
            · exact absurd hq.1 (by simp)
          ·
            refine mw_call (rest := [.int (nI 0)]) K hSy hP0 hI (c_AN_clashes l D dA (mp j)) (mx_invU (y := y_AN_clashes) hx hown (hts _ tw_161) (hts _ tw_163) (va_Decl.of (hts _ tw_162) (hts _ tw_169)) (by decide) (hts _ tw_165) (hts _ tw_162) (b := (mp j)) (mw_rc K hI fm rfl) (g := F0 m 18 ls [.ref (mp j), .int (nI 0)]) rfl (argsL := []) (rest := [.int (nI 0)]) np_AN_clashes rfl (by rw [hb]; exact d_MS_breaches_18)) hl.1 d_MS_breaches_18 ⟨Nat.le_of_ble_eq_true rfl, Nat.le_of_ble_eq_true rfl⟩ (Or.inl ⟨_, _, List.mem_cons_self⟩) (mk_ws tw_169 hts) (fun a9 U9 h9 => Ts_warm hts _ tw_30 a9 U9 h9) ⟨Nat.le_of_ble_eq_true rfl, Nat.le_of_ble_eq_true rfl⟩ (fun v w' H locs hq hI => ?_) (fun k x w' H locs hq hI hX => ?_)
            · obtain ⟨hq1, hq2⟩ := hq
              cases hq1
              rw [hq2] at hI
              refine W.eq (g2 := F0 m 21 ls [.int (nI 0), .int (nI 0)]) rfl ?_
              refine lv_iadd hx hb d_MS_breaches_21 ?_
              refine mw_ti (nI_add _ _) ?_
              refine lv_istore_n (lv' := [(1, .int (nI (0 + 0))), (2, .int (nI j)), (0, .ref x)]) hx hb d_MS_breaches_22 rfl hl (by decide) rfl (fun ls hl => ?_)
              refine lv_iinc (v := nI (j + 1)) (lv' := [(2, .int (nI (j + 1))), (1, .int (nI (0 + 0))), (0, .ref x)]) hx hb d_MS_breaches_23 hl (k := 1) rfl (nI_add _ _) (by decide) rfl (fun ls hl => ?_)
              refine lv_goto (tgt := 4) hx hb d_MS_breaches_26 (by decide) ?_
              exact ih (j + 1) (by omega) H locs hI ls (lv_sub hl [0, 1, 2] rfl)
            · exact absurd hq.1 (by simp)
        · exact absurd hq.2 (by simp)
  refine lv_iconst (v := nI 0) hx hb d_MS_breaches_0 (by decide) ?_
  refine lv_istore_n (lv' := [(1, .int (nI 0)), (0, .ref x)]) hx hb d_MS_breaches_1 rfl hl (by decide) rfl (fun ls hl => ?_)
  refine lv_iconst (v := nI 0) hx hb d_MS_breaches_2 (by decide) ?_
  refine lv_istore_n (lv' := [(2, .int (nI 0)), (1, .int (nI 0)), (0, .ref x)]) hx hb d_MS_breaches_3 rfl hl (by decide) rfl (fun ls hl => ?_)
  exact hloop (nm S) 0 (by omega) _ _ hI ls (lv_sub hl [0, 1, 2] rfl)
