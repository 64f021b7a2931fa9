/-! ### the model: what touches no memory -/
theorem d_MO_filled_0 : decode b_MO_filled 0 = .ok (.iload_n 0, 1) := by decide +kernel
theorem d_MO_filled_1 : decode b_MO_filled 1 = .ok (.bipush 7, 2) := by decide +kernel
theorem d_MO_filled_3 : decode b_MO_filled 3 = .ok (.iadd, 1) := by decide +kernel
theorem d_MO_filled_4 : decode b_MO_filled 4 = .ok (.bipush 8, 2) := by decide +kernel
theorem d_MO_filled_6 : decode b_MO_filled 6 = .ok (.idiv, 1) := by decide +kernel
theorem d_MO_filled_7 : decode b_MO_filled 7 = .ok (.bipush 8, 2) := by decide +kernel
theorem d_MO_filled_9 : decode b_MO_filled 9 = .ok (.imul, 1) := by decide +kernel
theorem d_MO_filled_10 : decode b_MO_filled 10 = .ok (.ireturn, 1) := by decide +kernel
theorem d_MO_isIn_0 : decode b_MO_isIn 0 = .ok (.iload_n 0, 1) := by decide +kernel
theorem d_MO_isIn_1 : decode b_MO_isIn 1 = .ok (.iload_n 1, 1) := by decide +kernel
theorem d_MO_isIn_2 : decode b_MO_isIn 2 = .ok (.if_icmp .lt 12, 3) := by decide +kernel
theorem d_MO_isIn_5 : decode b_MO_isIn 5 = .ok (.iload_n 0, 1) := by decide +kernel
theorem d_MO_isIn_6 : decode b_MO_isIn 6 = .ok (.iload_n 2, 1) := by decide +kernel
theorem d_MO_isIn_7 : decode b_MO_isIn 7 = .ok (.if_icmp .gt 7, 3) := by decide +kernel
theorem d_MO_isIn_10 : decode b_MO_isIn 10 = .ok (.iconst 1, 1) := by decide +kernel
theorem d_MO_isIn_11 : decode b_MO_isIn 11 = .ok (.goto 4, 3) := by decide +kernel
theorem d_MO_isIn_14 : decode b_MO_isIn 14 = .ok (.iconst 0, 1) := by decide +kernel
theorem d_MO_isIn_15 : decode b_MO_isIn 15 = .ok (.ireturn, 1) := by decide +kernel
theorem d_MO_isPower_0 : decode b_MO_isPower 0 = .ok (.bipush 64, 2) := by decide +kernel
theorem d_MO_isPower_2 : decode b_MO_isPower 2 = .ok (.istore_n 1, 1) := by decide +kernel
theorem d_MO_isPower_3 : decode b_MO_isPower 3 = .ok (.iload_n 1, 1) := by decide +kernel
theorem d_MO_isPower_4 : decode b_MO_isPower 4 = .ok (.iload_n 0, 1) := by decide +kernel
theorem d_MO_isPower_5 : decode b_MO_isPower 5 = .ok (.if_icmp .ge 10, 3) := by decide +kernel
theorem d_MO_isPower_8 : decode b_MO_isPower 8 = .ok (.iconst 2, 1) := by decide +kernel
theorem d_MO_isPower_9 : decode b_MO_isPower 9 = .ok (.iload_n 1, 1) := by decide +kernel
theorem d_MO_isPower_10 : decode b_MO_isPower 10 = .ok (.imul, 1) := by decide +kernel
theorem d_MO_isPower_11 : decode b_MO_isPower 11 = .ok (.istore_n 1, 1) := by decide +kernel
theorem d_MO_isPower_12 : decode b_MO_isPower 12 = .ok (.goto (-9), 3) := by decide +kernel
theorem d_MO_isPower_15 : decode b_MO_isPower 15 = .ok (.iload_n 1, 1) := by decide +kernel
theorem d_MO_isPower_16 : decode b_MO_isPower 16 = .ok (.iload_n 0, 1) := by decide +kernel
theorem d_MO_isPower_17 : decode b_MO_isPower 17 = .ok (.if_icmp .ne 7, 3) := by decide +kernel
theorem d_MO_isPower_20 : decode b_MO_isPower 20 = .ok (.iconst 1, 1) := by decide +kernel
theorem d_MO_isPower_21 : decode b_MO_isPower 21 = .ok (.goto 4, 3) := by decide +kernel
theorem d_MO_isPower_24 : decode b_MO_isPower 24 = .ok (.iconst 0, 1) := by decide +kernel
theorem d_MO_isPower_25 : decode b_MO_isPower 25 = .ok (.ireturn, 1) := by decide +kernel
theorem d_MO_isDesk_0 : decode b_MO_isDesk 0 = .ok (.iload_n 0, 1) := by decide +kernel
theorem d_MO_isDesk_1 : decode b_MO_isDesk 1 = .ok (.ifCond .lt 16, 3) := by decide +kernel
theorem d_MO_isDesk_4 : decode b_MO_isDesk 4 = .ok (.iload_n 0, 1) := by decide +kernel
theorem d_MO_isDesk_5 : decode b_MO_isDesk 5 = .ok (.sipush 512, 3) := by decide +kernel
theorem d_MO_isDesk_8 : decode b_MO_isDesk 8 = .ok (.iload_n 1, 1) := by decide +kernel
theorem d_MO_isDesk_9 : decode b_MO_isDesk 9 = .ok (.isub, 1) := by decide +kernel
theorem d_MO_isDesk_10 : decode b_MO_isDesk 10 = .ok (.if_icmp .gt 7, 3) := by decide +kernel
theorem d_MO_isDesk_13 : decode b_MO_isDesk 13 = .ok (.iconst 1, 1) := by decide +kernel
theorem d_MO_isDesk_14 : decode b_MO_isDesk 14 = .ok (.goto 4, 3) := by decide +kernel
theorem d_MO_isDesk_17 : decode b_MO_isDesk 17 = .ok (.iconst 0, 1) := by decide +kernel
theorem d_MO_isDesk_18 : decode b_MO_isDesk 18 = .ok (.ireturn, 1) := by decide +kernel
theorem d_MO_isProper_0 : decode b_MO_isProper 0 = .ok (.iload_n 0, 1) := by decide +kernel
theorem d_MO_isProper_1 : decode b_MO_isProper 1 = .ok (.iconst 2, 1) := by decide +kernel
theorem d_MO_isProper_2 : decode b_MO_isProper 2 = .ok (.if_icmp .ne 36, 3) := by decide +kernel
theorem d_MO_isProper_5 : decode b_MO_isProper 5 = .ok (.iload_n 1, 1) := by decide +kernel
theorem d_MO_isProper_6 : decode b_MO_isProper 6 = .ok (.ifCond .ne 30, 3) := by decide +kernel
theorem d_MO_isProper_9 : decode b_MO_isProper 9 = .ok (.iload_n 2, 1) := by decide +kernel
theorem d_MO_isProper_10 : decode b_MO_isProper 10 = .ok (.ifCond .ne 26, 3) := by decide +kernel
theorem d_MO_isProper_13 : decode b_MO_isProper 13 = .ok (.iload_n 3, 1) := by decide +kernel
theorem d_MO_isProper_14 : decode b_MO_isProper 14 = .ok (.bipush 64, 2) := by decide +kernel
theorem d_MO_isProper_16 : decode b_MO_isProper 16 = .ok (.sipush 16384, 3) := by decide +kernel
theorem d_MO_isProper_19 : decode b_MO_isProper 19 = .ok (.invokestatic 64, 3) := by decide +kernel
theorem d_MO_isProper_22 : decode b_MO_isProper 22 = .ok (.ifCond .eq 14, 3) := by decide +kernel
theorem d_MO_isProper_25 : decode b_MO_isProper 25 = .ok (.iload_n 3, 1) := by decide +kernel
theorem d_MO_isProper_26 : decode b_MO_isProper 26 = .ok (.invokestatic 68, 3) := by decide +kernel
theorem d_MO_isProper_29 : decode b_MO_isProper 29 = .ok (.ifCond .eq 7, 3) := by decide +kernel
theorem d_MO_isProper_32 : decode b_MO_isProper 32 = .ok (.iconst 1, 1) := by decide +kernel
theorem d_MO_isProper_33 : decode b_MO_isProper 33 = .ok (.goto 4, 3) := by decide +kernel
theorem d_MO_isProper_36 : decode b_MO_isProper 36 = .ok (.iconst 0, 1) := by decide +kernel
theorem d_MO_isProper_37 : decode b_MO_isProper 37 = .ok (.ireturn, 1) := by decide +kernel
theorem d_MO_isProper_38 : decode b_MO_isProper 38 = .ok (.iload_n 0, 1) := by decide +kernel
theorem d_MO_isProper_39 : decode b_MO_isProper 39 = .ok (.ifCond .ne 16, 3) := by decide +kernel
theorem d_MO_isProper_42 : decode b_MO_isProper 42 = .ok (.iload_n 1, 1) := by decide +kernel
theorem d_MO_isProper_43 : decode b_MO_isProper 43 = .ok (.iconst 4, 1) := by decide +kernel
theorem d_MO_isProper_44 : decode b_MO_isProper 44 = .ok (.if_icmp .ne 7, 3) := by decide +kernel
theorem d_MO_isProper_47 : decode b_MO_isProper 47 = .ok (.iconst 1, 1) := by decide +kernel
theorem d_MO_isProper_48 : decode b_MO_isProper 48 = .ok (.goto 27, 3) := by decide +kernel
theorem d_MO_isProper_51 : decode b_MO_isProper 51 = .ok (.iconst 0, 1) := by decide +kernel
theorem d_MO_isProper_52 : decode b_MO_isProper 52 = .ok (.goto 23, 3) := by decide +kernel
theorem d_MO_isProper_55 : decode b_MO_isProper 55 = .ok (.iload_n 0, 1) := by decide +kernel
theorem d_MO_isProper_56 : decode b_MO_isProper 56 = .ok (.iconst 1, 1) := by decide +kernel
theorem d_MO_isProper_57 : decode b_MO_isProper 57 = .ok (.if_icmp .ne 17, 3) := by decide +kernel
theorem d_MO_isProper_60 : decode b_MO_isProper 60 = .ok (.iload_n 1, 1) := by decide +kernel
theorem d_MO_isProper_61 : decode b_MO_isProper 61 = .ok (.iconst 1, 1) := by decide +kernel
theorem d_MO_isProper_62 : decode b_MO_isProper 62 = .ok (.bipush 64, 2) := by decide +kernel
theorem d_MO_isProper_64 : decode b_MO_isProper 64 = .ok (.invokestatic 64, 3) := by decide +kernel
theorem d_MO_isProper_67 : decode b_MO_isProper 67 = .ok (.ifCond .eq 7, 3) := by decide +kernel
theorem d_MO_isProper_70 : decode b_MO_isProper 70 = .ok (.iconst 1, 1) := by decide +kernel
theorem d_MO_isProper_71 : decode b_MO_isProper 71 = .ok (.goto 4, 3) := by decide +kernel
theorem d_MO_isProper_74 : decode b_MO_isProper 74 = .ok (.iconst 0, 1) := by decide +kernel
theorem d_MO_isProper_75 : decode b_MO_isProper 75 = .ok (.istore 4, 2) := by decide +kernel
theorem d_MO_isProper_77 : decode b_MO_isProper 77 = .ok (.iload 4, 2) := by decide +kernel
theorem d_MO_isProper_79 : decode b_MO_isProper 79 = .ok (.ifCond .eq 29, 3) := by decide +kernel
theorem d_MO_isProper_82 : decode b_MO_isProper 82 = .ok (.iload_n 2, 1) := by decide +kernel
theorem d_MO_isProper_83 : decode b_MO_isProper 83 = .ok (.iconst 1, 1) := by decide +kernel
theorem d_MO_isProper_84 : decode b_MO_isProper 84 = .ok (.sipush 256, 3) := by decide +kernel
theorem d_MO_isProper_87 : decode b_MO_isProper 87 = .ok (.invokestatic 64, 3) := by decide +kernel
theorem d_MO_isProper_90 : decode b_MO_isProper 90 = .ok (.ifCond .eq 18, 3) := by decide +kernel
theorem d_MO_isProper_93 : decode b_MO_isProper 93 = .ok (.iload_n 3, 1) := by decide +kernel
theorem d_MO_isProper_94 : decode b_MO_isProper 94 = .ok (.iconst 1, 1) := by decide +kernel
theorem d_MO_isProper_95 : decode b_MO_isProper 95 = .ok (.sipush 4096, 3) := by decide +kernel
theorem d_MO_isProper_98 : decode b_MO_isProper 98 = .ok (.invokestatic 64, 3) := by decide +kernel
theorem d_MO_isProper_101 : decode b_MO_isProper 101 = .ok (.ifCond .eq 7, 3) := by decide +kernel
theorem d_MO_isProper_104 : decode b_MO_isProper 104 = .ok (.iconst 1, 1) := by decide +kernel
theorem d_MO_isProper_105 : decode b_MO_isProper 105 = .ok (.goto 4, 3) := by decide +kernel
theorem d_MO_isProper_108 : decode b_MO_isProper 108 = .ok (.iconst 0, 1) := by decide +kernel
theorem d_MO_isProper_109 : decode b_MO_isProper 109 = .ok (.ireturn, 1) := by decide +kernel
set_option maxRecDepth 100000 in
set_option maxHeartbeats 4000000 in
theorem c_MO_filled (l : Launch) {n : Nat} (hn : n < 2 ^ 30) : mp_Ct l y_MO_filled (Cond.code y_MO_filled b_MO_filled 1 (some .int) :: Ts) 0 0 [.int (nI n)] (fun v => v = some (.int (nI (up8 n)))) := by
  refine mp_meth (by decide) (Nat.le_of_ble_eq_true rfl) ?_
  intro p e s m below meth c hx hb hml hown hts hr hlk ls hl
  have hl : lv_has ls 1 [(0, .int (nI n))] := hl
  refine lv_iload_n hx hb d_MO_filled_0 rfl (lv_at hl 0 rfl) ?_
  refine lv_bipush (v := nI 7) hx hb d_MO_filled_1 (by decide) ?_
  refine lv_iadd hx hb d_MO_filled_3 ?_
  refine mw_ti (nI_add _ _) ?_
  refine lv_bipush (v := nI 8) hx hb d_MO_filled_4 (by decide) ?_
  refine lv_idiv hx hb d_MO_filled_6 (nI_ne0 (by omega) (by omega)) ?_
  refine mw_ti (pk_div (by omega) (by omega) (by omega)) ?_
  refine lv_bipush (v := nI 8) hx hb d_MO_filled_7 (by decide) ?_
  refine lv_imul hx hb d_MO_filled_9 ?_
  refine mw_ti (pk_mul _ _) ?_
  refine mw_ti (y := nI (up8 n)) ((by unfold up8; rfl)) ?_
  exact mp_iret hx hb hr hlk rfl d_MO_filled_10
set_option maxRecDepth 100000 in
set_option maxHeartbeats 4000000 in
theorem c_MO_isIn (l : Launch) (x a b : Int32) : mp_Ct l y_MO_isIn (Cond.code y_MO_isIn b_MO_isIn 3 (some .boolean) :: Ts) 0 0 [.int x, .int a, .int b] (fun v => v = some (.int (if a.toInt ≤ x.toInt ∧ x.toInt ≤ b.toInt then 1 else 0))) := by
  refine mp_meth (by decide) (Nat.le_of_ble_eq_true rfl) ?_
  intro p e s m below meth c hx hb hml hown hts hr hlk ls hl
  have hl : lv_has ls 3 [(0, .int x), (1, .int a), (2, .int b)] := hl
  refine lv_iload_n hx hb d_MO_isIn_0 rfl (lv_at hl 0 rfl) ?_
  refine lv_iload_n hx hb d_MO_isIn_1 rfl (lv_at hl 1 rfl) ?_
  refine lv_icmp_lt (tgt := 14) hx hb d_MO_isIn_2 (by decide) (fun c2 => ?_) (fun c2 => ?_)
  ·
    rw [Int32.lt_iff_toInt_lt] at c2
    refine lv_iconst (v := nI 0) hx hb d_MO_isIn_14 (by decide) ?_
    exact mp_zret hx hb hr hlk (Or.inl rfl) (by rw [if_neg (by omega)]; rfl) d_MO_isIn_15
  ·
    rw [Int32.lt_iff_toInt_lt] at c2
    refine lv_iload_n hx hb d_MO_isIn_5 rfl (lv_at hl 0 rfl) ?_
    refine lv_iload_n hx hb d_MO_isIn_6 rfl (lv_at hl 2 rfl) ?_
    refine lv_icmp_gt (tgt := 14) hx hb d_MO_isIn_7 (by decide) (fun c7 => ?_) (fun c7 => ?_)
    ·
      rw [Int32.lt_iff_toInt_lt] at c7
      refine lv_iconst (v := nI 0) hx hb d_MO_isIn_14 (by decide) ?_
      exact mp_zret hx hb hr hlk (Or.inl rfl) (by rw [if_neg (by omega)]; rfl) d_MO_isIn_15
    ·
      rw [Int32.lt_iff_toInt_lt] at c7
      refine lv_iconst (v := nI 1) hx hb d_MO_isIn_10 (by decide) ?_
      refine lv_goto (tgt := 15) hx hb d_MO_isIn_11 (by decide) ?_
      exact mp_zret hx hb hr hlk (Or.inr rfl) (by rw [if_pos (by omega)]; rfl) d_MO_isIn_15
set_option maxRecDepth 100000 in
set_option maxHeartbeats 4000000 in
theorem c_MO_isDesk (l : Launch) (x : Int32) {n : Nat} (hn : n ≤ 512) : mp_Ct l y_MO_isDesk (Cond.code y_MO_isDesk b_MO_isDesk 2 (some .boolean) :: Ts) 0 0 [.int x, .int (nI n)] (fun v => v = some (.int (if inD x n 512 then 1 else 0))) := by
  refine mp_meth (by decide) (Nat.le_of_ble_eq_true rfl) ?_
  intro p e s m below meth c hx hb hml hown hts hr hlk ls hl
  have hl : lv_has ls 2 [(0, .int x), (1, .int (nI n))] := hl
  refine lv_iload_n hx hb d_MO_isDesk_0 rfl (lv_at hl 0 rfl) ?_
  refine lv_if_lt (tgt := 17) hx hb d_MO_isDesk_1 (by decide) (fun c1 => ?_) (fun c1 => ?_)
  ·
    rw [Int32.lt_iff_toInt_lt, Int32.toInt_zero] at c1
    refine lv_iconst (v := nI 0) hx hb d_MO_isDesk_17 (by decide) ?_
    exact mp_zret hx hb hr hlk (Or.inl rfl) (by rw [if_neg (fun z => by have := z.1; omega)]; rfl) d_MO_isDesk_18
  ·
    rw [Int32.lt_iff_toInt_lt, Int32.toInt_zero] at c1
    refine lv_iload_n hx hb d_MO_isDesk_4 rfl (lv_at hl 0 rfl) ?_
    refine lv_sipush (v := nI 512) hx hb d_MO_isDesk_5 (by decide) ?_
    refine lv_iload_n hx hb d_MO_isDesk_8 rfl (lv_at hl 1 rfl) ?_
    refine lv_isub hx hb d_MO_isDesk_9 ?_
    refine mw_ti (pk_sub (by omega)) ?_
    refine lv_icmp_gt (tgt := 17) hx hb d_MO_isDesk_10 (by decide) (fun c10 => ?_) (fun c10 => ?_)
    ·
      rw [Int32.lt_iff_toInt_lt, nI_toInt (by omega)] at c10
      refine lv_iconst (v := nI 0) hx hb d_MO_isDesk_17 (by decide) ?_
      exact mp_zret hx hb hr hlk (Or.inl rfl) (by rw [if_neg (fun z => by have := z.2; omega)]; rfl) d_MO_isDesk_18
    ·
      rw [Int32.lt_iff_toInt_lt, nI_toInt (by omega)] at c10
      refine lv_iconst (v := nI 1) hx hb d_MO_isDesk_13 (by decide) ?_
      refine lv_goto (tgt := 18) hx hb d_MO_isDesk_14 (by decide) ?_
      exact mp_zret hx hb hr hlk (Or.inr rfl) (by rw [if_pos ⟨by omega, by omega⟩]; rfl) d_MO_isDesk_18
set_option maxRecDepth 100000 in
set_option maxHeartbeats 4000000 in
theorem c_MO_isPower (l : Launch) {n : Nat} (h1 : 64 ≤ n) (h2 : n ≤ 16384) : mp_Ct l y_MO_isPower (Cond.code y_MO_isPower b_MO_isPower 2 (some .boolean) :: Ts) 0 0 [.int (nI n)] (fun u => ∃ r : Int32, u = some (.int r) ∧ ((r = 1 ∧ ∃ p, 6 ≤ p ∧ p ≤ 14 ∧ n = 2 ^ p) ∨ (r = 0 ∧ ¬ ∃ p, 6 ≤ p ∧ p ≤ 14 ∧ n = 2 ^ p))) := by
  refine mp_meth (by decide) (Nat.le_of_ble_eq_true rfl) ?_
  intro p e s m below meth c hx hb hml hown hts hr hlk ls hl
  have hl : lv_has ls 2 [(0, .int (nI n))] := hl
  have hloop : ∀ (q j : Nat), j + q = 14 → 6 ≤ j → (∀ p, 6 ≤ p → p < j → 2 ^ p < n) → ∀ ls : Array Slot, lv_has ls 2 [(1, .int (nI (2 ^ j))), (0, .int (nI n))] → W p l e { frames := 0, cells := 0, slots := 0, locals := 0 } s m ([.int (nI n)] : List Value).toArray below meth c s.heap [] 0 0 (mx_Q below (fun _ st o t => ∃ v, o = .returned v ∧ (∃ r : Int32, v = some (.int r) ∧ ((r = 1 ∧ ∃ p, 6 ≤ p ∧ p ≤ 14 ∧ n = 2 ^ p) ∨ (r = 0 ∧ ¬ ∃ p, 6 ≤ p ∧ p ≤ 14 ∧ n = 2 ^ p))) ∧ t.heap = st.heap) ([.int (nI n)] : List Value).toArray s 0 0 (fun _ => False)) (F0 m 3 ls []) := by
    intro q
    induction q with
    | zero =>
      intro j hj h6 hlo ls hl
      have hj14 : j = 14 := by omega
      subst hj14
      refine lv_iload_n hx hb d_MO_isPower_3 rfl (lv_at hl 0 rfl) ?_
      refine lv_iload_n hx hb d_MO_isPower_4 rfl (lv_at hl 1 rfl) ?_
      refine lv_icmp_ge (tgt := 15) hx hb d_MO_isPower_5 (by decide) (fun c5 => ?_) (fun c5 => ?_)
      ·
        refine lv_iload_n hx hb d_MO_isPower_15 rfl (lv_at hl 0 rfl) ?_
        refine lv_iload_n hx hb d_MO_isPower_16 rfl (lv_at hl 1 rfl) ?_
        refine lv_icmp_ne (tgt := 24) hx hb d_MO_isPower_17 (by decide) (fun c17 => ?_) (fun c17 => ?_)
        ·
          refine lv_iconst (v := nI 0) hx hb d_MO_isPower_24 (by decide) ?_
          refine mp_zret hx hb hr hlk (Or.inl rfl) ⟨_, rfl, Or.inr ⟨rfl, fun ⟨p, p6, p14, hp⟩ => ?_⟩⟩ d_MO_isPower_25
          by_cases e : p = 14
          · rw [e] at hp; exact c17 (by rw [hp])
          · have := hlo p p6 (by omega); omega
        ·
          refine lv_iconst (v := nI 1) hx hb d_MO_isPower_20 (by decide) ?_
          refine lv_goto (tgt := 25) hx hb d_MO_isPower_21 (by decide) ?_
          refine mp_zret hx hb hr hlk (Or.inr rfl) ⟨_, rfl, Or.inl ⟨rfl, 14, by decide, by decide, ?_⟩⟩ d_MO_isPower_25
          have := (nI_eq (a := 2 ^ 14) (b := n) (by decide) (by omega)).mp c17
          omega
      ·
        exact absurd (nI_le (b := 2 ^ 14) (by omega) (by decide)) c5
    | succ q ih =>
      intro j hj h6 hlo ls hl
      have hjp : 2 ^ j ≤ 2 ^ 13 := Nat.pow_le_pow_right (by decide) (by omega)
      refine lv_iload_n hx hb d_MO_isPower_3 rfl (lv_at hl 0 rfl) ?_
      refine lv_iload_n hx hb d_MO_isPower_4 rfl (lv_at hl 1 rfl) ?_
      refine lv_icmp_ge (tgt := 15) hx hb d_MO_isPower_5 (by decide) (fun c5 => ?_) (fun c5 => ?_)
      ·
        have hge := (nI_leI (by omega) (by omega)).mp c5
        refine lv_iload_n hx hb d_MO_isPower_15 rfl (lv_at hl 0 rfl) ?_
        refine lv_iload_n hx hb d_MO_isPower_16 rfl (lv_at hl 1 rfl) ?_
        refine lv_icmp_ne (tgt := 24) hx hb d_MO_isPower_17 (by decide) (fun c17 => ?_) (fun c17 => ?_)
        ·
          refine lv_iconst (v := nI 0) hx hb d_MO_isPower_24 (by decide) ?_
          refine mp_zret hx hb hr hlk (Or.inl rfl) ⟨_, rfl, Or.inr ⟨rfl, fun ⟨p, p6, p14, hp⟩ => ?_⟩⟩ d_MO_isPower_25
          by_cases e : p < j
          · have := hlo p p6 e; omega
          · have hjp2 : 2 ^ j ≤ 2 ^ p := Nat.pow_le_pow_right (by decide) (by omega)
            exact c17 ((nI_eq (by omega) (by omega)).mpr (by omega))
        ·
          refine lv_iconst (v := nI 1) hx hb d_MO_isPower_20 (by decide) ?_
          refine lv_goto (tgt := 25) hx hb d_MO_isPower_21 (by decide) ?_
          exact mp_zret hx hb hr hlk (Or.inr rfl) ⟨_, rfl, Or.inl ⟨rfl, j, h6, by omega, ((nI_eq (by omega) (by omega)).mp c17).symm⟩⟩ d_MO_isPower_25
      ·
        have hlt : 2 ^ j < n := Nat.lt_of_not_le (fun h => c5 ((nI_leI (by omega) (by omega)).mpr h))
        refine lv_iconst (v := nI 2) hx hb d_MO_isPower_8 (by decide) ?_
        refine lv_iload_n hx hb d_MO_isPower_9 rfl (lv_at hl 0 rfl) ?_
        refine lv_imul hx hb d_MO_isPower_10 ?_
        refine mw_ti (pk_mul _ _) ?_
        refine mw_ti (y := nI (2 ^ (j + 1))) ((by rw [Nat.pow_succ, Nat.mul_comm])) ?_
        refine lv_istore_n (lv' := [(1, .int (nI (2 ^ (j + 1)))), (0, .int (nI n))]) hx hb d_MO_isPower_11 rfl hl (by decide) rfl (fun ls hl => ?_)
        refine lv_goto (tgt := 3) hx hb d_MO_isPower_12 (by decide) ?_
        refine ih (j + 1) (by omega) (by omega) (fun p p6 hp => ?_) ls hl
        by_cases e : p = j
        · rw [e]; exact hlt
        · exact hlo p p6 (by omega)
  refine lv_bipush (v := nI 64) hx hb d_MO_isPower_0 (by decide) ?_
  refine lv_istore_n (lv' := [(1, .int (nI 64)), (0, .int (nI n))]) hx hb d_MO_isPower_2 rfl hl (by decide) rfl (fun ls hl => ?_)
  exact hloop 8 6 (by decide) (by decide) (fun p p6 hp => absurd hp (by omega)) ls hl
theorem inB_i (z : Int32) {a b : Nat} (ha : a < 2 ^ 31) (hb : b < 2 ^ 31) : (if (nI a).toInt ≤ z.toInt ∧ z.toInt ≤ (nI b).toInt then (1 : Int32) else 0) = if inB z a b then 1 else 0 := by rw [nI_toInt ha, nI_toInt hb]
set_option maxRecDepth 100000 in
set_option maxHeartbeats 4000000 in
theorem c_MO_isProper (l : Launch) (k a v n : Int32) : mp_Ct l y_MO_isProper (Cond.code y_MO_isProper b_MO_isProper 5 (some .boolean) :: Ts) 1 40 [.int k, .int a, .int v, .int n] (fun u => ∃ r : Int32, u = some (.int r) ∧ ((r = 1 ∧ fitS k a v n) ∨ (r = 0 ∧ ¬ fitS k a v n))) := by
  refine mp_meth (by decide) (Nat.le_of_ble_eq_true rfl) ?_
  intro p e s m below meth c hx hb hml hown hts hr hlk ls hl
  have hl : lv_has ls 5 [(0, .int k), (1, .int a), (2, .int v), (3, .int n)] := hl
  have n01 : nI 0 ≠ nI 1 := by decide
  have n02 : nI 0 ≠ nI 2 := by decide
  have n12 : nI 1 ≠ nI 2 := by decide
  have no : ∀ (ls : Array Slot), lv_has ls 5 [] → ¬ fitS k a v n → W p l e { frames := 1, cells := 0, slots := 0, locals := 40 } s m ([.int k, .int a, .int v, .int n] : List Value).toArray below meth c s.heap [] 0 0 (mx_Q below (fun _ st o t => ∃ v2, o = .returned v2 ∧ (∃ r : Int32, v2 = some (.int r) ∧ ((r = 1 ∧ fitS k a v n) ∨ (r = 0 ∧ ¬ fitS k a v n))) ∧ t.heap = st.heap) ([.int k, .int a, .int v, .int n] : List Value).toArray s 0 0 (fun _ => False)) (F0 m 108 ls []) := by
    intro ls hl hn
    refine lv_iconst (v := nI 0) hx hb d_MO_isProper_108 (by decide) ?_
    exact mp_zret hx hb hr hlk (Or.inl rfl) ⟨_, rfl, Or.inr ⟨rfl, hn⟩⟩ d_MO_isProper_109
  have no2 : ∀ (ls : Array Slot), lv_has ls 5 [] → ¬ fitS k a v n → W p l e { frames := 1, cells := 0, slots := 0, locals := 40 } s m ([.int k, .int a, .int v, .int n] : List Value).toArray below meth c s.heap [] 0 0 (mx_Q below (fun _ st o t => ∃ v2, o = .returned v2 ∧ (∃ r : Int32, v2 = some (.int r) ∧ ((r = 1 ∧ fitS k a v n) ∨ (r = 0 ∧ ¬ fitS k a v n))) ∧ t.heap = st.heap) ([.int k, .int a, .int v, .int n] : List Value).toArray s 0 0 (fun _ => False)) (F0 m 36 ls []) := by
    intro ls hl hn
    refine lv_iconst (v := nI 0) hx hb d_MO_isProper_36 (by decide) ?_
    exact mp_zret hx hb hr hlk (Or.inl rfl) ⟨_, rfl, Or.inr ⟨rfl, hn⟩⟩ d_MO_isProper_37
  have rest : ∀ (r9 : Int32) (Q : Prop), (r9 = 1 ∧ Q ∨ r9 = 0 ∧ ¬ Q) → (fitS k a v n ↔ Q ∧ inB v 1 256 ∧ inB n 1 4096) → ∀ (ls : Array Slot), lv_has ls 5 [(0, .int k), (1, .int a), (2, .int v), (3, .int n)] → W p l e { frames := 1, cells := 0, slots := 0, locals := 40 } s m ([.int k, .int a, .int v, .int n] : List Value).toArray below meth c s.heap [] 0 0 (mx_Q below (fun _ st o t => ∃ v2, o = .returned v2 ∧ (∃ r : Int32, v2 = some (.int r) ∧ ((r = 1 ∧ fitS k a v n) ∨ (r = 0 ∧ ¬ fitS k a v n))) ∧ t.heap = st.heap) ([.int k, .int a, .int v, .int n] : List Value).toArray s 0 0 (fun _ => False)) (F0 m 75 ls [.int r9]) := by
    intro r9 Q hr9 hiff ls hl
    refine lv_istore (lv' := [(4, .int r9), (0, .int k), (1, .int a), (2, .int v), (3, .int n)]) hx hb d_MO_isProper_75 hl (by decide) rfl (fun ls hl => ?_)
    refine lv_iload hx hb d_MO_isProper_77 (lv_at hl 0 rfl) ?_
    refine lv_if_eq (tgt := 108) hx hb d_MO_isProper_79 (by decide) (fun c79 => ?_) (fun c79 => ?_)
    ·
      refine no ls (lv_sub hl [] rfl) (fun z => ?_)
      rcases hr9 with ⟨e, -⟩ | ⟨-, e⟩
      · rw [e] at c79; exact absurd c79 (by decide)
      · exact e (hiff.mp z).1
    ·
      have hQ : Q := by
        rcases hr9 with ⟨-, e⟩ | ⟨e, -⟩
        · exact e
        · exact absurd e c79
      refine lv_iload_n hx hb d_MO_isProper_82 rfl (lv_at hl 3 rfl) ?_
      refine lv_iconst (v := nI 1) hx hb d_MO_isProper_83 (by decide) ?_
      refine lv_sipush (v := nI 256) hx hb d_MO_isProper_84 (by decide) ?_
      refine mp_call (rest := []) hb hml (c_MO_isIn l v (nI 1) (nI 256)) (mx_invS hx hown (hts _ tw_677) (hts _ tw_678) (hts _ tw_23) (hts _ tw_679) (by decide) (g := F0 m 87 ls [.int (nI 256), .int (nI 1), .int v]) rfl (argsL := [.int v, .int (nI 1), .int (nI 256)]) (rest := []) np_MO_isIn rfl (by rw [hb]; exact d_MO_isProper_87)) hl.1 d_MO_isProper_87 ⟨Nat.le_of_ble_eq_true rfl, Nat.le_of_ble_eq_true rfl⟩ (Or.inl ⟨_, _, List.mem_cons_self⟩) (mk_ws tw_679 hts) (fun a9 U9 h9 => Ts_warm hts _ tw_23 a9 U9 h9) (by first | exact ⟨Nat.le_of_ble_eq_true rfl, Nat.le_of_ble_eq_true rfl⟩ | assumption) (fun v hv => ?_)
      subst hv
      refine W.eq (g2 := F0 m 90 ls [.int (if (nI 1).toInt ≤ v.toInt ∧ v.toInt ≤ (nI 256).toInt then 1 else 0)]) rfl ?_
      rw [inB_i v (a := 1) (b := 256) (by decide) (by decide)]
      refine lv_if_eq (tgt := 108) hx hb d_MO_isProper_90 (by decide) (fun c90 => ?_) (fun c90 => ?_)
      ·
        rw [if10.1] at c90
        exact no ls (lv_sub hl [] rfl) (fun z => c90 (hiff.mp z).2.1)
      ·
        rw [if10.2] at c90
        refine lv_iload_n hx hb d_MO_isProper_93 rfl (lv_at hl 4 rfl) ?_
        refine lv_iconst (v := nI 1) hx hb d_MO_isProper_94 (by decide) ?_
        refine lv_sipush (v := nI 4096) hx hb d_MO_isProper_95 (by decide) ?_
        refine mp_call (rest := []) hb hml (c_MO_isIn l n (nI 1) (nI 4096)) (mx_invS hx hown (hts _ tw_677) (hts _ tw_678) (hts _ tw_23) (hts _ tw_679) (by decide) (g := F0 m 98 ls [.int (nI 4096), .int (nI 1), .int n]) rfl (argsL := [.int n, .int (nI 1), .int (nI 4096)]) (rest := []) np_MO_isIn rfl (by rw [hb]; exact d_MO_isProper_98)) hl.1 d_MO_isProper_98 ⟨Nat.le_of_ble_eq_true rfl, Nat.le_of_ble_eq_true rfl⟩ (Or.inl ⟨_, _, List.mem_cons_self⟩) (mk_ws tw_679 hts) (fun a9 U9 h9 => Ts_warm hts _ tw_23 a9 U9 h9) (by first | exact ⟨Nat.le_of_ble_eq_true rfl, Nat.le_of_ble_eq_true rfl⟩ | assumption) (fun v hv => ?_)
        subst hv
        refine W.eq (g2 := F0 m 101 ls [.int (if (nI 1).toInt ≤ n.toInt ∧ n.toInt ≤ (nI 4096).toInt then 1 else 0)]) rfl ?_
        rw [inB_i n (a := 1) (b := 4096) (by decide) (by decide)]
        refine lv_if_eq (tgt := 108) hx hb d_MO_isProper_101 (by decide) (fun c101 => ?_) (fun c101 => ?_)
        ·
          rw [if10.1] at c101
          exact no ls (lv_sub hl [] rfl) (fun z => c101 (hiff.mp z).2.2)
        ·
          rw [if10.2] at c101
          refine lv_iconst (v := nI 1) hx hb d_MO_isProper_104 (by decide) ?_
          refine lv_goto (tgt := 109) hx hb d_MO_isProper_105 (by decide) ?_
          exact mp_zret hx hb hr hlk (Or.inr rfl) ⟨_, rfl, Or.inl ⟨rfl, hiff.mpr ⟨hQ, c90, c101⟩⟩⟩ d_MO_isProper_109
  refine lv_iload_n hx hb d_MO_isProper_0 rfl (lv_at hl 0 rfl) ?_
  refine lv_iconst (v := nI 2) hx hb d_MO_isProper_1 (by decide) ?_
  refine lv_icmp_ne (tgt := 38) hx hb d_MO_isProper_2 (by decide) (fun c2 => ?_) (fun c2 => ?_)
  ·
    refine lv_iload_n hx hb d_MO_isProper_38 rfl (lv_at hl 0 rfl) ?_
    refine lv_if_ne (tgt := 55) hx hb d_MO_isProper_39 (by decide) (fun c39 => ?_) (fun c39 => ?_)
    ·
      have hk0 : k ≠ nI 0 := fun z => c39 (z.trans nI_0)
      refine lv_iload_n hx hb d_MO_isProper_55 rfl (lv_at hl 0 rfl) ?_
      refine lv_iconst (v := nI 1) hx hb d_MO_isProper_56 (by decide) ?_
      refine lv_icmp_ne (tgt := 74) hx hb d_MO_isProper_57 (by decide) (fun c57 => ?_) (fun c57 => ?_)
      ·
        refine lv_iconst (v := nI 0) hx hb d_MO_isProper_74 (by decide) ?_
        exact rest _ False (Or.inr ⟨rfl, id⟩) ⟨fun h => by rcases h with h | h | h; exact absurd h.1 hk0; exact absurd h.1 c57; exact absurd h.1 c2, fun h => h.1.elim⟩ ls hl
      ·
        have hiff : fitS k a v n ↔ inB a 1 64 ∧ inB v 1 256 ∧ inB n 1 4096 := ⟨fun h => by rcases h with h | h | h; exact absurd h.1 hk0; exact h.2; exact absurd h.1 c2, fun h => Or.inr (Or.inl ⟨c57, h⟩)⟩
        refine lv_iload_n hx hb d_MO_isProper_60 rfl (lv_at hl 1 rfl) ?_
        refine lv_iconst (v := nI 1) hx hb d_MO_isProper_61 (by decide) ?_
        refine lv_bipush (v := nI 64) hx hb d_MO_isProper_62 (by decide) ?_
        refine mp_call (rest := []) hb hml (c_MO_isIn l a (nI 1) (nI 64)) (mx_invS hx hown (hts _ tw_677) (hts _ tw_678) (hts _ tw_23) (hts _ tw_679) (by decide) (g := F0 m 64 ls [.int (nI 64), .int (nI 1), .int a]) rfl (argsL := [.int a, .int (nI 1), .int (nI 64)]) (rest := []) np_MO_isIn rfl (by rw [hb]; exact d_MO_isProper_64)) hl.1 d_MO_isProper_64 ⟨Nat.le_of_ble_eq_true rfl, Nat.le_of_ble_eq_true rfl⟩ (Or.inl ⟨_, _, List.mem_cons_self⟩) (mk_ws tw_679 hts) (fun a9 U9 h9 => Ts_warm hts _ tw_23 a9 U9 h9) (by first | exact ⟨Nat.le_of_ble_eq_true rfl, Nat.le_of_ble_eq_true rfl⟩ | assumption) (fun v hv => ?_)
        subst hv
        refine W.eq (g2 := F0 m 67 ls [.int (if (nI 1).toInt ≤ a.toInt ∧ a.toInt ≤ (nI 64).toInt then 1 else 0)]) rfl ?_
        rw [inB_i a (a := 1) (b := 64) (by decide) (by decide)]
        refine lv_if_eq (tgt := 74) hx hb d_MO_isProper_67 (by decide) (fun c67 => ?_) (fun c67 => ?_)
        ·
          rw [if10.1] at c67
          refine lv_iconst (v := nI 0) hx hb d_MO_isProper_74 (by decide) ?_
          exact rest _ _ (Or.inr ⟨rfl, c67⟩) hiff ls hl
        ·
          rw [if10.2] at c67
          refine lv_iconst (v := nI 1) hx hb d_MO_isProper_70 (by decide) ?_
          refine lv_goto (tgt := 75) hx hb d_MO_isProper_71 (by decide) ?_
          exact rest _ _ (Or.inl ⟨rfl, c67⟩) hiff ls hl
    ·
      have hk0 : k = nI 0 := c39.trans nI_0.symm
      have hiff : fitS k a v n ↔ a = nI 4 ∧ inB v 1 256 ∧ inB n 1 4096 := ⟨fun h => by rcases h with h | h | h; exact h.2; exact absurd (hk0.symm.trans h.1) n01; exact absurd h.1 c2, fun h => Or.inl ⟨hk0, h⟩⟩
      refine lv_iload_n hx hb d_MO_isProper_42 rfl (lv_at hl 1 rfl) ?_
      refine lv_iconst (v := nI 4) hx hb d_MO_isProper_43 (by decide) ?_
      refine lv_icmp_ne (tgt := 51) hx hb d_MO_isProper_44 (by decide) (fun c44 => ?_) (fun c44 => ?_)
      ·
        refine lv_iconst (v := nI 0) hx hb d_MO_isProper_51 (by decide) ?_
        refine lv_goto (tgt := 75) hx hb d_MO_isProper_52 (by decide) ?_
        exact rest _ _ (Or.inr ⟨rfl, c44⟩) hiff ls hl
      ·
        refine lv_iconst (v := nI 1) hx hb d_MO_isProper_47 (by decide) ?_
        refine lv_goto (tgt := 75) hx hb d_MO_isProper_48 (by decide) ?_
        exact rest _ _ (Or.inl ⟨rfl, c44⟩) hiff ls hl
  ·
    have hiff : fitS k a v n ↔ a = nI 0 ∧ v = nI 0 ∧ inB n 64 16384 ∧ ∃ p, 6 ≤ p ∧ p ≤ 14 ∧ n.toNatClampNeg = 2 ^ p := ⟨fun h => by rcases h with h | h | h; exact absurd (h.1.symm.trans c2) n02; exact absurd (h.1.symm.trans c2) n12; exact h.2, fun h => Or.inr (Or.inr ⟨c2, h⟩)⟩
    refine lv_iload_n hx hb d_MO_isProper_5 rfl (lv_at hl 1 rfl) ?_
    refine lv_if_ne (tgt := 36) hx hb d_MO_isProper_6 (by decide) (fun c6 => ?_) (fun c6 => ?_)
    ·
      exact no2 ls (lv_sub hl [] rfl) (fun z => c6 ((hiff.mp z).1.trans nI_0))
    ·
      refine lv_iload_n hx hb d_MO_isProper_9 rfl (lv_at hl 2 rfl) ?_
      refine lv_if_ne (tgt := 36) hx hb d_MO_isProper_10 (by decide) (fun c10 => ?_) (fun c10 => ?_)
      ·
        exact no2 ls (lv_sub hl [] rfl) (fun z => c10 ((hiff.mp z).2.1.trans nI_0))
      ·
        refine lv_iload_n hx hb d_MO_isProper_13 rfl (lv_at hl 3 rfl) ?_
        refine lv_bipush (v := nI 64) hx hb d_MO_isProper_14 (by decide) ?_
        refine lv_sipush (v := nI 16384) hx hb d_MO_isProper_16 (by decide) ?_
        refine mp_call (rest := []) hb hml (c_MO_isIn l n (nI 64) (nI 16384)) (mx_invS hx hown (hts _ tw_677) (hts _ tw_678) (hts _ tw_23) (hts _ tw_679) (by decide) (g := F0 m 19 ls [.int (nI 16384), .int (nI 64), .int n]) rfl (argsL := [.int n, .int (nI 64), .int (nI 16384)]) (rest := []) np_MO_isIn rfl (by rw [hb]; exact d_MO_isProper_19)) hl.1 d_MO_isProper_19 ⟨Nat.le_of_ble_eq_true rfl, Nat.le_of_ble_eq_true rfl⟩ (Or.inl ⟨_, _, List.mem_cons_self⟩) (mk_ws tw_679 hts) (fun a9 U9 h9 => Ts_warm hts _ tw_23 a9 U9 h9) (by first | exact ⟨Nat.le_of_ble_eq_true rfl, Nat.le_of_ble_eq_true rfl⟩ | assumption) (fun v hv => ?_)
        subst hv
        refine W.eq (g2 := F0 m 22 ls [.int (if (nI 64).toInt ≤ n.toInt ∧ n.toInt ≤ (nI 16384).toInt then 1 else 0)]) rfl ?_
        rw [inB_i n (a := 64) (b := 16384) (by decide) (by decide)]
        refine lv_if_eq (tgt := 36) hx hb d_MO_isProper_22 (by decide) (fun c22 => ?_) (fun c22 => ?_)
        ·
          rw [if10.1] at c22
          exact no2 ls (lv_sub hl [] rfl) (fun z => c22 (hiff.mp z).2.2.1)
        ·
          rw [if10.2] at c22
          obtain ⟨n1, n2, n3⟩ := inB_nI c22 (by decide)
          rw [n1] at hl
          refine lv_iload_n hx hb d_MO_isProper_25 rfl (lv_at hl 3 rfl) ?_
          refine mp_call (rest := []) hb hml (c_MO_isPower l n2 n3) (mx_invS hx hown (hts _ tw_680) (hts _ tw_681) (hts _ tw_23) (hts _ tw_682) (by decide) (g := F0 m 26 ls [.int (nI n.toNatClampNeg)]) rfl (argsL := [.int (nI n.toNatClampNeg)]) (rest := []) np_MO_isPower rfl (by rw [hb]; exact d_MO_isProper_26)) hl.1 d_MO_isProper_26 ⟨Nat.le_of_ble_eq_true rfl, Nat.le_of_ble_eq_true rfl⟩ (Or.inl ⟨_, _, List.mem_cons_self⟩) (mk_ws tw_682 hts) (fun a9 U9 h9 => Ts_warm hts _ tw_23 a9 U9 h9) (by first | exact ⟨Nat.le_of_ble_eq_true rfl, Nat.le_of_ble_eq_true rfl⟩ | assumption) (fun v hv => ?_)
          obtain ⟨r9, hv, hr9⟩ := hv
          subst hv
          refine W.eq (g2 := F0 m 29 ls [.int r9]) rfl ?_
          refine lv_if_eq (tgt := 36) hx hb d_MO_isProper_29 (by decide) (fun c29 => ?_) (fun c29 => ?_)
          ·
            refine no2 ls (lv_sub hl [] rfl) (fun z => ?_)
            rcases hr9 with ⟨e, -⟩ | ⟨-, e⟩
            · rw [e] at c29; exact absurd c29 (by decide)
            · exact e (hiff.mp z).2.2.2
          ·
            have hp : ∃ p, 6 ≤ p ∧ p ≤ 14 ∧ n.toNatClampNeg = 2 ^ p := by
              rcases hr9 with ⟨-, e⟩ | ⟨e, -⟩
              · exact e
              · exact absurd e c29
            refine lv_iconst (v := nI 1) hx hb d_MO_isProper_32 (by decide) ?_
            refine lv_goto (tgt := 37) hx hb d_MO_isProper_33 (by decide) ?_
            exact mp_zret hx hb hr hlk (Or.inr rfl) ⟨_, rfl, Or.inl ⟨rfl, hiff.mpr ⟨c6.trans nI_0.symm, c10.trans nI_0.symm, c22, hp⟩⟩⟩ d_MO_isProper_37
