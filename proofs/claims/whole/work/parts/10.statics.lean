/-! ### static methods that touch no memory -/
theorem d_MS_filledUp_0 : decode b_MS_filledUp 0 = .ok (.iload_n 0, 1) := by decide +kernel
theorem d_MS_filledUp_1 : decode b_MS_filledUp 1 = .ok (.bipush 7, 2) := by decide +kernel
theorem d_MS_filledUp_3 : decode b_MS_filledUp 3 = .ok (.iadd, 1) := by decide +kernel
theorem d_MS_filledUp_4 : decode b_MS_filledUp 4 = .ok (.bipush (-8), 2) := by decide +kernel
theorem d_MS_filledUp_6 : decode b_MS_filledUp 6 = .ok (.iand, 1) := by decide +kernel
theorem d_MS_filledUp_7 : decode b_MS_filledUp 7 = .ok (.ireturn, 1) := by decide +kernel
theorem d_MS_within_0 : decode b_MS_within 0 = .ok (.lload_n 0, 1) := by decide +kernel
theorem d_MS_within_1 : decode b_MS_within 1 = .ok (.iload_n 2, 1) := by decide +kernel
theorem d_MS_within_2 : decode b_MS_within 2 = .ok (.i2l, 1) := by decide +kernel
theorem d_MS_within_3 : decode b_MS_within 3 = .ok (.lcmp, 1) := by decide +kernel
theorem d_MS_within_4 : decode b_MS_within 4 = .ok (.ifCond .lt 14, 3) := by decide +kernel
theorem d_MS_within_7 : decode b_MS_within 7 = .ok (.lload_n 0, 1) := by decide +kernel
theorem d_MS_within_8 : decode b_MS_within 8 = .ok (.iload_n 3, 1) := by decide +kernel
theorem d_MS_within_9 : decode b_MS_within 9 = .ok (.i2l, 1) := by decide +kernel
theorem d_MS_within_10 : decode b_MS_within 10 = .ok (.lcmp, 1) := by decide +kernel
theorem d_MS_within_11 : decode b_MS_within 11 = .ok (.ifCond .gt 7, 3) := by decide +kernel
theorem d_MS_within_14 : decode b_MS_within 14 = .ok (.iconst 1, 1) := by decide +kernel
theorem d_MS_within_15 : decode b_MS_within 15 = .ok (.goto 4, 3) := by decide +kernel
theorem d_MS_within_18 : decode b_MS_within 18 = .ok (.iconst 0, 1) := by decide +kernel
theorem d_MS_within_19 : decode b_MS_within 19 = .ok (.ireturn, 1) := by decide +kernel
theorem d_BY_shiftOf_0 : decode b_BY_shiftOf 0 = .ok (.iload_n 0, 1) := by decide +kernel
theorem d_BY_shiftOf_1 : decode b_BY_shiftOf 1 = .ok (.bipush 7, 2) := by decide +kernel
theorem d_BY_shiftOf_3 : decode b_BY_shiftOf 3 = .ok (.iand, 1) := by decide +kernel
theorem d_BY_shiftOf_4 : decode b_BY_shiftOf 4 = .ok (.bipush 8, 2) := by decide +kernel
theorem d_BY_shiftOf_6 : decode b_BY_shiftOf 6 = .ok (.imul, 1) := by decide +kernel
theorem d_BY_shiftOf_7 : decode b_BY_shiftOf 7 = .ok (.ireturn, 1) := by decide +kernel
theorem d_RM_bytesOfRecord_0 : decode b_RM_bytesOfRecord 0 = .ok (.bipush 8, 2) := by decide +kernel
theorem d_RM_bytesOfRecord_2 : decode b_RM_bytesOfRecord 2 = .ok (.iload_n 0, 1) := by decide +kernel
theorem d_RM_bytesOfRecord_3 : decode b_RM_bytesOfRecord 3 = .ok (.iadd, 1) := by decide +kernel
theorem d_RM_bytesOfRecord_4 : decode b_RM_bytesOfRecord 4 = .ok (.invokestatic 78, 3) := by decide +kernel
theorem d_RM_bytesOfRecord_7 : decode b_RM_bytesOfRecord 7 = .ok (.ireturn, 1) := by decide +kernel
def up8 (n : Nat) : Nat := (n + 7) / 8 * 8
theorem up8_and {n : Nat} (h : n < 2 ^ 30) : nI (n + 7) &&& (-8) = nI (up8 n) := by
  unfold up8
  generalize n + 7 = k
  apply Int32.toBitVec_inj.mp
  rw [Int32.toBitVec_and]
  show BitVec.ofNat 32 k &&& (-8 : Int32).toBitVec = BitVec.ofNat 32 (k / 8 * 8)
  rw [show (-8 : Int32).toBitVec = ~~~ (7#32) by decide]
  apply BitVec.eq_of_getLsbD_eq
  intro i hi
  rw [BitVec.getLsbD_and, BitVec.getLsbD_not, BitVec.getLsbD_ofNat, BitVec.getLsbD_ofNat, BitVec.getLsbD_ofNat, show (7 : Nat) = 2 ^ 3 - 1 from rfl, Nat.testBit_two_pow_sub_one, Nat.mul_comm (k / 8) 8, show (8 : Nat) = 2 ^ 3 from rfl, Nat.testBit_two_pow_mul, Nat.testBit_div_two_pow]
  by_cases h3 : i < 3
  · have : ¬ 3 ≤ i := by omega
    simp [hi, h3, this]
  · have h4 : 3 ≤ i := by omega
    have h5 : i - 3 + 3 = i := by omega
    simp [hi, h3, h4, h5]
set_option maxRecDepth 100000 in
theorem c_MS_filledUp (l : Launch) {n : Nat} (hn : n < 2 ^ 30) : mp_Ct l y_MS_filledUp (Cond.code y_MS_filledUp b_MS_filledUp 1 (some .int) :: Ts) 0 0 [.int (nI n)] (fun v => v = some (.int (nI (up8 n)))) := by
  refine mp_meth (by decide) (Nat.le_of_ble_eq_true rfl) ?_
  intro p e s m below meth c hx hb hml hown hts hr hlk ls hl
  have hl : lv_has ls 1 [(0, .int (nI n))] := hl
  refine lv_iload_n hx hb d_MS_filledUp_0 rfl (lv_at hl 0 rfl) ?_
  refine lv_bipush (v := nI 7) hx hb d_MS_filledUp_1 (by decide) ?_
  refine lv_iadd hx hb d_MS_filledUp_3 ?_
  refine mw_ti (nI_add _ _) ?_
  refine lv_bipush (v := (-8)) hx hb d_MS_filledUp_4 (by decide) ?_
  refine lv_iand hx hb d_MS_filledUp_6 ?_
  refine mw_ti (y := nI (up8 n)) (up8_and hn) ?_
  exact mp_iret hx hb hr hlk rfl d_MS_filledUp_7
set_option maxRecDepth 100000 in
theorem c_BY_shiftOf (l : Launch) {n : Nat} (hn : n < 2 ^ 30) : mp_Ct l y_BY_shiftOf (Cond.code y_BY_shiftOf b_BY_shiftOf 1 (some .int) :: Ts) 0 0 [.int (nI n)] (fun v => v = some (.int (nI (n % 8 * 8)))) := by
  refine mp_meth (by decide) (Nat.le_of_ble_eq_true rfl) ?_
  intro p e s m below meth c hx hb hml hown hts hr hlk ls hl
  have hl : lv_has ls 1 [(0, .int (nI n))] := hl
  refine lv_iload_n hx hb d_BY_shiftOf_0 rfl (lv_at hl 0 rfl) ?_
  refine lv_bipush (v := nI 7) hx hb d_BY_shiftOf_1 (by decide) ?_
  refine lv_iand hx hb d_BY_shiftOf_3 ?_
  refine mw_ti (y := nI (n % 8)) (pk_andN (m := nI 7) (by omega) 3 (by decide)) ?_
  refine lv_bipush (v := nI 8) hx hb d_BY_shiftOf_4 (by decide) ?_
  refine lv_imul hx hb d_BY_shiftOf_6 ?_
  refine mw_ti (pk_mul _ _) ?_
  exact mp_iret hx hb hr hlk rfl d_BY_shiftOf_7
set_option maxRecDepth 100000 in
theorem c_MS_within (l : Launch) (x : Int64) (a b : Int32) : mp_Ct l y_MS_within (Cond.code y_MS_within b_MS_within 4 (some .boolean) :: Ts) 0 0 [.long x, .int a, .int b] (fun v => v = some (.int (if a.toInt64 ≤ x ∧ x ≤ b.toInt64 then 1 else 0))) := by
  refine mp_meth (by decide) (Nat.le_of_ble_eq_true rfl) ?_
  intro p e s m below meth c hx hb hml hown hts hr hlk ls hl
  have hl : lv_has ls 4 [(0, .long x), (2, .int a), (3, .int b)] := hl
  refine lv_lload_n hx hb d_MS_within_0 rfl (lv_at hl 0 rfl) ?_
  refine lv_iload_n hx hb d_MS_within_1 rfl (lv_at hl 1 rfl) ?_
  refine lv_i2l hx hb d_MS_within_2 rfl ?_
  refine W.lcmp hx hb d_MS_within_3 ?_
  refine lv_if_lt (tgt := 18) hx hb d_MS_within_4 (by decide) (fun c4 => ?_) (fun c4 => ?_)
  · rw [lg_cmp_lt] at c4
    refine lv_iconst (v := nI 0) hx hb d_MS_within_18 (by decide) ?_
    have hn : ¬ (a.toInt64 ≤ x ∧ x ≤ b.toInt64) := fun h => absurd c4 (Int64.not_lt.mpr h.1)
    exact mp_zret hx hb hr hlk (Or.inl rfl) (by rw [if_neg hn]; rfl) d_MS_within_19
  · rw [lg_cmp_lt] at c4
    refine lv_lload_n hx hb d_MS_within_7 rfl (lv_at hl 0 rfl) ?_
    refine lv_iload_n hx hb d_MS_within_8 rfl (lv_at hl 2 rfl) ?_
    refine lv_i2l hx hb d_MS_within_9 rfl ?_
    refine W.lcmp hx hb d_MS_within_10 ?_
    refine lv_if_gt (tgt := 18) hx hb d_MS_within_11 (by decide) (fun c11 => ?_) (fun c11 => ?_)
    · rw [lg_cmp_gt] at c11
      refine lv_iconst (v := nI 0) hx hb d_MS_within_18 (by decide) ?_
      have hn : ¬ (a.toInt64 ≤ x ∧ x ≤ b.toInt64) := fun h => absurd c11 (Int64.not_lt.mpr h.2)
      exact mp_zret hx hb hr hlk (Or.inl rfl) (by rw [if_neg hn]; rfl) d_MS_within_19
    · rw [lg_cmp_gt] at c11
      refine lv_iconst (v := nI 1) hx hb d_MS_within_14 (by decide) ?_
      refine lv_goto (tgt := 19) hx hb d_MS_within_15 (by decide) ?_
      have hn : a.toInt64 ≤ x ∧ x ≤ b.toInt64 := ⟨Int64.not_lt.mp c4, Int64.not_lt.mp c11⟩
      exact mp_zret hx hb hr hlk (Or.inr rfl) (by rw [if_pos hn]; rfl) d_MS_within_19
set_option maxRecDepth 100000 in
theorem c_RM_bytesOfRecord (l : Launch) {n : Nat} (hn : n < 2 ^ 29) : mp_Ct l y_RM_bytesOfRecord (Cond.code y_RM_bytesOfRecord b_RM_bytesOfRecord 1 (some .int) :: Ts) 1 12 [.int (nI n)] (fun v => v = some (.int (nI (up8 (8 + n))))) := by
  refine mp_meth (by decide) (Nat.le_of_ble_eq_true rfl) ?_
  intro p e s m below meth c hx hb hml hown hts hr hlk ls hl
  have hl : lv_has ls 1 [(0, .int (nI n))] := hl
  refine lv_bipush (v := nI 8) hx hb d_RM_bytesOfRecord_0 (by decide) ?_
  refine lv_iload_n hx hb d_RM_bytesOfRecord_2 rfl (lv_at hl 0 rfl) ?_
  refine lv_iadd hx hb d_RM_bytesOfRecord_3 ?_
  refine mw_ti (nI_add _ _) ?_
  refine mp_call hb hml (c_MS_filledUp l (n := 8 + n) (by omega)) (mx_invSN hx hown (hts _ tw_544) (hts _ tw_52) (hts _ tw_21) (hts _ tw_53) (by decide) (g := F0 m 4 ls [.int (nI (8 + n))]) rfl (argsL := [.int (nI (8 + n))]) (rest := []) np_MS_filledUp rfl (by rw [hb]; exact d_RM_bytesOfRecord_4)) hl.1 d_RM_bytesOfRecord_4 ⟨Nat.le_of_ble_eq_true rfl, Nat.le_of_ble_eq_true rfl⟩ (Or.inl ⟨_, _, List.mem_cons_self⟩) (mk_ws tw_53 hts) (fun a9 U9 h9 => Ts_warm hts _ tw_21 a9 U9 h9) (by first | exact ⟨Nat.le_of_ble_eq_true rfl, Nat.le_of_ble_eq_true rfl⟩ | assumption) (fun v hv => ?_)
  subst hv
  refine W.eq (g2 := F0 m 7 ls [.int (nI (up8 (8 + n)))]) rfl ?_
  exact mp_iret hx hb hr hlk rfl d_RM_bytesOfRecord_7
