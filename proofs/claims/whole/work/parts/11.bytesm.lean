/-! ### MapStore.Bytes -/
theorem d_BY_byteAt_0 : decode b_BY_byteAt 0 = .ok (.aload_n 0, 1) := by decide +kernel
theorem d_BY_byteAt_1 : decode b_BY_byteAt 1 = .ok (.getfield 19, 3) := by decide +kernel
theorem d_BY_byteAt_4 : decode b_BY_byteAt 4 = .ok (.iload_n 1, 1) := by decide +kernel
theorem d_BY_byteAt_5 : decode b_BY_byteAt 5 = .ok (.iconst 3, 1) := by decide +kernel
theorem d_BY_byteAt_6 : decode b_BY_byteAt 6 = .ok (.ishr, 1) := by decide +kernel
theorem d_BY_byteAt_7 : decode b_BY_byteAt 7 = .ok (.laload, 1) := by decide +kernel
theorem d_BY_byteAt_8 : decode b_BY_byteAt 8 = .ok (.iload_n 1, 1) := by decide +kernel
theorem d_BY_byteAt_9 : decode b_BY_byteAt 9 = .ok (.invokestatic 30, 3) := by decide +kernel
theorem d_BY_byteAt_12 : decode b_BY_byteAt 12 = .ok (.lushr, 1) := by decide +kernel
theorem d_BY_byteAt_13 : decode b_BY_byteAt 13 = .ok (.l2i, 1) := by decide +kernel
theorem d_BY_byteAt_14 : decode b_BY_byteAt 14 = .ok (.sipush 255, 3) := by decide +kernel
theorem d_BY_byteAt_17 : decode b_BY_byteAt 17 = .ok (.iand, 1) := by decide +kernel
theorem d_BY_byteAt_18 : decode b_BY_byteAt 18 = .ok (.ireturn, 1) := by decide +kernel
theorem d_BY_setByte_0 : decode b_BY_setByte 0 = .ok (.aload_n 0, 1) := by decide +kernel
theorem d_BY_setByte_1 : decode b_BY_setByte 1 = .ok (.getfield 19, 3) := by decide +kernel
theorem d_BY_setByte_4 : decode b_BY_setByte 4 = .ok (.iload_n 1, 1) := by decide +kernel
theorem d_BY_setByte_5 : decode b_BY_setByte 5 = .ok (.iconst 3, 1) := by decide +kernel
theorem d_BY_setByte_6 : decode b_BY_setByte 6 = .ok (.ishr, 1) := by decide +kernel
theorem d_BY_setByte_7 : decode b_BY_setByte 7 = .ok (.laload, 1) := by decide +kernel
theorem d_BY_setByte_8 : decode b_BY_setByte 8 = .ok (.ldc2_w 33, 3) := by decide +kernel
theorem d_BY_setByte_11 : decode b_BY_setByte 11 = .ok (.iload_n 1, 1) := by decide +kernel
theorem d_BY_setByte_12 : decode b_BY_setByte 12 = .ok (.invokestatic 30, 3) := by decide +kernel
theorem d_BY_setByte_15 : decode b_BY_setByte 15 = .ok (.lshl, 1) := by decide +kernel
theorem d_BY_setByte_16 : decode b_BY_setByte 16 = .ok (.ldc2_w 35, 3) := by decide +kernel
theorem d_BY_setByte_19 : decode b_BY_setByte 19 = .ok (.lxor, 1) := by decide +kernel
theorem d_BY_setByte_20 : decode b_BY_setByte 20 = .ok (.land, 1) := by decide +kernel
theorem d_BY_setByte_21 : decode b_BY_setByte 21 = .ok (.lstore 4, 2) := by decide +kernel
theorem d_BY_setByte_23 : decode b_BY_setByte 23 = .ok (.aload_n 0, 1) := by decide +kernel
theorem d_BY_setByte_24 : decode b_BY_setByte 24 = .ok (.getfield 19, 3) := by decide +kernel
theorem d_BY_setByte_27 : decode b_BY_setByte 27 = .ok (.iload_n 1, 1) := by decide +kernel
theorem d_BY_setByte_28 : decode b_BY_setByte 28 = .ok (.iconst 3, 1) := by decide +kernel
theorem d_BY_setByte_29 : decode b_BY_setByte 29 = .ok (.ishr, 1) := by decide +kernel
theorem d_BY_setByte_30 : decode b_BY_setByte 30 = .ok (.lload 4, 2) := by decide +kernel
theorem d_BY_setByte_32 : decode b_BY_setByte 32 = .ok (.lload_n 2, 1) := by decide +kernel
theorem d_BY_setByte_33 : decode b_BY_setByte 33 = .ok (.ldc2_w 33, 3) := by decide +kernel
theorem d_BY_setByte_36 : decode b_BY_setByte 36 = .ok (.land, 1) := by decide +kernel
theorem d_BY_setByte_37 : decode b_BY_setByte 37 = .ok (.iload_n 1, 1) := by decide +kernel
theorem d_BY_setByte_38 : decode b_BY_setByte 38 = .ok (.invokestatic 30, 3) := by decide +kernel
theorem d_BY_setByte_41 : decode b_BY_setByte 41 = .ok (.lshl, 1) := by decide +kernel
theorem d_BY_setByte_42 : decode b_BY_setByte 42 = .ok (.lor, 1) := by decide +kernel
theorem d_BY_setByte_43 : decode b_BY_setByte 43 = .ok (.lastore, 1) := by decide +kernel
theorem d_BY_setByte_44 : decode b_BY_setByte 44 = .ok (.return_, 1) := by decide +kernel
theorem d_BY_number_0 : decode b_BY_number 0 = .ok (.lconst 0, 1) := by decide +kernel
theorem d_BY_number_1 : decode b_BY_number 1 = .ok (.lstore_n 3, 1) := by decide +kernel
theorem d_BY_number_2 : decode b_BY_number 2 = .ok (.iload_n 2, 1) := by decide +kernel
theorem d_BY_number_3 : decode b_BY_number 3 = .ok (.iconst 1, 1) := by decide +kernel
theorem d_BY_number_4 : decode b_BY_number 4 = .ok (.isub, 1) := by decide +kernel
theorem d_BY_number_5 : decode b_BY_number 5 = .ok (.istore 5, 2) := by decide +kernel
theorem d_BY_number_7 : decode b_BY_number 7 = .ok (.iload 5, 2) := by decide +kernel
theorem d_BY_number_9 : decode b_BY_number 9 = .ok (.ifCond .lt 24, 3) := by decide +kernel
theorem d_BY_number_12 : decode b_BY_number 12 = .ok (.lload_n 3, 1) := by decide +kernel
theorem d_BY_number_13 : decode b_BY_number 13 = .ok (.bipush 8, 2) := by decide +kernel
theorem d_BY_number_15 : decode b_BY_number 15 = .ok (.lshl, 1) := by decide +kernel
theorem d_BY_number_16 : decode b_BY_number 16 = .ok (.aload_n 0, 1) := by decide +kernel
theorem d_BY_number_17 : decode b_BY_number 17 = .ok (.iload_n 1, 1) := by decide +kernel
theorem d_BY_number_18 : decode b_BY_number 18 = .ok (.iload 5, 2) := by decide +kernel
theorem d_BY_number_20 : decode b_BY_number 20 = .ok (.iadd, 1) := by decide +kernel
theorem d_BY_number_21 : decode b_BY_number 21 = .ok (.invokevirtual 37, 3) := by decide +kernel
theorem d_BY_number_24 : decode b_BY_number 24 = .ok (.i2l, 1) := by decide +kernel
theorem d_BY_number_25 : decode b_BY_number 25 = .ok (.lor, 1) := by decide +kernel
theorem d_BY_number_26 : decode b_BY_number 26 = .ok (.lstore_n 3, 1) := by decide +kernel
theorem d_BY_number_27 : decode b_BY_number 27 = .ok (.iinc 5 (-1), 3) := by decide +kernel
theorem d_BY_number_30 : decode b_BY_number 30 = .ok (.goto (-23), 3) := by decide +kernel
theorem d_BY_number_33 : decode b_BY_number 33 = .ok (.lload_n 3, 1) := by decide +kernel
theorem d_BY_number_34 : decode b_BY_number 34 = .ok (.lreturn, 1) := by decide +kernel
theorem d_BY_demand_0 : decode b_BY_demand 0 = .ok (.iload_n 1, 1) := by decide +kernel
theorem d_BY_demand_1 : decode b_BY_demand 1 = .ok (.ifCond .lt 13, 3) := by decide +kernel
theorem d_BY_demand_4 : decode b_BY_demand 4 = .ok (.iload_n 1, 1) := by decide +kernel
theorem d_BY_demand_5 : decode b_BY_demand 5 = .ok (.aload_n 0, 1) := by decide +kernel
theorem d_BY_demand_6 : decode b_BY_demand 6 = .ok (.getfield 9, 3) := by decide +kernel
theorem d_BY_demand_9 : decode b_BY_demand 9 = .ok (.iload_n 2, 1) := by decide +kernel
theorem d_BY_demand_10 : decode b_BY_demand 10 = .ok (.isub, 1) := by decide +kernel
theorem d_BY_demand_11 : decode b_BY_demand 11 = .ok (.if_icmp .le 13, 3) := by decide +kernel
theorem d_BY_demand_14 : decode b_BY_demand 14 = .ok (.new 23, 3) := by decide +kernel
theorem d_BY_demand_17 : decode b_BY_demand 17 = .ok (.dup, 1) := by decide +kernel
theorem d_BY_demand_18 : decode b_BY_demand 18 = .ok (.ldc 25, 2) := by decide +kernel
theorem d_BY_demand_20 : decode b_BY_demand 20 = .ok (.invokespecial 27, 3) := by decide +kernel
theorem d_BY_demand_23 : decode b_BY_demand 23 = .ok (.athrow, 1) := by decide +kernel
theorem d_BY_demand_24 : decode b_BY_demand 24 = .ok (.return_, 1) := by decide +kernel
theorem d_BY_setNumber_0 : decode b_BY_setNumber 0 = .ok (.iconst 0, 1) := by decide +kernel
theorem d_BY_setNumber_1 : decode b_BY_setNumber 1 = .ok (.istore 5, 2) := by decide +kernel
theorem d_BY_setNumber_3 : decode b_BY_setNumber 3 = .ok (.iload 5, 2) := by decide +kernel
theorem d_BY_setNumber_5 : decode b_BY_setNumber 5 = .ok (.iload_n 2, 1) := by decide +kernel
theorem d_BY_setNumber_6 : decode b_BY_setNumber 6 = .ok (.if_icmp .ge 24, 3) := by decide +kernel
theorem d_BY_setNumber_9 : decode b_BY_setNumber 9 = .ok (.aload_n 0, 1) := by decide +kernel
theorem d_BY_setNumber_10 : decode b_BY_setNumber 10 = .ok (.iload_n 1, 1) := by decide +kernel
theorem d_BY_setNumber_11 : decode b_BY_setNumber 11 = .ok (.iload 5, 2) := by decide +kernel
theorem d_BY_setNumber_13 : decode b_BY_setNumber 13 = .ok (.iadd, 1) := by decide +kernel
theorem d_BY_setNumber_14 : decode b_BY_setNumber 14 = .ok (.lload_n 3, 1) := by decide +kernel
theorem d_BY_setNumber_15 : decode b_BY_setNumber 15 = .ok (.bipush 8, 2) := by decide +kernel
theorem d_BY_setNumber_17 : decode b_BY_setNumber 17 = .ok (.iload 5, 2) := by decide +kernel
theorem d_BY_setNumber_19 : decode b_BY_setNumber 19 = .ok (.imul, 1) := by decide +kernel
theorem d_BY_setNumber_20 : decode b_BY_setNumber 20 = .ok (.lushr, 1) := by decide +kernel
theorem d_BY_setNumber_21 : decode b_BY_setNumber 21 = .ok (.invokevirtual 40, 3) := by decide +kernel
theorem d_BY_setNumber_24 : decode b_BY_setNumber 24 = .ok (.iinc 5 1, 3) := by decide +kernel
theorem d_BY_setNumber_27 : decode b_BY_setNumber 27 = .ok (.goto (-24), 3) := by decide +kernel
theorem d_BY_setNumber_30 : decode b_BY_setNumber 30 = .ok (.return_, 1) := by decide +kernel
/-- at b a Bytes of n bytes, in the longs g at x -/
def by_ok (dA : Nat → ClassId) (w : mw_W) (b x n : Nat) (g : Nat → Int64) : Prop := w b = some (.inr (cBY, [.int (nI n), .ref x])) ∧ w x = some (.inl (dA tJ, (n + 7) / 8, .inr (.inl g)))
set_option maxRecDepth 100000 in
set_option maxHeartbeats 4000000 in
theorem c_BY_byteAt (l : Launch) (D : va_G) (dA : Nat → ClassId) {w : mw_W} {b x n : Nat} {g : Nat → Int64} (h : by_ok dA w b x n g) (hn : n ≤ 65536) {i : Nat} (hi : i < n) : CT l D dA y_BY_byteAt (Cond.code y_BY_byteAt b_BY_byteAt 2 (some .int) :: Ts) 1 14 0 0 [.ref b, .int (nI i)] w (fun r w' => r = .inl (some (.int (nI (bw_b g i)))) ∧ w' = w) := by
  refine mw_meth (by decide) mk_tb (Nat.le_of_ble_eq_true rfl) ?_
  intro p e s m below meth c K hr hlk hce hnm hP0 hSy ls hl
  have hl : lv_has ls 2 [(0, .ref b), (1, .int (nI i))] := hl
  obtain ⟨hx, hb, hml, hown, hts, hK, hTb⟩ := id K
  have hI := mw_I.start hP0
  obtain ⟨f0, f1⟩ := h
  refine lv_aload_n hx hb d_BY_byteAt_0 rfl (lv_at hl 0 rfl) ?_
  refine mw_get K hI gf_BY_19_cBY f0 rfl d_BY_byteAt_1 ?_
  refine lv_iload_n hx hb d_BY_byteAt_4 rfl (lv_at hl 1 rfl) ?_
  refine lv_iconst (v := nI 3) hx hb d_BY_byteAt_5 (by decide) ?_
  refine lv_ishr hx hb d_BY_byteAt_6 ?_
  refine mw_ti (y := nI (i / 8)) (pk_shrN (by omega) (nI 3 &&& 31) 3 (by decide)) ?_
  refine mw_lald K hI tJ f1 rfl (i / 8) rfl (by first | assumption | omega) (by omega) d_BY_byteAt_7 ?_
  refine lv_iload_n hx hb d_BY_byteAt_8 rfl (lv_at hl 1 rfl) ?_
  refine mp_call hb hml (c_BY_shiftOf l (n := i) (by omega)) (mx_invS hx hown (hts _ tw_387) (hts _ tw_388) (hts _ tw_22) (hts _ tw_389) (by decide) (g := F0 m 9 ls [.int (nI i), .long (g (i / 8))]) rfl (argsL := [.int (nI i)]) (rest := [.long (g (i / 8))]) np_BY_shiftOf rfl (by rw [hb]; exact d_BY_byteAt_9)) hl.1 d_BY_byteAt_9 ⟨Nat.le_of_ble_eq_true rfl, Nat.le_of_ble_eq_true rfl⟩ (Or.inl ⟨_, _, List.mem_cons_self⟩) (mk_ws tw_389 hts) (fun a9 U9 h9 => Ts_warm hts _ tw_22 a9 U9 h9) (by first | exact ⟨Nat.le_of_ble_eq_true rfl, Nat.le_of_ble_eq_true rfl⟩ | assumption) (fun v hv => ?_)
  subst hv
  refine W.eq (g2 := F0 m 12 ls [.int (nI (i % 8 * 8)), .long (g (i / 8))]) rfl ?_
  refine lv_lushr hx hb d_BY_byteAt_12 rfl ?_
  refine lv_l2i hx hb d_BY_byteAt_13 rfl ?_
  refine lv_sipush (v := nI 255) hx hb d_BY_byteAt_14 (by decide) ?_
  refine lv_iand hx hb d_BY_byteAt_17 ?_
  refine mw_ti (y := nI (bw_b g i)) (bw_get _ (Nat.mod_lt _ (by decide))) ?_
  exact mw_iret K hI hr hlk ⟨rfl, rfl⟩ d_BY_byteAt_18
set_option maxRecDepth 100000 in
set_option maxHeartbeats 4000000 in
theorem c_BY_setByte (l : Launch) (D : va_G) (dA : Nat → ClassId) {w : mw_W} {b x n : Nat} {g : Nat → Int64} (h : by_ok dA w b x n g) (hn : n ≤ 65536) {i : Nat} (hi : i < n) (v : Int64) : CT l D dA y_BY_setByte (Cond.code y_BY_setByte b_BY_setByte 6 none :: Ts) 1 20 0 0 [.ref b, .int (nI i), .long v] w (fun r w' => r = .inl none ∧ w' = mw_up w x (.inl (dA tJ, (n + 7) / 8, .inr (.inl (bw_s g i v))))) := by
  refine mw_meth (by decide) mk_tb (Nat.le_of_ble_eq_true rfl) ?_
  intro p e s m below meth c K hr hlk hce hnm hP0 hSy ls hl
  have hl : lv_has ls 6 [(0, .ref b), (1, .int (nI i)), (2, .long v)] := hl
  obtain ⟨hx, hb, hml, hown, hts, hK, hTb⟩ := id K
  have hI := mw_I.start hP0
  obtain ⟨f0, f1⟩ := h
  refine lv_aload_n hx hb d_BY_setByte_0 rfl (lv_at hl 0 rfl) ?_
  refine mw_get K hI gf_BY_19_cBY f0 rfl d_BY_setByte_1 ?_
  refine lv_iload_n hx hb d_BY_setByte_4 rfl (lv_at hl 1 rfl) ?_
  refine lv_iconst (v := nI 3) hx hb d_BY_setByte_5 (by decide) ?_
  refine lv_ishr hx hb d_BY_setByte_6 ?_
  refine mw_ti (y := nI (i / 8)) (pk_shrN (by omega) (nI 3 &&& 31) 3 (by decide)) ?_
  refine mw_lald K hI tJ f1 rfl (i / 8) rfl (by first | assumption | omega) (by omega) d_BY_setByte_7 ?_
  refine lv_ldc2 (v := lN 255) hx hb hown (hts _ tw_405) d_BY_setByte_8 ?_
  refine lv_iload_n hx hb d_BY_setByte_11 rfl (lv_at hl 1 rfl) ?_
  refine mp_call hb hml (c_BY_shiftOf l (n := i) (by omega)) (mx_invS hx hown (hts _ tw_387) (hts _ tw_388) (hts _ tw_22) (hts _ tw_389) (by decide) (g := F0 m 12 ls [.int (nI i), .long (lN 255), .long (g (i / 8))]) rfl (argsL := [.int (nI i)]) (rest := [.long (lN 255), .long (g (i / 8))]) np_BY_shiftOf rfl (by rw [hb]; exact d_BY_setByte_12)) hl.1 d_BY_setByte_12 ⟨Nat.le_of_ble_eq_true rfl, Nat.le_of_ble_eq_true rfl⟩ (Or.inl ⟨_, _, List.mem_cons_self⟩) (mk_ws tw_389 hts) (fun a9 U9 h9 => Ts_warm hts _ tw_22 a9 U9 h9) (by first | exact ⟨Nat.le_of_ble_eq_true rfl, Nat.le_of_ble_eq_true rfl⟩ | assumption) (fun v hv => ?_)
  subst hv
  refine W.eq (g2 := F0 m 15 ls [.int (nI (i % 8 * 8)), .long (lN 255), .long (g (i / 8))]) rfl ?_
  refine lv_lshl hx hb d_BY_setByte_15 rfl ?_
  refine lv_ldc2 (v := (-1)) hx hb hown (hts _ tw_406) d_BY_setByte_16 ?_
  refine lv_lxor hx hb d_BY_setByte_19 ?_
  refine lv_land hx hb d_BY_setByte_20 ?_
  refine lv_lstore (lv' := [(4, .long ((g (i / 8)) &&& (((lN 255) <<< ((nI (i % 8 * 8)).toInt64 &&& 63)) ^^^ (-1)))), (0, .ref b), (1, .int (nI i)), (2, .long v)]) hx hb d_BY_setByte_21 hl (by decide) rfl (fun ls hl => ?_)
  refine lv_aload_n hx hb d_BY_setByte_23 rfl (lv_at hl 1 rfl) ?_
  refine mw_get K hI gf_BY_19_cBY f0 rfl d_BY_setByte_24 ?_
  refine lv_iload_n hx hb d_BY_setByte_27 rfl (lv_at hl 2 rfl) ?_
  refine lv_iconst (v := nI 3) hx hb d_BY_setByte_28 (by decide) ?_
  refine lv_ishr hx hb d_BY_setByte_29 ?_
  refine mw_ti (y := nI (i / 8)) (pk_shrN (by omega) (nI 3 &&& 31) 3 (by decide)) ?_
  refine lv_lload hx hb d_BY_setByte_30 (lv_at hl 0 rfl) ?_
  refine lv_lload_n hx hb d_BY_setByte_32 rfl (lv_at hl 3 rfl) ?_
  refine lv_ldc2 (v := lN 255) hx hb hown (hts _ tw_405) d_BY_setByte_33 ?_
  refine lv_land hx hb d_BY_setByte_36 ?_
  refine lv_iload_n hx hb d_BY_setByte_37 rfl (lv_at hl 2 rfl) ?_
  refine mp_call hb hml (c_BY_shiftOf l (n := i) (by omega)) (mx_invS hx hown (hts _ tw_387) (hts _ tw_388) (hts _ tw_22) (hts _ tw_389) (by decide) (g := F0 m 38 ls [.int (nI i), .long (v &&& (lN 255)), .long ((g (i / 8)) &&& (((lN 255) <<< ((nI (i % 8 * 8)).toInt64 &&& 63)) ^^^ (-1))), .int (nI (i / 8)), .ref x]) rfl (argsL := [.int (nI i)]) (rest := [.long (v &&& (lN 255)), .long ((g (i / 8)) &&& (((lN 255) <<< ((nI (i % 8 * 8)).toInt64 &&& 63)) ^^^ (-1))), .int (nI (i / 8)), .ref x]) np_BY_shiftOf rfl (by rw [hb]; exact d_BY_setByte_38)) hl.1 d_BY_setByte_38 ⟨Nat.le_of_ble_eq_true rfl, Nat.le_of_ble_eq_true rfl⟩ (Or.inl ⟨_, _, List.mem_cons_self⟩) (mk_ws tw_389 hts) (fun a9 U9 h9 => Ts_warm hts _ tw_22 a9 U9 h9) (by first | exact ⟨Nat.le_of_ble_eq_true rfl, Nat.le_of_ble_eq_true rfl⟩ | assumption) (fun v hv => ?_)
  subst hv
  refine W.eq (g2 := F0 m 41 ls [.int (nI (i % 8 * 8)), .long (v &&& (lN 255)), .long ((g (i / 8)) &&& (((lN 255) <<< ((nI (i % 8 * 8)).toInt64 &&& 63)) ^^^ (-1))), .int (nI (i / 8)), .ref x]) rfl ?_
  refine lv_lshl hx hb d_BY_setByte_41 rfl ?_
  refine lv_lor hx hb d_BY_setByte_42 ?_
  refine mw_last K hI tJ f1 rfl (i / 8) rfl (by first | assumption | omega) (by omega) d_BY_setByte_43 (fun H locs hI => ?_)
  exact mw_vret K hI hr hlk ⟨rfl, rfl⟩ d_BY_setByte_44
