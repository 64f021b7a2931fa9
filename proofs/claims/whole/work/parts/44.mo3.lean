/-! ### the model: isKey, entryOf, placeOf, entryOfArray -/
theorem d_MO_isKey_0 : decode b_MO_isKey 0 = .ok (.aload_n 0, 1) := by decide +kernel
theorem d_MO_isKey_1 : decode b_MO_isKey 1 = .ok (.getfield 39, 3) := by decide +kernel
theorem d_MO_isKey_4 : decode b_MO_isKey 4 = .ok (.aload_n 0, 1) := by decide +kernel
theorem d_MO_isKey_5 : decode b_MO_isKey 5 = .ok (.getfield 33, 3) := by decide +kernel
theorem d_MO_isKey_8 : decode b_MO_isKey 8 = .ok (.iload_n 1, 1) := by decide +kernel
theorem d_MO_isKey_9 : decode b_MO_isKey 9 = .ok (.iaload, 1) := by decide +kernel
theorem d_MO_isKey_10 : decode b_MO_isKey 10 = .ok (.iload_n 2, 1) := by decide +kernel
theorem d_MO_isKey_11 : decode b_MO_isKey 11 = .ok (.iadd, 1) := by decide +kernel
theorem d_MO_isKey_12 : decode b_MO_isKey 12 = .ok (.baload, 1) := by decide +kernel
theorem d_MO_isKey_13 : decode b_MO_isKey 13 = .ok (.istore 4, 2) := by decide +kernel
theorem d_MO_isKey_15 : decode b_MO_isKey 15 = .ok (.iconst 0, 1) := by decide +kernel
theorem d_MO_isKey_16 : decode b_MO_isKey 16 = .ok (.istore 5, 2) := by decide +kernel
theorem d_MO_isKey_18 : decode b_MO_isKey 18 = .ok (.iload 5, 2) := by decide +kernel
theorem d_MO_isKey_20 : decode b_MO_isKey 20 = .ok (.aload_n 0, 1) := by decide +kernel
theorem d_MO_isKey_21 : decode b_MO_isKey 21 = .ok (.getfield 21, 3) := by decide +kernel
theorem d_MO_isKey_24 : decode b_MO_isKey 24 = .ok (.iload_n 1, 1) := by decide +kernel
theorem d_MO_isKey_25 : decode b_MO_isKey 25 = .ok (.iaload, 1) := by decide +kernel
theorem d_MO_isKey_26 : decode b_MO_isKey 26 = .ok (.if_icmp .ge 56, 3) := by decide +kernel
theorem d_MO_isKey_29 : decode b_MO_isKey 29 = .ok (.iload 4, 2) := by decide +kernel
theorem d_MO_isKey_31 : decode b_MO_isKey 31 = .ok (.ifCond .eq 42, 3) := by decide +kernel
theorem d_MO_isKey_34 : decode b_MO_isKey 34 = .ok (.aload_n 0, 1) := by decide +kernel
theorem d_MO_isKey_35 : decode b_MO_isKey 35 = .ok (.getfield 44, 3) := by decide +kernel
theorem d_MO_isKey_38 : decode b_MO_isKey 38 = .ok (.aload_n 0, 1) := by decide +kernel
theorem d_MO_isKey_39 : decode b_MO_isKey 39 = .ok (.getfield 36, 3) := by decide +kernel
theorem d_MO_isKey_42 : decode b_MO_isKey 42 = .ok (.iload_n 1, 1) := by decide +kernel
theorem d_MO_isKey_43 : decode b_MO_isKey 43 = .ok (.iaload, 1) := by decide +kernel
theorem d_MO_isKey_44 : decode b_MO_isKey 44 = .ok (.iload_n 2, 1) := by decide +kernel
theorem d_MO_isKey_45 : decode b_MO_isKey 45 = .ok (.aload_n 0, 1) := by decide +kernel
theorem d_MO_isKey_46 : decode b_MO_isKey 46 = .ok (.getfield 21, 3) := by decide +kernel
theorem d_MO_isKey_49 : decode b_MO_isKey 49 = .ok (.iload_n 1, 1) := by decide +kernel
theorem d_MO_isKey_50 : decode b_MO_isKey 50 = .ok (.iaload, 1) := by decide +kernel
theorem d_MO_isKey_51 : decode b_MO_isKey 51 = .ok (.imul, 1) := by decide +kernel
theorem d_MO_isKey_52 : decode b_MO_isKey 52 = .ok (.iadd, 1) := by decide +kernel
theorem d_MO_isKey_53 : decode b_MO_isKey 53 = .ok (.iload 5, 2) := by decide +kernel
theorem d_MO_isKey_55 : decode b_MO_isKey 55 = .ok (.iadd, 1) := by decide +kernel
theorem d_MO_isKey_56 : decode b_MO_isKey 56 = .ok (.baload, 1) := by decide +kernel
theorem d_MO_isKey_57 : decode b_MO_isKey 57 = .ok (.aload_n 0, 1) := by decide +kernel
theorem d_MO_isKey_58 : decode b_MO_isKey 58 = .ok (.getfield 7, 3) := by decide +kernel
theorem d_MO_isKey_61 : decode b_MO_isKey 61 = .ok (.iload_n 3, 1) := by decide +kernel
theorem d_MO_isKey_62 : decode b_MO_isKey 62 = .ok (.iload 5, 2) := by decide +kernel
theorem d_MO_isKey_64 : decode b_MO_isKey 64 = .ok (.iadd, 1) := by decide +kernel
theorem d_MO_isKey_65 : decode b_MO_isKey 65 = .ok (.baload, 1) := by decide +kernel
theorem d_MO_isKey_66 : decode b_MO_isKey 66 = .ok (.if_icmp .ne 7, 3) := by decide +kernel
theorem d_MO_isKey_69 : decode b_MO_isKey 69 = .ok (.iconst 1, 1) := by decide +kernel
theorem d_MO_isKey_70 : decode b_MO_isKey 70 = .ok (.goto 4, 3) := by decide +kernel
theorem d_MO_isKey_73 : decode b_MO_isKey 73 = .ok (.iconst 0, 1) := by decide +kernel
theorem d_MO_isKey_74 : decode b_MO_isKey 74 = .ok (.istore 4, 2) := by decide +kernel
theorem d_MO_isKey_76 : decode b_MO_isKey 76 = .ok (.iinc 5 1, 3) := by decide +kernel
theorem d_MO_isKey_79 : decode b_MO_isKey 79 = .ok (.goto (-61), 3) := by decide +kernel
theorem d_MO_isKey_82 : decode b_MO_isKey 82 = .ok (.iload 4, 2) := by decide +kernel
theorem d_MO_isKey_84 : decode b_MO_isKey 84 = .ok (.ireturn, 1) := by decide +kernel
theorem d_MO_entryOf_0 : decode b_MO_entryOf 0 = .ok (.iconst (-1), 1) := by decide +kernel
theorem d_MO_entryOf_1 : decode b_MO_entryOf 1 = .ok (.istore_n 3, 1) := by decide +kernel
theorem d_MO_entryOf_2 : decode b_MO_entryOf 2 = .ok (.aload_n 0, 1) := by decide +kernel
theorem d_MO_entryOf_3 : decode b_MO_entryOf 3 = .ok (.getfield 27, 3) := by decide +kernel
theorem d_MO_entryOf_6 : decode b_MO_entryOf 6 = .ok (.iload_n 1, 1) := by decide +kernel
theorem d_MO_entryOf_7 : decode b_MO_entryOf 7 = .ok (.iaload, 1) := by decide +kernel
theorem d_MO_entryOf_8 : decode b_MO_entryOf 8 = .ok (.iconst 1, 1) := by decide +kernel
theorem d_MO_entryOf_9 : decode b_MO_entryOf 9 = .ok (.isub, 1) := by decide +kernel
theorem d_MO_entryOf_10 : decode b_MO_entryOf 10 = .ok (.istore 4, 2) := by decide +kernel
theorem d_MO_entryOf_12 : decode b_MO_entryOf 12 = .ok (.iload 4, 2) := by decide +kernel
theorem d_MO_entryOf_14 : decode b_MO_entryOf 14 = .ok (.ifCond .lt 44, 3) := by decide +kernel
theorem d_MO_entryOf_17 : decode b_MO_entryOf 17 = .ok (.aload_n 0, 1) := by decide +kernel
theorem d_MO_entryOf_18 : decode b_MO_entryOf 18 = .ok (.iload_n 1, 1) := by decide +kernel
theorem d_MO_entryOf_19 : decode b_MO_entryOf 19 = .ok (.iload 4, 2) := by decide +kernel
theorem d_MO_entryOf_21 : decode b_MO_entryOf 21 = .ok (.iload_n 2, 1) := by decide +kernel
theorem d_MO_entryOf_22 : decode b_MO_entryOf 22 = .ok (.invokevirtual 112, 3) := by decide +kernel
theorem d_MO_entryOf_25 : decode b_MO_entryOf 25 = .ok (.ifCond .eq 27, 3) := by decide +kernel
theorem d_MO_entryOf_28 : decode b_MO_entryOf 28 = .ok (.aload_n 0, 1) := by decide +kernel
theorem d_MO_entryOf_29 : decode b_MO_entryOf 29 = .ok (.iload_n 3, 1) := by decide +kernel
theorem d_MO_entryOf_30 : decode b_MO_entryOf 30 = .ok (.ifCond .lt 12, 3) := by decide +kernel
theorem d_MO_entryOf_33 : decode b_MO_entryOf 33 = .ok (.aload_n 0, 1) := by decide +kernel
theorem d_MO_entryOf_34 : decode b_MO_entryOf 34 = .ok (.getfield 115, 3) := by decide +kernel
theorem d_MO_entryOf_37 : decode b_MO_entryOf 37 = .ok (.iconst 1, 1) := by decide +kernel
theorem d_MO_entryOf_38 : decode b_MO_entryOf 38 = .ok (.iadd, 1) := by decide +kernel
theorem d_MO_entryOf_39 : decode b_MO_entryOf 39 = .ok (.goto 7, 3) := by decide +kernel
theorem d_MO_entryOf_42 : decode b_MO_entryOf 42 = .ok (.aload_n 0, 1) := by decide +kernel
theorem d_MO_entryOf_43 : decode b_MO_entryOf 43 = .ok (.getfield 115, 3) := by decide +kernel
theorem d_MO_entryOf_46 : decode b_MO_entryOf 46 = .ok (.putfield 115, 3) := by decide +kernel
theorem d_MO_entryOf_49 : decode b_MO_entryOf 49 = .ok (.iload 4, 2) := by decide +kernel
theorem d_MO_entryOf_51 : decode b_MO_entryOf 51 = .ok (.istore_n 3, 1) := by decide +kernel
theorem d_MO_entryOf_52 : decode b_MO_entryOf 52 = .ok (.iinc 4 (-1), 3) := by decide +kernel
theorem d_MO_entryOf_55 : decode b_MO_entryOf 55 = .ok (.goto (-43), 3) := by decide +kernel
theorem d_MO_entryOf_58 : decode b_MO_entryOf 58 = .ok (.iload_n 3, 1) := by decide +kernel
theorem d_MO_entryOf_59 : decode b_MO_entryOf 59 = .ok (.ireturn, 1) := by decide +kernel
theorem d_MO_placeOf_0 : decode b_MO_placeOf 0 = .ok (.aload_n 0, 1) := by decide +kernel
theorem d_MO_placeOf_1 : decode b_MO_placeOf 1 = .ok (.getfield 30, 3) := by decide +kernel
theorem d_MO_placeOf_4 : decode b_MO_placeOf 4 = .ok (.iload_n 1, 1) := by decide +kernel
theorem d_MO_placeOf_5 : decode b_MO_placeOf 5 = .ok (.iaload, 1) := by decide +kernel
theorem d_MO_placeOf_6 : decode b_MO_placeOf 6 = .ok (.iload_n 2, 1) := by decide +kernel
theorem d_MO_placeOf_7 : decode b_MO_placeOf 7 = .ok (.aload_n 0, 1) := by decide +kernel
theorem d_MO_placeOf_8 : decode b_MO_placeOf 8 = .ok (.getfield 24, 3) := by decide +kernel
theorem d_MO_placeOf_11 : decode b_MO_placeOf 11 = .ok (.iload_n 1, 1) := by decide +kernel
theorem d_MO_placeOf_12 : decode b_MO_placeOf 12 = .ok (.iaload, 1) := by decide +kernel
theorem d_MO_placeOf_13 : decode b_MO_placeOf 13 = .ok (.invokestatic 76, 3) := by decide +kernel
theorem d_MO_placeOf_16 : decode b_MO_placeOf 16 = .ok (.imul, 1) := by decide +kernel
theorem d_MO_placeOf_17 : decode b_MO_placeOf 17 = .ok (.iadd, 1) := by decide +kernel
theorem d_MO_placeOf_18 : decode b_MO_placeOf 18 = .ok (.ireturn, 1) := by decide +kernel
theorem d_MO_entryOfArray_0 : decode b_MO_entryOfArray 0 = .ok (.aload_n 0, 1) := by decide +kernel
theorem d_MO_entryOfArray_1 : decode b_MO_entryOfArray 1 = .ok (.getfield 7, 3) := by decide +kernel
theorem d_MO_entryOfArray_4 : decode b_MO_entryOfArray 4 = .ok (.iload_n 2, 1) := by decide +kernel
theorem d_MO_entryOfArray_5 : decode b_MO_entryOfArray 5 = .ok (.iconst 4, 1) := by decide +kernel
theorem d_MO_entryOfArray_6 : decode b_MO_entryOfArray 6 = .ok (.invokestatic 101, 3) := by decide +kernel
theorem d_MO_entryOfArray_9 : decode b_MO_entryOfArray 9 = .ok (.lstore_n 3, 1) := by decide +kernel
theorem d_MO_entryOfArray_10 : decode b_MO_entryOfArray 10 = .ok (.lload_n 3, 1) := by decide +kernel
theorem d_MO_entryOfArray_11 : decode b_MO_entryOfArray 11 = .ok (.aload_n 0, 1) := by decide +kernel
theorem d_MO_entryOfArray_12 : decode b_MO_entryOfArray 12 = .ok (.getfield 27, 3) := by decide +kernel
theorem d_MO_entryOfArray_15 : decode b_MO_entryOfArray 15 = .ok (.iload_n 1, 1) := by decide +kernel
theorem d_MO_entryOfArray_16 : decode b_MO_entryOfArray 16 = .ok (.iaload, 1) := by decide +kernel
theorem d_MO_entryOfArray_17 : decode b_MO_entryOfArray 17 = .ok (.i2l, 1) := by decide +kernel
theorem d_MO_entryOfArray_18 : decode b_MO_entryOfArray 18 = .ok (.lcmp, 1) := by decide +kernel
theorem d_MO_entryOfArray_19 : decode b_MO_entryOfArray 19 = .ok (.ifCond .ge 8, 3) := by decide +kernel
theorem d_MO_entryOfArray_22 : decode b_MO_entryOfArray 22 = .ok (.lload_n 3, 1) := by decide +kernel
theorem d_MO_entryOfArray_23 : decode b_MO_entryOfArray 23 = .ok (.l2i, 1) := by decide +kernel
theorem d_MO_entryOfArray_24 : decode b_MO_entryOfArray 24 = .ok (.goto 4, 3) := by decide +kernel
theorem d_MO_entryOfArray_27 : decode b_MO_entryOfArray 27 = .ok (.iconst (-1), 1) := by decide +kernel
theorem d_MO_entryOfArray_28 : decode b_MO_entryOfArray 28 = .ok (.ireturn, 1) := by decide +kernel
theorem ky_eq {k : List Nat} {n : Nat} (hk : k.length = n) (d : Nat → Nat) (q : Nat) : (∀ j, j < n → k.getD j 0 = d (q + j)) ↔ k = kyL d q n := by
  constructor
  · intro h
    apply List.ext_getElem (by rw [hk, kyL_len])
    intro j h1 h2
    have hj : j < n := by omega
    have e1 := h j hj
    rw [List.getD_eq_getElem?_getD, List.getElem?_eq_getElem h1] at e1
    simp only [kyL, List.getElem_map, List.getElem_range]
    exact e1
  · intro h j hj
    rw [h]; exact kyL_get d q n hj
theorem mul_in {e n k : Nat} (h : e < n) : e * k + k ≤ n * k := by
  have := Nat.mul_le_mul_right k (show e + 1 ≤ n from h)
  rw [Nat.add_mul, Nat.one_mul] at this
  exact this
theorem mo_ec {fe fk : Nat → Nat} {ec kc : Nat} {fi : Nat → Nat → Int32} {fl : Nat → Nat → Int64} {S : as_S} {t : Nat} (hR : mo_R fe fk ec kc fi fl S) (hW : wf_S t S) : ec ≤ 8192 ∧ kc ≤ 524288 := by
  obtain ⟨-, -, -, -, -, -, -, h8, h9⟩ := hR
  have := hW.2.1
  omega
set_option maxRecDepth 100000 in
set_option maxHeartbeats 4000000 in
theorem c_MO_placeOf (l : Launch) (D : va_G) (dA : Nat → ClassId) {w : mw_W} {own : as_W} {y t : Nat} {A : Nat → Nat} {cd : Int32} {fe fk : Nat → Nat} {ec kc : Nat} {fi : Nat → Nat → Int32} {fl : Nat → Nat → Int64} {S : as_S} (hw : mo_W dA w own y A cd (nI (gv S)) (nI (nm S)) (nI ec) (nI kc) (nI 0) fi fl) (hR : mo_R fe fk ec kc fi fl S) (hW : wf_S t S) {i : Nat} (hi : i < nm S) (hk : kd (mm S i) = 0 ∨ kd (mm S i) = 1) {e0 : Nat} (he : e0 < en (mm S i)) : CT l D dA y_MO_placeOf (Cond.code y_MO_placeOf b_MO_placeOf 3 (some .int) :: Ts) 1 20 0 0 [.ref y, .int (nI i), .int (nI e0)] w (fun r w' => r = .inl (some (.int (nI (plc (mm S i) e0)))) ∧ w' = w) := by
  refine mw_meth (by decide) mk_tb (Nat.le_of_ble_eq_true rfl) ?_
  intro p e s m below meth c K hr hlk hce hnm hP0 hSy ls hl
  have hl : lv_has ls 3 [(0, .ref y), (1, .int (nI i)), (2, .int (nI e0))] := hl
  obtain ⟨hx, hb, hml, hown, hts, hK, hTb⟩ := id K
  have hI := mw_I.start hP0
  have h64 := hW.1
  obtain ⟨b1, b2, b3, b4, b5, b6, b7, b8⟩ := wf_E (hW.2.2.2.2.2 i hi) hk
  obtain ⟨⟨r1, r2, r3, r4, r5⟩, -⟩ := hR.2.2.1 i hi
  refine lv_aload_n hx hb d_MO_placeOf_0 rfl (lv_at hl 0 rfl) ?_
  refine mw_get K hI gf_MO_30_cMO hw.o rfl d_MO_placeOf_1 ?_
  refine lv_iload_n hx hb d_MO_placeOf_4 rfl (lv_at hl 1 rfl) ?_
  refine mw_iald K hI tI hw.a6 rfl i rfl (by first | assumption | omega) (by omega) d_MO_placeOf_5 ?_
  refine mw_ti (y := nI (bg (mm S i))) (r5) ?_
  refine lv_iload_n hx hb d_MO_placeOf_6 rfl (lv_at hl 2 rfl) ?_
  refine lv_aload_n hx hb d_MO_placeOf_7 rfl (lv_at hl 0 rfl) ?_
  refine mw_get K hI gf_MO_24_cMO hw.o rfl d_MO_placeOf_8 ?_
  refine lv_iload_n hx hb d_MO_placeOf_11 rfl (lv_at hl 1 rfl) ?_
  refine mw_iald K hI tI hw.a4 rfl i rfl (by first | assumption | omega) (by omega) d_MO_placeOf_12 ?_
  refine mw_ti (y := nI (vs (mm S i))) (r3) ?_
  refine mp_call (rest := [.int (nI e0), .int (nI (bg (mm S i)))]) hb hml (c_MO_filled l (n := vs (mm S i)) (by omega)) (mx_invS hx hown (hts _ tw_683) (hts _ tw_684) (hts _ tw_23) (hts _ tw_685) (by decide) (g := F0 m 13 ls [.int (nI (vs (mm S i))), .int (nI e0), .int (nI (bg (mm S i)))]) rfl (argsL := [.int (nI (vs (mm S i)))]) (rest := [.int (nI e0), .int (nI (bg (mm S i)))]) np_MO_filled rfl (by rw [hb]; exact d_MO_placeOf_13)) hl.1 d_MO_placeOf_13 ⟨Nat.le_of_ble_eq_true rfl, Nat.le_of_ble_eq_true rfl⟩ (Or.inl ⟨_, _, List.mem_cons_self⟩) (mk_ws tw_685 hts) (fun a9 U9 h9 => Ts_warm hts _ tw_23 a9 U9 h9) (by first | exact ⟨Nat.le_of_ble_eq_true rfl, Nat.le_of_ble_eq_true rfl⟩ | assumption) (fun v hv => ?_)
  subst hv
  refine W.eq (g2 := F0 m 16 ls [.int (nI (up8 (vs (mm S i)))), .int (nI e0), .int (nI (bg (mm S i)))]) rfl ?_
  refine lv_imul hx hb d_MO_placeOf_16 ?_
  refine mw_ti (pk_mul _ _) ?_
  refine lv_iadd hx hb d_MO_placeOf_17 ?_
  refine mw_ti (nI_add _ _) ?_
  exact mw_iret K hI hr hlk ⟨rfl, rfl⟩ d_MO_placeOf_18
set_option maxRecDepth 100000 in
set_option maxHeartbeats 4000000 in
theorem c_MO_entryOfArray (l : Launch) (D : va_G) (dA : Nat → ClassId) {w : mw_W} {own : as_W} {y t : Nat} {A : Nat → Nat} {cd : Int32} {fe fk : Nat → Nat} {ec kc : Nat} {fi : Nat → Nat → Int32} {fl : Nat → Nat → Int64} {S : as_S} (hw : mo_W dA w own y A cd (nI (gv S)) (nI (nm S)) (nI ec) (nI kc) (nI 0) fi fl) (hR : mo_R fe fk ec kc fi fl S) (hW : wf_S t S) {i : Nat} (hi : i < nm S) (hk : kd (mm S i) = 0) {q : Nat} (hq0 : q + ks (mm S i) ≤ 512) : CT l D dA y_MO_entryOfArray (Cond.code y_MO_entryOfArray b_MO_entryOfArray 5 (some .int) :: Ts) 1 40 0 0 [.ref y, .int (nI i), .int (nI q)] w (fun r w' => r = .inl (some (.int (oI (ent S i q)))) ∧ w' = w) := by
  refine mw_meth (by decide) mk_tb (Nat.le_of_ble_eq_true rfl) ?_
  intro p e s m below meth c K hr hlk hce hnm hP0 hSy ls hl
  have hl : lv_has ls 5 [(0, .ref y), (1, .int (nI i)), (2, .int (nI q))] := hl
  obtain ⟨hx, hb, hml, hown, hts, hK, hTb⟩ := id K
  have hI := mw_I.start hP0
  have h64 := hW.1
  obtain ⟨b1, b2, b3, b4, b5, b6, b7, b8⟩ := wf_E (hW.2.2.2.2.2 i hi) (Or.inl hk)
  have b9 := b8 hk
  obtain ⟨⟨r1, r2, r3, r4, r5⟩, -⟩ := hR.2.2.1 i hi
  refine lv_aload_n hx hb d_MO_entryOfArray_0 rfl (lv_at hl 0 rfl) ?_
  refine mw_get K hI gf_MO_7_cMO hw.o rfl d_MO_entryOfArray_1 ?_
  refine lv_iload_n hx hb d_MO_entryOfArray_4 rfl (lv_at hl 2 rfl) ?_
  refine lv_iconst (v := nI 4) hx hb d_MO_entryOfArray_5 (by decide) ?_
  refine mw_call (rest := []) K hSy hP0 hI (c_MO_number l D dA hw.a0 (by decide) hR.1 hW.2.2.2.1 (i := q) (k := 4) (by decide) (by omega)) (mx_invS hx hown (hts _ tw_709) (hts _ tw_710) (hts _ tw_23) (hts _ tw_711) (by decide) (g := F0 m 6 ls [.int (nI 4), .int (nI q), .ref (A 0)]) rfl (argsL := [.ref (A 0), .int (nI q), .int (nI 4)]) (rest := []) np_MO_number rfl (by rw [hb]; exact d_MO_entryOfArray_6)) hl.1 d_MO_entryOfArray_6 ⟨Nat.le_of_ble_eq_true rfl, Nat.le_of_ble_eq_true rfl⟩ (Or.inl ⟨_, _, List.mem_cons_self⟩) (mk_ws tw_711 hts) (fun a9 U9 h9 => Ts_warm hts _ tw_23 a9 U9 h9) ⟨Nat.le_of_ble_eq_true rfl, Nat.le_of_ble_eq_true rfl⟩ (fun v w' H locs hq hI => ?_) (fun k x w' H locs hq hI hX => ?_)
  · obtain ⟨hq1, hq2⟩ := hq
    cases hq1
    rw [hq2] at hI
    refine W.eq (g2 := F0 m 9 ls [.long (lN (bw_n (dk S) q 4))]) rfl ?_
    have hlt := bw_n_lt hW.2.2.2.1 4 q
    refine lv_lstore_n (lv' := [(3, .long (lN (bw_n (dk S) q 4))), (0, .ref y), (1, .int (nI i)), (2, .int (nI q))]) hx hb d_MO_entryOfArray_9 rfl hl (by decide) rfl (fun ls hl => ?_)
    refine lv_lload_n hx hb d_MO_entryOfArray_10 rfl (lv_at hl 0 rfl) ?_
    refine lv_aload_n hx hb d_MO_entryOfArray_11 rfl (lv_at hl 1 rfl) ?_
    refine mw_get K hI gf_MO_27_cMO hw.o rfl d_MO_entryOfArray_12 ?_
    refine lv_iload_n hx hb d_MO_entryOfArray_15 rfl (lv_at hl 2 rfl) ?_
    refine mw_iald K hI tI hw.a5 rfl i rfl (by first | assumption | omega) (by omega) d_MO_entryOfArray_16 ?_
    refine mw_ti (y := nI (en (mm S i))) (r4) ?_
    refine lv_i2l hx hb d_MO_entryOfArray_17 rfl ?_
    refine mw_tl (nI_l (by omega)) ?_
    refine W.lcmp hx hb d_MO_entryOfArray_18 ?_
    refine lv_if_ge (tgt := 27) hx hb d_MO_entryOfArray_19 (by decide) (fun c19 => ?_) (fun c19 => ?_)
    ·
      rw [lg_cmp_ge, lN_leL (by omega) (by omega)] at c19
      refine lv_iconst (v := (-1)) hx hb d_MO_entryOfArray_27 (by decide) ?_
      refine mw_iret K hI hr hlk ⟨?_, rfl⟩ d_MO_entryOfArray_28
      rw [ent_0 q hk, if_neg (by omega)]; rfl
    ·
      rw [lg_cmp_ge, lN_leL (by omega) (by omega)] at c19
      refine lv_lload_n hx hb d_MO_entryOfArray_22 rfl (lv_at hl 0 rfl) ?_
      refine lv_l2i hx hb d_MO_entryOfArray_23 rfl ?_
      refine mw_ti (lN_i _) ?_
      refine lv_goto (tgt := 28) hx hb d_MO_entryOfArray_24 (by decide) ?_
      refine mw_iret K hI hr hlk ⟨?_, rfl⟩ d_MO_entryOfArray_28
      rw [ent_0 q hk, if_pos (by omega)]; rfl
  · exact absurd hq.1 (by simp)
set_option maxRecDepth 100000 in
set_option maxHeartbeats 4000000 in
theorem c_MO_isKey (l : Launch) (D : va_G) (dA : Nat → ClassId) {w : mw_W} {own : as_W} {y t : Nat} {A : Nat → Nat} {cd : Int32} {fe fk : Nat → Nat} {ec kc : Nat} {fi : Nat → Nat → Int32} {fl : Nat → Nat → Int64} {S : as_S} (hw : mo_W dA w own y A cd (nI (gv S)) (nI (nm S)) (nI ec) (nI kc) (nI 0) fi fl) (hR : mo_R fe fk ec kc fi fl S) (hW : wf_S t S) {i : Nat} (hi : i < nm S) (hk : kd (mm S i) = 1) {e0 q : Nat} (he : e0 < en (mm S i)) (hq0 : q + ks (mm S i) ≤ 512) : CT l D dA y_MO_isKey (Cond.code y_MO_isKey b_MO_isKey 6 (some .boolean) :: Ts) 0 0 0 0 [.ref y, .int (nI i), .int (nI e0), .int (nI q)] w (fun r w' => w' = w ∧ ∃ u : Int32, r = .inl (some (.int u)) ∧ ((u = nI 1 ∧ tb (mm S i) e0 = some (kyL (dk S) q (ks (mm S i)))) ∨ (u = nI 0 ∧ ¬ tb (mm S i) e0 = some (kyL (dk S) q (ks (mm S i)))))) := by
  refine mw_meth (by decide) mk_tb (Nat.le_of_ble_eq_true rfl) ?_
  intro p e s m below meth c K hr hlk hce hnm hP0 hSy ls hl
  have hl : lv_has ls 6 [(0, .ref y), (1, .int (nI i)), (2, .int (nI e0)), (3, .int (nI q))] := hl
  obtain ⟨hx, hb, hml, hown, hts, hK, hTb⟩ := id K
  have hI := mw_I.start hP0
  have h64 := hW.1
  obtain ⟨hec, hkc⟩ := mo_ec hR hW
  have hwf := hW.2.2.2.2.2 i hi
  obtain ⟨b1, b2, b3, b4, b5, b6, b7, b8⟩ := wf_E hwf (Or.inr hk)
  obtain ⟨⟨r1, r2, r3, r4, r5⟩, -⟩ := hR.2.2.1 i hi
  obtain ⟨t1, t2, t3, t4, t5, t6⟩ := hR.2.2.2.2.1 i hi hk
  have hmu := mul_in (k := ks (mm S i)) he
  have hlen : ∀ ky, tb (mm S i) e0 = some ky → ky.length = ks (mm S i) := fun ky h => by
    obtain ⟨-, ⟨k0, -⟩ | ⟨-, c1, c2, c3, c4, c5, c6, c7, c8, c9, c10⟩ | ⟨k0, -⟩⟩ := hwf
    · omega
    · exact (c9 e0 ky h).2
    · omega
  have hloop : ∀ (n9 j : Nat), j + n9 = ks (mm S i) → ∀ (v : Int32), ((v = nI 1 ∧ ∃ ky, tb (mm S i) e0 = some ky ∧ ∀ z, z < j → ky.getD z 0 = dk S (q + z)) ∨ (v = nI 0 ∧ ¬ ∃ ky, tb (mm S i) e0 = some ky ∧ ∀ z, z < j → ky.getD z 0 = dk S (q + z))) → ∀ (H : Heap) (locs : List Loc), mw_I D mk_cl w s.heap w H locs → ∀ ls : Array Slot, lv_has ls 6 [(5, .int (nI j)), (4, .int v), (0, .ref y), (1, .int (nI i)), (2, .int (nI e0)), (3, .int (nI q))] → W p l e { frames := 0, cells := 0, slots := 0, locals := 0 } s m ([.ref y, .int (nI i), .int (nI e0), .int (nI q)] : List Value).toArray below meth c H locs 0 0 (mx_Q below (mw_Qc D mk_cl w s.heap.size (fun r w' => w' = w ∧ ∃ u : Int32, r = .inl (some (.int u)) ∧ ((u = nI 1 ∧ tb (mm S i) e0 = some (kyL (dk S) q (ks (mm S i)))) ∨ (u = nI 0 ∧ ¬ tb (mm S i) e0 = some (kyL (dk S) q (ks (mm S i))))))) ([.ref y, .int (nI i), .int (nI e0), .int (nI q)] : List Value).toArray s 0 0 (mw_A w s.heap.size)) (F0 m 18 ls []) := by
    intro n9
    induction n9 with
    | zero =>
      intro j hj v hv H locs hI ls hl
      refine lv_iload hx hb d_MO_isKey_18 (lv_at hl 0 rfl) ?_
      refine lv_aload_n hx hb d_MO_isKey_20 rfl (lv_at hl 2 rfl) ?_
      refine mw_get K hI gf_MO_21_cMO hw.o rfl d_MO_isKey_21 ?_
      refine lv_iload_n hx hb d_MO_isKey_24 rfl (lv_at hl 3 rfl) ?_
      refine mw_iald K hI tI hw.a3 rfl i rfl (by first | assumption | omega) (by omega) d_MO_isKey_25 ?_
      refine mw_ti (y := nI (ks (mm S i))) (r2) ?_
      refine lv_icmp_ge (tgt := 82) hx hb d_MO_isKey_26 (by decide) (fun c26 => ?_) (fun c26 => ?_)
      ·
        refine lv_iload hx hb d_MO_isKey_82 (lv_at hl 1 rfl) ?_
        have e9 : j = ks (mm S i) := by omega
        rw [e9] at hv
        have hiff : (∃ ky, tb (mm S i) e0 = some ky ∧ ∀ z, z < ks (mm S i) → ky.getD z 0 = dk S (q + z)) ↔ tb (mm S i) e0 = some (kyL (dk S) q (ks (mm S i))) := by
          constructor
          · rintro ⟨ky, h1, h2⟩
            rw [h1, (ky_eq (hlen ky h1) (dk S) q).mp h2]
          · intro h
            exact ⟨_, h, (ky_eq (hlen _ h) (dk S) q).mpr rfl⟩
        rw [hiff] at hv
        refine mw_zret K hI hr hlk (hv.elim (fun h => Or.inr h.1) (fun h => Or.inl h.1)) ⟨rfl, v, rfl, hv⟩ d_MO_isKey_84
      ·
        exact absurd (nI_le (by omega) (by omega)) c26
    | succ n9 ih =>
      intro j hj v hv H locs hI ls hl
      refine lv_iload hx hb d_MO_isKey_18 (lv_at hl 0 rfl) ?_
      refine lv_aload_n hx hb d_MO_isKey_20 rfl (lv_at hl 2 rfl) ?_
      refine mw_get K hI gf_MO_21_cMO hw.o rfl d_MO_isKey_21 ?_
      refine lv_iload_n hx hb d_MO_isKey_24 rfl (lv_at hl 3 rfl) ?_
      refine mw_iald K hI tI hw.a3 rfl i rfl (by first | assumption | omega) (by omega) d_MO_isKey_25 ?_
      refine mw_ti (y := nI (ks (mm S i))) (r2) ?_
      refine lv_icmp_ge (tgt := 82) hx hb d_MO_isKey_26 (by decide) (fun c26 => ?_) (fun c26 => ?_)
      ·
        exact absurd c26 (nI_ge (by omega) (by omega))
      ·
        refine lv_iload hx hb d_MO_isKey_29 (lv_at hl 1 rfl) ?_
        refine lv_if_eq (tgt := 73) hx hb d_MO_isKey_31 (by decide) (fun c31 => ?_) (fun c31 => ?_)
        ·
          have hv0 : ¬ ∃ ky, tb (mm S i) e0 = some ky ∧ ∀ z, z < j + 1 → ky.getD z 0 = dk S (q + z) := by
            rcases hv with ⟨e, -⟩ | ⟨-, h⟩
            · rw [e] at c31; exact absurd c31 (by decide)
            · rintro ⟨ky, h1, h2⟩; exact h ⟨ky, h1, fun z hz => h2 z (by omega)⟩
          refine lv_iconst (v := nI 0) hx hb d_MO_isKey_73 (by decide) ?_
          refine lv_istore (lv' := [(4, .int (nI 0)), (5, .int (nI j)), (0, .ref y), (1, .int (nI i)), (2, .int (nI e0)), (3, .int (nI q))]) hx hb d_MO_isKey_74 hl (by decide) rfl (fun ls hl => ?_)
          refine lv_iinc (v := nI (j + 1)) (lv' := [(5, .int (nI (j + 1))), (4, .int (nI 0)), (0, .ref y), (1, .int (nI i)), (2, .int (nI e0)), (3, .int (nI q))]) hx hb d_MO_isKey_76 hl (k := 1) rfl (nI_add _ _) (by decide) rfl (fun ls hl => ?_)
          refine lv_goto (tgt := 18) hx hb d_MO_isKey_79 (by decide) ?_
          exact ih (j + 1) (by omega) (nI 0) (Or.inr ⟨rfl, hv0⟩) H locs hI ls (lv_sub hl [0, 1, 2, 3, 4, 5] rfl)
        ·
          obtain ⟨ky, hk1, hk2⟩ : ∃ ky, tb (mm S i) e0 = some ky ∧ ∀ z, z < j → ky.getD z 0 = dk S (q + z) := by
            rcases hv with ⟨-, h⟩ | ⟨e, -⟩
            · exact h
            · exact absurd e c31
          obtain ⟨hf1, hf2⟩ := t6 e0 ky he hk1 j (by omega)
          have hf3 := hR.1 (q + j) (by omega)
          have hf4 := hW.2.2.2.1 (q + j)
          refine lv_aload_n hx hb d_MO_isKey_34 rfl (lv_at hl 2 rfl) ?_
          refine mw_get K hI gf_MO_44_cMO hw.o rfl d_MO_isKey_35 ?_
          refine lv_aload_n hx hb d_MO_isKey_38 rfl (lv_at hl 2 rfl) ?_
          refine mw_get K hI gf_MO_36_cMO hw.o rfl d_MO_isKey_39 ?_
          refine lv_iload_n hx hb d_MO_isKey_42 rfl (lv_at hl 3 rfl) ?_
          refine mw_iald K hI tI hw.a8 rfl i rfl (by first | assumption | omega) (by omega) d_MO_isKey_43 ?_
          refine mw_ti (y := nI (fk i)) (t2) ?_
          refine lv_iload_n hx hb d_MO_isKey_44 rfl (lv_at hl 4 rfl) ?_
          refine lv_aload_n hx hb d_MO_isKey_45 rfl (lv_at hl 2 rfl) ?_
          refine mw_get K hI gf_MO_21_cMO hw.o rfl d_MO_isKey_46 ?_
          refine lv_iload_n hx hb d_MO_isKey_49 rfl (lv_at hl 3 rfl) ?_
          refine mw_iald K hI tI hw.a3 rfl i rfl (by first | assumption | omega) (by omega) d_MO_isKey_50 ?_
          refine mw_ti (y := nI (ks (mm S i))) (r2) ?_
          refine lv_imul hx hb d_MO_isKey_51 ?_
          refine mw_ti (pk_mul _ _) ?_
          refine lv_iadd hx hb d_MO_isKey_52 ?_
          refine mw_ti (nI_add _ _) ?_
          refine lv_iload hx hb d_MO_isKey_53 (lv_at hl 0 rfl) ?_
          refine lv_iadd hx hb d_MO_isKey_55 ?_
          refine mw_ti (nI_add _ _) ?_
          refine mw_bald K hI tB hw.a10 rfl (((fk i) + (e0 * (ks (mm S i)))) + j) rfl (by first | assumption | omega) (by omega) d_MO_isKey_56 ?_
          refine mw_ti (y := sB (ky.getD j 0)) (hf1) ?_
          refine lv_aload_n hx hb d_MO_isKey_57 rfl (lv_at hl 2 rfl) ?_
          refine mw_get K hI gf_MO_7_cMO hw.o rfl d_MO_isKey_58 ?_
          refine lv_iload_n hx hb d_MO_isKey_61 rfl (lv_at hl 5 rfl) ?_
          refine lv_iload hx hb d_MO_isKey_62 (lv_at hl 0 rfl) ?_
          refine lv_iadd hx hb d_MO_isKey_64 ?_
          refine mw_ti (nI_add _ _) ?_
          refine mw_bald K hI tB hw.a0 rfl (q + j) rfl (by first | assumption | omega) (by omega) d_MO_isKey_65 ?_
          refine mw_ti (y := sB (dk S (q + j))) (hf3) ?_
          refine lv_icmp_ne (tgt := 73) hx hb d_MO_isKey_66 (by decide) (fun c66 => ?_) (fun c66 => ?_)
          ·
            rw [sB_inj hf2 hf4] at c66
            refine lv_iconst (v := nI 0) hx hb d_MO_isKey_73 (by decide) ?_
            refine lv_istore (lv' := [(4, .int (nI 0)), (5, .int (nI j)), (0, .ref y), (1, .int (nI i)), (2, .int (nI e0)), (3, .int (nI q))]) hx hb d_MO_isKey_74 hl (by decide) rfl (fun ls hl => ?_)
            refine lv_iinc (v := nI (j + 1)) (lv' := [(5, .int (nI (j + 1))), (4, .int (nI 0)), (0, .ref y), (1, .int (nI i)), (2, .int (nI e0)), (3, .int (nI q))]) hx hb d_MO_isKey_76 hl (k := 1) rfl (nI_add _ _) (by decide) rfl (fun ls hl => ?_)
            refine lv_goto (tgt := 18) hx hb d_MO_isKey_79 (by decide) ?_
            refine ih (j + 1) (by omega) (nI 0) (Or.inr ⟨rfl, ?_⟩) H locs hI ls (lv_sub hl [0, 1, 2, 3, 4, 5] rfl)
            rintro ⟨ky', h1, h2⟩
            cases h1.symm.trans hk1
            exact c66 (h2 j (by omega))
          ·
            rw [sB_inj hf2 hf4] at c66
            refine lv_iconst (v := nI 1) hx hb d_MO_isKey_69 (by decide) ?_
            refine lv_goto (tgt := 74) hx hb d_MO_isKey_70 (by decide) ?_
            refine lv_istore (lv' := [(4, .int (nI 1)), (5, .int (nI j)), (0, .ref y), (1, .int (nI i)), (2, .int (nI e0)), (3, .int (nI q))]) hx hb d_MO_isKey_74 hl (by decide) rfl (fun ls hl => ?_)
            refine lv_iinc (v := nI (j + 1)) (lv' := [(5, .int (nI (j + 1))), (4, .int (nI 1)), (0, .ref y), (1, .int (nI i)), (2, .int (nI e0)), (3, .int (nI q))]) hx hb d_MO_isKey_76 hl (k := 1) rfl (nI_add _ _) (by decide) rfl (fun ls hl => ?_)
            refine lv_goto (tgt := 18) hx hb d_MO_isKey_79 (by decide) ?_
            refine ih (j + 1) (by omega) (nI 1) (Or.inl ⟨rfl, ky, hk1, fun z hz => ?_⟩) H locs hI ls (lv_sub hl [0, 1, 2, 3, 4, 5] rfl)
            by_cases e : z = j
            · rw [e]; exact c66
            · exact hk2 z (by omega)
  refine lv_aload_n hx hb d_MO_isKey_0 rfl (lv_at hl 0 rfl) ?_
  refine mw_get K hI gf_MO_39_cMO hw.o rfl d_MO_isKey_1 ?_
  refine lv_aload_n hx hb d_MO_isKey_4 rfl (lv_at hl 0 rfl) ?_
  refine mw_get K hI gf_MO_33_cMO hw.o rfl d_MO_isKey_5 ?_
  refine lv_iload_n hx hb d_MO_isKey_8 rfl (lv_at hl 1 rfl) ?_
  refine mw_iald K hI tI hw.a7 rfl i rfl (by first | assumption | omega) (by omega) d_MO_isKey_9 ?_
  refine mw_ti (y := nI (fe i)) (t1) ?_
  refine lv_iload_n hx hb d_MO_isKey_10 rfl (lv_at hl 2 rfl) ?_
  refine lv_iadd hx hb d_MO_isKey_11 ?_
  refine mw_ti (nI_add _ _) ?_
  refine mw_zald K hI tZ hw.a9 rfl ((fe i) + e0) rfl (by first | assumption | omega) (by omega) d_MO_isKey_12 ?_
  refine mw_ti (y := nI (if (tb (mm S i) e0).isSome then 1 else 0)) (t5 e0 he) ?_
  refine lv_istore (lv' := [(4, .int (nI (if (tb (mm S i) e0).isSome then 1 else 0))), (0, .ref y), (1, .int (nI i)), (2, .int (nI e0)), (3, .int (nI q))]) hx hb d_MO_isKey_13 hl (by decide) rfl (fun ls hl => ?_)
  refine lv_iconst (v := nI 0) hx hb d_MO_isKey_15 (by decide) ?_
  refine lv_istore (lv' := [(5, .int (nI 0)), (4, .int (nI (if (tb (mm S i) e0).isSome then 1 else 0))), (0, .ref y), (1, .int (nI i)), (2, .int (nI e0)), (3, .int (nI q))]) hx hb d_MO_isKey_16 hl (by decide) rfl (fun ls hl => ?_)
  refine hloop (ks (mm S i)) 0 (by omega) _ ?_ _ _ hI ls (lv_sub hl [0, 1, 2, 3, 4, 5] rfl)
  cases ht : tb (mm S i) e0 with
  | none => exact Or.inr ⟨rfl, fun ⟨ky, h, _⟩ => by cases h⟩
  | some ky => exact Or.inl ⟨rfl, ky, rfl, fun z hz => absurd hz (by omega)⟩
set_option maxRecDepth 100000 in
set_option maxHeartbeats 4000000 in
theorem c_MO_entryOf (l : Launch) (D : va_G) (dA : Nat → ClassId) {w : mw_W} {own : as_W} {y t : Nat} {A : Nat → Nat} {cd : Int32} {fe fk : Nat → Nat} {ec kc : Nat} {fi : Nat → Nat → Int32} {fl : Nat → Nat → Int64} {S : as_S} (hw : mo_W dA w own y A cd (nI (gv S)) (nI (nm S)) (nI ec) (nI kc) (nI 0) fi fl) (hR : mo_R fe fk ec kc fi fl S) (hW : wf_S t S) {i : Nat} (hi : i < nm S) (hk : kd (mm S i) = 1) {q : Nat} (hq0 : q + ks (mm S i) ≤ 512) : CT l D dA y_MO_entryOf (Cond.code y_MO_entryOf b_MO_entryOf 5 (some .int) :: Ts) 1 40 0 0 [.ref y, .int (nI i), .int (nI q)] w (fun r w' => r = .inl (some (.int (oI (fnd (mm S i) (kyL (dk S) q (ks (mm S i))))))) ∧ FrM w own w' ∧ mo_W dA w' own y A cd (nI (gv S)) (nI (nm S)) (nI ec) (nI kc) (nI 0) fi fl) := by
  refine mw_meth (by decide) mk_tb (Nat.le_of_ble_eq_true rfl) ?_
  intro p e s m below meth c K hr hlk hce hnm hP0 hSy ls hl
  have hl : lv_has ls 5 [(0, .ref y), (1, .int (nI i)), (2, .int (nI q))] := hl
  obtain ⟨hx, hb, hml, hown, hts, hK, hTb⟩ := id K
  have hI := mw_I.start hP0
  have h64 := hW.1
  have hwf := hW.2.2.2.2.2 i hi
  obtain ⟨b1, b2, b3, b4, b5, b6, b7, b8⟩ := wf_E hwf (Or.inr hk)
  obtain ⟨⟨r1, r2, r3, r4, r5⟩, -⟩ := hR.2.2.1 i hi
  have huq : ∀ {e e' : Nat} {k : List Nat}, tb (mm S i) e = some k → tb (mm S i) e' = some k → e = e' := by
    obtain ⟨-, ⟨k0, -⟩ | ⟨-, c1, c2, c3, c4, c5, c6, c7, c8, c9, c10⟩ | ⟨k0, -⟩⟩ := hwf
    · omega
    · intro e e' k h1 h2; exact c10 e e' k h1 h2
    · omega
  have hneg : nI 0 - 1 < 0 := by decide
  obtain ⟨ky, eky⟩ : ∃ ky, ky = kyL (dk S) q (ks (mm S i)) := ⟨_, rfl⟩
  have hF0 := FrM.rf w own
  have hloop : ∀ (j : Nat), j ≤ en (mm S i) → ∀ (v : Int32), ((v = -1 ∧ ∀ e, j ≤ e → e < en (mm S i) → tb (mm S i) e ≠ some ky) ∨ ∃ e', j ≤ e' ∧ e' < en (mm S i) ∧ tb (mm S i) e' = some ky ∧ v = nI e') → ∀ (w1 : mw_W), FrM w own w1 → mo_W dA w1 own y A cd (nI (gv S)) (nI (nm S)) (nI ec) (nI kc) (nI 0) fi fl → ∀ (H : Heap) (locs : List Loc), mw_I D mk_cl w s.heap w1 H locs → ∀ (v4 : Int32), v4 = nI j - 1 → ∀ ls : Array Slot, lv_has ls 5 [(4, .int v4), (3, .int v), (0, .ref y), (1, .int (nI i)), (2, .int (nI q))] → W p l e { frames := 1, cells := 0, slots := 0, locals := 40 } s m ([.ref y, .int (nI i), .int (nI q)] : List Value).toArray below meth c H locs 0 0 (mx_Q below (mw_Qc D mk_cl w s.heap.size (fun r w' => r = .inl (some (.int (oI (fnd (mm S i) (kyL (dk S) q (ks (mm S i))))))) ∧ FrM w own w' ∧ mo_W dA w' own y A cd (nI (gv S)) (nI (nm S)) (nI ec) (nI kc) (nI 0) fi fl)) ([.ref y, .int (nI i), .int (nI q)] : List Value).toArray s 0 0 (mw_A w s.heap.size)) (F0 m 12 ls []) := by
    intro j
    induction j with
    | zero =>
      intro hj v hv w1 hF hw H locs hI v4 hv4 ls hl
      subst hv4
      refine lv_iload hx hb d_MO_entryOf_12 (lv_at hl 0 rfl) ?_
      refine lv_if_lt (tgt := 58) hx hb d_MO_entryOf_14 (by decide) (fun c14 => ?_) (fun c14 => ?_)
      ·
        refine lv_iload_n hx hb d_MO_entryOf_58 rfl (lv_at hl 1 rfl) ?_
        refine mw_iret K hI hr hlk ⟨?_, hF, hw⟩ d_MO_entryOf_59
        rw [← eky]
        rcases hv with ⟨e, h⟩ | ⟨e', h1, h2, h3, h4⟩
        · have : fnd (mm S i) ky = none := lst_none (fun e he => decide_eq_false (h e (by omega) he))
          rw [this, e]; rfl
        · have : fnd (mm S i) ky = some e' := lst_some (decide_eq_true h3) (fun e'' he'' => decide_eq_false (fun z => by have := huq z h3; omega)) h2
          rw [this, h4]; rfl
      · exact absurd hneg c14
    | succ j ih =>
      intro hj v hv w1 hF hw H locs hI v4 hv4 ls hl
      rw [nI_pred] at hv4
      subst hv4
      refine lv_iload hx hb d_MO_entryOf_12 (lv_at hl 0 rfl) ?_
      refine lv_if_lt (tgt := 58) hx hb d_MO_entryOf_14 (by decide) (fun c14 => ?_) (fun c14 => ?_)
      · exact absurd c14 (nI_pos (by omega))
      ·
        refine lv_aload_n hx hb d_MO_entryOf_17 rfl (lv_at hl 2 rfl) ?_
        refine lv_iload_n hx hb d_MO_entryOf_18 rfl (lv_at hl 3 rfl) ?_
        refine lv_iload hx hb d_MO_entryOf_19 (lv_at hl 0 rfl) ?_
        refine lv_iload_n hx hb d_MO_entryOf_21 rfl (lv_at hl 4 rfl) ?_
        refine mw_call (rest := []) K hSy hP0 hI (c_MO_isKey l D dA hw hR hW hi hk (e0 := j) (q := q) (by omega) hq0) (mx_invV hx hown (hts _ tw_744) (hts _ tw_746) (hts _ tw_12) (hts _ tw_747) (by decide) (b := y) (mw_rc K hI hw.o rfl) (g := F0 m 22 ls [.int (nI q), .int (nI j), .int (nI i), .ref y]) rfl (argsL := [.int (nI i), .int (nI j), .int (nI q)]) (rest := []) np_MO_isKey rfl (by rw [hb]; exact d_MO_entryOf_22)) hl.1 d_MO_entryOf_22 ⟨Nat.le_of_ble_eq_true rfl, Nat.le_of_ble_eq_true rfl⟩ (Or.inl ⟨_, _, List.mem_cons_self⟩) (mk_ws tw_747 hts) (fun a9 U9 h9 => Ts_warm hts _ tw_23 a9 U9 h9) ⟨Nat.le_of_ble_eq_true rfl, Nat.le_of_ble_eq_true rfl⟩ (fun v w' H locs hq hI => ?_) (fun k x w' H locs hq hI hX => ?_)
        · obtain ⟨hq1, u, hq2, hq3⟩ := hq
          cases hq2
          rw [hq1] at hI
          rw [← eky] at hq3
          refine W.eq (g2 := F0 m 25 ls [.int u]) rfl ?_
          refine lv_if_eq (tgt := 52) hx hb d_MO_entryOf_25 (by decide) (fun c25 => ?_) (fun c25 => ?_)
          ·
            have hne : tb (mm S i) j ≠ some ky := by
              rcases hq3 with ⟨e, -⟩ | ⟨-, h⟩
              · rw [e] at c25; exact absurd c25 (by decide)
              · exact h
            refine lv_iinc (v := nI j - 1) (lv' := [(4, .int (nI j - 1)), (3, .int v), (0, .ref y), (1, .int (nI i)), (2, .int (nI q))]) hx hb d_MO_entryOf_52 hl (k := 0) rfl ((by rw [Int32.sub_eq_add_neg]; rfl)) (by decide) rfl (fun ls hl => ?_)
            refine lv_goto (tgt := 12) hx hb d_MO_entryOf_55 (by decide) ?_
            refine ih (by omega) v ?_ w1 hF hw H locs hI _ rfl ls (lv_sub hl [0, 1, 2, 3, 4] rfl)
            rcases hv with ⟨e, h⟩ | ⟨e', h1, h2, h3, h4⟩
            · refine Or.inl ⟨e, fun e2 h1 h2 => ?_⟩
              by_cases z : e2 = j
              · rw [z]; exact hne
              · exact h e2 (by omega) h2
            · exact Or.inr ⟨e', by omega, h2, h3, h4⟩
          ·
            have heq : tb (mm S i) j = some ky := by
              rcases hq3 with ⟨-, h⟩ | ⟨e, -⟩
              · exact h
              · exact absurd e c25
            have hvm : v = -1 := by
              rcases hv with ⟨e, -⟩ | ⟨e', h1, h2, h3, h4⟩
              · exact e
              · have := huq heq h3; omega
            subst hvm
            refine lv_aload_n hx hb d_MO_entryOf_28 rfl (lv_at hl 2 rfl) ?_
            refine lv_iload_n hx hb d_MO_entryOf_29 rfl (lv_at hl 1 rfl) ?_
            refine lv_if_lt (tgt := 42) hx hb d_MO_entryOf_30 (by decide) (fun c30 => ?_) (fun c30 => ?_)
            ·
              refine lv_aload_n hx hb d_MO_entryOf_42 rfl (lv_at hl 2 rfl) ?_
              refine mw_get K hI gf_MO_115_cMO hw.o rfl d_MO_entryOf_43 ?_
              refine mw_put K hI gp_MO_115_cMO (Or.inl ⟨_, rfl, rfl⟩) hw.o rfl rfl (by simp) d_MO_entryOf_46 (fun H locs hI => ?_)
              obtain ⟨wn1, hI, hF, hw⟩ := mo_W.seto (cd' := cd) (g' := nI (gv S)) (n' := nI (nm S)) (ec' := nI ec) (kc' := nI kc) (br' := (nI 0)) hw hI hF
              refine lv_iload hx hb d_MO_entryOf_49 (lv_at hl 0 rfl) ?_
              refine lv_istore_n (lv' := [(3, .int (nI j)), (4, .int (nI j)), (0, .ref y), (1, .int (nI i)), (2, .int (nI q))]) hx hb d_MO_entryOf_51 rfl hl (by decide) rfl (fun ls hl => ?_)
              refine lv_iinc (v := nI j - 1) (lv' := [(4, .int (nI j - 1)), (3, .int (nI j)), (0, .ref y), (1, .int (nI i)), (2, .int (nI q))]) hx hb d_MO_entryOf_52 hl (k := 1) rfl ((by rw [Int32.sub_eq_add_neg]; rfl)) (by decide) rfl (fun ls hl => ?_)
              refine lv_goto (tgt := 12) hx hb d_MO_entryOf_55 (by decide) ?_
              exact ih (by omega) (nI j) (Or.inr ⟨j, Nat.le_refl _, by omega, heq, rfl⟩) _ hF hw H locs hI _ rfl ls (lv_sub hl [0, 1, 2, 3, 4] rfl)
            ·
              exact absurd (by decide) c30
        · obtain ⟨-, u, hq2, -⟩ := hq
          cases hq2
  refine lv_iconst (v := (-1)) hx hb d_MO_entryOf_0 (by decide) ?_
  refine lv_istore_n (lv' := [(3, .int (-1)), (0, .ref y), (1, .int (nI i)), (2, .int (nI q))]) hx hb d_MO_entryOf_1 rfl hl (by decide) rfl (fun ls hl => ?_)
  refine lv_aload_n hx hb d_MO_entryOf_2 rfl (lv_at hl 1 rfl) ?_
  refine mw_get K hI gf_MO_27_cMO hw.o rfl d_MO_entryOf_3 ?_
  refine lv_iload_n hx hb d_MO_entryOf_6 rfl (lv_at hl 2 rfl) ?_
  refine mw_iald K hI tI hw.a5 rfl i rfl (by first | assumption | omega) (by omega) d_MO_entryOf_7 ?_
  refine mw_ti (y := nI (en (mm S i))) (r4) ?_
  refine lv_iconst (v := nI 1) hx hb d_MO_entryOf_8 (by decide) ?_
  refine lv_isub hx hb d_MO_entryOf_9 ?_
  refine lv_istore (lv' := [(4, .int (nI (en (mm S i)) - nI 1)), (3, .int (-1)), (0, .ref y), (1, .int (nI i)), (2, .int (nI q))]) hx hb d_MO_entryOf_10 hl (by decide) rfl (fun ls hl => ?_)
  exact hloop (en (mm S i)) (Nat.le_refl _) (-1) (Or.inl ⟨rfl, fun e h1 h2 => absurd h2 (by omega)⟩) w hF0 hw _ _ hI _ rfl ls (lv_sub hl [0, 1, 2, 3, 4] rfl)
