/-! ### MapStore.Bytes, on -/
set_option maxRecDepth 100000 in
set_option maxHeartbeats 4000000 in
theorem c_BY_demand (l : Launch) (D : va_G) (dA : Nat → ClassId) (hL : mw_L l) {w : mw_W} {b x n : Nat} {g : Nat → Int64} (h : by_ok dA w b x n g) (hn : n ≤ 65536) (q : Int32) {k : Nat} (hk : k ≤ n) : CT l D dA y_BY_demand (Cond.code y_BY_demand b_BY_demand 3 none :: Ts) 6 90 1 6 [.ref b, .int q, .int (nI k)] w (fun r w' => w' = w ∧ ((0 ≤ q.toInt ∧ q.toInt + k ≤ n ∧ r = .inl none) ∨ (¬ (0 ≤ q.toInt ∧ q.toInt + k ≤ n) ∧ r = .inr 2))) := by
  refine mw_meth (by decide) mk_tb (Nat.le_of_ble_eq_true rfl) ?_
  intro p e s m below meth c K hr hlk hce hnm hP0 hSy ls hl
  have hl : lv_has ls 3 [(0, .ref b), (1, .int q), (2, .int (nI k))] := hl
  obtain ⟨hx, hb, hml, hown, hts, hK, hTb⟩ := id K
  have hI := mw_I.start hP0
  obtain ⟨f0, f1⟩ := h
  refine lv_iload_n hx hb d_BY_demand_0 rfl (lv_at hl 1 rfl) ?_
  refine lv_if_lt (tgt := 14) hx hb d_BY_demand_1 (by decide) (fun c1 => ?_) (fun c1 => ?_)
  · rw [Int32.lt_iff_toInt_lt, Int32.toInt_zero] at c1
    exact mw_throw (tx := "a byte goes beyond the desk or the area") K hL hSy hP0 hce hlk 2 rfl (by decide) (by decide) (ow_in ow_BY) (by decide) tw_376 tw_35 tw_94 hl.1 d_BY_demand_14 d_BY_demand_17 d_BY_demand_18 d_BY_demand_20 d_BY_demand_23 (Nat.le_of_ble_eq_true rfl) (Nat.le_of_ble_eq_true rfl) (Nat.le_of_ble_eq_true rfl) (Nat.le_of_ble_eq_true rfl) (⟨rfl, Or.inr ⟨by omega, rfl⟩⟩)
  · rw [Int32.lt_iff_toInt_lt, Int32.toInt_zero] at c1
    refine lv_iload_n hx hb d_BY_demand_4 rfl (lv_at hl 1 rfl) ?_
    refine lv_aload_n hx hb d_BY_demand_5 rfl (lv_at hl 0 rfl) ?_
    refine mw_get K hI gf_BY_9_cBY f0 rfl d_BY_demand_6 ?_
    refine lv_iload_n hx hb d_BY_demand_9 rfl (lv_at hl 2 rfl) ?_
    refine lv_isub hx hb d_BY_demand_10 ?_
    refine mw_ti (pk_sub (by omega)) ?_
    refine lv_icmp_le (tgt := 24) hx hb d_BY_demand_11 (by decide) (fun c11 => ?_) (fun c11 => ?_)
    · rw [Int32.le_iff_toInt_le, nI_toInt (by omega)] at c11
      refine W.widen (k := 1) (n := 6) (by decide) (by decide) ?_
      exact mw_vret K hI hr hlk ⟨rfl, Or.inl ⟨by omega, by omega, rfl⟩⟩ d_BY_demand_24
    · rw [Int32.le_iff_toInt_le, nI_toInt (by omega)] at c11
      exact mw_throw (tx := "a byte goes beyond the desk or the area") K hL hSy hP0 hce hlk 2 rfl (by decide) (by decide) (ow_in ow_BY) (by decide) tw_376 tw_35 tw_94 hl.1 d_BY_demand_14 d_BY_demand_17 d_BY_demand_18 d_BY_demand_20 d_BY_demand_23 (Nat.le_of_ble_eq_true rfl) (Nat.le_of_ble_eq_true rfl) (Nat.le_of_ble_eq_true rfl) (Nat.le_of_ble_eq_true rfl) (⟨rfl, Or.inr ⟨by omega, rfl⟩⟩)
set_option maxRecDepth 100000 in
set_option maxHeartbeats 4000000 in
theorem c_BY_number (l : Launch) (D : va_G) (dA : Nat → ClassId) {w : mw_W} {b x n : Nat} {g : Nat → Int64} (h : by_ok dA w b x n g) (hn : n ≤ 65536) {i k : Nat} (hk : k ≤ 8) (hi : i + k ≤ n) : CT l D dA y_BY_number (Cond.code y_BY_number b_BY_number 6 (some .long) :: Ts) 2 40 0 0 [.ref b, .int (nI i), .int (nI k)] w (fun r w' => r = .inl (some (.long (lN (bw_n (bw_b g) i k)))) ∧ w' = w) := by
  refine mw_meth (by decide) mk_tb (Nat.le_of_ble_eq_true rfl) ?_
  intro p e s m below meth c K hr hlk hce hnm hP0 hSy ls hl
  have hl : lv_has ls 6 [(0, .ref b), (1, .int (nI i)), (2, .int (nI k))] := hl
  obtain ⟨hx, hb, hml, hown, hts, hK, hTb⟩ := id K
  have hI := mw_I.start hP0
  have h' := h
  obtain ⟨f0, f1⟩ := h'
  have hloop : ∀ (j : Nat), j ≤ k → ∀ (H : Heap) (locs : List Loc), mw_I D mk_cl w s.heap w H locs → ∀ (v5 : Int32), v5 = nI j - 1 → ∀ ls : Array Slot, lv_has ls 6 [(5, .int v5), (3, .long (lN (bw_n (bw_b g) (i + j) (k - j)))), (0, .ref b), (1, .int (nI i)), (2, .int (nI k))] → W p l e { frames := 2, cells := 0, slots := 0, locals := 40 } s m ([.ref b, .int (nI i), .int (nI k)] : List Value).toArray below meth c H locs 0 0 (mx_Q below (mw_Qc D mk_cl w s.heap.size (fun r w' => r = .inl (some (.long (lN (bw_n (bw_b g) i k)))) ∧ w' = w)) ([.ref b, .int (nI i), .int (nI k)] : List Value).toArray s 0 0 (mw_A w s.heap.size)) (F0 m 7 ls []) := by
    intro j
    induction j with
    | zero =>
      intro hj H locs hI v5 hv ls hl
      have hneg : v5 < 0 := by rw [hv]; decide
      refine lv_iload hx hb d_BY_number_7 (lv_at hl 0 rfl) ?_
      refine lv_if_lt (tgt := 33) hx hb d_BY_number_9 (by decide) (fun c9 => ?_) (fun c9 => ?_)
      ·
        refine lv_lload_n hx hb d_BY_number_33 rfl (lv_at hl 1 rfl) ?_
        exact mw_lret K hI hr hlk ⟨rfl, rfl⟩ d_BY_number_34
      · exact absurd hneg c9
    | succ j ih =>
      intro hj H locs hI v5 hv ls hl
      rw [nI_pred] at hv
      subst hv
      refine lv_iload hx hb d_BY_number_7 (lv_at hl 0 rfl) ?_
      refine lv_if_lt (tgt := 33) hx hb d_BY_number_9 (by decide) (fun c9 => ?_) (fun c9 => ?_)
      · exact absurd c9 (nI_pos (by omega))
      ·
        have hlt := bw_n_lt (bw_lt g) (k - (j + 1)) (i + (j + 1))
        have hp : 256 ^ (k - (j + 1)) ≤ 256 ^ 7 := Nat.pow_le_pow_right (by decide) (by omega)
        refine lv_lload_n hx hb d_BY_number_12 rfl (lv_at hl 1 rfl) ?_
        refine lv_bipush (v := nI 8) hx hb d_BY_number_13 (by decide) ?_
        refine lv_lshl hx hb d_BY_number_15 rfl ?_
        refine mw_tl (y := lN (bw_n (bw_b g) (i + (j + 1)) (k - (j + 1)) * 256)) (wb_shl _ (k := 8) (by decide)) ?_
        refine lv_aload_n hx hb d_BY_number_16 rfl (lv_at hl 2 rfl) ?_
        refine lv_iload_n hx hb d_BY_number_17 rfl (lv_at hl 3 rfl) ?_
        refine lv_iload hx hb d_BY_number_18 (lv_at hl 0 rfl) ?_
        refine lv_iadd hx hb d_BY_number_20 ?_
        refine mw_ti (nI_add _ _) ?_
        refine mw_call K hSy hP0 hI (c_BY_byteAt l D dA h hn (i := i + j) (by omega)) (mx_invV hx hown (hts _ tw_383) (hts _ tw_384) (hts _ tw_385) (hts _ tw_386) (by decide) (b := b) (mw_rc K hI f0 rfl) (g := F0 m 21 ls [.int (nI (i + j)), .ref b, .long (lN (bw_n (bw_b g) (i + (j + 1)) (k - (j + 1)) * 256))]) rfl (argsL := [.int (nI (i + j))]) (rest := [.long (lN (bw_n (bw_b g) (i + (j + 1)) (k - (j + 1)) * 256))]) np_BY_byteAt rfl (by rw [hb]; exact d_BY_number_21)) hl.1 d_BY_number_21 ⟨Nat.le_of_ble_eq_true rfl, Nat.le_of_ble_eq_true rfl⟩ (Or.inl ⟨_, _, List.mem_cons_self⟩) (mk_ws tw_386 hts) (fun a9 U9 h9 => Ts_warm hts _ tw_22 a9 U9 h9) ⟨Nat.le_of_ble_eq_true rfl, Nat.le_of_ble_eq_true rfl⟩ (fun v w' H locs hq hI => ?_) (fun k x w' H locs hq hI hX => ?_)
        · obtain ⟨hq1, hq2⟩ := hq
          cases hq1
          subst hq2
          refine W.eq (g2 := F0 m 24 ls [.int (nI (bw_b g (i + j))), .long (lN (bw_n (bw_b g) (i + (j + 1)) (k - (j + 1)) * 256))]) rfl ?_
          refine lv_i2l hx hb d_BY_number_24 rfl ?_
          have hbl := bw_lt g (i + j)
          refine mw_tl (y := lN (bw_b g (i + j))) (nI_l (by omega)) ?_
          refine lv_lor hx hb d_BY_number_25 ?_
          refine mw_tl (y := lN (bw_n (bw_b g) (i + j) (k - j))) ((by rw [g_or (k := 8) (p := 256) rfl hbl (by omega)]; congr 1; rw [show k - j = (k - (j + 1)) + 1 by omega, bw_n, Nat.add_assoc i j 1]; omega)) ?_
          refine lv_lstore_n (lv' := [(3, .long (lN (bw_n (bw_b g) (i + j) (k - j)))), (5, .int (nI j)), (0, .ref b), (1, .int (nI i)), (2, .int (nI k))]) hx hb d_BY_number_26 rfl hl (by decide) rfl (fun ls hl => ?_)
          refine lv_iinc (v := nI j - 1) (lv' := [(5, .int (nI j - 1)), (3, .long (lN (bw_n (bw_b g) (i + j) (k - j)))), (0, .ref b), (1, .int (nI i)), (2, .int (nI k))]) hx hb d_BY_number_27 hl (k := 1) rfl ((by rw [Int32.sub_eq_add_neg]; rfl)) (by decide) rfl (fun ls hl => ?_)
          refine lv_goto (tgt := 7) hx hb d_BY_number_30 (by decide) ?_
          exact ih (by omega) H locs hI _ rfl ls (lv_sub hl [0, 1, 2, 3, 4] rfl)
        · exact absurd hq.1 (by simp)
  refine lv_lconst (v := lN 0) hx hb d_BY_number_0 (by decide) ?_
  refine lv_lstore_n (lv' := [(3, .long (lN 0)), (0, .ref b), (1, .int (nI i)), (2, .int (nI k))]) hx hb d_BY_number_1 rfl hl (by decide) rfl (fun ls hl => ?_)
  refine lv_iload_n hx hb d_BY_number_2 rfl (lv_at hl 3 rfl) ?_
  refine lv_iconst (v := nI 1) hx hb d_BY_number_3 (by decide) ?_
  refine lv_isub hx hb d_BY_number_4 ?_
  refine lv_istore (lv' := [(5, .int (nI k - nI 1)), (3, .long (lN 0)), (0, .ref b), (1, .int (nI i)), (2, .int (nI k))]) hx hb d_BY_number_5 hl (by decide) rfl (fun ls hl => ?_)
  exact hloop k (Nat.le_refl k) _ _ hI _ rfl ls (lv_sub hl [0, 1, 2, 3, 4] (by rw [Nat.sub_self]; rfl))
