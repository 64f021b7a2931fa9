/-! ### MapStore: load, store, mapOf, begins -/
theorem d_MS_begins_0 : decode b_MS_begins 0 = .ok (.aload_n 0, 1) := by decide +kernel
theorem d_MS_begins_1 : decode b_MS_begins 1 = .ok (.iload_n 1, 1) := by decide +kernel
theorem d_MS_begins_2 : decode b_MS_begins 2 = .ok (.invokevirtual 59, 3) := by decide +kernel
theorem d_MS_begins_5 : decode b_MS_begins 5 = .ok (.getfield 63, 3) := by decide +kernel
theorem d_MS_begins_8 : decode b_MS_begins 8 = .ok (.ireturn, 1) := by decide +kernel
theorem okZ_n {z : Int32} (h : okZ z) : ∃ k : Nat, z = nI k ∧ 1 ≤ k ∧ k ≤ 8 := by
  rcases h with h | h | h | h
  · exact ⟨1, h, by decide⟩
  · exact ⟨2, h, by decide⟩
  · exact ⟨4, h, by decide⟩
  · exact ⟨8, h, by decide⟩
set_option maxRecDepth 100000 in
set_option maxHeartbeats 4000000 in
theorem c_MS_load (l : Launch) (D : va_G) (dA : Nat → ClassId) (hL : mw_L l) {w : mw_W} {own : as_W} {x : Nat} {S : as_S} (hR : RepC dA w own x S) (q z : Int32) : CT l D dA y_MS_load (Cond.code y_MS_load b_MS_load 3 (some .long) :: Ts) 7 110 2 12 [.ref x, .int q, .int z] w (fun r w' => w' = w ∧ ((¬ okZ z ∧ r = .inr 0) ∨ (okZ z ∧ ¬ inD q z.toNatClampNeg 65536 ∧ r = .inr 2) ∨ (okZ z ∧ inD q z.toNatClampNeg 65536 ∧ r = .inl (some (.long (lN (bw_n (ar S) q.toNatClampNeg z.toNatClampNeg))))))) := by
  refine mw_meth (by decide) mk_tb (Nat.le_of_ble_eq_true rfl) ?_
  intro p e s m below meth c K hr hlk hce hnm hP0 hSy ls hl
  have hl : lv_has ls 3 [(0, .ref x), (1, .int q), (2, .int z)] := hl
  obtain ⟨hx, hb, hml, hown, hts, hK, hTb⟩ := id K
  have hI := mw_I.start hP0
  obtain ⟨bd, xd, ba, xa, ra, mp, gd, ga, ⟨o1, o2, o3, o4, f0, fd, fa, fr, hdk, har⟩, hM⟩ := hR
  refine lv_iload_n hx hb d_MS_load_0 rfl (lv_at hl 2 rfl) ?_
  refine mw_call (rest := []) K hSy hP0 hI (c_MS_demandNumberSize l D dA hL z) (mx_invS hx hown (hts _ tw_414) (hts _ tw_415) (hts _ tw_21) (hts _ tw_416) (by decide) (g := F0 m 1 ls [.int z]) rfl (argsL := [.int z]) (rest := []) np_MS_demandNumberSize rfl (by rw [hb]; exact d_MS_load_1)) hl.1 d_MS_load_1 ⟨Nat.le_of_ble_eq_true rfl, Nat.le_of_ble_eq_true rfl⟩ (Or.inl ⟨_, _, List.mem_cons_self⟩) (mk_ws tw_416 hts) (fun a9 U9 h9 => Ts_warm hts _ tw_21 a9 U9 h9) ⟨Nat.le_of_ble_eq_true rfl, Nat.le_of_ble_eq_true rfl⟩ (fun v w' H locs hq hI => ?_) (fun k x w' H locs hq hI hX => ?_)
  · obtain ⟨hq1, ⟨hz, hq4⟩ | ⟨-, hq4⟩⟩ := hq
    · cases hq4
      rw [hq1] at hI
      obtain ⟨k, ek, hk1, hk8⟩ := okZ_n hz
      have ez : z.toNatClampNeg = k := by rw [ek]; exact nI_clamp (by omega)
      refine W.eq (g2 := F0 m 4 ls []) rfl ?_
      rw [ek] at hl
      refine lv_aload_n hx hb d_MS_load_4 rfl (lv_at hl 0 rfl) ?_
      refine mw_get K hI gf_MS_19_cMS f0 rfl d_MS_load_5 ?_
      refine lv_iload_n hx hb d_MS_load_8 rfl (lv_at hl 1 rfl) ?_
      refine lv_iload_n hx hb d_MS_load_9 rfl (lv_at hl 2 rfl) ?_
      refine mw_call (rest := []) K hSy hP0 hI (c_BY_demand l D dA hL fa (by decide) q (k := k) (by omega)) (mx_invV hx hown (hts _ tw_372) (hts _ tw_373) (hts _ tw_374) (hts _ tw_375) (by decide) (b := ba) (mw_rc K hI fa.1 rfl) (g := F0 m 10 ls [.int (nI k), .int q, .ref ba]) rfl (argsL := [.int q, .int (nI k)]) (rest := []) np_BY_demand rfl (by rw [hb]; exact d_MS_load_10)) hl.1 d_MS_load_10 ⟨Nat.le_of_ble_eq_true rfl, Nat.le_of_ble_eq_true rfl⟩ (Or.inl ⟨_, _, List.mem_cons_self⟩) (mk_ws tw_375 hts) (fun a9 U9 h9 => Ts_warm hts _ tw_22 a9 U9 h9) ⟨Nat.le_of_ble_eq_true rfl, Nat.le_of_ble_eq_true rfl⟩ (fun v w' H locs hq hI => ?_) (fun k x w' H locs hq hI hX => ?_)
      · obtain ⟨hq1, ⟨hq2, hq3, hq4⟩ | ⟨-, hq4⟩⟩ := hq
        · cases hq4
          rw [hq1] at hI
          obtain ⟨e1, e2⟩ := inD_nI ⟨hq2, hq3⟩ (by decide)
          refine W.eq (g2 := F0 m 13 ls []) rfl ?_
          rw [e1] at hl
          refine lv_aload_n hx hb d_MS_load_13 rfl (lv_at hl 0 rfl) ?_
          refine mw_get K hI gf_MS_19_cMS f0 rfl d_MS_load_14 ?_
          refine lv_iload_n hx hb d_MS_load_17 rfl (lv_at hl 1 rfl) ?_
          refine lv_iload_n hx hb d_MS_load_18 rfl (lv_at hl 2 rfl) ?_
          refine mw_call (rest := []) K hSy hP0 hI (c_BY_number l D dA fa (by decide) (i := q.toNatClampNeg) (k := k) hk8 e2) (mx_invV hx hown (hts _ tw_379) (hts _ tw_380) (hts _ tw_381) (hts _ tw_382) (by decide) (b := ba) (mw_rc K hI fa.1 rfl) (g := F0 m 19 ls [.int (nI k), .int (nI q.toNatClampNeg), .ref ba]) rfl (argsL := [.int (nI q.toNatClampNeg), .int (nI k)]) (rest := []) np_BY_number rfl (by rw [hb]; exact d_MS_load_19)) hl.1 d_MS_load_19 ⟨Nat.le_of_ble_eq_true rfl, Nat.le_of_ble_eq_true rfl⟩ (Or.inl ⟨_, _, List.mem_cons_self⟩) (mk_ws tw_382 hts) (fun a9 U9 h9 => Ts_warm hts _ tw_22 a9 U9 h9) ⟨Nat.le_of_ble_eq_true rfl, Nat.le_of_ble_eq_true rfl⟩ (fun v w' H locs hq hI => ?_) (fun k x w' H locs hq hI hX => ?_)
          · obtain ⟨hq5, hq6⟩ := hq
            cases hq5
            rw [hq6] at hI
            refine W.eq (g2 := F0 m 22 ls [.long (lN (bw_n (bw_b ga) q.toNatClampNeg k))]) rfl ?_
            refine mw_tl (y := lN (bw_n (ar S) q.toNatClampNeg z.toNatClampNeg)) ((by rw [ez, bw_n_congr k _ (fun j h1 h2 => har j (by omega))])) ?_
            exact mw_lret K hI hr hlk ⟨rfl, Or.inr (Or.inr ⟨hz, by rw [ez]; exact ⟨hq2, hq3⟩, rfl⟩)⟩ d_MS_load_22
          · exact absurd hq.1 (by simp)
        · cases hq4
      · obtain ⟨hq1, ⟨-, -, hq4⟩ | ⟨hq2, hq4⟩⟩ := hq
        · cases hq4
        · cases hq4
          rw [hq1] at hI
          exact mw_on hI hce hlk hX ⟨rfl, Or.inr (Or.inl ⟨hz, by rw [ez]; exact hq2, rfl⟩)⟩
    · cases hq4
  · obtain ⟨hq1, ⟨-, hq4⟩ | ⟨hq2, hq4⟩⟩ := hq
    · cases hq4
    · cases hq4
      rw [hq1] at hI
      refine WT.widen (k := 2) (n := 12) (by decide) (by decide) ?_
      exact mw_on hI hce hlk hX ⟨rfl, Or.inl ⟨hq2, rfl⟩⟩
set_option maxRecDepth 100000 in
set_option maxHeartbeats 4000000 in
theorem c_MS_store (l : Launch) (D : va_G) (dA : Nat → ClassId) (hL : mw_L l) {w : mw_W} {own : as_W} {x : Nat} {S : as_S} (hR : RepC dA w own x S) (q z : Int32) (v : Int64) : CT l D dA y_MS_store (Cond.code y_MS_store b_MS_store 5 none :: Ts) 7 110 2 12 [.ref x, .int q, .int z, .long v] w (fun r w' => ((¬ okZ z ∧ r = .inr 0 ∧ w' = w) ∨ (okZ z ∧ ¬ inD q z.toNatClampNeg 65536 ∧ r = .inr 2 ∧ w' = w) ∨ (okZ z ∧ inD q z.toNatClampNeg 65536 ∧ r = .inl none ∧ RepC dA w' own x (S_ar S (wr (ar S) q.toNatClampNeg z.toNatClampNeg v)))) ∧ Fr w own w' own) := by
  refine mw_meth (by decide) mk_tb (Nat.le_of_ble_eq_true rfl) ?_
  intro p e s m below meth c K hr hlk hce hnm hP0 hSy ls hl
  have hl : lv_has ls 5 [(0, .ref x), (1, .int q), (2, .int z), (3, .long v)] := hl
  obtain ⟨hx, hb, hml, hown, hts, hK, hTb⟩ := id K
  have hI := mw_I.start hP0
  obtain ⟨bd, xd, ba, xa, ra, mp, gd, ga, hA⟩ := hR
  obtain ⟨⟨o1, o2, o3, o4, f0, fd, fa, fr, hdk, har⟩, hM⟩ := id hA
  refine lv_iload_n hx hb d_MS_store_0 rfl (lv_at hl 2 rfl) ?_
  refine mw_call (rest := []) K hSy hP0 hI (c_MS_demandNumberSize l D dA hL z) (mx_invS hx hown (hts _ tw_414) (hts _ tw_415) (hts _ tw_21) (hts _ tw_416) (by decide) (g := F0 m 1 ls [.int z]) rfl (argsL := [.int z]) (rest := []) np_MS_demandNumberSize rfl (by rw [hb]; exact d_MS_store_1)) hl.1 d_MS_store_1 ⟨Nat.le_of_ble_eq_true rfl, Nat.le_of_ble_eq_true rfl⟩ (Or.inl ⟨_, _, List.mem_cons_self⟩) (mk_ws tw_416 hts) (fun a9 U9 h9 => Ts_warm hts _ tw_21 a9 U9 h9) ⟨Nat.le_of_ble_eq_true rfl, Nat.le_of_ble_eq_true rfl⟩ (fun v w' H locs hq hI => ?_) (fun k x w' H locs hq hI hX => ?_)
  · obtain ⟨hq1, ⟨hz, hq4⟩ | ⟨-, hq4⟩⟩ := hq
    · cases hq4
      rw [hq1] at hI
      obtain ⟨k, ek, hk1, hk8⟩ := okZ_n hz
      have ez : z.toNatClampNeg = k := by rw [ek]; exact nI_clamp (by omega)
      refine W.eq (g2 := F0 m 4 ls []) rfl ?_
      rw [ek] at hl
      refine lv_aload_n hx hb d_MS_store_4 rfl (lv_at hl 0 rfl) ?_
      refine mw_get K hI gf_MS_19_cMS f0 rfl d_MS_store_5 ?_
      refine lv_iload_n hx hb d_MS_store_8 rfl (lv_at hl 1 rfl) ?_
      refine lv_iload_n hx hb d_MS_store_9 rfl (lv_at hl 2 rfl) ?_
      refine mw_call (rest := []) K hSy hP0 hI (c_BY_demand l D dA hL fa (by decide) q (k := k) (by omega)) (mx_invV hx hown (hts _ tw_372) (hts _ tw_373) (hts _ tw_374) (hts _ tw_375) (by decide) (b := ba) (mw_rc K hI fa.1 rfl) (g := F0 m 10 ls [.int (nI k), .int q, .ref ba]) rfl (argsL := [.int q, .int (nI k)]) (rest := []) np_BY_demand rfl (by rw [hb]; exact d_MS_store_10)) hl.1 d_MS_store_10 ⟨Nat.le_of_ble_eq_true rfl, Nat.le_of_ble_eq_true rfl⟩ (Or.inl ⟨_, _, List.mem_cons_self⟩) (mk_ws tw_375 hts) (fun a9 U9 h9 => Ts_warm hts _ tw_22 a9 U9 h9) ⟨Nat.le_of_ble_eq_true rfl, Nat.le_of_ble_eq_true rfl⟩ (fun v w' H locs hq hI => ?_) (fun k x w' H locs hq hI hX => ?_)
      · obtain ⟨hq1, ⟨hq2, hq3, hq4⟩ | ⟨-, hq4⟩⟩ := hq
        · cases hq4
          rw [hq1] at hI
          obtain ⟨e1, e2⟩ := inD_nI ⟨hq2, hq3⟩ (by decide)
          refine W.eq (g2 := F0 m 13 ls []) rfl ?_
          rw [e1] at hl
          refine lv_aload_n hx hb d_MS_store_13 rfl (lv_at hl 0 rfl) ?_
          refine mw_get K hI gf_MS_19_cMS f0 rfl d_MS_store_14 ?_
          refine lv_iload_n hx hb d_MS_store_17 rfl (lv_at hl 1 rfl) ?_
          refine lv_iload_n hx hb d_MS_store_18 rfl (lv_at hl 2 rfl) ?_
          refine lv_lload_n hx hb d_MS_store_19 rfl (lv_at hl 3 rfl) ?_
          refine mw_call (rest := []) K hSy hP0 hI (c_BY_setNumber l D dA fa (by decide) (i := q.toNatClampNeg) (k := k) hk8 e2 v) (mx_invV hx hown (hts _ tw_397) (hts _ tw_398) (hts _ tw_399) (hts _ tw_400) (by decide) (b := ba) (mw_rc K hI fa.1 rfl) (g := F0 m 20 ls [.long v, .int (nI k), .int (nI q.toNatClampNeg), .ref ba]) rfl (argsL := [.int (nI q.toNatClampNeg), .int (nI k), .long v]) (rest := []) np_BY_setNumber rfl (by rw [hb]; exact d_MS_store_20)) hl.1 d_MS_store_20 ⟨Nat.le_of_ble_eq_true rfl, Nat.le_of_ble_eq_true rfl⟩ (Or.inl ⟨_, _, List.mem_cons_self⟩) (mk_ws tw_400 hts) (fun a9 U9 h9 => Ts_warm hts _ tw_22 a9 U9 h9) ⟨Nat.le_of_ble_eq_true rfl, Nat.le_of_ble_eq_true rfl⟩ (fun v w' H locs hq hI => ?_) (fun k x w' H locs hq hI hX => ?_)
          · obtain ⟨hq5, g', hq6, hq7⟩ := hq
            cases hq5
            rw [hq6] at hI
            refine W.eq (g2 := F0 m 23 ls []) rfl ?_
            exact mw_vret K hI hr hlk ⟨Or.inr (Or.inr ⟨hz, by rw [ez]; exact ⟨hq2, hq3⟩, rfl, bd, xd, ba, xa, ra, mp, gd, g', hA.area g' _ (fun j hj => by rw [hq7 j, ez]; unfold wr; rw [har j hj])⟩), Fr.up fa.2 (by rw [o3]; decide)⟩ d_MS_store_23
          · exact absurd hq.1 (by simp)
        · cases hq4
      · obtain ⟨hq1, ⟨-, -, hq4⟩ | ⟨hq2, hq4⟩⟩ := hq
        · cases hq4
        · cases hq4
          rw [hq1] at hI
          exact mw_on hI hce hlk hX ⟨Or.inr (Or.inl ⟨hz, by rw [ez]; exact hq2, rfl, rfl⟩), Fr.rf w own⟩
    · cases hq4
  · obtain ⟨hq1, ⟨-, hq4⟩ | ⟨hq2, hq4⟩⟩ := hq
    · cases hq4
    · cases hq4
      rw [hq1] at hI
      refine WT.widen (k := 2) (n := 12) (by decide) (by decide) ?_
      exact mw_on hI hce hlk hX ⟨Or.inl ⟨hq2, rfl, rfl⟩, Fr.rf w own⟩
abbrev inM (S : as_S) (q : Int32) : Prop := 0 ≤ q.toInt ∧ q.toInt < nm S
theorem inM_nI {S : as_S} {q : Int32} (h : inM S q) (hn : nm S ≤ 64) : q = nI q.toNatClampNeg ∧ q.toNatClampNeg < nm S := by
  obtain ⟨j, hj, rfl⟩ := nI_of (x := q) (by rw [Int32.lt_iff_toInt_lt, Int32.toInt_zero]; omega)
  rw [nI_clamp hj]
  have := h.2
  rw [nI_toInt hj] at this
  exact ⟨rfl, by omega⟩
set_option maxRecDepth 100000 in
set_option maxHeartbeats 4000000 in
theorem c_MS_mapOf (l : Launch) (D : va_G) (dA : Nat → ClassId) (hL : mw_L l) {w : mw_W} {own : as_W} {x bd xd ba xa ra : Nat} {mp : Nat → Nat} {gd ga : Nat → Int64} {S : as_S} (hA : rc_A dA w own x bd xd ba xa ra mp gd ga S) (hn64 : nm S ≤ 64) (q : Int32) : CT l D dA y_MS_mapOf (Cond.code y_MS_mapOf b_MS_mapOf 3 (some (.object "MapStore$AnyMap")) :: Ts) 6 90 1 6 [.ref x, .int q] w (fun r w' => w' = w ∧ ((inM S q ∧ r = .inl (some (.ref (mp q.toNatClampNeg)))) ∨ (¬ inM S q ∧ r = .inr 2))) := by
  refine mw_meth (by decide) mk_tb (Nat.le_of_ble_eq_true rfl) ?_
  intro p e s m below meth c K hr hlk hce hnm hP0 hSy ls hl
  have hl : lv_has ls 3 [(0, .ref x), (1, .int q)] := hl
  obtain ⟨hx, hb, hml, hown, hts, hK, hTb⟩ := id K
  have hI := mw_I.start hP0
  obtain ⟨⟨o1, o2, o3, o4, f0, fd, fa, fr, hdk, har⟩, hM⟩ := id hA
  refine lv_iload_n hx hb d_MS_mapOf_0 rfl (lv_at hl 1 rfl) ?_
  refine lv_if_lt (tgt := 12) hx hb d_MS_mapOf_1 (by decide) (fun c1 => ?_) (fun c1 => ?_)
  · rw [Int32.lt_iff_toInt_lt, Int32.toInt_zero] at c1
    refine lv_null hx hb d_MS_mapOf_12 ?_
    refine lv_goto (tgt := 22) hx hb d_MS_mapOf_13 (by decide) ?_
    refine lv_astore_nN (lv' := [(2, .null), (0, .ref x), (1, .int q)]) hx hb d_MS_mapOf_22 rfl hl (by decide) rfl (fun ls hl => ?_)
    refine lv_aload_nN hx hb d_MS_mapOf_23 rfl (lv_at hl 0 rfl) ?_
    refine lv_ifnonnullN hx hb d_MS_mapOf_24 ?_
    exact mw_throw (tx := "no such map") K hL hSy hP0 hce hlk 2 rfl (by decide) (by decide) (ow_in ow_MS112) (by decide) tw_93 tw_35 tw_94 hl.1 d_MS_mapOf_27 d_MS_mapOf_30 d_MS_mapOf_31 d_MS_mapOf_33 d_MS_mapOf_36 (Nat.le_of_ble_eq_true rfl) (Nat.le_of_ble_eq_true rfl) (Nat.le_of_ble_eq_true rfl) (Nat.le_of_ble_eq_true rfl) (⟨rfl, Or.inr ⟨fun z => by omega, rfl⟩⟩)
  · rw [Int32.lt_iff_toInt_lt, Int32.toInt_zero] at c1
    refine lv_iload_n hx hb d_MS_mapOf_4 rfl (lv_at hl 1 rfl) ?_
    refine lv_aload_n hx hb d_MS_mapOf_5 rfl (lv_at hl 0 rfl) ?_
    refine mw_get K hI gf_MS_28_cMS f0 rfl d_MS_mapOf_6 ?_
    refine lv_icmp_lt (tgt := 16) hx hb d_MS_mapOf_9 (by decide) (fun c9 => ?_) (fun c9 => ?_)
    · rw [Int32.lt_iff_toInt_lt, nI_toInt (by omega)] at c9
      have hin : inM S q := ⟨by omega, c9⟩
      obtain ⟨e1, e2⟩ := inM_nI hin hn64
      rw [e1] at hl
      refine lv_aload_n hx hb d_MS_mapOf_16 rfl (lv_at hl 0 rfl) ?_
      refine mw_get K hI gf_MS_24_cMS f0 rfl d_MS_mapOf_17 ?_
      refine lv_iload_n hx hb d_MS_mapOf_20 rfl (lv_at hl 1 rfl) ?_
      refine mw_aald K hI tAN fr rfl q.toNatClampNeg rfl (by first | assumption | omega) (by omega) d_MS_mapOf_21 ?_
      refine mw_tv (y := .ref (mp q.toNatClampNeg)) ((by show va_rf (if q.toNatClampNeg < nm S then some (mp q.toNatClampNeg) else none) = _; rw [if_pos e2]; rfl)) ?_
      refine lv_astore_n (lv' := [(2, .ref (mp q.toNatClampNeg)), (0, .ref x), (1, .int (nI q.toNatClampNeg))]) hx hb d_MS_mapOf_22 rfl hl (by decide) rfl (fun ls hl => ?_)
      refine lv_aload_n hx hb d_MS_mapOf_23 rfl (lv_at hl 0 rfl) ?_
      refine lv_ifnonnull (tgt := 37) hx hb d_MS_mapOf_24 (by decide) ?_
      refine lv_aload_n hx hb d_MS_mapOf_37 rfl (lv_at hl 0 rfl) ?_
      refine W.widen (k := 1) (n := 6) (by decide) (by decide) ?_
      exact mw_aret K hI hr (Or.inl ⟨_, rfl⟩) hlk (Or.inr ⟨_, rfl⟩) ⟨rfl, Or.inl ⟨hin, rfl⟩⟩ d_MS_mapOf_38
    · rw [Int32.lt_iff_toInt_lt, nI_toInt (by omega)] at c9
      refine lv_null hx hb d_MS_mapOf_12 ?_
      refine lv_goto (tgt := 22) hx hb d_MS_mapOf_13 (by decide) ?_
      refine lv_astore_nN (lv' := [(2, .null), (0, .ref x), (1, .int q)]) hx hb d_MS_mapOf_22 rfl hl (by decide) rfl (fun ls hl => ?_)
      refine lv_aload_nN hx hb d_MS_mapOf_23 rfl (lv_at hl 0 rfl) ?_
      refine lv_ifnonnullN hx hb d_MS_mapOf_24 ?_
      exact mw_throw (tx := "no such map") K hL hSy hP0 hce hlk 2 rfl (by decide) (by decide) (ow_in ow_MS112) (by decide) tw_93 tw_35 tw_94 hl.1 d_MS_mapOf_27 d_MS_mapOf_30 d_MS_mapOf_31 d_MS_mapOf_33 d_MS_mapOf_36 (Nat.le_of_ble_eq_true rfl) (Nat.le_of_ble_eq_true rfl) (Nat.le_of_ble_eq_true rfl) (Nat.le_of_ble_eq_true rfl) (⟨rfl, Or.inr ⟨fun z => c9 z.2, rfl⟩⟩)
set_option maxRecDepth 100000 in
set_option maxHeartbeats 4000000 in
theorem c_MS_begins (l : Launch) (D : va_G) (dA : Nat → ClassId) (hL : mw_L l) {w : mw_W} {own : as_W} {x t : Nat} {S : as_S} (hR : RepC dA w own x S) (hW : wf_S t S) (q : Int32) : CT l D dA y_MS_begins (Cond.code y_MS_begins b_MS_begins 2 (some .int) :: Ts) 7 110 1 6 [.ref x, .int q] w (fun r w' => w' = w ∧ ((inM S q ∧ r = .inl (some (.int (nI (bg (mm S q.toNatClampNeg)))))) ∨ (¬ inM S q ∧ r = .inr 2))) := by
  refine mw_meth (by decide) mk_tb (Nat.le_of_ble_eq_true rfl) ?_
  intro p e s m below meth c K hr hlk hce hnm hP0 hSy ls hl
  have hl : lv_has ls 2 [(0, .ref x), (1, .int q)] := hl
  obtain ⟨hx, hb, hml, hown, hts, hK, hTb⟩ := id K
  have hI := mw_I.start hP0
  obtain ⟨bd, xd, ba, xa, ra, mp, gd, ga, hA⟩ := hR
  obtain ⟨⟨o1, o2, o3, o4, f0, fd, fa, fr, hdk, har⟩, hM⟩ := id hA
  refine lv_aload_n hx hb d_MS_begins_0 rfl (lv_at hl 0 rfl) ?_
  refine lv_iload_n hx hb d_MS_begins_1 rfl (lv_at hl 1 rfl) ?_
  refine mw_call (rest := []) K hSy hP0 hI (c_MS_mapOf l D dA hL hA hW.1 q) (mx_invV hx hown (hts _ tw_89) (hts _ tw_91) (hts _ tw_0) (hts _ tw_92) (by decide) (b := x) (mw_rc K hI f0 rfl) (g := F0 m 2 ls [.int q, .ref x]) rfl (argsL := [.int q]) (rest := []) np_MS_mapOf rfl (by rw [hb]; exact d_MS_begins_2)) hl.1 d_MS_begins_2 ⟨Nat.le_of_ble_eq_true rfl, Nat.le_of_ble_eq_true rfl⟩ (Or.inl ⟨_, _, List.mem_cons_self⟩) (mk_ws tw_92 hts) (fun a9 U9 h9 => Ts_warm hts _ tw_21 a9 U9 h9) ⟨Nat.le_of_ble_eq_true rfl, Nat.le_of_ble_eq_true rfl⟩ (fun v w' H locs hq hI => ?_) (fun k x w' H locs hq hI hX => ?_)
  · obtain ⟨hq1, ⟨hin, hq4⟩ | ⟨-, hq4⟩⟩ := hq
    · cases hq4
      rw [hq1] at hI
      obtain ⟨e1, e2⟩ := inM_nI hin hW.1
      refine W.eq (g2 := F0 m 5 ls [.ref (mp q.toNatClampNeg)]) rfl ?_
      obtain ⟨om, ⟨k0, fm⟩ | ⟨k0, ka, ak, ax, rch, gk, ff, fm, h9⟩ | ⟨k0, fm⟩⟩ := hM _ e2
      · refine mw_get K hI gf_MS_63_cAM fm rfl d_MS_begins_5 ?_
        exact mw_iret K hI hr hlk ⟨rfl, Or.inl ⟨hin, rfl⟩⟩ d_MS_begins_8
      · refine mw_get K hI gf_MS_63_cTM fm rfl d_MS_begins_5 ?_
        exact mw_iret K hI hr hlk ⟨rfl, Or.inl ⟨hin, rfl⟩⟩ d_MS_begins_8
      · refine mw_get K hI gf_MS_63_cRM fm rfl d_MS_begins_5 ?_
        exact mw_iret K hI hr hlk ⟨rfl, Or.inl ⟨hin, rfl⟩⟩ d_MS_begins_8
    · cases hq4
  · obtain ⟨hq1, ⟨-, hq4⟩ | ⟨hq2, hq4⟩⟩ := hq
    · cases hq4
    · cases hq4
      rw [hq1] at hI
      exact mw_on hI hce hlk hX ⟨rfl, Or.inr ⟨hq2, rfl⟩⟩
