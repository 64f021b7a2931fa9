/-! ### MapStore: desk, area, maps -/
theorem d_MS_desk_0 : decode b_MS_desk 0 = .ok (.aload_n 0, 1) := by decide +kernel
theorem d_MS_desk_1 : decode b_MS_desk 1 = .ok (.getfield 14, 3) := by decide +kernel
theorem d_MS_desk_4 : decode b_MS_desk 4 = .ok (.iload_n 1, 1) := by decide +kernel
theorem d_MS_desk_5 : decode b_MS_desk 5 = .ok (.bipush 8, 2) := by decide +kernel
theorem d_MS_desk_7 : decode b_MS_desk 7 = .ok (.invokevirtual 70, 3) := by decide +kernel
theorem d_MS_desk_10 : decode b_MS_desk 10 = .ok (.aload_n 0, 1) := by decide +kernel
theorem d_MS_desk_11 : decode b_MS_desk 11 = .ok (.getfield 14, 3) := by decide +kernel
theorem d_MS_desk_14 : decode b_MS_desk 14 = .ok (.iload_n 1, 1) := by decide +kernel
theorem d_MS_desk_15 : decode b_MS_desk 15 = .ok (.bipush 8, 2) := by decide +kernel
theorem d_MS_desk_17 : decode b_MS_desk 17 = .ok (.invokevirtual 74, 3) := by decide +kernel
theorem d_MS_desk_20 : decode b_MS_desk 20 = .ok (.lreturn, 1) := by decide +kernel
theorem d_MS_lay_0 : decode b_MS_lay 0 = .ok (.aload_n 0, 1) := by decide +kernel
theorem d_MS_lay_1 : decode b_MS_lay 1 = .ok (.getfield 14, 3) := by decide +kernel
theorem d_MS_lay_4 : decode b_MS_lay 4 = .ok (.iload_n 1, 1) := by decide +kernel
theorem d_MS_lay_5 : decode b_MS_lay 5 = .ok (.bipush 8, 2) := by decide +kernel
theorem d_MS_lay_7 : decode b_MS_lay 7 = .ok (.invokevirtual 70, 3) := by decide +kernel
theorem d_MS_lay_10 : decode b_MS_lay 10 = .ok (.aload_n 0, 1) := by decide +kernel
theorem d_MS_lay_11 : decode b_MS_lay 11 = .ok (.getfield 14, 3) := by decide +kernel
theorem d_MS_lay_14 : decode b_MS_lay 14 = .ok (.iload_n 1, 1) := by decide +kernel
theorem d_MS_lay_15 : decode b_MS_lay 15 = .ok (.bipush 8, 2) := by decide +kernel
theorem d_MS_lay_17 : decode b_MS_lay 17 = .ok (.lload_n 2, 1) := by decide +kernel
theorem d_MS_lay_18 : decode b_MS_lay 18 = .ok (.invokevirtual 78, 3) := by decide +kernel
theorem d_MS_lay_21 : decode b_MS_lay 21 = .ok (.return_, 1) := by decide +kernel
theorem d_MS_load_0 : decode b_MS_load 0 = .ok (.iload_n 2, 1) := by decide +kernel
theorem d_MS_load_1 : decode b_MS_load 1 = .ok (.invokestatic 82, 3) := by decide +kernel
theorem d_MS_load_4 : decode b_MS_load 4 = .ok (.aload_n 0, 1) := by decide +kernel
theorem d_MS_load_5 : decode b_MS_load 5 = .ok (.getfield 19, 3) := by decide +kernel
theorem d_MS_load_8 : decode b_MS_load 8 = .ok (.iload_n 1, 1) := by decide +kernel
theorem d_MS_load_9 : decode b_MS_load 9 = .ok (.iload_n 2, 1) := by decide +kernel
theorem d_MS_load_10 : decode b_MS_load 10 = .ok (.invokevirtual 70, 3) := by decide +kernel
theorem d_MS_load_13 : decode b_MS_load 13 = .ok (.aload_n 0, 1) := by decide +kernel
theorem d_MS_load_14 : decode b_MS_load 14 = .ok (.getfield 19, 3) := by decide +kernel
theorem d_MS_load_17 : decode b_MS_load 17 = .ok (.iload_n 1, 1) := by decide +kernel
theorem d_MS_load_18 : decode b_MS_load 18 = .ok (.iload_n 2, 1) := by decide +kernel
theorem d_MS_load_19 : decode b_MS_load 19 = .ok (.invokevirtual 74, 3) := by decide +kernel
theorem d_MS_load_22 : decode b_MS_load 22 = .ok (.lreturn, 1) := by decide +kernel
theorem d_MS_store_0 : decode b_MS_store 0 = .ok (.iload_n 2, 1) := by decide +kernel
theorem d_MS_store_1 : decode b_MS_store 1 = .ok (.invokestatic 82, 3) := by decide +kernel
theorem d_MS_store_4 : decode b_MS_store 4 = .ok (.aload_n 0, 1) := by decide +kernel
theorem d_MS_store_5 : decode b_MS_store 5 = .ok (.getfield 19, 3) := by decide +kernel
theorem d_MS_store_8 : decode b_MS_store 8 = .ok (.iload_n 1, 1) := by decide +kernel
theorem d_MS_store_9 : decode b_MS_store 9 = .ok (.iload_n 2, 1) := by decide +kernel
theorem d_MS_store_10 : decode b_MS_store 10 = .ok (.invokevirtual 70, 3) := by decide +kernel
theorem d_MS_store_13 : decode b_MS_store 13 = .ok (.aload_n 0, 1) := by decide +kernel
theorem d_MS_store_14 : decode b_MS_store 14 = .ok (.getfield 19, 3) := by decide +kernel
theorem d_MS_store_17 : decode b_MS_store 17 = .ok (.iload_n 1, 1) := by decide +kernel
theorem d_MS_store_18 : decode b_MS_store 18 = .ok (.iload_n 2, 1) := by decide +kernel
theorem d_MS_store_19 : decode b_MS_store 19 = .ok (.lload_n 3, 1) := by decide +kernel
theorem d_MS_store_20 : decode b_MS_store 20 = .ok (.invokevirtual 78, 3) := by decide +kernel
theorem d_MS_store_23 : decode b_MS_store 23 = .ok (.return_, 1) := by decide +kernel
theorem d_MS_maps_0 : decode b_MS_maps 0 = .ok (.aload_n 0, 1) := by decide +kernel
theorem d_MS_maps_1 : decode b_MS_maps 1 = .ok (.getfield 28, 3) := by decide +kernel
theorem d_MS_maps_4 : decode b_MS_maps 4 = .ok (.ireturn, 1) := by decide +kernel
theorem d_MS_mapOf_0 : decode b_MS_mapOf 0 = .ok (.iload_n 1, 1) := by decide +kernel
theorem d_MS_mapOf_1 : decode b_MS_mapOf 1 = .ok (.ifCond .lt 11, 3) := by decide +kernel
theorem d_MS_mapOf_4 : decode b_MS_mapOf 4 = .ok (.iload_n 1, 1) := by decide +kernel
theorem d_MS_mapOf_5 : decode b_MS_mapOf 5 = .ok (.aload_n 0, 1) := by decide +kernel
theorem d_MS_mapOf_6 : decode b_MS_mapOf 6 = .ok (.getfield 28, 3) := by decide +kernel
theorem d_MS_mapOf_9 : decode b_MS_mapOf 9 = .ok (.if_icmp .lt 7, 3) := by decide +kernel
theorem d_MS_mapOf_12 : decode b_MS_mapOf 12 = .ok (.aconst_null, 1) := by decide +kernel
theorem d_MS_mapOf_13 : decode b_MS_mapOf 13 = .ok (.goto 9, 3) := by decide +kernel
theorem d_MS_mapOf_16 : decode b_MS_mapOf 16 = .ok (.aload_n 0, 1) := by decide +kernel
theorem d_MS_mapOf_17 : decode b_MS_mapOf 17 = .ok (.getfield 24, 3) := by decide +kernel
theorem d_MS_mapOf_20 : decode b_MS_mapOf 20 = .ok (.iload_n 1, 1) := by decide +kernel
theorem d_MS_mapOf_21 : decode b_MS_mapOf 21 = .ok (.aaload, 1) := by decide +kernel
theorem d_MS_mapOf_22 : decode b_MS_mapOf 22 = .ok (.astore_n 2, 1) := by decide +kernel
theorem d_MS_mapOf_23 : decode b_MS_mapOf 23 = .ok (.aload_n 2, 1) := by decide +kernel
theorem d_MS_mapOf_24 : decode b_MS_mapOf 24 = .ok (.ifnonnull 13, 3) := by decide +kernel
theorem d_MS_mapOf_27 : decode b_MS_mapOf 27 = .ok (.new 108, 3) := by decide +kernel
theorem d_MS_mapOf_30 : decode b_MS_mapOf 30 = .ok (.dup, 1) := by decide +kernel
theorem d_MS_mapOf_31 : decode b_MS_mapOf 31 = .ok (.ldc 110, 2) := by decide +kernel
theorem d_MS_mapOf_33 : decode b_MS_mapOf 33 = .ok (.invokespecial 112, 3) := by decide +kernel
theorem d_MS_mapOf_36 : decode b_MS_mapOf 36 = .ok (.athrow, 1) := by decide +kernel
theorem d_MS_mapOf_37 : decode b_MS_mapOf 37 = .ok (.aload_n 2, 1) := by decide +kernel
theorem d_MS_mapOf_38 : decode b_MS_mapOf 38 = .ok (.areturn, 1) := by decide +kernel
theorem d_MS_demandNumberSize_0 : decode b_MS_demandNumberSize 0 = .ok (.iload_n 0, 1) := by decide +kernel
theorem d_MS_demandNumberSize_1 : decode b_MS_demandNumberSize 1 = .ok (.iconst 1, 1) := by decide +kernel
theorem d_MS_demandNumberSize_2 : decode b_MS_demandNumberSize 2 = .ok (.if_icmp .eq 29, 3) := by decide +kernel
theorem d_MS_demandNumberSize_5 : decode b_MS_demandNumberSize 5 = .ok (.iload_n 0, 1) := by decide +kernel
theorem d_MS_demandNumberSize_6 : decode b_MS_demandNumberSize 6 = .ok (.iconst 2, 1) := by decide +kernel
theorem d_MS_demandNumberSize_7 : decode b_MS_demandNumberSize 7 = .ok (.if_icmp .eq 24, 3) := by decide +kernel
theorem d_MS_demandNumberSize_10 : decode b_MS_demandNumberSize 10 = .ok (.iload_n 0, 1) := by decide +kernel
theorem d_MS_demandNumberSize_11 : decode b_MS_demandNumberSize 11 = .ok (.iconst 4, 1) := by decide +kernel
theorem d_MS_demandNumberSize_12 : decode b_MS_demandNumberSize 12 = .ok (.if_icmp .eq 19, 3) := by decide +kernel
theorem d_MS_demandNumberSize_15 : decode b_MS_demandNumberSize 15 = .ok (.iload_n 0, 1) := by decide +kernel
theorem d_MS_demandNumberSize_16 : decode b_MS_demandNumberSize 16 = .ok (.bipush 8, 2) := by decide +kernel
theorem d_MS_demandNumberSize_18 : decode b_MS_demandNumberSize 18 = .ok (.if_icmp .eq 13, 3) := by decide +kernel
theorem d_MS_demandNumberSize_21 : decode b_MS_demandNumberSize 21 = .ok (.new 39, 3) := by decide +kernel
theorem d_MS_demandNumberSize_24 : decode b_MS_demandNumberSize 24 = .ok (.dup, 1) := by decide +kernel
theorem d_MS_demandNumberSize_25 : decode b_MS_demandNumberSize 25 = .ok (.ldc 137, 2) := by decide +kernel
theorem d_MS_demandNumberSize_27 : decode b_MS_demandNumberSize 27 = .ok (.invokespecial 43, 3) := by decide +kernel
theorem d_MS_demandNumberSize_30 : decode b_MS_demandNumberSize 30 = .ok (.athrow, 1) := by decide +kernel
theorem d_MS_demandNumberSize_31 : decode b_MS_demandNumberSize 31 = .ok (.return_, 1) := by decide +kernel
abbrev inD (q : Int32) (k n : Nat) : Prop := 0 ≤ q.toInt ∧ q.toInt + k ≤ n
theorem inD_nI {q : Int32} {k n : Nat} (h : inD q k n) (hn : n < 2 ^ 31) : q = nI q.toNatClampNeg ∧ q.toNatClampNeg + k ≤ n := by
  obtain ⟨j, hj, rfl⟩ := nI_of (x := q) (by rw [Int32.lt_iff_toInt_lt, Int32.toInt_zero]; omega)
  rw [nI_clamp hj]
  have := h.2
  rw [nI_toInt hj] at this
  exact ⟨rfl, by omega⟩
/-- the lowest k bytes of v, from i on -/
def wr (f : Nat → Nat) (i k : Nat) (v : Int64) : Nat → Nat := fun j => if i ≤ j ∧ j < i + k then uN v / 2 ^ (8 * (j - i)) % 256 else f j
theorem WT.widen {p : Program} {l : Launch} {e : Env} {R : Room} {s : State} {m : MethodId} {args : Array Value} {below : List Frame} {meth : Method} {c : Code} {H : Heap} {locs : List Loc} {cells slots : Nat} {Q : State → Prop} {g : JFrame} {x : Addr} {k n : Nat} (h1 : cells ≤ k) (h2 : slots ≤ n) (kk : WT p l e R s m args below meth c H locs k n Q g x) : WT p l e R s m args below meth c H locs cells slots Q g x := fun T hT X => kk T hT (stand_widen X h1 h2)
set_option maxRecDepth 100000 in
set_option maxHeartbeats 4000000 in
theorem c_MS_maps (l : Launch) (D : va_G) (dA : Nat → ClassId) {w : mw_W} {own : as_W} {x : Nat} {S : as_S} (hR : RepC dA w own x S) : CT l D dA y_MS_maps (Cond.code y_MS_maps b_MS_maps 1 (some .int) :: Ts) 0 0 0 0 [.ref x] w (fun r w' => w' = w ∧ r = .inl (some (.int (nI (nm S))))) := by
  refine mw_meth (by decide) mk_tb (Nat.le_of_ble_eq_true rfl) ?_
  intro p e s m below meth c K hr hlk hce hnm hP0 hSy ls hl
  have hl : lv_has ls 1 [(0, .ref x)] := hl
  obtain ⟨hx, hb, hml, hown, hts, hK, hTb⟩ := id K
  have hI := mw_I.start hP0
  obtain ⟨bd, xd, ba, xa, ra, mp, gd, ga, ⟨o1, o2, o3, o4, f0, fd, fa, fr, hdk, har⟩, hM⟩ := hR
  refine lv_aload_n hx hb d_MS_maps_0 rfl (lv_at hl 0 rfl) ?_
  refine mw_get K hI gf_MS_28_cMS f0 rfl d_MS_maps_1 ?_
  exact mw_iret K hI hr hlk ⟨rfl, rfl⟩ d_MS_maps_4
set_option maxRecDepth 100000 in
set_option maxHeartbeats 4000000 in
theorem c_MS_desk (l : Launch) (D : va_G) (dA : Nat → ClassId) (hL : mw_L l) {w : mw_W} {own : as_W} {x : Nat} {S : as_S} (hR : RepC dA w own x S) (q : Int32) : CT l D dA y_MS_desk (Cond.code y_MS_desk b_MS_desk 2 (some .long) :: Ts) 7 110 1 6 [.ref x, .int q] w (fun r w' => w' = w ∧ ((inD q 8 512 ∧ r = .inl (some (.long (lN (bw_n (dk S) q.toNatClampNeg 8))))) ∨ (¬ inD q 8 512 ∧ r = .inr 2))) := by
  refine mw_meth (by decide) mk_tb (Nat.le_of_ble_eq_true rfl) ?_
  intro p e s m below meth c K hr hlk hce hnm hP0 hSy ls hl
  have hl : lv_has ls 2 [(0, .ref x), (1, .int q)] := hl
  obtain ⟨hx, hb, hml, hown, hts, hK, hTb⟩ := id K
  have hI := mw_I.start hP0
  obtain ⟨bd, xd, ba, xa, ra, mp, gd, ga, ⟨o1, o2, o3, o4, f0, fd, fa, fr, hdk, har⟩, hM⟩ := hR
  refine lv_aload_n hx hb d_MS_desk_0 rfl (lv_at hl 0 rfl) ?_
  refine mw_get K hI gf_MS_14_cMS f0 rfl d_MS_desk_1 ?_
  refine lv_iload_n hx hb d_MS_desk_4 rfl (lv_at hl 1 rfl) ?_
  refine lv_bipush (v := nI 8) hx hb d_MS_desk_5 (by decide) ?_
  refine mw_call (rest := []) K hSy hP0 hI (c_BY_demand l D dA hL fd (by decide) q (k := 8) (by decide)) (mx_invV hx hown (hts _ tw_372) (hts _ tw_373) (hts _ tw_374) (hts _ tw_375) (by decide) (b := bd) (mw_rc K hI fd.1 rfl) (g := F0 m 7 ls [.int (nI 8), .int q, .ref bd]) rfl (argsL := [.int q, .int (nI 8)]) (rest := []) np_BY_demand rfl (by rw [hb]; exact d_MS_desk_7)) hl.1 d_MS_desk_7 ⟨Nat.le_of_ble_eq_true rfl, Nat.le_of_ble_eq_true rfl⟩ (Or.inl ⟨_, _, List.mem_cons_self⟩) (mk_ws tw_375 hts) (fun a9 U9 h9 => Ts_warm hts _ tw_22 a9 U9 h9) ⟨Nat.le_of_ble_eq_true rfl, Nat.le_of_ble_eq_true rfl⟩ (fun v w' H locs hq hI => ?_) (fun k x w' H locs hq hI hX => ?_)
  · obtain ⟨hq1, ⟨hq2, hq3, hq4⟩ | ⟨-, hq4⟩⟩ := hq
    · cases hq4
      rw [hq1] at hI
      obtain ⟨e1, e2⟩ := inD_nI ⟨hq2, hq3⟩ (by decide)
      refine W.eq (g2 := F0 m 10 ls []) rfl ?_
      rw [e1] at hl
      refine lv_aload_n hx hb d_MS_desk_10 rfl (lv_at hl 0 rfl) ?_
      refine mw_get K hI gf_MS_14_cMS f0 rfl d_MS_desk_11 ?_
      refine lv_iload_n hx hb d_MS_desk_14 rfl (lv_at hl 1 rfl) ?_
      refine lv_bipush (v := nI 8) hx hb d_MS_desk_15 (by decide) ?_
      refine mw_call (rest := []) K hSy hP0 hI (c_BY_number l D dA fd (by decide) (i := q.toNatClampNeg) (k := 8) (by decide) e2) (mx_invV hx hown (hts _ tw_379) (hts _ tw_380) (hts _ tw_381) (hts _ tw_382) (by decide) (b := bd) (mw_rc K hI fd.1 rfl) (g := F0 m 17 ls [.int (nI 8), .int (nI q.toNatClampNeg), .ref bd]) rfl (argsL := [.int (nI q.toNatClampNeg), .int (nI 8)]) (rest := []) np_BY_number rfl (by rw [hb]; exact d_MS_desk_17)) hl.1 d_MS_desk_17 ⟨Nat.le_of_ble_eq_true rfl, Nat.le_of_ble_eq_true rfl⟩ (Or.inl ⟨_, _, List.mem_cons_self⟩) (mk_ws tw_382 hts) (fun a9 U9 h9 => Ts_warm hts _ tw_22 a9 U9 h9) ⟨Nat.le_of_ble_eq_true rfl, Nat.le_of_ble_eq_true rfl⟩ (fun v w' H locs hq hI => ?_) (fun k x w' H locs hq hI hX => ?_)
      · obtain ⟨hq5, hq6⟩ := hq
        cases hq5
        rw [hq6] at hI
        refine W.eq (g2 := F0 m 20 ls [.long (lN (bw_n (bw_b gd) q.toNatClampNeg 8))]) rfl ?_
        refine mw_tl (y := lN (bw_n (dk S) q.toNatClampNeg 8)) ((by rw [bw_n_congr 8 _ (fun j h1 h2 => hdk j (by omega))])) ?_
        exact mw_lret K hI hr hlk ⟨rfl, Or.inl ⟨⟨hq2, hq3⟩, rfl⟩⟩ d_MS_desk_20
      · exact absurd hq.1 (by simp)
    · cases hq4
  · obtain ⟨hq1, ⟨-, -, hq4⟩ | ⟨hq2, hq4⟩⟩ := hq
    · cases hq4
    · cases hq4
      rw [hq1] at hI
      exact mw_on hI hce hlk hX ⟨rfl, Or.inr ⟨hq2, rfl⟩⟩
set_option maxRecDepth 100000 in
set_option maxHeartbeats 4000000 in
theorem c_MS_lay (l : Launch) (D : va_G) (dA : Nat → ClassId) (hL : mw_L l) {w : mw_W} {own : as_W} {x : Nat} {S : as_S} (hR : RepC dA w own x S) (q : Int32) (v : Int64) : CT l D dA y_MS_lay (Cond.code y_MS_lay b_MS_lay 4 none :: Ts) 7 110 1 6 [.ref x, .int q, .long v] w (fun r w' => ((inD q 8 512 ∧ r = .inl none ∧ RepC dA w' own x (S_dk S (wr (dk S) q.toNatClampNeg 8 v))) ∨ (¬ inD q 8 512 ∧ r = .inr 2 ∧ w' = w)) ∧ Fr w own w' own) := by
  refine mw_meth (by decide) mk_tb (Nat.le_of_ble_eq_true rfl) ?_
  intro p e s m below meth c K hr hlk hce hnm hP0 hSy ls hl
  have hl : lv_has ls 4 [(0, .ref x), (1, .int q), (2, .long v)] := hl
  obtain ⟨hx, hb, hml, hown, hts, hK, hTb⟩ := id K
  have hI := mw_I.start hP0
  obtain ⟨bd, xd, ba, xa, ra, mp, gd, ga, hA⟩ := hR
  obtain ⟨⟨o1, o2, o3, o4, f0, fd, fa, fr, hdk, har⟩, hM⟩ := id hA
  refine lv_aload_n hx hb d_MS_lay_0 rfl (lv_at hl 0 rfl) ?_
  refine mw_get K hI gf_MS_14_cMS f0 rfl d_MS_lay_1 ?_
  refine lv_iload_n hx hb d_MS_lay_4 rfl (lv_at hl 1 rfl) ?_
  refine lv_bipush (v := nI 8) hx hb d_MS_lay_5 (by decide) ?_
  refine mw_call (rest := []) K hSy hP0 hI (c_BY_demand l D dA hL fd (by decide) q (k := 8) (by decide)) (mx_invV hx hown (hts _ tw_372) (hts _ tw_373) (hts _ tw_374) (hts _ tw_375) (by decide) (b := bd) (mw_rc K hI fd.1 rfl) (g := F0 m 7 ls [.int (nI 8), .int q, .ref bd]) rfl (argsL := [.int q, .int (nI 8)]) (rest := []) np_BY_demand rfl (by rw [hb]; exact d_MS_lay_7)) hl.1 d_MS_lay_7 ⟨Nat.le_of_ble_eq_true rfl, Nat.le_of_ble_eq_true rfl⟩ (Or.inl ⟨_, _, List.mem_cons_self⟩) (mk_ws tw_375 hts) (fun a9 U9 h9 => Ts_warm hts _ tw_22 a9 U9 h9) ⟨Nat.le_of_ble_eq_true rfl, Nat.le_of_ble_eq_true rfl⟩ (fun v w' H locs hq hI => ?_) (fun k x w' H locs hq hI hX => ?_)
  · obtain ⟨hq1, ⟨hq2, hq3, hq4⟩ | ⟨-, hq4⟩⟩ := hq
    · cases hq4
      rw [hq1] at hI
      obtain ⟨e1, e2⟩ := inD_nI ⟨hq2, hq3⟩ (by decide)
      refine W.eq (g2 := F0 m 10 ls []) rfl ?_
      rw [e1] at hl
      refine lv_aload_n hx hb d_MS_lay_10 rfl (lv_at hl 0 rfl) ?_
      refine mw_get K hI gf_MS_14_cMS f0 rfl d_MS_lay_11 ?_
      refine lv_iload_n hx hb d_MS_lay_14 rfl (lv_at hl 1 rfl) ?_
      refine lv_bipush (v := nI 8) hx hb d_MS_lay_15 (by decide) ?_
      refine lv_lload_n hx hb d_MS_lay_17 rfl (lv_at hl 2 rfl) ?_
      refine mw_call (rest := []) K hSy hP0 hI (c_BY_setNumber l D dA fd (by decide) (i := q.toNatClampNeg) (k := 8) (by decide) e2 v) (mx_invV hx hown (hts _ tw_397) (hts _ tw_398) (hts _ tw_399) (hts _ tw_400) (by decide) (b := bd) (mw_rc K hI fd.1 rfl) (g := F0 m 18 ls [.long v, .int (nI 8), .int (nI q.toNatClampNeg), .ref bd]) rfl (argsL := [.int (nI q.toNatClampNeg), .int (nI 8), .long v]) (rest := []) np_BY_setNumber rfl (by rw [hb]; exact d_MS_lay_18)) hl.1 d_MS_lay_18 ⟨Nat.le_of_ble_eq_true rfl, Nat.le_of_ble_eq_true rfl⟩ (Or.inl ⟨_, _, List.mem_cons_self⟩) (mk_ws tw_400 hts) (fun a9 U9 h9 => Ts_warm hts _ tw_22 a9 U9 h9) ⟨Nat.le_of_ble_eq_true rfl, Nat.le_of_ble_eq_true rfl⟩ (fun v w' H locs hq hI => ?_) (fun k x w' H locs hq hI hX => ?_)
      · obtain ⟨hq5, g', hq6, hq7⟩ := hq
        cases hq5
        rw [hq6] at hI
        refine W.eq (g2 := F0 m 21 ls []) rfl ?_
        exact mw_vret K hI hr hlk ⟨Or.inl ⟨⟨hq2, hq3⟩, rfl, bd, xd, ba, xa, ra, mp, g', ga, hA.desk g' _ (fun j hj => by rw [hq7 j]; unfold wr; rw [hdk j hj])⟩, Fr.up fd.2 (by rw [o2]; decide)⟩ d_MS_lay_21
      · exact absurd hq.1 (by simp)
    · cases hq4
  · obtain ⟨hq1, ⟨-, -, hq4⟩ | ⟨hq2, hq4⟩⟩ := hq
    · cases hq4
    · cases hq4
      rw [hq1] at hI
      exact mw_on hI hce hlk hX ⟨Or.inr ⟨hq2, rfl, rfl⟩, Fr.rf w own⟩
abbrev okZ (z : Int32) : Prop := z = nI 1 ∨ z = nI 2 ∨ z = nI 4 ∨ z = nI 8
set_option maxRecDepth 100000 in
set_option maxHeartbeats 4000000 in
theorem c_MS_demandNumberSize (l : Launch) (D : va_G) (dA : Nat → ClassId) (hL : mw_L l) {w : mw_W} (z : Int32) : CT l D dA y_MS_demandNumberSize (Cond.code y_MS_demandNumberSize b_MS_demandNumberSize 1 none :: Ts) 6 90 1 6 [.int z] w (fun r w' => w' = w ∧ ((okZ z ∧ r = .inl none) ∨ (¬ okZ z ∧ r = .inr 0))) := by
  refine mw_meth (by decide) mk_tb (Nat.le_of_ble_eq_true rfl) ?_
  intro p e s m below meth c K hr hlk hce hnm hP0 hSy ls hl
  have hl : lv_has ls 1 [(0, .int z)] := hl
  obtain ⟨hx, hb, hml, hown, hts, hK, hTb⟩ := id K
  have hI := mw_I.start hP0
  refine lv_iload_n hx hb d_MS_demandNumberSize_0 rfl (lv_at hl 0 rfl) ?_
  refine lv_iconst (v := nI 1) hx hb d_MS_demandNumberSize_1 (by decide) ?_
  refine lv_icmp_eq (tgt := 31) hx hb d_MS_demandNumberSize_2 (by decide) (fun c2 => ?_) (fun c2 => ?_)
  ·
    refine W.widen (k := 1) (n := 6) (by decide) (by decide) ?_
    exact mw_vret K hI hr hlk ⟨rfl, Or.inl ⟨Or.inl c2, rfl⟩⟩ d_MS_demandNumberSize_31
  ·
    refine lv_iload_n hx hb d_MS_demandNumberSize_5 rfl (lv_at hl 0 rfl) ?_
    refine lv_iconst (v := nI 2) hx hb d_MS_demandNumberSize_6 (by decide) ?_
    refine lv_icmp_eq (tgt := 31) hx hb d_MS_demandNumberSize_7 (by decide) (fun c7 => ?_) (fun c7 => ?_)
    ·
      refine W.widen (k := 1) (n := 6) (by decide) (by decide) ?_
      exact mw_vret K hI hr hlk ⟨rfl, Or.inl ⟨Or.inr (Or.inl c7), rfl⟩⟩ d_MS_demandNumberSize_31
    ·
      refine lv_iload_n hx hb d_MS_demandNumberSize_10 rfl (lv_at hl 0 rfl) ?_
      refine lv_iconst (v := nI 4) hx hb d_MS_demandNumberSize_11 (by decide) ?_
      refine lv_icmp_eq (tgt := 31) hx hb d_MS_demandNumberSize_12 (by decide) (fun c12 => ?_) (fun c12 => ?_)
      ·
        refine W.widen (k := 1) (n := 6) (by decide) (by decide) ?_
        exact mw_vret K hI hr hlk ⟨rfl, Or.inl ⟨Or.inr (Or.inr (Or.inl c12)), rfl⟩⟩ d_MS_demandNumberSize_31
      ·
        refine lv_iload_n hx hb d_MS_demandNumberSize_15 rfl (lv_at hl 0 rfl) ?_
        refine lv_bipush (v := nI 8) hx hb d_MS_demandNumberSize_16 (by decide) ?_
        refine lv_icmp_eq (tgt := 31) hx hb d_MS_demandNumberSize_18 (by decide) (fun c18 => ?_) (fun c18 => ?_)
        ·
          refine W.widen (k := 1) (n := 6) (by decide) (by decide) ?_
          exact mw_vret K hI hr hlk ⟨rfl, Or.inl ⟨Or.inr (Or.inr (Or.inr c18)), rfl⟩⟩ d_MS_demandNumberSize_31
        ·
          exact mw_throw (tx := "a number has 1, 2, 4 or 8 bytes") K hL hSy hP0 hce hlk 0 rfl (by decide) (by decide) (ow_in ow_MS43) (by decide) tw_191 tw_28 tw_192 hl.1 d_MS_demandNumberSize_21 d_MS_demandNumberSize_24 d_MS_demandNumberSize_25 d_MS_demandNumberSize_27 d_MS_demandNumberSize_30 (Nat.le_of_ble_eq_true rfl) (Nat.le_of_ble_eq_true rfl) (Nat.le_of_ble_eq_true rfl) (Nat.le_of_ble_eq_true rfl) (⟨rfl, Or.inr ⟨fun z => by rcases z with z | z | z | z <;> contradiction, rfl⟩⟩)
