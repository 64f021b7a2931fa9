/-! ### tables: next; what a kind does not do; used -/
set_option maxRecDepth 100000 in
set_option maxHeartbeats 4000000 in
theorem c_AN_placeOf (l : Launch) (D : va_G) (dA : Nat → ClassId) {w : mw_W} (a : Nat) (k : Int32) : CT l D dA y_AN_placeOf (Cond.code y_AN_placeOf b_AN_placeOf 2 (some .int) :: Ts) 0 0 0 0 [.ref a, .int k] w (fun r w' => r = .inl (some (.int (-22))) ∧ w' = w) := by
  refine mw_meth (by decide) mk_tb (Nat.le_of_ble_eq_true rfl) ?_
  intro p e s m below meth c K hr hlk hce hnm hP0 hSy ls hl
  have hl : lv_has ls 2 [(0, .ref a), (1, .int k)] := hl
  obtain ⟨hx, hb, hml, hown, hts, hK, hTb⟩ := id K
  have hI := mw_I.start hP0
  refine lv_bipush (v := (-22)) hx hb d_AN_placeOf_0 (by decide) ?_
  exact mw_iret K hI hr hlk ⟨rfl, rfl⟩ d_AN_placeOf_2
set_option maxRecDepth 100000 in
set_option maxHeartbeats 4000000 in
theorem c_AN_write (l : Launch) (D : va_G) (dA : Nat → ClassId) {w : mw_W} (a : Nat) (k v f : Int32) : CT l D dA y_AN_write (Cond.code y_AN_write b_AN_write 4 (some .int) :: Ts) 0 0 0 0 [.ref a, .int k, .int v, .int f] w (fun r w' => r = .inl (some (.int (-22))) ∧ w' = w) := by
  refine mw_meth (by decide) mk_tb (Nat.le_of_ble_eq_true rfl) ?_
  intro p e s m below meth c K hr hlk hce hnm hP0 hSy ls hl
  have hl : lv_has ls 4 [(0, .ref a), (1, .int k), (2, .int v), (3, .int f)] := hl
  obtain ⟨hx, hb, hml, hown, hts, hK, hTb⟩ := id K
  have hI := mw_I.start hP0
  refine lv_bipush (v := (-22)) hx hb d_AN_write_0 (by decide) ?_
  exact mw_iret K hI hr hlk ⟨rfl, rfl⟩ d_AN_write_2
set_option maxRecDepth 100000 in
set_option maxHeartbeats 4000000 in
theorem c_AN_free (l : Launch) (D : va_G) (dA : Nat → ClassId) {w : mw_W} (a : Nat) (k : Int32) : CT l D dA y_AN_free (Cond.code y_AN_free b_AN_free 2 (some .int) :: Ts) 0 0 0 0 [.ref a, .int k] w (fun r w' => r = .inl (some (.int (-22))) ∧ w' = w) := by
  refine mw_meth (by decide) mk_tb (Nat.le_of_ble_eq_true rfl) ?_
  intro p e s m below meth c K hr hlk hce hnm hP0 hSy ls hl
  have hl : lv_has ls 2 [(0, .ref a), (1, .int k)] := hl
  obtain ⟨hx, hb, hml, hown, hts, hK, hTb⟩ := id K
  have hI := mw_I.start hP0
  refine lv_bipush (v := (-22)) hx hb d_AN_free_0 (by decide) ?_
  exact mw_iret K hI hr hlk ⟨rfl, rfl⟩ d_AN_free_2
set_option maxRecDepth 100000 in
set_option maxHeartbeats 4000000 in
theorem c_AN_takeRecord (l : Launch) (D : va_G) (dA : Nat → ClassId) {w : mw_W} (a : Nat) (k : Int32) : CT l D dA y_AN_takeRecord (Cond.code y_AN_takeRecord b_AN_takeRecord 2 (some .int) :: Ts) 0 0 0 0 [.ref a, .int k] w (fun r w' => r = .inl (some (.int (-22))) ∧ w' = w) := by
  refine mw_meth (by decide) mk_tb (Nat.le_of_ble_eq_true rfl) ?_
  intro p e s m below meth c K hr hlk hce hnm hP0 hSy ls hl
  have hl : lv_has ls 2 [(0, .ref a), (1, .int k)] := hl
  obtain ⟨hx, hb, hml, hown, hts, hK, hTb⟩ := id K
  have hI := mw_I.start hP0
  refine lv_bipush (v := (-22)) hx hb d_AN_takeRecord_0 (by decide) ?_
  exact mw_iret K hI hr hlk ⟨rfl, rfl⟩ d_AN_takeRecord_2
set_option maxRecDepth 100000 in
set_option maxHeartbeats 4000000 in
theorem c_AN_putRecord (l : Launch) (D : va_G) (dA : Nat → ClassId) {w : mw_W} (a : Nat) (k v : Int32) : CT l D dA y_AN_putRecord (Cond.code y_AN_putRecord b_AN_putRecord 3 (some .int) :: Ts) 0 0 0 0 [.ref a, .int k, .int v] w (fun r w' => r = .inl (some (.int (-22))) ∧ w' = w) := by
  refine mw_meth (by decide) mk_tb (Nat.le_of_ble_eq_true rfl) ?_
  intro p e s m below meth c K hr hlk hce hnm hP0 hSy ls hl
  have hl : lv_has ls 3 [(0, .ref a), (1, .int k), (2, .int v)] := hl
  obtain ⟨hx, hb, hml, hown, hts, hK, hTb⟩ := id K
  have hI := mw_I.start hP0
  refine lv_bipush (v := (-22)) hx hb d_AN_putRecord_0 (by decide) ?_
  exact mw_iret K hI hr hlk ⟨rfl, rfl⟩ d_AN_putRecord_2
set_option maxRecDepth 100000 in
set_option maxHeartbeats 4000000 in
theorem c_AN_keyAfter (l : Launch) (D : va_G) (dA : Nat → ClassId) {w : mw_W} (a : Nat) (k v : Int32) : CT l D dA y_AN_keyAfter (Cond.code y_AN_keyAfter b_AN_keyAfter 3 (some .int) :: Ts) 0 0 0 0 [.ref a, .int k, .int v] w (fun r w' => r = .inl (some (.int (-22))) ∧ w' = w) := by
  refine mw_meth (by decide) mk_tb (Nat.le_of_ble_eq_true rfl) ?_
  intro p e s m below meth c K hr hlk hce hnm hP0 hSy ls hl
  have hl : lv_has ls 3 [(0, .ref a), (1, .int k), (2, .int v)] := hl
  obtain ⟨hx, hb, hml, hown, hts, hK, hTb⟩ := id K
  have hI := mw_I.start hP0
  refine lv_bipush (v := (-22)) hx hb d_AN_keyAfter_0 (by decide) ?_
  exact mw_iret K hI hr hlk ⟨rfl, rfl⟩ d_AN_keyAfter_2
set_option maxRecDepth 100000 in
set_option maxHeartbeats 4000000 in
theorem c_AN_clashes (l : Launch) (D : va_G) (dA : Nat → ClassId) {w : mw_W} (a : Nat) : CT l D dA y_AN_clashes (Cond.code y_AN_clashes b_AN_clashes 1 (some .int) :: Ts) 0 0 0 0 [.ref a] w (fun r w' => r = .inl (some (.int (nI 0))) ∧ w' = w) := by
  refine mw_meth (by decide) mk_tb (Nat.le_of_ble_eq_true rfl) ?_
  intro p e s m below meth c K hr hlk hce hnm hP0 hSy ls hl
  have hl : lv_has ls 1 [(0, .ref a)] := hl
  obtain ⟨hx, hb, hml, hown, hts, hK, hTb⟩ := id K
  have hI := mw_I.start hP0
  refine lv_iconst (v := nI 0) hx hb d_AN_clashes_0 (by decide) ?_
  exact mw_iret K hI hr hlk ⟨rfl, rfl⟩ d_AN_clashes_1
set_option maxRecDepth 100000 in
set_option maxHeartbeats 4000000 in
theorem c_TM_clashes (l : Launch) (D : va_G) (dA : Nat → ClassId) {w : mw_W} {own : as_W} {x bd xd ba xa ra : Nat} {mp : Nat → Nat} {gd ga : Nat → Int64} {S : as_S} {t : Nat} (hA : rc_A dA w own x bd xd ba xa ra mp gd ga S) (hW : wf_S t S) {i : Nat} (hi : i < nm S) (hk : kd (mm S i) = 1) : CT l D dA y_TM_clashes (Cond.code y_TM_clashes b_TM_clashes 1 (some .int) :: Ts) 0 0 0 0 [.ref (mp i)] w (fun r w' => r = .inl (some (.int (nI 0))) ∧ w' = w) := by
  refine mw_meth (by decide) mk_tb (Nat.le_of_ble_eq_true rfl) ?_
  intro p e s m below meth c K hr hlk hce hnm hP0 hSy ls hl
  have hl : lv_has ls 1 [(0, .ref (mp i))] := hl
  obtain ⟨hx, hb, hml, hown, hts, hK, hTb⟩ := id K
  have hI := mw_I.start hP0
  obtain ⟨ka, ak, rch, wk, f0⟩ := rc_TM (hA.2 i hi) hk
  generalize mm S i = mi at *
  refine lv_aload_n hx hb d_TM_clashes_0 rfl (lv_at hl 0 rfl) ?_
  refine mw_get K hI gf_TM_18_cTM f0 rfl d_TM_clashes_1 ?_
  exact mw_iret K hI hr hlk ⟨rfl, rfl⟩ d_TM_clashes_4
set_option maxRecDepth 100000 in
set_option maxHeartbeats 4000000 in
theorem c_AM_inUse (l : Launch) (D : va_G) (dA : Nat → ClassId) {w : mw_W} {own : as_W} {x bd xd ba xa ra : Nat} {mp : Nat → Nat} {gd ga : Nat → Int64} {S : as_S} {t : Nat} (hA : rc_A dA w own x bd xd ba xa ra mp gd ga S) (hW : wf_S t S) {i : Nat} (hi : i < nm S) (hk : kd (mm S i) = 0) : CT l D dA y_AM_inUse (Cond.code y_AM_inUse b_AM_inUse 1 (some .int) :: Ts) 0 0 0 0 [.ref (mp i)] w (fun r w' => r = .inl (some (.int (nI (useN (mm S i))))) ∧ w' = w) := by
  refine mw_meth (by decide) mk_tb (Nat.le_of_ble_eq_true rfl) ?_
  intro p e s m below meth c K hr hlk hce hnm hP0 hSy ls hl
  have hl : lv_has ls 1 [(0, .ref (mp i))] := hl
  obtain ⟨hx, hb, hml, hown, hts, hK, hTb⟩ := id K
  have hI := mw_I.start hP0
  have hwf := hW.2.2.2.2.2 i hi
  have f0 := rc_AM (hA.2 i hi) hk (wf_E hwf (Or.inl hk)).2.2.2.2.2.2.2
  have hu : useN (mm S i) = en (mm S i) := if_pos hk
  rw [hu]
  generalize mm S i = mi at *
  refine lv_aload_n hx hb d_AM_inUse_0 rfl (lv_at hl 0 rfl) ?_
  refine mw_get K hI gf_AM_9_cAM f0 rfl d_AM_inUse_1 ?_
  exact mw_iret K hI hr hlk ⟨rfl, rfl⟩ d_AM_inUse_4
set_option maxRecDepth 100000 in
set_option maxHeartbeats 4000000 in
theorem c_TM_inUse (l : Launch) (D : va_G) (dA : Nat → ClassId) {w : mw_W} {own : as_W} {x bd xd ba xa ra : Nat} {mp : Nat → Nat} {gd ga : Nat → Int64} {S : as_S} {t : Nat} (hA : rc_A dA w own x bd xd ba xa ra mp gd ga S) (hW : wf_S t S) {i : Nat} (hi : i < nm S) (hk : kd (mm S i) = 1) : CT l D dA y_TM_inUse (Cond.code y_TM_inUse b_TM_inUse 1 (some .int) :: Ts) 0 0 0 0 [.ref (mp i)] w (fun r w' => r = .inl (some (.int (nI (useN (mm S i))))) ∧ w' = w) := by
  refine mw_meth (by decide) mk_tb (Nat.le_of_ble_eq_true rfl) ?_
  intro p e s m below meth c K hr hlk hce hnm hP0 hSy ls hl
  have hl : lv_has ls 1 [(0, .ref (mp i))] := hl
  obtain ⟨hx, hb, hml, hown, hts, hK, hTb⟩ := id K
  have hI := mw_I.start hP0
  have hu : useN (mm S i) = tb_n (tb (mm S i)) (en (mm S i)) := (if_neg (by rw [hk]; decide)).trans (if_pos hk)
  rw [hu]
  obtain ⟨om, ⟨k0, -⟩ | ⟨k0, ka, ak, ax, rch, gk, ff, f0, -⟩ | ⟨k0, -⟩⟩ := hA.2 i hi
  · rw [hk] at k0; cases k0
  · generalize mm S i = mi at *
    refine lv_aload_n hx hb d_TM_inUse_0 rfl (lv_at hl 0 rfl) ?_
    refine mw_get K hI gf_TM_15_cTM f0 rfl d_TM_inUse_1 ?_
    exact mw_iret K hI hr hlk ⟨rfl, rfl⟩ d_TM_inUse_4
  · rw [hk] at k0; cases k0
/-- the sizes of a ring -/
theorem wf_R {t : Nat} {m : as_M} (h : wf_M t m) (hk : kd m = 2) : bg m % 8 = 0 ∧ (∃ p, 6 ≤ p ∧ p ≤ 14 ∧ en m = 2 ^ p) ∧ bg m + en m ≤ 65536 ∧ tl m ≤ hd m ∧ hd m - tl m ≤ en m ∧ hd m % 8 = 0 ∧ tl m % 8 = 0 ∧ hd m ≤ 264 * t ∧ rc m ≤ t := by
  obtain ⟨h0, ⟨k0, h⟩ | ⟨k0, h⟩ | ⟨k0, -, -, h3, h4, h5, h6, h7, h8, h9, h10⟩⟩ := h
  · omega
  · omega
  · exact ⟨h0, h3, h4, h5, h6, h7, h8, h9, h10⟩
set_option maxRecDepth 100000 in
set_option maxHeartbeats 4000000 in
theorem c_RM_inUse (l : Launch) (D : va_G) (dA : Nat → ClassId) {w : mw_W} {own : as_W} {x bd xd ba xa ra : Nat} {mp : Nat → Nat} {gd ga : Nat → Int64} {S : as_S} {t : Nat} (hA : rc_A dA w own x bd xd ba xa ra mp gd ga S) (hW : wf_S t S) {i : Nat} (hi : i < nm S) (hk : kd (mm S i) = 2) : CT l D dA y_RM_inUse (Cond.code y_RM_inUse b_RM_inUse 1 (some .int) :: Ts) 0 0 0 0 [.ref (mp i)] w (fun r w' => r = .inl (some (.int (nI (useN (mm S i))))) ∧ w' = w) := by
  refine mw_meth (by decide) mk_tb (Nat.le_of_ble_eq_true rfl) ?_
  intro p e s m below meth c K hr hlk hce hnm hP0 hSy ls hl
  have hl : lv_has ls 1 [(0, .ref (mp i))] := hl
  obtain ⟨hx, hb, hml, hown, hts, hK, hTb⟩ := id K
  have hI := mw_I.start hP0
  have hu : useN (mm S i) = hd (mm S i) - tl (mm S i) := (if_neg (by rw [hk]; decide)).trans (if_neg (by rw [hk]; decide))
  rw [hu]
  obtain ⟨c1, c2, c3, c4, -⟩ := wf_R (hW.2.2.2.2.2 i hi) hk
  obtain ⟨om, f0⟩ := rc_RM (hA.2 i hi) hk
  generalize mm S i = mi at *
  refine lv_aload_n hx hb d_RM_inUse_0 rfl (lv_at hl 0 rfl) ?_
  refine mw_get K hI gf_RM_9_cRM f0 rfl d_RM_inUse_1 ?_
  refine lv_aload_n hx hb d_RM_inUse_4 rfl (lv_at hl 0 rfl) ?_
  refine mw_get K hI gf_RM_15_cRM f0 rfl d_RM_inUse_5 ?_
  refine lv_lsub hx hb d_RM_inUse_8 ?_
  refine mw_tl (lN_sub (by omega)) ?_
  refine lv_l2i hx hb d_RM_inUse_9 rfl ?_
  refine mw_ti (lN_i _) ?_
  exact mw_iret K hI hr hlk ⟨rfl, rfl⟩ d_RM_inUse_10
set_option maxRecDepth 100000 in
set_option maxHeartbeats 4000000 in
theorem c_TM_keyAfter (l : Launch) (D : va_G) (dA : Nat → ClassId) (hL : mw_L l) {w : mw_W} {own : as_W} {x bd xd ba xa ra : Nat} {mp : Nat → Nat} {gd ga : Nat → Int64} {S : as_S} {t : Nat} (hA : rc_A dA w own x bd xd ba xa ra mp gd ga S) (hW : wf_S t S) {i : Nat} (hi : i < nm S) (hk : kd (mm S i) = 1) (k to : Int32) : CT l D dA y_TM_keyAfter (Cond.code y_TM_keyAfter b_TM_keyAfter 6 (some .int) :: Ts) 7 120 2 12 [.ref (mp i), .int k, .int to] w (PC dA w own x bd xd ba xa ra mp (sp_next S i k to)) := by
  refine mw_meth (by decide) mk_tb (Nat.le_of_ble_eq_true rfl) ?_
  intro p e s m below meth c K hr hlk hce hnm hP0 hSy ls hl
  have hl : lv_has ls 6 [(0, .ref (mp i)), (1, .int k), (2, .int to)] := hl
  obtain ⟨hx, hb, hml, hown, hts, hK, hTb⟩ := id K
  have hI := mw_I.start hP0
  obtain ⟨⟨o1, o2, o3, o4, fx, fd, fa, fr, hdk, har⟩, hM⟩ := id hA
  have hwf := hW.2.2.2.2.2 i hi
  obtain ⟨b1, b2, b3, b4, b5, b6, b7, b8⟩ := wf_E hwf (Or.inr hk)
  have fin : ∀ {S2 : as_S} {w2 : mw_W} {s0 : Nat}, rc_A dA w2 own x bd xd ba xa ra mp gd ga S2 → i < nm S2 → (mm S2 i).1 = (mm S i).1 → (∀ e, e < s0 → True) → (s0 = 0 ∨ ∃ e ky, s0 = e + 1 ∧ tb (mm S2 i) e = some ky) → to.toNatClampNeg + ks (mm S i) ≤ 512 → Fr w own w2 own → sp_next S i k to = nxK S2 i s0 to.toNatClampNeg → ∀ (H : Heap) (locs : List Loc), mw_I D mk_cl w s.heap w2 H locs → ∀ ls : Array Slot, lv_has ls 6 [(4, .int (nI s0)), (0, .ref (mp i)), (2, .int (nI to.toNatClampNeg))] → W p l e { frames := 7, cells := 2, slots := 12, locals := 120 } s m ([.ref (mp i), .int k, .int to] : List Value).toArray below meth c H locs 2 12 (mx_Q below (mw_Qc D mk_cl w s.heap.size (PC dA w own x bd xd ba xa ra mp (sp_next S i k to))) ([.ref (mp i), .int k, .int to] : List Value).toArray s 2 12 (mw_A w s.heap.size)) (F0 m 42 ls []) := by
    intro S2 w2 s0 hA2 hi2 h21 _ hs0 hto hF2 hsp
    have h1a : kd (mm S2 i) = 1 := by show (mm S2 i).1.1 = 1; rw [h21]; exact hk
    have h1b : ks (mm S2 i) = ks (mm S i) := by show (mm S2 i).1.2.1 = (mm S i).1.2.1; rw [h21]
    have h1c : en (mm S2 i) = en (mm S i) := by show (mm S2 i).1.2.2.2.1 = (mm S i).1.2.2.2.1; rw [h21]
    obtain ⟨⟨o1, o2, o3, o4, fx, fd, fa, fr, hdk, har⟩, hM2⟩ := id hA2
    obtain ⟨om, ⟨k0, -⟩ | ⟨k0, ka, ak, ax, rch, gk, ff, f0, oka, oax, fk, hbl, f1, hr1, hn1, hs1⟩ | ⟨k0, -⟩⟩ := hM2 i hi2
    · rw [h1a] at k0; cases k0
    · have hs0r : s0 ≤ rch := by
        rcases hs0 with h | ⟨e, ky, h, h2⟩
        · omega
        · have := (hs1 e ky h2).1; omega
      obtain ⟨mi, em⟩ : ∃ mi, mi = mm S2 i := ⟨_, rfl⟩
      have hsp : sp_next S i k to = (match nxE mi s0 with | none => (S2, .inl (-1)) | some e => (S_dk S2 (cpy (dk S2) to.toNatClampNeg (fun j => ((tb mi e).getD []).getD j 0) 0 (ks mi)), .inl (nI e))) := by rw [em]; exact hsp
      rw [← em] at f0 f1 hn1 hs1 fk hbl hr1 h1a h1b h1c
      have hloop : ∀ (q j : Nat), j + q = rch → s0 ≤ j → (∀ e, e < j → (decide (s0 ≤ e) && (tb mi e).isSome) = false) → ∀ (H : Heap) (locs : List Loc), mw_I D mk_cl w s.heap w2 H locs → ∀ ls : Array Slot, lv_has ls 6 [(4, .int (nI j)), (0, .ref (mp i)), (2, .int (nI to.toNatClampNeg))] → W p l e { frames := 7, cells := 2, slots := 12, locals := 120 } s m ([.ref (mp i), .int k, .int to] : List Value).toArray below meth c H locs 2 12 (mx_Q below (mw_Qc D mk_cl w s.heap.size (PC dA w own x bd xd ba xa ra mp (sp_next S i k to))) ([.ref (mp i), .int k, .int to] : List Value).toArray s 2 12 (mw_A w s.heap.size)) (F0 m 42 ls []) := by
        intro q
        induction q with
        | zero =>
          intro j hj hsj hno H locs hI ls hl
          refine lv_iload hx hb d_TM_keyAfter_42 (lv_at hl 0 rfl) ?_
          refine lv_aload_n hx hb d_TM_keyAfter_44 rfl (lv_at hl 1 rfl) ?_
          refine mw_get K hI gf_TM_9_cTM f0 rfl d_TM_keyAfter_45 ?_
          refine lv_icmp_ge (tgt := 89) hx hb d_TM_keyAfter_48 (by decide) (fun c48 => ?_) (fun c48 => ?_)
          ·
            refine lv_iconst (v := (-1)) hx hb d_TM_keyAfter_89 (by decide) ?_
            refine mw_iret K hI hr hlk ?_ d_TM_keyAfter_90
            have hn : nxE mi s0 = none := lst_none (fun e he => by
              by_cases hej : e < j
              · exact hno e hej
              · cases ht : tb mi e with
                | none => simp
                | some ky => exact absurd (hs1 e ky ht).1 (by omega))
            rw [hsp, hn]
            exact ⟨rfl, own, gd, ga, hA2, hF2⟩
          ·
            exact absurd (nI_le (by omega) (by omega)) c48
        | succ q ih =>
          intro j hj hsj hno H locs hI ls hl
          refine lv_iload hx hb d_TM_keyAfter_42 (lv_at hl 0 rfl) ?_
          refine lv_aload_n hx hb d_TM_keyAfter_44 rfl (lv_at hl 1 rfl) ?_
          refine mw_get K hI gf_TM_9_cTM f0 rfl d_TM_keyAfter_45 ?_
          refine lv_icmp_ge (tgt := 89) hx hb d_TM_keyAfter_48 (by decide) (fun c48 => ?_) (fun c48 => ?_)
          ·
            exact absurd c48 (nI_ge (by omega) (by omega))
          ·
            refine lv_aload_n hx hb d_TM_keyAfter_51 rfl (lv_at hl 1 rfl) ?_
            refine mw_get K hI gf_TM_23_cTM f0 rfl d_TM_keyAfter_52 ?_
            refine lv_iload hx hb d_TM_keyAfter_55 (lv_at hl 0 rfl) ?_
            refine mw_aald K hI tBY f1 rfl j rfl (by first | assumption | omega) (by omega) d_TM_keyAfter_57 ?_
            cases ht : tb mi j with
            | none =>
              have hfj := hn1 j (by omega) ht
              refine mw_tv (y := .null) ((by rw [hfj]; rfl)) ?_
              refine lv_astoreN (lv' := [(5, .null), (4, .int (nI j)), (0, .ref (mp i)), (2, .int (nI to.toNatClampNeg))]) hx hb d_TM_keyAfter_58 hl (by decide) rfl (fun ls hl => ?_)
              refine lv_aloadN hx hb d_TM_keyAfter_60 (lv_at hl 0 rfl) ?_
              refine lv_ifnullN (tgt := 83) hx hb d_TM_keyAfter_62 (by decide) ?_
              refine lv_iinc (v := nI (j + 1)) (lv' := [(4, .int (nI (j + 1))), (5, .null), (0, .ref (mp i)), (2, .int (nI to.toNatClampNeg))]) hx hb d_TM_keyAfter_83 hl (k := 1) rfl (nI_add _ _) (by decide) rfl (fun ls hl => ?_)
              refine lv_goto (tgt := 42) hx hb d_TM_keyAfter_86 (by decide) ?_
              exact ih (j + 1) (by omega) (by omega) (lt_s hno (by rw [ht]; simp)) H locs hI ls (lv_sub hl [0, 2, 3] rfl)
            | some ky =>
              obtain ⟨hjr, kb, kx, g, hfj, okx, fb, hbl2⟩ := hs1 j ky ht
              refine mw_tv (y := .ref kb) ((by rw [hfj]; rfl)) ?_
              refine lv_astore (lv' := [(5, .ref kb), (4, .int (nI j)), (0, .ref (mp i)), (2, .int (nI to.toNatClampNeg))]) hx hb d_TM_keyAfter_58 hl (by decide) rfl (fun ls hl => ?_)
              refine lv_aload hx hb d_TM_keyAfter_60 (lv_at hl 0 rfl) ?_
              refine lv_ifnull hx hb d_TM_keyAfter_62 ?_
              refine lv_aload_n hx hb d_TM_keyAfter_65 rfl (lv_at hl 2 rfl) ?_
              refine mw_get K hI gf_TM_34_cTM f0 rfl d_TM_keyAfter_66 ?_
              refine lv_iload_n hx hb d_TM_keyAfter_69 rfl (lv_at hl 3 rfl) ?_
              refine lv_aload hx hb d_TM_keyAfter_70 (lv_at hl 0 rfl) ?_
              refine lv_iconst (v := nI 0) hx hb d_TM_keyAfter_72 (by decide) ?_
              refine lv_aload_n hx hb d_TM_keyAfter_73 rfl (lv_at hl 2 rfl) ?_
              refine mw_get K hI gf_TM_37_cTM f0 rfl d_TM_keyAfter_74 ?_
              refine mw_call (rest := []) K hSy hP0 hI (c_BY_copy l D dA fd (by decide) fb (by omega) (own_ne okx o2 (by simp)) (i := to.toNatClampNeg) (i2 := 0) (k := ks mi) (by omega) (by omega)) (mx_invV hx hown (hts _ tw_449) (hts _ tw_450) (hts _ tw_451) (hts _ tw_452) (by decide) (b := bd) (mw_rc K hI fd.1 rfl) (g := F0 m 77 ls [.int (nI (ks mi)), .int (nI 0), .ref kb, .int (nI to.toNatClampNeg), .ref bd]) rfl (argsL := [.int (nI to.toNatClampNeg), .ref kb, .int (nI 0), .int (nI (ks mi))]) (rest := []) np_BY_copy rfl (by rw [hb]; exact d_TM_keyAfter_77)) hl.1 d_TM_keyAfter_77 ⟨Nat.le_of_ble_eq_true rfl, Nat.le_of_ble_eq_true rfl⟩ (Or.inl ⟨_, _, List.mem_cons_self⟩) (mk_ws tw_452 hts) (fun a9 U9 h9 => Ts_warm hts _ tw_22 a9 U9 h9) ⟨Nat.le_of_ble_eq_true rfl, Nat.le_of_ble_eq_true rfl⟩ (fun v w' H locs hq hI => ?_) (fun k x w' H locs hq hI hX => ?_)
              · obtain ⟨hq1, g', hq5, hq6⟩ := hq
                cases hq1
                rw [hq5] at hI
                refine W.eq (g2 := F0 m 80 ls []) rfl ?_
                refine lv_iload hx hb d_TM_keyAfter_80 (lv_at hl 1 rfl) ?_
                refine mw_iret K hI hr hlk ?_ d_TM_keyAfter_82
                have hn : nxE mi s0 = some j := lst_some (by rw [ht]; simp; exact hsj) hno (by omega)
                rw [hsp, hn]
                refine ⟨rfl, own, g', ga, ?_, hF2.trans (Fr.up fd.2 (by rw [o2]; decide))⟩
                refine hA2.desk g' _ (fun j' hj' => ?_)
                rw [hq6 j']
                unfold cpy
                split
                · rw [ht]
                  show bw_b g (0 + (j' - to.toNatClampNeg)) = ky.getD (0 + (j' - to.toNatClampNeg)) 0
                  exact hbl2.2.1 _ (by omega)
                · exact hdk j' hj'
              · exact absurd hq.1 (by simp)
      intro H locs hI ls hl
      exact hloop (rch - s0) s0 (by omega) (Nat.le_refl _) (fun e he => by rw [decide_eq_false (by omega)]; rfl) H locs hI ls hl
    · rw [h1a] at k0; cases k0
  obtain ⟨ka, ak, rch, wk, f0⟩ := rc_TM (hA.2 i hi) hk
  obtain ⟨mi, em⟩ : ∃ mi, mi = mm S i := ⟨_, rfl⟩
  rw [← em] at f0
  refine lv_aload_n hx hb d_TM_keyAfter_0 rfl (lv_at hl 0 rfl) ?_
  refine mw_get K hI gf_TM_34_cTM f0 rfl d_TM_keyAfter_1 ?_
  refine lv_iload_n hx hb d_TM_keyAfter_4 rfl (lv_at hl 2 rfl) ?_
  refine lv_aload_n hx hb d_TM_keyAfter_5 rfl (lv_at hl 0 rfl) ?_
  refine mw_get K hI gf_TM_37_cTM f0 rfl d_TM_keyAfter_6 ?_
  refine mw_call (rest := []) K hSy hP0 hI (c_BY_demand l D dA hL fd (by decide) to (k := ks mi) (by rw [em]; omega)) (mx_invV hx hown (hts _ tw_522) (hts _ tw_373) (hts _ tw_374) (hts _ tw_375) (by decide) (b := bd) (mw_rc K hI fd.1 rfl) (g := F0 m 9 ls [.int (nI (ks mi)), .int to, .ref bd]) rfl (argsL := [.int to, .int (nI (ks mi))]) (rest := []) np_BY_demand rfl (by rw [hb]; exact d_TM_keyAfter_9)) hl.1 d_TM_keyAfter_9 ⟨Nat.le_of_ble_eq_true rfl, Nat.le_of_ble_eq_true rfl⟩ (Or.inl ⟨_, _, List.mem_cons_self⟩) (mk_ws tw_375 hts) (fun a9 U9 h9 => Ts_warm hts _ tw_22 a9 U9 h9) ⟨Nat.le_of_ble_eq_true rfl, Nat.le_of_ble_eq_true rfl⟩ (fun v w' H locs hq hI => ?_) (fun k x w' H locs hq hI hX => ?_)
  · obtain ⟨hq1, ⟨hq2, hq3, hq4⟩ | ⟨-, hq4⟩⟩ := hq
    · cases hq4
      rw [hq1] at hI
      rw [em] at hq3
      obtain ⟨e1, e2⟩ := inD_nI ⟨hq2, hq3⟩ (by decide)
      have hto : inD to (ks (mm S i)) 512 := ⟨hq2, hq3⟩
      refine W.eq (g2 := F0 m 12 ls []) rfl ?_
      rw [e1] at hl
      refine lv_iconst (v := (-1)) hx hb d_TM_keyAfter_12 (by decide) ?_
      refine lv_istore_n (lv' := [(3, .int (-1)), (0, .ref (mp i)), (1, .int k), (2, .int (nI to.toNatClampNeg))]) hx hb d_TM_keyAfter_13 rfl hl (by decide) rfl (fun ls hl => ?_)
      refine lv_iload_n hx hb d_TM_keyAfter_14 rfl (lv_at hl 2 rfl) ?_
      refine lv_iconst (v := (-1)) hx hb d_TM_keyAfter_15 (by decide) ?_
      refine lv_icmp_eq (tgt := 37) hx hb d_TM_keyAfter_16 (by decide) (fun c16 => ?_) (fun c16 => ?_)
      ·
        have hsp : sp_next S i k to = _ := (if_pos ⟨hto, Or.inl c16⟩).trans (if_pos c16)
        refine lv_iload_n hx hb d_TM_keyAfter_37 rfl (lv_at hl 0 rfl) ?_
        refine lv_iconst (v := nI 1) hx hb d_TM_keyAfter_38 (by decide) ?_
        refine lv_iadd hx hb d_TM_keyAfter_39 ?_
        refine mw_ti (y := nI 0) (by decide) ?_
        refine lv_istore (lv' := [(4, .int (nI 0)), (3, .int (-1)), (0, .ref (mp i)), (1, .int k), (2, .int (nI to.toNatClampNeg))]) hx hb d_TM_keyAfter_40 hl (by decide) rfl (fun ls hl => ?_)
        refine W.widen (k := 2) (n := 12) (by decide) (by decide) ?_
        exact fin (s0 := 0) hA hi rfl (fun _ _ => trivial) (Or.inl rfl) e2 (Fr.rf w own) hsp H locs hI ls (lv_sub hl [0, 2, 4] rfl)
      ·
        refine lv_aload_n hx hb d_TM_keyAfter_19 rfl (lv_at hl 1 rfl) ?_
        refine mw_get K hI gf_TM_34_cTM f0 rfl d_TM_keyAfter_20 ?_
        refine lv_iload_n hx hb d_TM_keyAfter_23 rfl (lv_at hl 2 rfl) ?_
        refine lv_aload_n hx hb d_TM_keyAfter_24 rfl (lv_at hl 1 rfl) ?_
        refine mw_get K hI gf_TM_37_cTM f0 rfl d_TM_keyAfter_25 ?_
        refine mw_call (rest := []) K hSy hP0 hI (c_BY_demand l D dA hL fd (by decide) k (k := ks mi) (by rw [em]; omega)) (mx_invV hx hown (hts _ tw_522) (hts _ tw_373) (hts _ tw_374) (hts _ tw_375) (by decide) (b := bd) (mw_rc K hI fd.1 rfl) (g := F0 m 28 ls [.int (nI (ks mi)), .int k, .ref bd]) rfl (argsL := [.int k, .int (nI (ks mi))]) (rest := []) np_BY_demand rfl (by rw [hb]; exact d_TM_keyAfter_28)) hl.1 d_TM_keyAfter_28 ⟨Nat.le_of_ble_eq_true rfl, Nat.le_of_ble_eq_true rfl⟩ (Or.inl ⟨_, _, List.mem_cons_self⟩) (mk_ws tw_375 hts) (fun a9 U9 h9 => Ts_warm hts _ tw_22 a9 U9 h9) ⟨Nat.le_of_ble_eq_true rfl, Nat.le_of_ble_eq_true rfl⟩ (fun v w' H locs hq hI => ?_) (fun k x w' H locs hq hI hX => ?_)
        · obtain ⟨hq1, ⟨hq2, hq3, hq4⟩ | ⟨-, hq4⟩⟩ := hq
          · cases hq4
            rw [hq1] at hI
            rw [em] at hq3
            obtain ⟨e3, e4⟩ := inD_nI ⟨hq2, hq3⟩ (by decide)
            have hsp : sp_next S i k to = _ := (if_pos ⟨hto, Or.inr ⟨hq2, hq3⟩⟩).trans (if_neg c16)
            refine W.eq (g2 := F0 m 31 ls []) rfl ?_
            rw [e3] at hl
            refine lv_aload_n hx hb d_TM_keyAfter_31 rfl (lv_at hl 1 rfl) ?_
            refine lv_iload_n hx hb d_TM_keyAfter_32 rfl (lv_at hl 2 rfl) ?_
            refine mw_call (rest := []) K hSy hP0 hI (c_TM_entryOf2 l D dA hA hW hi hk (q := k.toNatClampNeg) e4) (mx_invV hx hown (hts _ tw_523) (hts _ tw_447) (hts _ tw_804) (hts _ tw_448) (by decide) (b := (mp i)) (mw_rc K hI f0 rfl) (g := F0 m 33 ls [.int (nI k.toNatClampNeg), .ref (mp i)]) rfl (argsL := [.int (nI k.toNatClampNeg)]) (rest := []) np_TM_entryOf rfl (by rw [hb]; exact d_TM_keyAfter_33)) hl.1 d_TM_keyAfter_33 ⟨Nat.le_of_ble_eq_true rfl, Nat.le_of_ble_eq_true rfl⟩ (Or.inl ⟨_, _, List.mem_cons_self⟩) (mk_ws tw_448 hts) (fun a9 U9 h9 => Ts_warm hts _ tw_33 a9 U9 h9) ⟨Nat.le_of_ble_eq_true rfl, Nat.le_of_ble_eq_true rfl⟩ (fun v w' H locs hq hI => ?_) (fun k x w' H locs hq hI hX => ?_)
            · obtain ⟨hq5, hA2, hF2⟩ := hq
              cases hq5
              refine W.eq (g2 := F0 m 36 ls [.int (oI (ent S i k.toNatClampNeg))]) rfl ?_
              obtain ⟨n1, n2, n3, n4, n5⟩ := lk_nm S i k.toNatClampNeg
              have hi2 : i < nm (lk S i k.toNatClampNeg) := by rw [n1]; exact hi
              cases he : ent S i k.toNatClampNeg with
              | none =>
                rw [he] at hsp
                refine mw_ti (y := (-1)) (rfl) ?_
                refine lv_istore_n (lv' := [(3, .int (-1)), (0, .ref (mp i)), (1, .int (nI k.toNatClampNeg)), (2, .int (nI to.toNatClampNeg))]) hx hb d_TM_keyAfter_36 rfl hl (by decide) rfl (fun ls hl => ?_)
                refine lv_iload_n hx hb d_TM_keyAfter_37 rfl (lv_at hl 0 rfl) ?_
                refine lv_iconst (v := nI 1) hx hb d_TM_keyAfter_38 (by decide) ?_
                refine lv_iadd hx hb d_TM_keyAfter_39 ?_
                refine mw_ti (y := nI 0) (by decide) ?_
                refine lv_istore (lv' := [(4, .int (nI 0)), (3, .int (-1)), (0, .ref (mp i)), (1, .int (nI k.toNatClampNeg)), (2, .int (nI to.toNatClampNeg))]) hx hb d_TM_keyAfter_40 hl (by decide) rfl (fun ls hl => ?_)
                exact fin (s0 := 0) hA2 hi2 (n5 i).1 (fun _ _ => trivial) (Or.inl rfl) e2 hF2 hsp H locs hI ls (lv_sub hl [0, 2, 4] rfl)
              | some e0 =>
                have hlt := ent_lt he
                rw [he] at hsp
                have hke : ∃ ky, tb (mm (lk S i k.toNatClampNeg) i) e0 = some ky := by
                  rw [ent_1 _ hk] at he
                  exact ⟨_, (congrFun (n5 i).2 e0).trans (fnd_is he).2⟩
                obtain ⟨ky, hke⟩ := hke
                refine mw_ti (y := nI e0) (rfl) ?_
                refine lv_istore_n (lv' := [(3, .int (nI e0)), (0, .ref (mp i)), (1, .int (nI k.toNatClampNeg)), (2, .int (nI to.toNatClampNeg))]) hx hb d_TM_keyAfter_36 rfl hl (by decide) rfl (fun ls hl => ?_)
                refine lv_iload_n hx hb d_TM_keyAfter_37 rfl (lv_at hl 0 rfl) ?_
                refine lv_iconst (v := nI 1) hx hb d_TM_keyAfter_38 (by decide) ?_
                refine lv_iadd hx hb d_TM_keyAfter_39 ?_
                refine mw_ti (nI_add _ _) ?_
                refine lv_istore (lv' := [(4, .int (nI (e0 + 1))), (3, .int (nI e0)), (0, .ref (mp i)), (1, .int (nI k.toNatClampNeg)), (2, .int (nI to.toNatClampNeg))]) hx hb d_TM_keyAfter_40 hl (by decide) rfl (fun ls hl => ?_)
                exact fin (s0 := e0 + 1) hA2 hi2 (n5 i).1 (fun _ _ => trivial) (Or.inr ⟨e0, ky, rfl, hke⟩) e2 hF2 hsp H locs hI ls (lv_sub hl [0, 2, 4] rfl)
            · exact absurd hq.1 (by simp)
          · cases hq4
        · obtain ⟨hq1, ⟨-, -, hq4⟩ | ⟨hq2, hq4⟩⟩ := hq
          · cases hq4
          · cases hq4
            rw [hq1] at hI
            rw [em] at hq2
            refine mw_on hI hce hlk hX ?_
            unfold sp_next
            rw [if_neg (fun z => z.2.elim c16 hq2)]
            exact ⟨rfl, own, gd, ga, hA, Fr.rf w own⟩
    · cases hq4
  · obtain ⟨hq1, ⟨-, -, hq4⟩ | ⟨hq2, hq4⟩⟩ := hq
    · cases hq4
    · cases hq4
      rw [hq1] at hI
      rw [em] at hq2
      refine WT.widen (k := 2) (n := 12) (by decide) (by decide) ?_
      refine mw_on hI hce hlk hX ?_
      unfold sp_next
      rw [if_neg (fun z => hq2 z.1)]
      exact ⟨rfl, own, gd, ga, hA, Fr.rf w own⟩
