/-! ### the model: desk, lay, load, store, begins -/
section
variable {fe fk : Nat → Nat} {ec kc : Nat} {fi : Nat → Nat → Int32} {fl : Nat → Nat → Int64} {S : as_S}
theorem mo_R.desk (h : mo_R fe fk ec kc fi fl S) {f : Nat → Int32} {d : Nat → Nat} (hf : ∀ j, j < 512 → f j = sB (d j)) : mo_R fe fk ec kc (va_up fi 0 f) fl (S_dk S d) := by
  obtain ⟨h1, h2, h3, h4, h5, h6, h7, h8, h9⟩ := h
  have e : ∀ k, k ≠ 0 → va_up fi 0 f k = fi k := fun k hk => va_up_ne _ _ hk
  unfold mo_R
  rw [e 1 (by decide), e 2 (by decide), e 3 (by decide), e 4 (by decide), e 5 (by decide), e 6 (by decide), e 7 (by decide), e 8 (by decide), e 9 (by decide), e 10 (by decide), e 13 (by decide), e 14 (by decide)]
  exact ⟨fun j hj => by rw [va_up_self]; exact hf j hj, h2, h3, h4, h5, h6, h7, h8, h9⟩
theorem mo_R.area (h : mo_R fe fk ec kc fi fl S) {f : Nat → Int32} {d : Nat → Nat} (hf : ∀ j, j < 65536 → f j = sB (d j)) : mo_R fe fk ec kc (va_up fi 1 f) fl (S_ar S d) := by
  obtain ⟨h1, h2, h3, h4, h5, h6, h7, h8, h9⟩ := h
  have e : ∀ k, k ≠ 1 → va_up fi 1 f k = fi k := fun k hk => va_up_ne _ _ hk
  unfold mo_R
  rw [e 0 (by decide), e 2 (by decide), e 3 (by decide), e 4 (by decide), e 5 (by decide), e 6 (by decide), e 7 (by decide), e 8 (by decide), e 9 (by decide), e 10 (by decide), e 13 (by decide), e 14 (by decide)]
  exact ⟨h1, fun j hj => by rw [va_up_self]; exact hf j hj, h3, h4, h5, h6, h7, h8, h9⟩
end
set_option maxRecDepth 100000 in
set_option maxHeartbeats 4000000 in
theorem c_MO_desk (l : Launch) (D : va_G) (dA : Nat → ClassId) {w : mw_W} {own : as_W} {y t : Nat} {cd : Int32} {S : as_S} (hM : RepM dA w own y cd S) (hW : wf_S t S) (q : Int32) : CT l D dA y_MO_desk (Cond.code y_MO_desk b_MO_desk 2 (some .long) :: Ts) 1 40 0 0 [.ref y, .int q] w (fun r w' => ∃ (v : Int64) (cd' : Int32), r = .inl (some (.long v)) ∧ RepM dA w' own y cd' S ∧ FrM w own w' ∧ ((inD q 8 512 ∧ v = lN (bw_n (dk S) q.toNatClampNeg 8) ∧ cd' = nI 0) ∨ (¬ inD q 8 512 ∧ cd' = nI 1))) := by
  refine mw_meth (by decide) mk_tb (Nat.le_of_ble_eq_true rfl) ?_
  intro p e s m below meth c K hr hlk hce hnm hP0 hSy ls hl
  have hl : lv_has ls 2 [(0, .ref y), (1, .int q)] := hl
  obtain ⟨hx, hb, hml, hown, hts, hK, hTb⟩ := id K
  have hI := mw_I.start hP0
  obtain ⟨A, fe, fk, ec, kc, fi, fl, hw, hR⟩ := hM
  have hF := FrM.rf w own
  refine lv_aload_n hx hb d_MO_desk_0 rfl (lv_at hl 0 rfl) ?_
  refine lv_iload_n hx hb d_MO_desk_1 rfl (lv_at hl 1 rfl) ?_
  refine lv_bipush (v := nI 8) hx hb d_MO_desk_2 (by decide) ?_
  refine mp_call (rest := [.ref y]) hb hml (c_MO_isDesk l q (n := 8) (by decide)) (mx_invS hx hown (hts _ tw_706) (hts _ tw_707) (hts _ tw_23) (hts _ tw_708) (by decide) (g := F0 m 4 ls [.int (nI 8), .int q, .ref y]) rfl (argsL := [.int q, .int (nI 8)]) (rest := [.ref y]) np_MO_isDesk rfl (by rw [hb]; exact d_MO_desk_4)) hl.1 d_MO_desk_4 ⟨Nat.le_of_ble_eq_true rfl, Nat.le_of_ble_eq_true rfl⟩ (Or.inl ⟨_, _, List.mem_cons_self⟩) (mk_ws tw_708 hts) (fun a9 U9 h9 => Ts_warm hts _ tw_23 a9 U9 h9) (by first | exact ⟨Nat.le_of_ble_eq_true rfl, Nat.le_of_ble_eq_true rfl⟩ | assumption) (fun v hv => ?_)
  subst hv
  refine W.eq (g2 := F0 m 7 ls [.int (if inD q 8 512 then 1 else 0), .ref y]) rfl ?_
  refine lv_if_eq (tgt := 14) hx hb d_MO_desk_7 (by decide) (fun c7 => ?_) (fun c7 => ?_)
  ·
    rw [if10.1] at c7
    refine lv_iconst (v := nI 1) hx hb d_MO_desk_14 (by decide) ?_
    refine mw_put K hI gp_MO_60_cMO (Or.inl ⟨_, rfl, rfl⟩) hw.o rfl rfl (by simp) d_MO_desk_15 (fun H locs hI => ?_)
    obtain ⟨wn1, hI, hF, hw⟩ := mo_W.seto (cd' := (nI 1)) (g' := nI (gv S)) (n' := nI (nm S)) (ec' := nI ec) (kc' := nI kc) (br' := nI 0) hw hI hF
    refine lv_aload_n hx hb d_MO_desk_18 rfl (lv_at hl 0 rfl) ?_
    refine mw_get K hI gf_MO_60_cMO hw.o rfl d_MO_desk_19 ?_
    refine lv_if_le (tgt := 29) hx hb d_MO_desk_22 (by decide) (fun c22 => ?_) (fun c22 => ?_)
    ·
      exact absurd c22 (by decide)
    ·
      refine lv_lconst (v := lN 0) hx hb d_MO_desk_25 (by decide) ?_
      refine lv_goto (tgt := 39) hx hb d_MO_desk_26 (by decide) ?_
      exact mw_lret K hI hr hlk ⟨_, _, rfl, ⟨A, fe, fk, ec, kc, fi, fl, hw, hR⟩, hF, Or.inr ⟨c7, rfl⟩⟩ d_MO_desk_39
  ·
    rw [if10.2] at c7
    obtain ⟨e1, e2⟩ := inD_nI c7 (by decide)
    rw [e1] at hl
    refine lv_iconst (v := nI 0) hx hb d_MO_desk_10 (by decide) ?_
    refine lv_goto (tgt := 15) hx hb d_MO_desk_11 (by decide) ?_
    refine mw_put K hI gp_MO_60_cMO (Or.inl ⟨_, rfl, rfl⟩) hw.o rfl rfl (by simp) d_MO_desk_15 (fun H locs hI => ?_)
    obtain ⟨wn2, hI, hF, hw⟩ := mo_W.seto (cd' := (nI 0)) (g' := nI (gv S)) (n' := nI (nm S)) (ec' := nI ec) (kc' := nI kc) (br' := nI 0) hw hI hF
    refine lv_aload_n hx hb d_MO_desk_18 rfl (lv_at hl 0 rfl) ?_
    refine mw_get K hI gf_MO_60_cMO hw.o rfl d_MO_desk_19 ?_
    refine lv_if_le (tgt := 29) hx hb d_MO_desk_22 (by decide) (fun c22 => ?_) (fun c22 => ?_)
    ·
      refine lv_aload_n hx hb d_MO_desk_29 rfl (lv_at hl 0 rfl) ?_
      refine mw_get K hI gf_MO_7_cMO hw.o rfl d_MO_desk_30 ?_
      refine lv_iload_n hx hb d_MO_desk_33 rfl (lv_at hl 1 rfl) ?_
      refine lv_bipush (v := nI 8) hx hb d_MO_desk_34 (by decide) ?_
      refine mw_call (rest := []) K hSy hP0 hI (c_MO_number l D dA hw.a0 (by decide) hR.1 hW.2.2.2.1 (i := q.toNatClampNeg) (k := 8) (by decide) e2) (mx_invS hx hown (hts _ tw_709) (hts _ tw_710) (hts _ tw_23) (hts _ tw_711) (by decide) (g := F0 m 36 ls [.int (nI 8), .int (nI q.toNatClampNeg), .ref (A 0)]) rfl (argsL := [.ref (A 0), .int (nI q.toNatClampNeg), .int (nI 8)]) (rest := []) np_MO_number rfl (by rw [hb]; exact d_MO_desk_36)) hl.1 d_MO_desk_36 ⟨Nat.le_of_ble_eq_true rfl, Nat.le_of_ble_eq_true rfl⟩ (Or.inl ⟨_, _, List.mem_cons_self⟩) (mk_ws tw_711 hts) (fun a9 U9 h9 => Ts_warm hts _ tw_23 a9 U9 h9) ⟨Nat.le_of_ble_eq_true rfl, Nat.le_of_ble_eq_true rfl⟩ (fun v w' H locs hq hI => ?_) (fun k x w' H locs hq hI hX => ?_)
      · obtain ⟨hq1, hq2⟩ := hq
        cases hq1
        rw [hq2] at hI
        refine W.eq (g2 := F0 m 39 ls [.long (lN (bw_n (dk S) q.toNatClampNeg 8))]) rfl ?_
        exact mw_lret K hI hr hlk ⟨_, _, rfl, ⟨A, fe, fk, ec, kc, fi, fl, hw, hR⟩, hF, Or.inl ⟨c7, rfl, rfl⟩⟩ d_MO_desk_39
      · exact absurd hq.1 (by simp)
    ·
      exact absurd (by decide) c22
set_option maxRecDepth 100000 in
set_option maxHeartbeats 4000000 in
theorem c_MO_lay (l : Launch) (D : va_G) (dA : Nat → ClassId) {w : mw_W} {own : as_W} {y t : Nat} {cd : Int32} {S : as_S} (hM : RepM dA w own y cd S) (hW : wf_S t S) (q : Int32) (v : Int64) : CT l D dA y_MO_lay (Cond.code y_MO_lay b_MO_lay 4 none :: Ts) 1 40 0 0 [.ref y, .int q, .long v] w (fun r w' => r = .inl none ∧ FrM w own w' ∧ ((inD q 8 512 ∧ RepM dA w' own y (nI 0) (S_dk S (wr (dk S) q.toNatClampNeg 8 v))) ∨ (¬ inD q 8 512 ∧ RepM dA w' own y (nI 1) S))) := by
  refine mw_meth (by decide) mk_tb (Nat.le_of_ble_eq_true rfl) ?_
  intro p e s m below meth c K hr hlk hce hnm hP0 hSy ls hl
  have hl : lv_has ls 4 [(0, .ref y), (1, .int q), (2, .long v)] := hl
  obtain ⟨hx, hb, hml, hown, hts, hK, hTb⟩ := id K
  have hI := mw_I.start hP0
  obtain ⟨A, fe, fk, ec, kc, fi, fl, hw, hR⟩ := hM
  have hF := FrM.rf w own
  refine lv_aload_n hx hb d_MO_lay_0 rfl (lv_at hl 0 rfl) ?_
  refine lv_iload_n hx hb d_MO_lay_1 rfl (lv_at hl 1 rfl) ?_
  refine lv_bipush (v := nI 8) hx hb d_MO_lay_2 (by decide) ?_
  refine mp_call (rest := [.ref y]) hb hml (c_MO_isDesk l q (n := 8) (by decide)) (mx_invS hx hown (hts _ tw_706) (hts _ tw_707) (hts _ tw_23) (hts _ tw_708) (by decide) (g := F0 m 4 ls [.int (nI 8), .int q, .ref y]) rfl (argsL := [.int q, .int (nI 8)]) (rest := [.ref y]) np_MO_isDesk rfl (by rw [hb]; exact d_MO_lay_4)) hl.1 d_MO_lay_4 ⟨Nat.le_of_ble_eq_true rfl, Nat.le_of_ble_eq_true rfl⟩ (Or.inl ⟨_, _, List.mem_cons_self⟩) (mk_ws tw_708 hts) (fun a9 U9 h9 => Ts_warm hts _ tw_23 a9 U9 h9) (by first | exact ⟨Nat.le_of_ble_eq_true rfl, Nat.le_of_ble_eq_true rfl⟩ | assumption) (fun v hv => ?_)
  subst hv
  refine W.eq (g2 := F0 m 7 ls [.int (if inD q 8 512 then 1 else 0), .ref y]) rfl ?_
  refine lv_if_eq (tgt := 14) hx hb d_MO_lay_7 (by decide) (fun c7 => ?_) (fun c7 => ?_)
  ·
    rw [if10.1] at c7
    refine lv_iconst (v := nI 1) hx hb d_MO_lay_14 (by decide) ?_
    refine mw_put K hI gp_MO_60_cMO (Or.inl ⟨_, rfl, rfl⟩) hw.o rfl rfl (by simp) d_MO_lay_15 (fun H locs hI => ?_)
    obtain ⟨wn3, hI, hF, hw⟩ := mo_W.seto (cd' := (nI 1)) (g' := nI (gv S)) (n' := nI (nm S)) (ec' := nI ec) (kc' := nI kc) (br' := nI 0) hw hI hF
    refine lv_aload_n hx hb d_MO_lay_18 rfl (lv_at hl 0 rfl) ?_
    refine mw_get K hI gf_MO_60_cMO hw.o rfl d_MO_lay_19 ?_
    refine lv_if_ne (tgt := 36) hx hb d_MO_lay_22 (by decide) (fun c22 => ?_) (fun c22 => ?_)
    ·
      exact mw_vret K hI hr hlk ⟨rfl, hF, Or.inr ⟨c7, A, fe, fk, ec, kc, fi, fl, hw, hR⟩⟩ d_MO_lay_36
    ·
      exact absurd c22 (by decide)
  ·
    rw [if10.2] at c7
    obtain ⟨e1, e2⟩ := inD_nI c7 (by decide)
    rw [e1] at hl
    refine lv_iconst (v := nI 0) hx hb d_MO_lay_10 (by decide) ?_
    refine lv_goto (tgt := 15) hx hb d_MO_lay_11 (by decide) ?_
    refine mw_put K hI gp_MO_60_cMO (Or.inl ⟨_, rfl, rfl⟩) hw.o rfl rfl (by simp) d_MO_lay_15 (fun H locs hI => ?_)
    obtain ⟨wn4, hI, hF, hw⟩ := mo_W.seto (cd' := (nI 0)) (g' := nI (gv S)) (n' := nI (nm S)) (ec' := nI ec) (kc' := nI kc) (br' := nI 0) hw hI hF
    refine lv_aload_n hx hb d_MO_lay_18 rfl (lv_at hl 0 rfl) ?_
    refine mw_get K hI gf_MO_60_cMO hw.o rfl d_MO_lay_19 ?_
    refine lv_if_ne (tgt := 36) hx hb d_MO_lay_22 (by decide) (fun c22 => ?_) (fun c22 => ?_)
    ·
      exact absurd (by decide) c22
    ·
      refine lv_aload_n hx hb d_MO_lay_25 rfl (lv_at hl 0 rfl) ?_
      refine mw_get K hI gf_MO_7_cMO hw.o rfl d_MO_lay_26 ?_
      refine lv_iload_n hx hb d_MO_lay_29 rfl (lv_at hl 1 rfl) ?_
      refine lv_bipush (v := nI 8) hx hb d_MO_lay_30 (by decide) ?_
      refine lv_lload_n hx hb d_MO_lay_32 rfl (lv_at hl 2 rfl) ?_
      refine mw_call (rest := []) K hSy hP0 hI (c_MO_putB l D dA hw.a0 (by decide) (i := q.toNatClampNeg) (k := 8) (by decide) e2 v) (mx_invS hx hown (hts _ tw_717) (hts _ tw_718) (hts _ tw_23) (hts _ tw_719) (by decide) (g := F0 m 33 ls [.long v, .int (nI 8), .int (nI q.toNatClampNeg), .ref (A 0)]) rfl (argsL := [.ref (A 0), .int (nI q.toNatClampNeg), .int (nI 8), .long v]) (rest := []) np_MO_putB rfl (by rw [hb]; exact d_MO_lay_33)) hl.1 d_MO_lay_33 ⟨Nat.le_of_ble_eq_true rfl, Nat.le_of_ble_eq_true rfl⟩ (Or.inl ⟨_, _, List.mem_cons_self⟩) (mk_ws tw_719 hts) (fun a9 U9 h9 => Ts_warm hts _ tw_23 a9 U9 h9) ⟨Nat.le_of_ble_eq_true rfl, Nat.le_of_ble_eq_true rfl⟩ (fun v w' H locs hq hI => ?_) (fun k x w' H locs hq hI hX => ?_)
      · obtain ⟨hq1, f', hq2, hq3⟩ := hq
        cases hq1
        rw [hq2] at hI
        obtain ⟨w2, fi2, hI, hF, hw, hfi⟩ := hw.seti (f := f') 0 (by decide) hI hF rfl
        refine W.eq (g2 := F0 m 36 ls []) rfl ?_
        refine mw_vret K hI hr hlk ⟨rfl, hF, Or.inl ⟨c7, A, fe, fk, ec, kc, fi2, fl, hw, ?_⟩⟩ d_MO_lay_36
        rw [hfi]
        refine hR.desk (fun j hj => ?_)
        rw [hq3 j]
        unfold wr
        split
        · rfl
        · exact hR.1 j hj
      · exact absurd hq.1 (by simp)
set_option maxRecDepth 100000 in
set_option maxHeartbeats 4000000 in
theorem c_MO_noArea (l : Launch) (D : va_G) (dA : Nat → ClassId) {w : mw_W} {own : as_W} {y : Nat} {A : Nat → Nat} {cd g n ec kc br : Int32} {fi : Nat → Nat → Int32} {fl : Nat → Nat → Int64} (hw : mo_W dA w own y A cd g n ec kc br fi fl) (q z : Int32) : CT l D dA y_MO_noArea (Cond.code y_MO_noArea b_MO_noArea 4 (some .boolean) :: Ts) 0 0 0 0 [.ref y, .int q, .int z] w (fun r w' => FrM w own w' ∧ ((¬ okZ z ∧ r = .inl (some (.int (nI 1))) ∧ mo_W dA w' own y A (nI 2) g n ec kc br fi fl) ∨ (okZ z ∧ ¬ inD q z.toNatClampNeg 65536 ∧ r = .inl (some (.int (nI 1))) ∧ mo_W dA w' own y A (nI 1) g n ec kc br fi fl) ∨ (okZ z ∧ inD q z.toNatClampNeg 65536 ∧ r = .inl (some (.int (nI 0))) ∧ mo_W dA w' own y A (nI 0) g n ec kc br fi fl))) := by
  refine mw_meth (by decide) mk_tb (Nat.le_of_ble_eq_true rfl) ?_
  intro p e s m below meth c K hr hlk hce hnm hP0 hSy ls hl
  have hl : lv_has ls 4 [(0, .ref y), (1, .int q), (2, .int z)] := hl
  obtain ⟨hx, hb, hml, hown, hts, hK, hTb⟩ := id K
  have hI := mw_I.start hP0
  have hF := FrM.rf w own
  have yes : okZ z → ∀ ls : Array Slot, lv_has ls 4 [(0, .ref y), (1, .int q), (2, .int z)] → W p l e { frames := 0, cells := 0, slots := 0, locals := 0 } s m ([.ref y, .int q, .int z] : List Value).toArray below meth c s.heap [] 0 0 (mx_Q below (mw_Qc D mk_cl w s.heap.size (fun r w' => FrM w own w' ∧ ((¬ okZ z ∧ r = .inl (some (.int (nI 1))) ∧ mo_W dA w' own y A (nI 2) g n ec kc br fi fl) ∨ (okZ z ∧ ¬ inD q z.toNatClampNeg 65536 ∧ r = .inl (some (.int (nI 1))) ∧ mo_W dA w' own y A (nI 1) g n ec kc br fi fl) ∨ (okZ z ∧ inD q z.toNatClampNeg 65536 ∧ r = .inl (some (.int (nI 0))) ∧ mo_W dA w' own y A (nI 0) g n ec kc br fi fl)))) ([.ref y, .int q, .int z] : List Value).toArray s 0 0 (mw_A w s.heap.size)) (F0 m 21 ls []) := by
    intro hz ls hl
    obtain ⟨k, ek, hk1, hk8⟩ := okZ_n hz
    have ez : z.toNatClampNeg = k := by rw [ek]; exact nI_clamp (by omega)
    rw [ek] at hl
    refine lv_iconst (v := nI 1) hx hb d_MO_noArea_21 (by decide) ?_
    refine lv_goto (tgt := 26) hx hb d_MO_noArea_22 (by decide) ?_
    refine lv_istore_n (lv' := [(3, .int (nI 1)), (0, .ref y), (1, .int q), (2, .int (nI k))]) hx hb d_MO_noArea_26 rfl hl (by decide) rfl (fun ls hl => ?_)
    refine lv_aload_n hx hb d_MO_noArea_27 rfl (lv_at hl 1 rfl) ?_
    refine lv_iload_n hx hb d_MO_noArea_28 rfl (lv_at hl 0 rfl) ?_
    refine lv_if_ne (tgt := 36) hx hb d_MO_noArea_29 (by decide) (fun c29 => ?_) (fun c29 => ?_)
    ·
      refine lv_iload_n hx hb d_MO_noArea_36 rfl (lv_at hl 2 rfl) ?_
      refine lv_if_lt (tgt := 48) hx hb d_MO_noArea_37 (by decide) (fun c37 => ?_) (fun c37 => ?_)
      ·
        rw [Int32.lt_iff_toInt_lt, Int32.toInt_zero] at c37
        refine lv_iconst (v := nI 1) hx hb d_MO_noArea_48 (by decide) ?_
        refine lv_goto (tgt := 53) hx hb d_MO_noArea_49 (by decide) ?_
        refine mw_put K hI gp_MO_60_cMO (Or.inl ⟨_, rfl, rfl⟩) hw.o rfl rfl (by simp) d_MO_noArea_53 (fun H locs hI => ?_)
        obtain ⟨wn5, hI, hF, hw⟩ := mo_W.seto (cd' := (nI 1)) (g' := g) (n' := n) (ec' := ec) (kc' := kc) (br' := br) hw hI hF
        refine lv_aload_n hx hb d_MO_noArea_56 rfl (lv_at hl 1 rfl) ?_
        refine mw_get K hI gf_MO_60_cMO hw.o rfl d_MO_noArea_57 ?_
        refine lv_if_le (tgt := 67) hx hb d_MO_noArea_60 (by decide) (fun c60 => ?_) (fun c60 => ?_)
        ·
          exact absurd c60 (by decide)
        ·
          refine lv_iconst (v := nI 1) hx hb d_MO_noArea_63 (by decide) ?_
          refine lv_goto (tgt := 68) hx hb d_MO_noArea_64 (by decide) ?_
          exact mw_zret K hI hr hlk (Or.inr rfl) ⟨hF, Or.inr (Or.inl ⟨hz, fun h => by have := h.1; omega, rfl, hw⟩)⟩ d_MO_noArea_68
      ·
        rw [Int32.lt_iff_toInt_lt, Int32.toInt_zero] at c37
        refine lv_iload_n hx hb d_MO_noArea_40 rfl (lv_at hl 2 rfl) ?_
        refine lv_ldc (v := nI 65536) hx hb hown (hts _ tw_598) d_MO_noArea_41 ?_
        refine lv_iload_n hx hb d_MO_noArea_43 rfl (lv_at hl 3 rfl) ?_
        refine lv_isub hx hb d_MO_noArea_44 ?_
        refine mw_ti (pk_sub (by omega)) ?_
        refine lv_icmp_le (tgt := 52) hx hb d_MO_noArea_45 (by decide) (fun c45 => ?_) (fun c45 => ?_)
        ·
          rw [Int32.le_iff_toInt_le, nI_toInt (by omega)] at c45
          refine lv_iconst (v := nI 0) hx hb d_MO_noArea_52 (by decide) ?_
          refine mw_put K hI gp_MO_60_cMO (Or.inl ⟨_, rfl, rfl⟩) hw.o rfl rfl (by simp) d_MO_noArea_53 (fun H locs hI => ?_)
          obtain ⟨wn6, hI, hF, hw⟩ := mo_W.seto (cd' := (nI 0)) (g' := g) (n' := n) (ec' := ec) (kc' := kc) (br' := br) hw hI hF
          refine lv_aload_n hx hb d_MO_noArea_56 rfl (lv_at hl 1 rfl) ?_
          refine mw_get K hI gf_MO_60_cMO hw.o rfl d_MO_noArea_57 ?_
          refine lv_if_le (tgt := 67) hx hb d_MO_noArea_60 (by decide) (fun c60 => ?_) (fun c60 => ?_)
          ·
            refine lv_iconst (v := nI 0) hx hb d_MO_noArea_67 (by decide) ?_
            exact mw_zret K hI hr hlk (Or.inl rfl) ⟨hF, Or.inr (Or.inr ⟨hz, by rw [ez]; exact ⟨by omega, by omega⟩, rfl, hw⟩)⟩ d_MO_noArea_68
          ·
            exact absurd (by decide) c60
        ·
          rw [Int32.le_iff_toInt_le, nI_toInt (by omega)] at c45
          refine lv_iconst (v := nI 1) hx hb d_MO_noArea_48 (by decide) ?_
          refine lv_goto (tgt := 53) hx hb d_MO_noArea_49 (by decide) ?_
          refine mw_put K hI gp_MO_60_cMO (Or.inl ⟨_, rfl, rfl⟩) hw.o rfl rfl (by simp) d_MO_noArea_53 (fun H locs hI => ?_)
          obtain ⟨wn7, hI, hF, hw⟩ := mo_W.seto (cd' := (nI 1)) (g' := g) (n' := n) (ec' := ec) (kc' := kc) (br' := br) hw hI hF
          refine lv_aload_n hx hb d_MO_noArea_56 rfl (lv_at hl 1 rfl) ?_
          refine mw_get K hI gf_MO_60_cMO hw.o rfl d_MO_noArea_57 ?_
          refine lv_if_le (tgt := 67) hx hb d_MO_noArea_60 (by decide) (fun c60 => ?_) (fun c60 => ?_)
          ·
            exact absurd c60 (by decide)
          ·
            refine lv_iconst (v := nI 1) hx hb d_MO_noArea_63 (by decide) ?_
            refine lv_goto (tgt := 68) hx hb d_MO_noArea_64 (by decide) ?_
            exact mw_zret K hI hr hlk (Or.inr rfl) ⟨hF, Or.inr (Or.inl ⟨hz, fun h => by have := h.2; rw [ez] at this; omega, rfl, hw⟩)⟩ d_MO_noArea_68
    ·
      exact absurd c29 (by decide)
  refine lv_iload_n hx hb d_MO_noArea_0 rfl (lv_at hl 2 rfl) ?_
  refine lv_iconst (v := nI 1) hx hb d_MO_noArea_1 (by decide) ?_
  refine lv_icmp_eq (tgt := 21) hx hb d_MO_noArea_2 (by decide) (fun c2 => ?_) (fun c2 => ?_)
  ·
    exact yes (Or.inl c2) ls hl
  ·
    refine lv_iload_n hx hb d_MO_noArea_5 rfl (lv_at hl 2 rfl) ?_
    refine lv_iconst (v := nI 2) hx hb d_MO_noArea_6 (by decide) ?_
    refine lv_icmp_eq (tgt := 21) hx hb d_MO_noArea_7 (by decide) (fun c7 => ?_) (fun c7 => ?_)
    ·
      exact yes (Or.inr (Or.inl c7)) ls hl
    ·
      refine lv_iload_n hx hb d_MO_noArea_10 rfl (lv_at hl 2 rfl) ?_
      refine lv_iconst (v := nI 4) hx hb d_MO_noArea_11 (by decide) ?_
      refine lv_icmp_eq (tgt := 21) hx hb d_MO_noArea_12 (by decide) (fun c12 => ?_) (fun c12 => ?_)
      ·
        exact yes (Or.inr (Or.inr (Or.inl c12))) ls hl
      ·
        refine lv_iload_n hx hb d_MO_noArea_15 rfl (lv_at hl 2 rfl) ?_
        refine lv_bipush (v := nI 8) hx hb d_MO_noArea_16 (by decide) ?_
        refine lv_icmp_ne (tgt := 25) hx hb d_MO_noArea_18 (by decide) (fun c18 => ?_) (fun c18 => ?_)
        ·
          have hz : ¬ okZ z := fun z => by rcases z with z | z | z | z <;> contradiction
          refine lv_iconst (v := nI 0) hx hb d_MO_noArea_25 (by decide) ?_
          refine lv_istore_n (lv' := [(3, .int (nI 0)), (0, .ref y), (1, .int q), (2, .int z)]) hx hb d_MO_noArea_26 rfl hl (by decide) rfl (fun ls hl => ?_)
          refine lv_aload_n hx hb d_MO_noArea_27 rfl (lv_at hl 1 rfl) ?_
          refine lv_iload_n hx hb d_MO_noArea_28 rfl (lv_at hl 0 rfl) ?_
          refine lv_if_ne (tgt := 36) hx hb d_MO_noArea_29 (by decide) (fun c29 => ?_) (fun c29 => ?_)
          ·
            exact absurd (by decide) c29
          ·
            refine lv_iconst (v := nI 2) hx hb d_MO_noArea_32 (by decide) ?_
            refine lv_goto (tgt := 53) hx hb d_MO_noArea_33 (by decide) ?_
            refine mw_put K hI gp_MO_60_cMO (Or.inl ⟨_, rfl, rfl⟩) hw.o rfl rfl (by simp) d_MO_noArea_53 (fun H locs hI => ?_)
            obtain ⟨wn8, hI, hF, hw⟩ := mo_W.seto (cd' := (nI 2)) (g' := g) (n' := n) (ec' := ec) (kc' := kc) (br' := br) hw hI hF
            refine lv_aload_n hx hb d_MO_noArea_56 rfl (lv_at hl 1 rfl) ?_
            refine mw_get K hI gf_MO_60_cMO hw.o rfl d_MO_noArea_57 ?_
            refine lv_if_le (tgt := 67) hx hb d_MO_noArea_60 (by decide) (fun c60 => ?_) (fun c60 => ?_)
            ·
              exact absurd c60 (by decide)
            ·
              refine lv_iconst (v := nI 1) hx hb d_MO_noArea_63 (by decide) ?_
              refine lv_goto (tgt := 68) hx hb d_MO_noArea_64 (by decide) ?_
              exact mw_zret K hI hr hlk (Or.inr rfl) ⟨hF, Or.inl ⟨hz, rfl, hw⟩⟩ d_MO_noArea_68
        ·
          exact yes (Or.inr (Or.inr (Or.inr c18))) ls hl
set_option maxRecDepth 100000 in
set_option maxHeartbeats 4000000 in
theorem c_MO_load (l : Launch) (D : va_G) (dA : Nat → ClassId) {w : mw_W} {own : as_W} {y t : Nat} {cd : Int32} {S : as_S} (hM : RepM dA w own y cd S) (hW : wf_S t S) (q z : Int32) : CT l D dA y_MO_load (Cond.code y_MO_load b_MO_load 3 (some .long) :: Ts) 1 40 0 0 [.ref y, .int q, .int z] w (fun r w' => ∃ (v : Int64) (cd' : Int32), r = .inl (some (.long v)) ∧ RepM dA w' own y cd' S ∧ FrM w own w' ∧ ((¬ okZ z ∧ cd' = nI 2) ∨ (okZ z ∧ ¬ inD q z.toNatClampNeg 65536 ∧ cd' = nI 1) ∨ (okZ z ∧ inD q z.toNatClampNeg 65536 ∧ v = lN (bw_n (ar S) q.toNatClampNeg z.toNatClampNeg) ∧ cd' = nI 0))) := by
  refine mw_meth (by decide) mk_tb (Nat.le_of_ble_eq_true rfl) ?_
  intro p e s m below meth c K hr hlk hce hnm hP0 hSy ls hl
  have hl : lv_has ls 3 [(0, .ref y), (1, .int q), (2, .int z)] := hl
  obtain ⟨hx, hb, hml, hown, hts, hK, hTb⟩ := id K
  have hI := mw_I.start hP0
  obtain ⟨A, fe, fk, ec, kc, fi, fl, hw, hR⟩ := hM
  have hF := FrM.rf w own
  refine lv_aload_n hx hb d_MO_load_0 rfl (lv_at hl 0 rfl) ?_
  refine lv_iload_n hx hb d_MO_load_1 rfl (lv_at hl 1 rfl) ?_
  refine lv_iload_n hx hb d_MO_load_2 rfl (lv_at hl 2 rfl) ?_
  refine mw_call (rest := []) K hSy hP0 hI (c_MO_noArea l D dA hw q z) (mx_invV hx hown (hts _ tw_724) (hts _ tw_726) (hts _ tw_9) (hts _ tw_727) (by decide) (b := y) (mw_rc K hI hw.o rfl) (g := F0 m 3 ls [.int z, .int q, .ref y]) rfl (argsL := [.int q, .int z]) (rest := []) np_MO_noArea rfl (by rw [hb]; exact d_MO_load_3)) hl.1 d_MO_load_3 ⟨Nat.le_of_ble_eq_true rfl, Nat.le_of_ble_eq_true rfl⟩ (Or.inl ⟨_, _, List.mem_cons_self⟩) (mk_ws tw_727 hts) (fun a9 U9 h9 => Ts_warm hts _ tw_23 a9 U9 h9) ⟨Nat.le_of_ble_eq_true rfl, Nat.le_of_ble_eq_true rfl⟩ (fun v w' H locs hq hI => ?_) (fun k x w' H locs hq hI hX => ?_)
  · obtain ⟨hF, ⟨hz, hq1, hw⟩ | ⟨hz, hd, hq1, hw⟩ | ⟨hz, hd, hq1, hw⟩⟩ := hq
    · cases hq1
      refine W.eq (g2 := F0 m 6 ls [.int (nI 1)]) rfl ?_
      refine lv_if_eq (tgt := 13) hx hb d_MO_load_6 (by decide) (fun c6 => ?_) (fun c6 => ?_)
      ·
        exact absurd c6 (by decide)
      ·
        refine lv_lconst (v := lN 0) hx hb d_MO_load_9 (by decide) ?_
        refine lv_goto (tgt := 22) hx hb d_MO_load_10 (by decide) ?_
        exact mw_lret K hI hr hlk ⟨_, _, rfl, ⟨A, fe, fk, ec, kc, fi, fl, hw, hR⟩, hF, Or.inl ⟨hz, rfl⟩⟩ d_MO_load_22
    · cases hq1
      refine W.eq (g2 := F0 m 6 ls [.int (nI 1)]) rfl ?_
      refine lv_if_eq (tgt := 13) hx hb d_MO_load_6 (by decide) (fun c6 => ?_) (fun c6 => ?_)
      ·
        exact absurd c6 (by decide)
      ·
        refine lv_lconst (v := lN 0) hx hb d_MO_load_9 (by decide) ?_
        refine lv_goto (tgt := 22) hx hb d_MO_load_10 (by decide) ?_
        exact mw_lret K hI hr hlk ⟨_, _, rfl, ⟨A, fe, fk, ec, kc, fi, fl, hw, hR⟩, hF, Or.inr (Or.inl ⟨hz, hd, rfl⟩)⟩ d_MO_load_22
    · cases hq1
      refine W.eq (g2 := F0 m 6 ls [.int (nI 0)]) rfl ?_
      obtain ⟨k, ek, hk1, hk8⟩ := okZ_n hz
      have ez : z.toNatClampNeg = k := by rw [ek]; exact nI_clamp (by omega)
      obtain ⟨e1, e2⟩ := inD_nI hd (by decide)
      rw [ez] at e2
      rw [e1, ek] at hl
      refine lv_if_eq (tgt := 13) hx hb d_MO_load_6 (by decide) (fun c6 => ?_) (fun c6 => ?_)
      ·
        refine lv_aload_n hx hb d_MO_load_13 rfl (lv_at hl 0 rfl) ?_
        refine mw_get K hI gf_MO_14_cMO hw.o rfl d_MO_load_14 ?_
        refine lv_iload_n hx hb d_MO_load_17 rfl (lv_at hl 1 rfl) ?_
        refine lv_iload_n hx hb d_MO_load_18 rfl (lv_at hl 2 rfl) ?_
        refine mw_call (rest := []) K hSy hP0 hI (c_MO_number l D dA hw.a1 (by decide) hR.2.1 hW.2.2.2.2.1 (i := q.toNatClampNeg) (k := k) hk8 e2) (mx_invS hx hown (hts _ tw_709) (hts _ tw_710) (hts _ tw_23) (hts _ tw_711) (by decide) (g := F0 m 19 ls [.int (nI k), .int (nI q.toNatClampNeg), .ref (A 1)]) rfl (argsL := [.ref (A 1), .int (nI q.toNatClampNeg), .int (nI k)]) (rest := []) np_MO_number rfl (by rw [hb]; exact d_MO_load_19)) hl.1 d_MO_load_19 ⟨Nat.le_of_ble_eq_true rfl, Nat.le_of_ble_eq_true rfl⟩ (Or.inl ⟨_, _, List.mem_cons_self⟩) (mk_ws tw_711 hts) (fun a9 U9 h9 => Ts_warm hts _ tw_23 a9 U9 h9) ⟨Nat.le_of_ble_eq_true rfl, Nat.le_of_ble_eq_true rfl⟩ (fun v w' H locs hq hI => ?_) (fun k x w' H locs hq hI hX => ?_)
        · obtain ⟨hq1, hq2⟩ := hq
          cases hq1
          rw [hq2] at hI
          refine W.eq (g2 := F0 m 22 ls [.long (lN (bw_n (ar S) q.toNatClampNeg k))]) rfl ?_
          exact mw_lret K hI hr hlk ⟨_, _, rfl, ⟨A, fe, fk, ec, kc, fi, fl, hw, hR⟩, hF, Or.inr (Or.inr ⟨hz, hd, by rw [ez], rfl⟩)⟩ d_MO_load_22
        · exact absurd hq.1 (by simp)
      ·
        exact absurd (by decide) c6
  · obtain ⟨hF, ⟨hz, hq1, hw⟩ | ⟨hz, hd, hq1, hw⟩ | ⟨hz, hd, hq1, hw⟩⟩ := hq <;> cases hq1
set_option maxRecDepth 100000 in
set_option maxHeartbeats 4000000 in
theorem c_MO_store (l : Launch) (D : va_G) (dA : Nat → ClassId) {w : mw_W} {own : as_W} {y t : Nat} {cd : Int32} {S : as_S} (hM : RepM dA w own y cd S) (hW : wf_S t S) (q z : Int32) (v : Int64) : CT l D dA y_MO_store (Cond.code y_MO_store b_MO_store 5 none :: Ts) 1 40 0 0 [.ref y, .int q, .int z, .long v] w (fun r w' => r = .inl none ∧ FrM w own w' ∧ ((¬ okZ z ∧ RepM dA w' own y (nI 2) S) ∨ (okZ z ∧ ¬ inD q z.toNatClampNeg 65536 ∧ RepM dA w' own y (nI 1) S) ∨ (okZ z ∧ inD q z.toNatClampNeg 65536 ∧ RepM dA w' own y (nI 0) (S_ar S (wr (ar S) q.toNatClampNeg z.toNatClampNeg v))))) := by
  refine mw_meth (by decide) mk_tb (Nat.le_of_ble_eq_true rfl) ?_
  intro p e s m below meth c K hr hlk hce hnm hP0 hSy ls hl
  have hl : lv_has ls 5 [(0, .ref y), (1, .int q), (2, .int z), (3, .long v)] := hl
  obtain ⟨hx, hb, hml, hown, hts, hK, hTb⟩ := id K
  have hI := mw_I.start hP0
  obtain ⟨A, fe, fk, ec, kc, fi, fl, hw, hR⟩ := hM
  have hF := FrM.rf w own
  refine lv_aload_n hx hb d_MO_store_0 rfl (lv_at hl 0 rfl) ?_
  refine lv_iload_n hx hb d_MO_store_1 rfl (lv_at hl 1 rfl) ?_
  refine lv_iload_n hx hb d_MO_store_2 rfl (lv_at hl 2 rfl) ?_
  refine mw_call (rest := []) K hSy hP0 hI (c_MO_noArea l D dA hw q z) (mx_invV hx hown (hts _ tw_724) (hts _ tw_726) (hts _ tw_9) (hts _ tw_727) (by decide) (b := y) (mw_rc K hI hw.o rfl) (g := F0 m 3 ls [.int z, .int q, .ref y]) rfl (argsL := [.int q, .int z]) (rest := []) np_MO_noArea rfl (by rw [hb]; exact d_MO_store_3)) hl.1 d_MO_store_3 ⟨Nat.le_of_ble_eq_true rfl, Nat.le_of_ble_eq_true rfl⟩ (Or.inl ⟨_, _, List.mem_cons_self⟩) (mk_ws tw_727 hts) (fun a9 U9 h9 => Ts_warm hts _ tw_23 a9 U9 h9) ⟨Nat.le_of_ble_eq_true rfl, Nat.le_of_ble_eq_true rfl⟩ (fun v w' H locs hq hI => ?_) (fun k x w' H locs hq hI hX => ?_)
  · obtain ⟨hF, ⟨hz, hq1, hw⟩ | ⟨hz, hd, hq1, hw⟩ | ⟨hz, hd, hq1, hw⟩⟩ := hq
    · cases hq1
      refine W.eq (g2 := F0 m 6 ls [.int (nI 1)]) rfl ?_
      refine lv_if_ne (tgt := 19) hx hb d_MO_store_6 (by decide) (fun c6 => ?_) (fun c6 => ?_)
      ·
        exact mw_vret K hI hr hlk ⟨rfl, hF, Or.inl ⟨hz, A, fe, fk, ec, kc, fi, fl, hw, hR⟩⟩ d_MO_store_19
      ·
        exact absurd c6 (by decide)
    · cases hq1
      refine W.eq (g2 := F0 m 6 ls [.int (nI 1)]) rfl ?_
      refine lv_if_ne (tgt := 19) hx hb d_MO_store_6 (by decide) (fun c6 => ?_) (fun c6 => ?_)
      ·
        exact mw_vret K hI hr hlk ⟨rfl, hF, Or.inr (Or.inl ⟨hz, hd, A, fe, fk, ec, kc, fi, fl, hw, hR⟩)⟩ d_MO_store_19
      ·
        exact absurd c6 (by decide)
    · cases hq1
      refine W.eq (g2 := F0 m 6 ls [.int (nI 0)]) rfl ?_
      obtain ⟨k, ek, hk1, hk8⟩ := okZ_n hz
      have ez : z.toNatClampNeg = k := by rw [ek]; exact nI_clamp (by omega)
      obtain ⟨e1, e2⟩ := inD_nI hd (by decide)
      rw [ez] at e2
      rw [e1, ek] at hl
      refine lv_if_ne (tgt := 19) hx hb d_MO_store_6 (by decide) (fun c6 => ?_) (fun c6 => ?_)
      ·
        exact absurd (by decide) c6
      ·
        refine lv_aload_n hx hb d_MO_store_9 rfl (lv_at hl 0 rfl) ?_
        refine mw_get K hI gf_MO_14_cMO hw.o rfl d_MO_store_10 ?_
        refine lv_iload_n hx hb d_MO_store_13 rfl (lv_at hl 1 rfl) ?_
        refine lv_iload_n hx hb d_MO_store_14 rfl (lv_at hl 2 rfl) ?_
        refine lv_lload_n hx hb d_MO_store_15 rfl (lv_at hl 3 rfl) ?_
        refine mw_call (rest := []) K hSy hP0 hI (c_MO_putB l D dA hw.a1 (by decide) (i := q.toNatClampNeg) (k := k) hk8 e2 v) (mx_invS hx hown (hts _ tw_717) (hts _ tw_718) (hts _ tw_23) (hts _ tw_719) (by decide) (g := F0 m 16 ls [.long v, .int (nI k), .int (nI q.toNatClampNeg), .ref (A 1)]) rfl (argsL := [.ref (A 1), .int (nI q.toNatClampNeg), .int (nI k), .long v]) (rest := []) np_MO_putB rfl (by rw [hb]; exact d_MO_store_16)) hl.1 d_MO_store_16 ⟨Nat.le_of_ble_eq_true rfl, Nat.le_of_ble_eq_true rfl⟩ (Or.inl ⟨_, _, List.mem_cons_self⟩) (mk_ws tw_719 hts) (fun a9 U9 h9 => Ts_warm hts _ tw_23 a9 U9 h9) ⟨Nat.le_of_ble_eq_true rfl, Nat.le_of_ble_eq_true rfl⟩ (fun v w' H locs hq hI => ?_) (fun k x w' H locs hq hI hX => ?_)
        · obtain ⟨hq1, f', hq2, hq3⟩ := hq
          cases hq1
          rw [hq2] at hI
          obtain ⟨w2, fi2, hI, hF, hw, hfi⟩ := hw.seti (f := f') 1 (by decide) hI hF rfl
          refine W.eq (g2 := F0 m 19 ls []) rfl ?_
          refine mw_vret K hI hr hlk ⟨rfl, hF, Or.inr (Or.inr ⟨hz, hd, A, fe, fk, ec, kc, fi2, fl, hw, ?_⟩)⟩ d_MO_store_19
          rw [hfi]
          refine hR.area (fun j hj => ?_)
          rw [hq3 j, ez]
          unfold wr
          split
          · rfl
          · exact hR.2.1 j hj
        · exact absurd hq.1 (by simp)
  · obtain ⟨hF, ⟨hz, hq1, hw⟩ | ⟨hz, hd, hq1, hw⟩ | ⟨hz, hd, hq1, hw⟩⟩ := hq <;> cases hq1
def sp_BEG (S : as_S) (q : Int32) : as_S × (Int32 ⊕ Nat) := if inM S q then (S, .inl (nI (bg (mm S q.toNatClampNeg)))) else (S, .inr 2)
set_option maxRecDepth 100000 in
set_option maxHeartbeats 4000000 in
theorem c_MO_begins (l : Launch) (D : va_G) (dA : Nat → ClassId) {w : mw_W} {own : as_W} {y t : Nat} {cd : Int32} {S : as_S} (hM : RepM dA w own y cd S) (hW : wf_S t S) (q : Int32) : CT l D dA y_MO_begins (Cond.code y_MO_begins b_MO_begins 2 (some .int) :: Ts) 1 40 0 0 [.ref y, .int q] w (MM dA w own y kO (sp_BEG S q)) := by
  refine mw_meth (by decide) mk_tb (Nat.le_of_ble_eq_true rfl) ?_
  intro p e s m below meth c K hr hlk hce hnm hP0 hSy ls hl
  have hl : lv_has ls 2 [(0, .ref y), (1, .int q)] := hl
  obtain ⟨hx, hb, hml, hown, hts, hK, hTb⟩ := id K
  have hI := mw_I.start hP0
  obtain ⟨A, fe, fk, ec, kc, fi, fl, hw, hR⟩ := hM
  have hF := FrM.rf w own
  refine lv_aload_n hx hb d_MO_begins_0 rfl (lv_at hl 0 rfl) ?_
  refine lv_iload_n hx hb d_MO_begins_1 rfl (lv_at hl 1 rfl) ?_
  refine mw_call (rest := []) K hSy hP0 hI (c_MO_noMap l D dA hw hW.1 q) (mx_invV hx hown (hts _ tw_694) (hts _ tw_696) (hts _ tw_8) (hts _ tw_697) (by decide) (b := y) (mw_rc K hI hw.o rfl) (g := F0 m 2 ls [.int q, .ref y]) rfl (argsL := [.int q]) (rest := []) np_MO_noMap rfl (by rw [hb]; exact d_MO_begins_2)) hl.1 d_MO_begins_2 ⟨Nat.le_of_ble_eq_true rfl, Nat.le_of_ble_eq_true rfl⟩ (Or.inl ⟨_, _, List.mem_cons_self⟩) (mk_ws tw_697 hts) (fun a9 U9 h9 => Ts_warm hts _ tw_23 a9 U9 h9) ⟨Nat.le_of_ble_eq_true rfl, Nat.le_of_ble_eq_true rfl⟩ (fun v w' H locs hq hI => ?_) (fun k x w' H locs hq hI hX => ?_)
  · obtain ⟨hF, ⟨h1, h2, hq1, hw⟩ | ⟨h1, hq1, hw⟩⟩ := hq
    · cases hq1
      have hsp : sp_BEG S q = _ := if_pos ⟨h1, h2⟩
      obtain ⟨e1, e2⟩ := inM_nI ⟨h1, h2⟩ hW.1
      have h64 := hW.1
      refine W.eq (g2 := F0 m 5 ls [.int (nI 0)]) rfl ?_
      rw [e1] at hl
      refine lv_if_eq (tgt := 12) hx hb d_MO_begins_5 (by decide) (fun c5 => ?_) (fun c5 => ?_)
      ·
        refine lv_aload_n hx hb d_MO_begins_12 rfl (lv_at hl 0 rfl) ?_
        refine mw_get K hI gf_MO_30_cMO hw.o rfl d_MO_begins_13 ?_
        refine lv_iload_n hx hb d_MO_begins_16 rfl (lv_at hl 1 rfl) ?_
        refine mw_iald K hI tI hw.a6 rfl q.toNatClampNeg rfl (by first | assumption | omega) (by omega) d_MO_begins_17 ?_
        refine mw_ti (y := nI (bg (mm S q.toNatClampNeg))) ((hR.2.2.1 _ e2).1.2.2.2.2) ?_
        refine mw_iret K hI hr hlk ?_ d_MO_begins_18
        rw [hsp]
        exact ⟨_, _, rfl, ⟨A, fe, fk, ec, kc, fi, fl, hw, hR⟩, hF, fun u hu => by cases hu; exact ⟨rfl, rfl⟩, fun k hk => by cases hk⟩
      ·
        exact absurd (by decide) c5
    · cases hq1
      have hsp : sp_BEG S q = _ := if_neg h1
      refine W.eq (g2 := F0 m 5 ls [.int (nI 1)]) rfl ?_
      refine lv_if_eq (tgt := 12) hx hb d_MO_begins_5 (by decide) (fun c5 => ?_) (fun c5 => ?_)
      ·
        exact absurd c5 (by decide)
      ·
        refine lv_iconst (v := nI 0) hx hb d_MO_begins_8 (by decide) ?_
        refine lv_goto (tgt := 18) hx hb d_MO_begins_9 (by decide) ?_
        refine mw_iret K hI hr hlk ?_ d_MO_begins_18
        rw [hsp]
        exact ⟨_, _, rfl, ⟨A, fe, fk, ec, kc, fi, fl, hw, hR⟩, hF, (fun u hu => by cases hu), fun k hk => by cases hk; rfl⟩
  · obtain ⟨hF, ⟨h1, h2, hq1, hw⟩ | ⟨h1, hq1, hw⟩⟩ := hq <;> cases hq1
