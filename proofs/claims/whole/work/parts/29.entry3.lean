/-! ### arrays and tables: update -/
theorem lst_nn {P : Nat → Bool} {n : Nat} (h : lst P n = none) : ∀ e, e < n → P e = false := lst_is.lst_no h
theorem fnd_no {t : Nat} {m : as_M} (hw : wf_M t m) (hk : kd m = 1) {k : List Nat} (h : fnd m k = none) : ∀ e, tb m e ≠ some k := by
  intro e he
  obtain ⟨-, ⟨k0, -⟩ | ⟨-, b1, b2, b3, b4, b5, b6, b7, b8, b9, b10⟩ | ⟨k0, -⟩⟩ := hw
  · omega
  · have := lst_nn h e (b9 e k he).1
    rw [he] at this
    simp at this
  · omega
theorem wf_S.ofG {t : Nat} {S : as_S} (h : wf_S t S) {i e : Nat} (hi : i < nm S) (hk : kd (mm S i) = 1) (hno : fnd (mm S i) (aq (mm S i)) = none) (he : e < en (mm S i)) : wf_S t (gvE S i e) := by
  have hno2 := fnd_no (h.2.2.2.2.2 i hi) hk hno
  refine h.ofM ?_
  obtain ⟨h0, ⟨k0, -⟩ | ⟨k0, b1, b2, b3, b4, b5, b6, b7, b8, b9, b10⟩ | ⟨k0, -⟩⟩ := h.2.2.2.2.2 i hi
  · omega
  · refine ⟨h0, Or.inr (Or.inl ⟨k0, b1, b2, b3, b4, b5, b6, b7, b8, fun e1 k1 h1 => ?_, fun e1 e2 k1 h1 h2 => ?_⟩)⟩
    · have h1 : va_up (tb (mm S i)) e (some (aq (mm S i))) e1 = some k1 := h1
      by_cases q : e1 = e
      · subst q; rw [va_up_self] at h1; cases h1; exact ⟨he, b8⟩
      · rw [va_up_ne _ _ q] at h1; exact b9 e1 k1 h1
    · have h1 : va_up (tb (mm S i)) e (some (aq (mm S i))) e1 = some k1 := h1
      have h2 : va_up (tb (mm S i)) e (some (aq (mm S i))) e2 = some k1 := h2
      by_cases q : e1 = e
      · by_cases q2 : e2 = e
        · omega
        · subst q; rw [va_up_self] at h1; cases h1; rw [va_up_ne _ _ q2] at h2; exact absurd h2 (hno2 e2)
      · by_cases q2 : e2 = e
        · subst q2; rw [va_up_self] at h2; cases h2; rw [va_up_ne _ _ q] at h1; exact absurd h1 (hno2 e1)
        · rw [va_up_ne _ _ q] at h1; rw [va_up_ne _ _ q2] at h2; exact b10 e1 e2 k1 h1 h2
  · omega
theorem sp_miss_ge {S : as_S} {i : Nat} {f : Int32} (h : ¬ (sp_miss S i f).2 < nI 0) : kd (mm S i) ≠ 0 ∧ ∃ e, freeE (mm S i) = some e ∧ sp_miss S i f = (gvE S i e, nI e) := by
  unfold sp_miss at h ⊢
  by_cases h0 : kd (mm S i) = 0
  · rw [if_pos h0] at h; exact absurd (show (-7 : Int32) < nI 0 by decide) h
  · rw [if_neg h0] at h ⊢
    by_cases h2 : f = nI 2
    · rw [if_pos h2] at h; exact absurd (show (-2 : Int32) < nI 0 by decide) h
    · rw [if_neg h2] at h ⊢
      cases hf : freeE (mm S i) with
      | none => rw [hf] at h; exact absurd (show (-7 : Int32) < nI 0 by decide) h
      | some e => exact ⟨h0, e, rfl, rfl⟩
theorem fnd_lk {S : as_S} {i q : Nat} (h : ent S i q = none) : kd (mm (lk S i q) i) = 1 → fnd (mm (lk S i q) i) (aq (mm (lk S i q) i)) = none := fun hk2 => by
  have hk : kd (mm S i) = 1 := by
    have := (lk_nm S i q).2.2.2.2 i
    show (mm S i).1.1 = 1
    rw [← this.1]; exact hk2
  rw [ent_1 q hk] at h
  rw [lk_1 q hk, S_mm_self]
  exact h
set_option maxRecDepth 100000 in
set_option maxHeartbeats 4000000 in
theorem c_AM_entryForMissing (l : Launch) (D : va_G) (dA : Nat → ClassId) {w : mw_W} {own : as_W} {x bd xd ba xa ra : Nat} {mp : Nat → Nat} {gd ga : Nat → Int64} {S : as_S} {t : Nat} (hA : rc_A dA w own x bd xd ba xa ra mp gd ga S) (hW : wf_S t S) {i : Nat} (hi : i < nm S) (hk : kd (mm S i) = 0) (f : Int32) (hno : kd (mm S i) = 1 → fnd (mm S i) (aq (mm S i)) = none) : CT l D dA y_AM_entryForMissing (Cond.code y_AM_entryForMissing b_AM_entryForMissing 2 (some .int) :: Ts) 4 110 2 10 [.ref (mp i), .int f] w (fun r w' => r = .inl (some (.int (sp_miss S i f).2)) ∧ ∃ own', rc_A dA w' own' x bd xd ba xa ra mp gd ga (sp_miss S i f).1 ∧ Fr w own w' own') := by
  refine mw_meth (by decide) mk_tb (Nat.le_of_ble_eq_true rfl) ?_
  intro p e s m below meth c K hr hlk hce hnm hP0 hSy ls hl
  have hl : lv_has ls 2 [(0, .ref (mp i)), (1, .int f)] := hl
  obtain ⟨hx, hb, hml, hown, hts, hK, hTb⟩ := id K
  have hI := mw_I.start hP0
  have hsp : sp_miss S i f = (S, -7) := if_pos hk
  rw [hsp]
  refine W.widen (k := 2) (n := 10) (by decide) (by decide) ?_
  refine lv_bipush (v := (-7)) hx hb d_AM_entryForMissing_0 (by decide) ?_
  exact mw_iret K hI hr hlk ⟨rfl, own, hA, Fr.rf w own⟩ d_AM_entryForMissing_2
set_option maxRecDepth 100000 in
set_option maxHeartbeats 4000000 in
theorem c_TM_entryForMissing (l : Launch) (D : va_G) (dA : Nat → ClassId) {w : mw_W} {own : as_W} {x bd xd ba xa ra : Nat} {mp : Nat → Nat} {gd ga : Nat → Int64} {S : as_S} {t : Nat} (hA : rc_A dA w own x bd xd ba xa ra mp gd ga S) (hW : wf_S t S) {i : Nat} (hi : i < nm S) (hk : kd (mm S i) = 1) (f : Int32) (hno : kd (mm S i) = 1 → fnd (mm S i) (aq (mm S i)) = none) : CT l D dA y_TM_entryForMissing (Cond.code y_TM_entryForMissing b_TM_entryForMissing 3 (some .int) :: Ts) 4 110 2 10 [.ref (mp i), .int f] w (fun r w' => r = .inl (some (.int (sp_miss S i f).2)) ∧ ∃ own', rc_A dA w' own' x bd xd ba xa ra mp gd ga (sp_miss S i f).1 ∧ Fr w own w' own') := by
  refine mw_meth (by decide) mk_tb (Nat.le_of_ble_eq_true rfl) ?_
  intro p e s m below meth c K hr hlk hce hnm hP0 hSy ls hl
  have hl : lv_has ls 3 [(0, .ref (mp i)), (1, .int f)] := hl
  obtain ⟨hx, hb, hml, hown, hts, hK, hTb⟩ := id K
  have hI := mw_I.start hP0
  have hwf := hW.2.2.2.2.2 i hi
  obtain ⟨b1, b2, b3, b4, b5, b6, b7, b8⟩ := wf_E hwf (Or.inr hk)
  have hno2 := fnd_no hwf hk (hno hk)
  have hsp : sp_miss S i f = if f = nI 2 then (S, -2) else match freeE (mm S i) with | none => (S, -7) | some e => (gvE S i e, nI e) := if_neg (by rw [hk]; decide)
  obtain ⟨om, ⟨k0, -⟩ | ⟨k0, ka, ak, ax, rch, gk, ff, f0, oka, oax, fk, hbl, f1, hr1, hn1, hs1⟩ | ⟨k0, -⟩⟩ := hA.2 i hi
  · rw [hk] at k0; cases k0
  · obtain ⟨mi, em⟩ : ∃ mi, mi = mm S i := ⟨_, rfl⟩
    rw [← em] at f0
    refine lv_iload_n hx hb d_TM_entryForMissing_0 rfl (lv_at hl 1 rfl) ?_
    refine lv_iconst (v := nI 2) hx hb d_TM_entryForMissing_1 (by decide) ?_
    refine lv_icmp_ne (tgt := 8) hx hb d_TM_entryForMissing_2 (by decide) (fun c2 => ?_) (fun c2 => ?_)
    ·
      rw [if_neg c2] at hsp
      refine lv_aload_n hx hb d_TM_entryForMissing_8 rfl (lv_at hl 0 rfl) ?_
      rw [em] at f0
      have hiff : ∀ e, e < en (mm S i) → (tb (mm S i) e = none ↔ ff e = none) := by
        refine fun e he => ⟨hn1 e he, fun z => ?_⟩
        cases ht : tb (mm S i) e with
        | none => rfl
        | some k => obtain ⟨-, kb, kx, g, g2, -⟩ := hs1 e k ht; rw [z] at g2; cases g2
      refine mw_call (rest := []) K hSy hP0 hI (c_TM_leastFree l D dA (m0 := mm S i) f0 b6 f1 hiff) (mx_invV hx hown (hts _ tw_492) (hts _ tw_494) (hts _ tw_4) (hts _ tw_495) (by decide) (b := (mp i)) (mw_rc K hI f0 rfl) (g := F0 m 9 ls [.ref (mp i)]) rfl (argsL := []) (rest := []) np_TM_leastFree rfl (by rw [hb]; exact d_TM_entryForMissing_9)) hl.1 d_TM_entryForMissing_9 ⟨Nat.le_of_ble_eq_true rfl, Nat.le_of_ble_eq_true rfl⟩ (Or.inl ⟨_, _, List.mem_cons_self⟩) (mk_ws tw_495 hts) (fun a9 U9 h9 => Ts_warm hts _ tw_33 a9 U9 h9) ⟨Nat.le_of_ble_eq_true rfl, Nat.le_of_ble_eq_true rfl⟩ (fun v w' H locs hq hI => ?_) (fun k x w' H locs hq hI hX => ?_)
      · obtain ⟨hq1, hq2⟩ := hq
        cases hq2
        rw [hq1] at hI
        refine W.eq (g2 := F0 m 12 ls [.int (oI (lst (fun e => (tb (mm S i) e).isNone) (en (mm S i))))]) rfl ?_
        cases he : lst (fun e => (tb (mm S i) e).isNone) (en (mm S i)) with
        | none =>
          refine mw_ti (y := (-1)) (rfl) ?_
          refine lv_istore_n (lv' := [(2, .int (-1)), (0, .ref (mp i)), (1, .int f)]) hx hb d_TM_entryForMissing_12 rfl hl (by decide) rfl (fun ls hl => ?_)
          refine lv_iload_n hx hb d_TM_entryForMissing_13 rfl (lv_at hl 0 rfl) ?_
          refine lv_iconst (v := (-1)) hx hb d_TM_entryForMissing_14 (by decide) ?_
          refine lv_icmp_ne (tgt := 21) hx hb d_TM_entryForMissing_15 (by decide) (fun c15 => ?_) (fun c15 => ?_)
          ·
            exact absurd rfl c15
          ·
            refine lv_bipush (v := (-7)) hx hb d_TM_entryForMissing_18 (by decide) ?_
            refine W.widen (k := 2) (n := 10) (by decide) (by decide) ?_
            refine mw_iret K hI hr hlk ?_ d_TM_entryForMissing_20
            have he2 : freeE (mm S i) = none := he
            rw [hsp, he2]
            exact ⟨rfl, own, hA, Fr.rf w own⟩
        | some e0 =>
          obtain ⟨hlt, hnn, -⟩ := lst_is he
          have htn : tb (mm S i) e0 = none := by
            cases ht : tb (mm S i) e0 with
            | none => rfl
            | some k => rw [ht] at hnn; cases hnn
          refine mw_ti (y := nI e0) (rfl) ?_
          refine lv_istore_n (lv' := [(2, .int (nI e0)), (0, .ref (mp i)), (1, .int f)]) hx hb d_TM_entryForMissing_12 rfl hl (by decide) rfl (fun ls hl => ?_)
          refine lv_iload_n hx hb d_TM_entryForMissing_13 rfl (lv_at hl 0 rfl) ?_
          refine lv_iconst (v := (-1)) hx hb d_TM_entryForMissing_14 (by decide) ?_
          refine lv_icmp_ne (tgt := 21) hx hb d_TM_entryForMissing_15 (by decide) (fun c15 => ?_) (fun c15 => ?_)
          ·
            refine lv_aload_n hx hb d_TM_entryForMissing_21 rfl (lv_at hl 1 rfl) ?_
            refine lv_iload_n hx hb d_TM_entryForMissing_22 rfl (lv_at hl 0 rfl) ?_
            refine mw_call (rest := []) K hSy hP0 hI (c_TM_giveAsked l D dA hA hW hi hk hlt htn hno2) (mx_invV hx hown (hts _ tw_496) (hts _ tw_498) (hts _ tw_5) (hts _ tw_499) (by decide) (b := (mp i)) (mw_rc K hI f0 rfl) (g := F0 m 23 ls [.int (nI e0), .ref (mp i)]) rfl (argsL := [.int (nI e0)]) (rest := []) np_TM_giveAsked rfl (by rw [hb]; exact d_TM_entryForMissing_23)) hl.1 d_TM_entryForMissing_23 ⟨Nat.le_of_ble_eq_true rfl, Nat.le_of_ble_eq_true rfl⟩ (Or.inl ⟨_, _, List.mem_cons_self⟩) (mk_ws tw_499 hts) (fun a9 U9 h9 => Ts_warm hts _ tw_33 a9 U9 h9) ⟨Nat.le_of_ble_eq_true rfl, Nat.le_of_ble_eq_true rfl⟩ (fun v w' H locs hq hI => ?_) (fun k x w' H locs hq hI hX => ?_)
            · obtain ⟨hq5, own2, hA2, hF2⟩ := hq
              cases hq5
              refine W.eq (g2 := F0 m 26 ls []) rfl ?_
              refine lv_iload_n hx hb d_TM_entryForMissing_26 rfl (lv_at hl 0 rfl) ?_
              refine mw_iret K hI hr hlk ?_ d_TM_entryForMissing_27
              have he2 : freeE (mm S i) = some e0 := he
              rw [hsp, he2]
              exact ⟨rfl, own2, hA2, hF2⟩
            · exact absurd hq.1 (by simp)
          ·
            exact absurd c15.symm (neg_ne (by omega))
      · exact absurd hq.2 (by simp)
    ·
      rw [if_pos c2] at hsp
      refine lv_bipush (v := (-2)) hx hb d_TM_entryForMissing_5 (by decide) ?_
      rw [hsp]
      refine W.widen (k := 2) (n := 10) (by decide) (by decide) ?_
      exact mw_iret K hI hr hlk ⟨rfl, own, hA, Fr.rf w own⟩ d_TM_entryForMissing_7
  · rw [hk] at k0; cases k0
set_option maxRecDepth 100000 in
set_option maxHeartbeats 4000000 in
theorem c_EM_write_AM (l : Launch) (D : va_G) (dA : Nat → ClassId) (hL : mw_L l) {w : mw_W} {own : as_W} {x bd xd ba xa ra : Nat} {mp : Nat → Nat} {gd ga : Nat → Int64} {S : as_S} {t : Nat} (hA : rc_A dA w own x bd xd ba xa ra mp gd ga S) (hW : wf_S t S) {i : Nat} (hi : i < nm S) (hk : kd (mm S i) = 0) (k v f : Int32) : CT l D dA y_EM_write (Cond.code y_EM_write b_EM_write 5 (some .int) :: Ts) 7 160 4 22 [.ref (mp i), .int k, .int v, .int f] w (PC dA w own x bd xd ba xa ra mp (sp_upd S i k v f)) := by
  refine mw_meth (by decide) mk_tb (Nat.le_of_ble_eq_true rfl) ?_
  intro p e s m below meth c K hr hlk hce hnm hP0 hSy ls hl
  have hl : lv_has ls 5 [(0, .ref (mp i)), (1, .int k), (2, .int v), (3, .int f)] := hl
  obtain ⟨hx, hb, hml, hown, hts, hK, hTb⟩ := id K
  have hI := mw_I.start hP0
  obtain ⟨⟨o1, o2, o3, o4, fx, fd, fa, fr, hdk, har⟩, hM⟩ := id hA
  have hwf := hW.2.2.2.2.2 i hi
  obtain ⟨b1, b2, b3, b4, b5, b6, b7, b8⟩ := wf_E hwf (Or.inl hk)
  have f0 := rc_AM (hA.2 i hi) hk (wf_E hwf (Or.inl hk)).2.2.2.2.2.2.2
  have fin : ∀ {S3 : as_S} {own3 : as_W} {w3 : mw_W} {e0 : Nat}, rc_A dA w3 own3 x bd xd ba xa ra mp gd ga S3 → wf_S t S3 → i < nm S3 → (mm S3 i).1 = (mm S i).1 → e0 < en (mm S i) → v.toNatClampNeg + vs (mm S i) ≤ 512 → Fr w own w3 own3 → sp_upd S i k v f = (wrE S3 i e0 v.toNatClampNeg, .inl (nI 0)) → ∀ (H : Heap) (locs : List Loc), mw_I D mk_cl w s.heap w3 H locs → ∀ ls : Array Slot, lv_has ls 5 [(4, .int (nI e0)), (0, .ref (mp i)), (2, .int (nI v.toNatClampNeg))] → W p l e { frames := 7, cells := 4, slots := 22, locals := 160 } s m ([.ref (mp i), .int k, .int v, .int f] : List Value).toArray below meth c H locs 4 22 (mx_Q below (mw_Qc D mk_cl w s.heap.size (PC dA w own x bd xd ba xa ra mp (sp_upd S i k v f))) ([.ref (mp i), .int k, .int v, .int f] : List Value).toArray s 4 22 (mw_A w s.heap.size)) (F0 m 79 ls []) := by
    intro S3 own3 w3 e0 hA3 hW3 hi3 h31 he0 hv0 hF3 hsp H locs hI ls hl
    have hA := hA3
    have hW := hW3
    have hwf := hW3.2.2.2.2.2 i hi3
    have h1a : kd (mm S3 i) = kd (mm S i) := by show (mm S3 i).1.1 = (mm S i).1.1; rw [h31]
    have h1b : vs (mm S3 i) = vs (mm S i) := by show (mm S3 i).1.2.2.1 = (mm S i).1.2.2.1; rw [h31]
    have h1c : en (mm S3 i) = en (mm S i) := by show (mm S3 i).1.2.2.2.1 = (mm S i).1.2.2.2.1; rw [h31]
    have hi := hi3
    rw [← h1a] at hk
    have hpl := plc_lt hwf (Or.inl hk) (e := e0) (by omega)
    have f0 := rc_AM (hA.2 i hi) hk (wf_E hwf (Or.inl hk)).2.2.2.2.2.2.2
    obtain ⟨⟨o1, o2, o3, o4, fx, fd, fa, fr, hdk, har⟩, hM⟩ := id hA3
    obtain ⟨mi, em⟩ : ∃ mi, mi = mm S3 i := ⟨_, rfl⟩
    rw [← em] at f0 h1a h1b h1c hpl
    refine lv_aload_n hx hb d_EM_write_79 rfl (lv_at hl 1 rfl) ?_
    refine mw_get K hI gf_EM_45_cAM f0 rfl d_EM_write_80 ?_
    refine lv_aload_n hx hb d_EM_write_83 rfl (lv_at hl 1 rfl) ?_
    refine lv_iload hx hb d_EM_write_84 (lv_at hl 0 rfl) ?_
    refine mw_call (rest := [.ref ba]) K hSy hP0 hI (c_EM_placeOfEntry_AM l D dA hA3 hW3 hi3 hk (e0 := e0) (by rw [← em]; omega)) (mx_invP hx hown (hts _ tw_461) (hts _ tw_463) (hts _ tw_462) (hts _ tw_435) rfl (hts _ tw_464) (by decide) (b := (mp i)) (mw_rc K hI f0 rfl) (g := F0 m 86 ls [.int (nI e0), .ref (mp i), .ref ba]) rfl (argsL := [.int (nI e0)]) (rest := [.ref ba]) np_EM_placeOfEntry rfl (by rw [hb]; exact d_EM_write_86)) hl.1 d_EM_write_86 ⟨Nat.le_of_ble_eq_true rfl, Nat.le_of_ble_eq_true rfl⟩ (Or.inl ⟨_, _, List.mem_cons_self⟩) (mk_ws tw_464 hts) (fun a9 U9 h9 => Ts_warm hts _ tw_31 a9 U9 h9) ⟨Nat.le_of_ble_eq_true rfl, Nat.le_of_ble_eq_true rfl⟩ (fun v w' H locs hq hI => ?_) (fun k x w' H locs hq hI hX => ?_)
    · obtain ⟨hq7, hq8⟩ := hq
      cases hq7
      rw [hq8] at hI
      rw [← em]
      refine W.eq (g2 := F0 m 89 ls [.int (nI (plc mi e0)), .ref ba]) rfl ?_
      refine lv_aload_n hx hb d_EM_write_89 rfl (lv_at hl 1 rfl) ?_
      refine mw_get K hI gf_EM_21_cAM f0 rfl d_EM_write_90 ?_
      refine lv_iload_n hx hb d_EM_write_93 rfl (lv_at hl 2 rfl) ?_
      refine lv_aload_n hx hb d_EM_write_94 rfl (lv_at hl 1 rfl) ?_
      refine mw_get K hI gf_EM_15_cAM f0 rfl d_EM_write_95 ?_
      refine mw_call (rest := []) K hSy hP0 hI (c_BY_copy l D dA fa (by decide) fd (by decide) (own_ne o2 o3 (by decide)) (i := plc mi e0) (i2 := v.toNatClampNeg) (k := vs mi) (by omega) (by omega)) (mx_invV hx hown (hts _ tw_503) (hts _ tw_450) (hts _ tw_451) (hts _ tw_452) (by decide) (b := ba) (mw_rc K hI fa.1 rfl) (g := F0 m 98 ls [.int (nI (vs mi)), .int (nI v.toNatClampNeg), .ref bd, .int (nI (plc mi e0)), .ref ba]) rfl (argsL := [.int (nI (plc mi e0)), .ref bd, .int (nI v.toNatClampNeg), .int (nI (vs mi))]) (rest := []) np_BY_copy rfl (by rw [hb]; exact d_EM_write_98)) hl.1 d_EM_write_98 ⟨Nat.le_of_ble_eq_true rfl, Nat.le_of_ble_eq_true rfl⟩ (Or.inl ⟨_, _, List.mem_cons_self⟩) (mk_ws tw_452 hts) (fun a9 U9 h9 => Ts_warm hts _ tw_22 a9 U9 h9) ⟨Nat.le_of_ble_eq_true rfl, Nat.le_of_ble_eq_true rfl⟩ (fun v w' H locs hq hI => ?_) (fun k x w' H locs hq hI hX => ?_)
      · obtain ⟨hq1, g', hq5, hq6⟩ := hq
        cases hq1
        rw [hq5] at hI
        refine W.eq (g2 := F0 m 101 ls []) rfl ?_
        refine lv_iconst (v := nI 0) hx hb d_EM_write_101 (by decide) ?_
        refine mw_iret K hI hr hlk ?_ d_EM_write_102
        rw [hsp]
        refine ⟨rfl, own3, gd, g', ?_, hF3.trans (Fr.up fa.2 (by rw [o3]; decide))⟩
        refine hA3.area g' _ (fun j hj => ?_)
        rw [hq6 j, ← em]
        unfold cpy
        split
        · exact hdk _ (by omega)
        · exact har j hj
      · exact absurd hq.1 (by simp)
    · exact absurd hq.1 (by simp)
  obtain ⟨mi, em⟩ : ∃ mi, mi = mm S i := ⟨_, rfl⟩
  rw [← em] at f0
  refine lv_aload_n hx hb d_EM_write_0 rfl (lv_at hl 0 rfl) ?_
  refine mw_get K hI gf_EM_21_cAM f0 rfl d_EM_write_1 ?_
  refine lv_iload_n hx hb d_EM_write_4 rfl (lv_at hl 1 rfl) ?_
  refine lv_aload_n hx hb d_EM_write_5 rfl (lv_at hl 0 rfl) ?_
  refine mw_get K hI gf_EM_9_cAM f0 rfl d_EM_write_6 ?_
  refine mw_call (rest := []) K hSy hP0 hI (c_BY_demand l D dA hL fd (by decide) k (k := ks mi) (by rw [em]; omega)) (mx_invV hx hown (hts _ tw_438) (hts _ tw_373) (hts _ tw_374) (hts _ tw_375) (by decide) (b := bd) (mw_rc K hI fd.1 rfl) (g := F0 m 9 ls [.int (nI (ks mi)), .int k, .ref bd]) rfl (argsL := [.int k, .int (nI (ks mi))]) (rest := []) np_BY_demand rfl (by rw [hb]; exact d_EM_write_9)) hl.1 d_EM_write_9 ⟨Nat.le_of_ble_eq_true rfl, Nat.le_of_ble_eq_true rfl⟩ (Or.inl ⟨_, _, List.mem_cons_self⟩) (mk_ws tw_375 hts) (fun a9 U9 h9 => Ts_warm hts _ tw_22 a9 U9 h9) ⟨Nat.le_of_ble_eq_true rfl, Nat.le_of_ble_eq_true rfl⟩ (fun v w' H locs hq hI => ?_) (fun k x w' H locs hq hI hX => ?_)
  · obtain ⟨hq1, ⟨hq2, hq3, hq4⟩ | ⟨-, hq4⟩⟩ := hq
    · cases hq4
      rw [hq1] at hI
      rw [em] at hq3
      obtain ⟨e1, e2⟩ := inD_nI ⟨hq2, hq3⟩ (by decide)
      have hin1 : inD k (ks (mm S i)) 512 := ⟨hq2, hq3⟩
      refine W.eq (g2 := F0 m 12 ls []) rfl ?_
      rw [e1] at hl
      refine lv_aload_n hx hb d_EM_write_12 rfl (lv_at hl 0 rfl) ?_
      refine mw_get K hI gf_EM_21_cAM f0 rfl d_EM_write_13 ?_
      refine lv_iload_n hx hb d_EM_write_16 rfl (lv_at hl 2 rfl) ?_
      refine lv_aload_n hx hb d_EM_write_17 rfl (lv_at hl 0 rfl) ?_
      refine mw_get K hI gf_EM_15_cAM f0 rfl d_EM_write_18 ?_
      refine mw_call (rest := []) K hSy hP0 hI (c_BY_demand l D dA hL fd (by decide) v (k := vs mi) (by rw [em]; omega)) (mx_invV hx hown (hts _ tw_438) (hts _ tw_373) (hts _ tw_374) (hts _ tw_375) (by decide) (b := bd) (mw_rc K hI fd.1 rfl) (g := F0 m 21 ls [.int (nI (vs mi)), .int v, .ref bd]) rfl (argsL := [.int v, .int (nI (vs mi))]) (rest := []) np_BY_demand rfl (by rw [hb]; exact d_EM_write_21)) hl.1 d_EM_write_21 ⟨Nat.le_of_ble_eq_true rfl, Nat.le_of_ble_eq_true rfl⟩ (Or.inl ⟨_, _, List.mem_cons_self⟩) (mk_ws tw_375 hts) (fun a9 U9 h9 => Ts_warm hts _ tw_22 a9 U9 h9) ⟨Nat.le_of_ble_eq_true rfl, Nat.le_of_ble_eq_true rfl⟩ (fun v w' H locs hq hI => ?_) (fun k x w' H locs hq hI hX => ?_)
      · obtain ⟨hq1, ⟨hq2, hq3, hq4⟩ | ⟨-, hq4⟩⟩ := hq
        · cases hq4
          rw [hq1] at hI
          rw [em] at hq3
          obtain ⟨e3, e4⟩ := inD_nI ⟨hq2, hq3⟩ (by decide)
          have hin2 : inD v (vs (mm S i)) 512 := ⟨hq2, hq3⟩
          refine W.eq (g2 := F0 m 24 ls []) rfl ?_
          rw [e3] at hl
          refine lv_iload_n hx hb d_EM_write_24 rfl (lv_at hl 3 rfl) ?_
          refine lv_i2l hx hb d_EM_write_25 rfl ?_
          refine lv_iconst (v := nI 0) hx hb d_EM_write_26 (by decide) ?_
          refine lv_iconst (v := nI 2) hx hb d_EM_write_27 (by decide) ?_
          refine mp_call (rest := []) hb hml (c_MS_within l f.toInt64 (nI 0) (nI 2)) (mx_invSN hx hown (hts _ tw_482) (hts _ tw_183) (hts _ tw_21) (hts _ tw_184) (by decide) (g := F0 m 28 ls [.int (nI 2), .int (nI 0), .long (f.toInt64)]) rfl (argsL := [.long (f.toInt64), .int (nI 0), .int (nI 2)]) (rest := []) np_MS_within rfl (by rw [hb]; exact d_EM_write_28)) hl.1 d_EM_write_28 ⟨Nat.le_of_ble_eq_true rfl, Nat.le_of_ble_eq_true rfl⟩ (Or.inl ⟨_, _, List.mem_cons_self⟩) (mk_ws tw_184 hts) (fun a9 U9 h9 => Ts_warm hts _ tw_21 a9 U9 h9) (by first | exact ⟨Nat.le_of_ble_eq_true rfl, Nat.le_of_ble_eq_true rfl⟩ | assumption) (fun v hv => ?_)
          subst hv
          refine W.eq (g2 := F0 m 31 ls [.int (if (nI 0).toInt64 ≤ f.toInt64 ∧ f.toInt64 ≤ (nI 2).toInt64 then 1 else 0)]) rfl ?_
          rw [within_i f (a := 0) (b := 2) (by decide) (by decide)]
          refine lv_if_ne (tgt := 37) hx hb d_EM_write_31 (by decide) (fun c31 => ?_) (fun c31 => ?_)
          ·
            rw [if10.2] at c31
            have hsp : sp_upd S i k v f = _ := (if_pos ⟨hin1, hin2⟩).trans (if_pos c31)
            refine lv_aload_n hx hb d_EM_write_37 rfl (lv_at hl 0 rfl) ?_
            refine lv_iload_n hx hb d_EM_write_38 rfl (lv_at hl 1 rfl) ?_
            refine mw_call (rest := []) K hSy hP0 hI (c_AM_entryOf l D dA hA hW hi hk (q := k.toNatClampNeg) e2) (mx_invU (y := y_AM_entryOf) hx hown (hts _ tw_439) (hts _ tw_441) (va_Decl.abs (va_Nw.of rfl (hts _ tw_440))) (by decide) (hts _ tw_442) (hts _ tw_443) (b := (mp i)) (mw_rc K hI f0 rfl) (g := F0 m 39 ls [.int (nI k.toNatClampNeg), .ref (mp i)]) rfl (argsL := [.int (nI k.toNatClampNeg)]) (rest := []) np_EM_entryOf rfl (by rw [hb]; exact d_EM_write_39)) hl.1 d_EM_write_39 ⟨Nat.le_of_ble_eq_true rfl, Nat.le_of_ble_eq_true rfl⟩ (Or.inl ⟨_, _, List.mem_cons_self⟩) (mk_ws tw_444 hts) (fun a9 U9 h9 => Ts_warm hts _ tw_32 a9 U9 h9) ⟨Nat.le_of_ble_eq_true rfl, Nat.le_of_ble_eq_true rfl⟩ (fun v w' H locs hq hI => ?_) (fun k x w' H locs hq hI hX => ?_)
            · obtain ⟨hq5, hA2, hF2⟩ := hq
              cases hq5
              refine W.eq (g2 := F0 m 42 ls [.int (oI (ent S i k.toNatClampNeg))]) rfl ?_
              obtain ⟨n1, n2, n3, n4, n5⟩ := lk_nm S i k.toNatClampNeg
              have hi2 : i < nm (lk S i k.toNatClampNeg) := by rw [n1]; exact hi
              have hW2 := hW.ofL (q := k.toNatClampNeg) hi
              have hk2 : kd (mm (lk S i k.toNatClampNeg) i) = 0 := by show (mm (lk S i k.toNatClampNeg) i).1.1 = _; rw [(n5 i).1]; exact hk
              cases he : ent S i k.toNatClampNeg with
              | some e0 =>
                have hlt := ent_lt he
                rw [he] at hsp
                refine mw_ti (y := nI e0) (rfl) ?_
                refine lv_istore (lv' := [(4, .int (nI e0)), (0, .ref (mp i)), (1, .int (nI k.toNatClampNeg)), (2, .int (nI v.toNatClampNeg)), (3, .int f)]) hx hb d_EM_write_42 hl (by decide) rfl (fun ls hl => ?_)
                refine lv_iload hx hb d_EM_write_44 (lv_at hl 0 rfl) ?_
                refine lv_iconst (v := (-1)) hx hb d_EM_write_46 (by decide) ?_
                refine lv_icmp_eq (tgt := 58) hx hb d_EM_write_47 (by decide) (fun c47 => ?_) (fun c47 => ?_)
                ·
                  exact absurd c47.symm (neg_ne (by omega))
                ·
                  refine lv_iload_n hx hb d_EM_write_50 rfl (lv_at hl 4 rfl) ?_
                  refine lv_iconst (v := nI 1) hx hb d_EM_write_51 (by decide) ?_
                  refine lv_icmp_ne (tgt := 58) hx hb d_EM_write_52 (by decide) (fun c52 => ?_) (fun c52 => ?_)
                  ·
                    have hsp := hsp.trans (if_neg c52)
                    refine lv_iload hx hb d_EM_write_58 (lv_at hl 0 rfl) ?_
                    refine lv_iconst (v := (-1)) hx hb d_EM_write_60 (by decide) ?_
                    refine lv_icmp_ne (tgt := 71) hx hb d_EM_write_61 (by decide) (fun c61 => ?_) (fun c61 => ?_)
                    ·
                      refine lv_iload hx hb d_EM_write_71 (lv_at hl 0 rfl) ?_
                      refine lv_if_ge (tgt := 79) hx hb d_EM_write_73 (by decide) (fun c73 => ?_) (fun c73 => ?_)
                      ·
                        refine W.widen (k := 4) (n := 22) (by decide) (by decide) ?_
                        exact fin hA2 hW2 hi2 (n5 i).1 hlt e4 hF2 hsp H locs hI ls (lv_sub hl [0, 1, 3] rfl)
                      ·
                        exact absurd (nI_pos' (by omega)) c73
                    ·
                      exact absurd c61.symm (neg_ne (by omega))
                  ·
                    have hsp := hsp.trans (if_pos c52)
                    refine lv_bipush (v := (-17)) hx hb d_EM_write_55 (by decide) ?_
                    refine W.widen (k := 4) (n := 22) (by decide) (by decide) ?_
                    refine mw_iret K hI hr hlk ?_ d_EM_write_57
                    rw [hsp]
                    exact ⟨rfl, own, gd, ga, hA2, hF2⟩
              | none =>
                rw [he] at hsp
                refine mw_ti (y := (-1)) (rfl) ?_
                refine lv_istore (lv' := [(4, .int (-1)), (0, .ref (mp i)), (1, .int (nI k.toNatClampNeg)), (2, .int (nI v.toNatClampNeg)), (3, .int f)]) hx hb d_EM_write_42 hl (by decide) rfl (fun ls hl => ?_)
                refine lv_iload hx hb d_EM_write_44 (lv_at hl 0 rfl) ?_
                refine lv_iconst (v := (-1)) hx hb d_EM_write_46 (by decide) ?_
                refine lv_icmp_eq (tgt := 58) hx hb d_EM_write_47 (by decide) (fun c47 => ?_) (fun c47 => ?_)
                ·
                  refine lv_iload hx hb d_EM_write_58 (lv_at hl 0 rfl) ?_
                  refine lv_iconst (v := (-1)) hx hb d_EM_write_60 (by decide) ?_
                  refine lv_icmp_ne (tgt := 71) hx hb d_EM_write_61 (by decide) (fun c61 => ?_) (fun c61 => ?_)
                  ·
                    exact absurd rfl c61
                  ·
                    have f02 := rc_AM (hA2.2 i hi2) hk2 (wf_E (hW2.2.2.2.2.2 i hi2) (Or.inl hk2)).2.2.2.2.2.2.2
                    refine lv_aload_n hx hb d_EM_write_64 rfl (lv_at hl 1 rfl) ?_
                    refine lv_iload_n hx hb d_EM_write_65 rfl (lv_at hl 4 rfl) ?_
                    refine mw_call (rest := []) K hSy hP0 hI (c_AM_entryForMissing l D dA hA2 hW2 hi2 hk2 f (fnd_lk he)) (mx_invU (y := y_AM_entryForMissing) hx hown (hts _ tw_483) (hts _ tw_485) (va_Decl.abs (va_Nw.of rfl (hts _ tw_484))) (by decide) (hts _ tw_486) (hts _ tw_487) (b := (mp i)) (mw_rc K hI f02 rfl) (g := F0 m 66 ls [.int f, .ref (mp i)]) rfl (argsL := [.int f]) (rest := []) np_EM_entryForMissing rfl (by rw [hb]; exact d_EM_write_66)) hl.1 d_EM_write_66 ⟨Nat.le_of_ble_eq_true rfl, Nat.le_of_ble_eq_true rfl⟩ (Or.inl ⟨_, _, List.mem_cons_self⟩) (mk_ws tw_488 hts) (fun a9 U9 h9 => Ts_warm hts _ tw_32 a9 U9 h9) ⟨Nat.le_of_ble_eq_true rfl, Nat.le_of_ble_eq_true rfl⟩ (fun v w' H locs hq hI => ?_) (fun k x w' H locs hq hI hX => ?_)
                    · obtain ⟨hq5, own3, hA3, hF3⟩ := hq
                      cases hq5
                      refine W.eq (g2 := F0 m 69 ls [.int (sp_miss (lk S i k.toNatClampNeg) i f).2]) rfl ?_
                      refine lv_istore (lv' := [(4, .int (sp_miss (lk S i k.toNatClampNeg) i f).2), (0, .ref (mp i)), (1, .int (nI k.toNatClampNeg)), (2, .int (nI v.toNatClampNeg)), (3, .int f)]) hx hb d_EM_write_69 hl (by decide) rfl (fun ls hl => ?_)
                      refine lv_iload hx hb d_EM_write_71 (lv_at hl 0 rfl) ?_
                      refine lv_if_ge (tgt := 79) hx hb d_EM_write_73 (by decide) (fun c73 => ?_) (fun c73 => ?_)
                      ·
                        have hnn : ¬ (sp_miss (lk S i k.toNatClampNeg) i f).2 < nI 0 := by rw [Int32.le_iff_toInt_le] at c73; rw [nI_0, Int32.lt_iff_toInt_lt]; omega
                        have hsp := hsp.trans (if_neg hnn)
                        obtain ⟨hk0, e9, hfe, hms⟩ := sp_miss_ge hnn
                        rw [hms] at hsp hl hA3
                        obtain ⟨hlt9, -, -⟩ := lst_is hfe
                        have hlt8 : e9 < en (mm S i) := by
                          have h9 : e9 < (mm (lk S i k.toNatClampNeg) i).1.2.2.2.1 := hlt9
                          rw [(n5 i).1] at h9; exact h9
                        have hk1 : kd (mm (lk S i k.toNatClampNeg) i) = 1 := by
                          rcases ((Or.inl hk) : kd (mm S i) = 0 ∨ kd (mm S i) = 1) with z | z
                          · exact absurd (by show (mm (lk S i k.toNatClampNeg) i).1.1 = 0; rw [(n5 i).1]; exact z) hk0
                          · show (mm (lk S i k.toNatClampNeg) i).1.1 = 1
                            rw [(n5 i).1]; exact z
                        have hcl : (nI e9).toNatClampNeg = e9 := nI_clamp (by omega)
                        rw [hcl] at hsp
                        refine fin hA3 (hW2.ofG hi2 hk1 (fnd_lk he hk1) hlt9) hi2 ?_ hlt8 e4 (hF2.trans hF3) hsp H locs hI ls (lv_sub hl [0, 1, 3] rfl)
                        show (mm (gvE (lk S i k.toNatClampNeg) i e9) i).1 = _
                        unfold gvE
                        rw [S_mm_self]
                        exact (n5 i).1
                      ·
                        have hnn : (sp_miss (lk S i k.toNatClampNeg) i f).2 < nI 0 := by rw [Int32.le_iff_toInt_le] at c73; rw [nI_0, Int32.lt_iff_toInt_lt]; omega
                        have hsp := hsp.trans (if_pos hnn)
                        refine lv_iload hx hb d_EM_write_76 (lv_at hl 0 rfl) ?_
                        refine mw_iret K hI hr hlk ?_ d_EM_write_78
                        rw [hsp]
                        exact ⟨rfl, own3, gd, ga, hA3, hF2.trans hF3⟩
                    · exact absurd hq.1 (by simp)
                ·
                  exact absurd rfl c47
            · exact absurd hq.1 (by simp)
          ·
            rw [if10.1] at c31
            have hsp : sp_upd S i k v f = _ := (if_pos ⟨hin1, hin2⟩).trans (if_neg c31)
            refine lv_bipush (v := (-22)) hx hb d_EM_write_34 (by decide) ?_
            refine W.widen (k := 4) (n := 22) (by decide) (by decide) ?_
            refine mw_iret K hI hr hlk ?_ d_EM_write_36
            rw [hsp]
            exact ⟨rfl, own, gd, ga, hA, Fr.rf w own⟩
        · cases hq4
      · obtain ⟨hq1, ⟨-, -, hq4⟩ | ⟨hq2, hq4⟩⟩ := hq
        · cases hq4
        · cases hq4
          rw [hq1] at hI
          rw [em] at hq2
          refine WT.widen (k := 4) (n := 22) (by decide) (by decide) ?_
          refine mw_on hI hce hlk hX ?_
          unfold sp_upd
          rw [if_neg (fun z => hq2 z.2)]
          exact ⟨rfl, own, gd, ga, hA, Fr.rf w own⟩
    · cases hq4
  · obtain ⟨hq1, ⟨-, -, hq4⟩ | ⟨hq2, hq4⟩⟩ := hq
    · cases hq4
    · cases hq4
      rw [hq1] at hI
      rw [em] at hq2
      refine WT.widen (k := 4) (n := 22) (by decide) (by decide) ?_
      refine mw_on hI hce hlk hX ?_
      unfold sp_upd
      rw [if_neg (fun z => hq2 z.1)]
      exact ⟨rfl, own, gd, ga, hA, Fr.rf w own⟩
set_option maxRecDepth 100000 in
set_option maxHeartbeats 4000000 in
theorem c_EM_write_TM (l : Launch) (D : va_G) (dA : Nat → ClassId) (hL : mw_L l) {w : mw_W} {own : as_W} {x bd xd ba xa ra : Nat} {mp : Nat → Nat} {gd ga : Nat → Int64} {S : as_S} {t : Nat} (hA : rc_A dA w own x bd xd ba xa ra mp gd ga S) (hW : wf_S t S) {i : Nat} (hi : i < nm S) (hk : kd (mm S i) = 1) (k v f : Int32) : CT l D dA y_EM_write (Cond.code y_EM_write b_EM_write 5 (some .int) :: Ts) 7 160 4 22 [.ref (mp i), .int k, .int v, .int f] w (PC dA w own x bd xd ba xa ra mp (sp_upd S i k v f)) := by
  refine mw_meth (by decide) mk_tb (Nat.le_of_ble_eq_true rfl) ?_
  intro p e s m below meth c K hr hlk hce hnm hP0 hSy ls hl
  have hl : lv_has ls 5 [(0, .ref (mp i)), (1, .int k), (2, .int v), (3, .int f)] := hl
  obtain ⟨hx, hb, hml, hown, hts, hK, hTb⟩ := id K
  have hI := mw_I.start hP0
  obtain ⟨⟨o1, o2, o3, o4, fx, fd, fa, fr, hdk, har⟩, hM⟩ := id hA
  have hwf := hW.2.2.2.2.2 i hi
  obtain ⟨b1, b2, b3, b4, b5, b6, b7, b8⟩ := wf_E hwf (Or.inr hk)
  obtain ⟨ka, ak, rch, wk, f0⟩ := rc_TM (hA.2 i hi) hk
  have fin : ∀ {S3 : as_S} {own3 : as_W} {w3 : mw_W} {e0 : Nat}, rc_A dA w3 own3 x bd xd ba xa ra mp gd ga S3 → wf_S t S3 → i < nm S3 → (mm S3 i).1 = (mm S i).1 → e0 < en (mm S i) → v.toNatClampNeg + vs (mm S i) ≤ 512 → Fr w own w3 own3 → sp_upd S i k v f = (wrE S3 i e0 v.toNatClampNeg, .inl (nI 0)) → ∀ (H : Heap) (locs : List Loc), mw_I D mk_cl w s.heap w3 H locs → ∀ ls : Array Slot, lv_has ls 5 [(4, .int (nI e0)), (0, .ref (mp i)), (2, .int (nI v.toNatClampNeg))] → W p l e { frames := 7, cells := 4, slots := 22, locals := 160 } s m ([.ref (mp i), .int k, .int v, .int f] : List Value).toArray below meth c H locs 4 22 (mx_Q below (mw_Qc D mk_cl w s.heap.size (PC dA w own x bd xd ba xa ra mp (sp_upd S i k v f))) ([.ref (mp i), .int k, .int v, .int f] : List Value).toArray s 4 22 (mw_A w s.heap.size)) (F0 m 79 ls []) := by
    intro S3 own3 w3 e0 hA3 hW3 hi3 h31 he0 hv0 hF3 hsp H locs hI ls hl
    have hA := hA3
    have hW := hW3
    have hwf := hW3.2.2.2.2.2 i hi3
    have h1a : kd (mm S3 i) = kd (mm S i) := by show (mm S3 i).1.1 = (mm S i).1.1; rw [h31]
    have h1b : vs (mm S3 i) = vs (mm S i) := by show (mm S3 i).1.2.2.1 = (mm S i).1.2.2.1; rw [h31]
    have h1c : en (mm S3 i) = en (mm S i) := by show (mm S3 i).1.2.2.2.1 = (mm S i).1.2.2.2.1; rw [h31]
    have hi := hi3
    rw [← h1a] at hk
    have hpl := plc_lt hwf (Or.inr hk) (e := e0) (by omega)
    obtain ⟨ka, ak, rch, wk, f0⟩ := rc_TM (hA.2 i hi) hk
    obtain ⟨⟨o1, o2, o3, o4, fx, fd, fa, fr, hdk, har⟩, hM⟩ := id hA3
    obtain ⟨mi, em⟩ : ∃ mi, mi = mm S3 i := ⟨_, rfl⟩
    rw [← em] at f0 h1a h1b h1c hpl
    refine lv_aload_n hx hb d_EM_write_79 rfl (lv_at hl 1 rfl) ?_
    refine mw_get K hI gf_EM_45_cTM f0 rfl d_EM_write_80 ?_
    refine lv_aload_n hx hb d_EM_write_83 rfl (lv_at hl 1 rfl) ?_
    refine lv_iload hx hb d_EM_write_84 (lv_at hl 0 rfl) ?_
    refine mw_call (rest := [.ref ba]) K hSy hP0 hI (c_EM_placeOfEntry_TM l D dA hA3 hW3 hi3 hk (e0 := e0) (by rw [← em]; omega)) (mx_invP hx hown (hts _ tw_461) (hts _ tw_463) (hts _ tw_462) (hts _ tw_467) rfl (hts _ tw_464) (by decide) (b := (mp i)) (mw_rc K hI f0 rfl) (g := F0 m 86 ls [.int (nI e0), .ref (mp i), .ref ba]) rfl (argsL := [.int (nI e0)]) (rest := [.ref ba]) np_EM_placeOfEntry rfl (by rw [hb]; exact d_EM_write_86)) hl.1 d_EM_write_86 ⟨Nat.le_of_ble_eq_true rfl, Nat.le_of_ble_eq_true rfl⟩ (Or.inl ⟨_, _, List.mem_cons_self⟩) (mk_ws tw_464 hts) (fun a9 U9 h9 => Ts_warm hts _ tw_31 a9 U9 h9) ⟨Nat.le_of_ble_eq_true rfl, Nat.le_of_ble_eq_true rfl⟩ (fun v w' H locs hq hI => ?_) (fun k x w' H locs hq hI hX => ?_)
    · obtain ⟨hq7, hq8⟩ := hq
      cases hq7
      rw [hq8] at hI
      rw [← em]
      refine W.eq (g2 := F0 m 89 ls [.int (nI (plc mi e0)), .ref ba]) rfl ?_
      refine lv_aload_n hx hb d_EM_write_89 rfl (lv_at hl 1 rfl) ?_
      refine mw_get K hI gf_EM_21_cTM f0 rfl d_EM_write_90 ?_
      refine lv_iload_n hx hb d_EM_write_93 rfl (lv_at hl 2 rfl) ?_
      refine lv_aload_n hx hb d_EM_write_94 rfl (lv_at hl 1 rfl) ?_
      refine mw_get K hI gf_EM_15_cTM f0 rfl d_EM_write_95 ?_
      refine mw_call (rest := []) K hSy hP0 hI (c_BY_copy l D dA fa (by decide) fd (by decide) (own_ne o2 o3 (by decide)) (i := plc mi e0) (i2 := v.toNatClampNeg) (k := vs mi) (by omega) (by omega)) (mx_invV hx hown (hts _ tw_503) (hts _ tw_450) (hts _ tw_451) (hts _ tw_452) (by decide) (b := ba) (mw_rc K hI fa.1 rfl) (g := F0 m 98 ls [.int (nI (vs mi)), .int (nI v.toNatClampNeg), .ref bd, .int (nI (plc mi e0)), .ref ba]) rfl (argsL := [.int (nI (plc mi e0)), .ref bd, .int (nI v.toNatClampNeg), .int (nI (vs mi))]) (rest := []) np_BY_copy rfl (by rw [hb]; exact d_EM_write_98)) hl.1 d_EM_write_98 ⟨Nat.le_of_ble_eq_true rfl, Nat.le_of_ble_eq_true rfl⟩ (Or.inl ⟨_, _, List.mem_cons_self⟩) (mk_ws tw_452 hts) (fun a9 U9 h9 => Ts_warm hts _ tw_22 a9 U9 h9) ⟨Nat.le_of_ble_eq_true rfl, Nat.le_of_ble_eq_true rfl⟩ (fun v w' H locs hq hI => ?_) (fun k x w' H locs hq hI hX => ?_)
      · obtain ⟨hq1, g', hq5, hq6⟩ := hq
        cases hq1
        rw [hq5] at hI
        refine W.eq (g2 := F0 m 101 ls []) rfl ?_
        refine lv_iconst (v := nI 0) hx hb d_EM_write_101 (by decide) ?_
        refine mw_iret K hI hr hlk ?_ d_EM_write_102
        rw [hsp]
        refine ⟨rfl, own3, gd, g', ?_, hF3.trans (Fr.up fa.2 (by rw [o3]; decide))⟩
        refine hA3.area g' _ (fun j hj => ?_)
        rw [hq6 j, ← em]
        unfold cpy
        split
        · exact hdk _ (by omega)
        · exact har j hj
      · exact absurd hq.1 (by simp)
    · exact absurd hq.1 (by simp)
  obtain ⟨mi, em⟩ : ∃ mi, mi = mm S i := ⟨_, rfl⟩
  rw [← em] at f0
  refine lv_aload_n hx hb d_EM_write_0 rfl (lv_at hl 0 rfl) ?_
  refine mw_get K hI gf_EM_21_cTM f0 rfl d_EM_write_1 ?_
  refine lv_iload_n hx hb d_EM_write_4 rfl (lv_at hl 1 rfl) ?_
  refine lv_aload_n hx hb d_EM_write_5 rfl (lv_at hl 0 rfl) ?_
  refine mw_get K hI gf_EM_9_cTM f0 rfl d_EM_write_6 ?_
  refine mw_call (rest := []) K hSy hP0 hI (c_BY_demand l D dA hL fd (by decide) k (k := ks mi) (by rw [em]; omega)) (mx_invV hx hown (hts _ tw_438) (hts _ tw_373) (hts _ tw_374) (hts _ tw_375) (by decide) (b := bd) (mw_rc K hI fd.1 rfl) (g := F0 m 9 ls [.int (nI (ks mi)), .int k, .ref bd]) rfl (argsL := [.int k, .int (nI (ks mi))]) (rest := []) np_BY_demand rfl (by rw [hb]; exact d_EM_write_9)) hl.1 d_EM_write_9 ⟨Nat.le_of_ble_eq_true rfl, Nat.le_of_ble_eq_true rfl⟩ (Or.inl ⟨_, _, List.mem_cons_self⟩) (mk_ws tw_375 hts) (fun a9 U9 h9 => Ts_warm hts _ tw_22 a9 U9 h9) ⟨Nat.le_of_ble_eq_true rfl, Nat.le_of_ble_eq_true rfl⟩ (fun v w' H locs hq hI => ?_) (fun k x w' H locs hq hI hX => ?_)
  · obtain ⟨hq1, ⟨hq2, hq3, hq4⟩ | ⟨-, hq4⟩⟩ := hq
    · cases hq4
      rw [hq1] at hI
      rw [em] at hq3
      obtain ⟨e1, e2⟩ := inD_nI ⟨hq2, hq3⟩ (by decide)
      have hin1 : inD k (ks (mm S i)) 512 := ⟨hq2, hq3⟩
      refine W.eq (g2 := F0 m 12 ls []) rfl ?_
      rw [e1] at hl
      refine lv_aload_n hx hb d_EM_write_12 rfl (lv_at hl 0 rfl) ?_
      refine mw_get K hI gf_EM_21_cTM f0 rfl d_EM_write_13 ?_
      refine lv_iload_n hx hb d_EM_write_16 rfl (lv_at hl 2 rfl) ?_
      refine lv_aload_n hx hb d_EM_write_17 rfl (lv_at hl 0 rfl) ?_
      refine mw_get K hI gf_EM_15_cTM f0 rfl d_EM_write_18 ?_
      refine mw_call (rest := []) K hSy hP0 hI (c_BY_demand l D dA hL fd (by decide) v (k := vs mi) (by rw [em]; omega)) (mx_invV hx hown (hts _ tw_438) (hts _ tw_373) (hts _ tw_374) (hts _ tw_375) (by decide) (b := bd) (mw_rc K hI fd.1 rfl) (g := F0 m 21 ls [.int (nI (vs mi)), .int v, .ref bd]) rfl (argsL := [.int v, .int (nI (vs mi))]) (rest := []) np_BY_demand rfl (by rw [hb]; exact d_EM_write_21)) hl.1 d_EM_write_21 ⟨Nat.le_of_ble_eq_true rfl, Nat.le_of_ble_eq_true rfl⟩ (Or.inl ⟨_, _, List.mem_cons_self⟩) (mk_ws tw_375 hts) (fun a9 U9 h9 => Ts_warm hts _ tw_22 a9 U9 h9) ⟨Nat.le_of_ble_eq_true rfl, Nat.le_of_ble_eq_true rfl⟩ (fun v w' H locs hq hI => ?_) (fun k x w' H locs hq hI hX => ?_)
      · obtain ⟨hq1, ⟨hq2, hq3, hq4⟩ | ⟨-, hq4⟩⟩ := hq
        · cases hq4
          rw [hq1] at hI
          rw [em] at hq3
          obtain ⟨e3, e4⟩ := inD_nI ⟨hq2, hq3⟩ (by decide)
          have hin2 : inD v (vs (mm S i)) 512 := ⟨hq2, hq3⟩
          refine W.eq (g2 := F0 m 24 ls []) rfl ?_
          rw [e3] at hl
          refine lv_iload_n hx hb d_EM_write_24 rfl (lv_at hl 3 rfl) ?_
          refine lv_i2l hx hb d_EM_write_25 rfl ?_
          refine lv_iconst (v := nI 0) hx hb d_EM_write_26 (by decide) ?_
          refine lv_iconst (v := nI 2) hx hb d_EM_write_27 (by decide) ?_
          refine mp_call (rest := []) hb hml (c_MS_within l f.toInt64 (nI 0) (nI 2)) (mx_invSN hx hown (hts _ tw_482) (hts _ tw_183) (hts _ tw_21) (hts _ tw_184) (by decide) (g := F0 m 28 ls [.int (nI 2), .int (nI 0), .long (f.toInt64)]) rfl (argsL := [.long (f.toInt64), .int (nI 0), .int (nI 2)]) (rest := []) np_MS_within rfl (by rw [hb]; exact d_EM_write_28)) hl.1 d_EM_write_28 ⟨Nat.le_of_ble_eq_true rfl, Nat.le_of_ble_eq_true rfl⟩ (Or.inl ⟨_, _, List.mem_cons_self⟩) (mk_ws tw_184 hts) (fun a9 U9 h9 => Ts_warm hts _ tw_21 a9 U9 h9) (by first | exact ⟨Nat.le_of_ble_eq_true rfl, Nat.le_of_ble_eq_true rfl⟩ | assumption) (fun v hv => ?_)
          subst hv
          refine W.eq (g2 := F0 m 31 ls [.int (if (nI 0).toInt64 ≤ f.toInt64 ∧ f.toInt64 ≤ (nI 2).toInt64 then 1 else 0)]) rfl ?_
          rw [within_i f (a := 0) (b := 2) (by decide) (by decide)]
          refine lv_if_ne (tgt := 37) hx hb d_EM_write_31 (by decide) (fun c31 => ?_) (fun c31 => ?_)
          ·
            rw [if10.2] at c31
            have hsp : sp_upd S i k v f = _ := (if_pos ⟨hin1, hin2⟩).trans (if_pos c31)
            refine lv_aload_n hx hb d_EM_write_37 rfl (lv_at hl 0 rfl) ?_
            refine lv_iload_n hx hb d_EM_write_38 rfl (lv_at hl 1 rfl) ?_
            refine mw_call (rest := []) K hSy hP0 hI (c_TM_entryOf2 l D dA hA hW hi hk (q := k.toNatClampNeg) e2) (mx_invU (y := y_TM_entryOf) hx hown (hts _ tw_439) (hts _ tw_441) (va_Decl.abs (va_Nw.of rfl (hts _ tw_440))) (by decide) (hts _ tw_446) (hts _ tw_447) (b := (mp i)) (mw_rc K hI f0 rfl) (g := F0 m 39 ls [.int (nI k.toNatClampNeg), .ref (mp i)]) rfl (argsL := [.int (nI k.toNatClampNeg)]) (rest := []) np_EM_entryOf rfl (by rw [hb]; exact d_EM_write_39)) hl.1 d_EM_write_39 ⟨Nat.le_of_ble_eq_true rfl, Nat.le_of_ble_eq_true rfl⟩ (Or.inl ⟨_, _, List.mem_cons_self⟩) (mk_ws tw_448 hts) (fun a9 U9 h9 => Ts_warm hts _ tw_33 a9 U9 h9) ⟨Nat.le_of_ble_eq_true rfl, Nat.le_of_ble_eq_true rfl⟩ (fun v w' H locs hq hI => ?_) (fun k x w' H locs hq hI hX => ?_)
            · obtain ⟨hq5, hA2, hF2⟩ := hq
              cases hq5
              refine W.eq (g2 := F0 m 42 ls [.int (oI (ent S i k.toNatClampNeg))]) rfl ?_
              obtain ⟨n1, n2, n3, n4, n5⟩ := lk_nm S i k.toNatClampNeg
              have hi2 : i < nm (lk S i k.toNatClampNeg) := by rw [n1]; exact hi
              have hW2 := hW.ofL (q := k.toNatClampNeg) hi
              have hk2 : kd (mm (lk S i k.toNatClampNeg) i) = 1 := by show (mm (lk S i k.toNatClampNeg) i).1.1 = _; rw [(n5 i).1]; exact hk
              cases he : ent S i k.toNatClampNeg with
              | some e0 =>
                have hlt := ent_lt he
                rw [he] at hsp
                refine mw_ti (y := nI e0) (rfl) ?_
                refine lv_istore (lv' := [(4, .int (nI e0)), (0, .ref (mp i)), (1, .int (nI k.toNatClampNeg)), (2, .int (nI v.toNatClampNeg)), (3, .int f)]) hx hb d_EM_write_42 hl (by decide) rfl (fun ls hl => ?_)
                refine lv_iload hx hb d_EM_write_44 (lv_at hl 0 rfl) ?_
                refine lv_iconst (v := (-1)) hx hb d_EM_write_46 (by decide) ?_
                refine lv_icmp_eq (tgt := 58) hx hb d_EM_write_47 (by decide) (fun c47 => ?_) (fun c47 => ?_)
                ·
                  exact absurd c47.symm (neg_ne (by omega))
                ·
                  refine lv_iload_n hx hb d_EM_write_50 rfl (lv_at hl 4 rfl) ?_
                  refine lv_iconst (v := nI 1) hx hb d_EM_write_51 (by decide) ?_
                  refine lv_icmp_ne (tgt := 58) hx hb d_EM_write_52 (by decide) (fun c52 => ?_) (fun c52 => ?_)
                  ·
                    have hsp := hsp.trans (if_neg c52)
                    refine lv_iload hx hb d_EM_write_58 (lv_at hl 0 rfl) ?_
                    refine lv_iconst (v := (-1)) hx hb d_EM_write_60 (by decide) ?_
                    refine lv_icmp_ne (tgt := 71) hx hb d_EM_write_61 (by decide) (fun c61 => ?_) (fun c61 => ?_)
                    ·
                      refine lv_iload hx hb d_EM_write_71 (lv_at hl 0 rfl) ?_
                      refine lv_if_ge (tgt := 79) hx hb d_EM_write_73 (by decide) (fun c73 => ?_) (fun c73 => ?_)
                      ·
                        refine W.widen (k := 4) (n := 22) (by decide) (by decide) ?_
                        exact fin hA2 hW2 hi2 (n5 i).1 hlt e4 hF2 hsp H locs hI ls (lv_sub hl [0, 1, 3] rfl)
                      ·
                        exact absurd (nI_pos' (by omega)) c73
                    ·
                      exact absurd c61.symm (neg_ne (by omega))
                  ·
                    have hsp := hsp.trans (if_pos c52)
                    refine lv_bipush (v := (-17)) hx hb d_EM_write_55 (by decide) ?_
                    refine W.widen (k := 4) (n := 22) (by decide) (by decide) ?_
                    refine mw_iret K hI hr hlk ?_ d_EM_write_57
                    rw [hsp]
                    exact ⟨rfl, own, gd, ga, hA2, hF2⟩
              | none =>
                rw [he] at hsp
                refine mw_ti (y := (-1)) (rfl) ?_
                refine lv_istore (lv' := [(4, .int (-1)), (0, .ref (mp i)), (1, .int (nI k.toNatClampNeg)), (2, .int (nI v.toNatClampNeg)), (3, .int f)]) hx hb d_EM_write_42 hl (by decide) rfl (fun ls hl => ?_)
                refine lv_iload hx hb d_EM_write_44 (lv_at hl 0 rfl) ?_
                refine lv_iconst (v := (-1)) hx hb d_EM_write_46 (by decide) ?_
                refine lv_icmp_eq (tgt := 58) hx hb d_EM_write_47 (by decide) (fun c47 => ?_) (fun c47 => ?_)
                ·
                  refine lv_iload hx hb d_EM_write_58 (lv_at hl 0 rfl) ?_
                  refine lv_iconst (v := (-1)) hx hb d_EM_write_60 (by decide) ?_
                  refine lv_icmp_ne (tgt := 71) hx hb d_EM_write_61 (by decide) (fun c61 => ?_) (fun c61 => ?_)
                  ·
                    exact absurd rfl c61
                  ·
                    obtain ⟨ka2, ak2, rch2, wk2, f02⟩ := rc_TM (hA2.2 i hi2) hk2
                    refine lv_aload_n hx hb d_EM_write_64 rfl (lv_at hl 1 rfl) ?_
                    refine lv_iload_n hx hb d_EM_write_65 rfl (lv_at hl 4 rfl) ?_
                    refine mw_call (rest := []) K hSy hP0 hI (c_TM_entryForMissing l D dA hA2 hW2 hi2 hk2 f (fnd_lk he)) (mx_invU (y := y_TM_entryForMissing) hx hown (hts _ tw_483) (hts _ tw_485) (va_Decl.abs (va_Nw.of rfl (hts _ tw_484))) (by decide) (hts _ tw_489) (hts _ tw_490) (b := (mp i)) (mw_rc K hI f02 rfl) (g := F0 m 66 ls [.int f, .ref (mp i)]) rfl (argsL := [.int f]) (rest := []) np_EM_entryForMissing rfl (by rw [hb]; exact d_EM_write_66)) hl.1 d_EM_write_66 ⟨Nat.le_of_ble_eq_true rfl, Nat.le_of_ble_eq_true rfl⟩ (Or.inl ⟨_, _, List.mem_cons_self⟩) (mk_ws tw_491 hts) (fun a9 U9 h9 => Ts_warm hts _ tw_33 a9 U9 h9) ⟨Nat.le_of_ble_eq_true rfl, Nat.le_of_ble_eq_true rfl⟩ (fun v w' H locs hq hI => ?_) (fun k x w' H locs hq hI hX => ?_)
                    · obtain ⟨hq5, own3, hA3, hF3⟩ := hq
                      cases hq5
                      refine W.eq (g2 := F0 m 69 ls [.int (sp_miss (lk S i k.toNatClampNeg) i f).2]) rfl ?_
                      refine lv_istore (lv' := [(4, .int (sp_miss (lk S i k.toNatClampNeg) i f).2), (0, .ref (mp i)), (1, .int (nI k.toNatClampNeg)), (2, .int (nI v.toNatClampNeg)), (3, .int f)]) hx hb d_EM_write_69 hl (by decide) rfl (fun ls hl => ?_)
                      refine lv_iload hx hb d_EM_write_71 (lv_at hl 0 rfl) ?_
                      refine lv_if_ge (tgt := 79) hx hb d_EM_write_73 (by decide) (fun c73 => ?_) (fun c73 => ?_)
                      ·
                        have hnn : ¬ (sp_miss (lk S i k.toNatClampNeg) i f).2 < nI 0 := by rw [Int32.le_iff_toInt_le] at c73; rw [nI_0, Int32.lt_iff_toInt_lt]; omega
                        have hsp := hsp.trans (if_neg hnn)
                        obtain ⟨hk0, e9, hfe, hms⟩ := sp_miss_ge hnn
                        rw [hms] at hsp hl hA3
                        obtain ⟨hlt9, -, -⟩ := lst_is hfe
                        have hlt8 : e9 < en (mm S i) := by
                          have h9 : e9 < (mm (lk S i k.toNatClampNeg) i).1.2.2.2.1 := hlt9
                          rw [(n5 i).1] at h9; exact h9
                        have hk1 : kd (mm (lk S i k.toNatClampNeg) i) = 1 := by
                          rcases ((Or.inr hk) : kd (mm S i) = 0 ∨ kd (mm S i) = 1) with z | z
                          · exact absurd (by show (mm (lk S i k.toNatClampNeg) i).1.1 = 0; rw [(n5 i).1]; exact z) hk0
                          · show (mm (lk S i k.toNatClampNeg) i).1.1 = 1
                            rw [(n5 i).1]; exact z
                        have hcl : (nI e9).toNatClampNeg = e9 := nI_clamp (by omega)
                        rw [hcl] at hsp
                        refine fin hA3 (hW2.ofG hi2 hk1 (fnd_lk he hk1) hlt9) hi2 ?_ hlt8 e4 (hF2.trans hF3) hsp H locs hI ls (lv_sub hl [0, 1, 3] rfl)
                        show (mm (gvE (lk S i k.toNatClampNeg) i e9) i).1 = _
                        unfold gvE
                        rw [S_mm_self]
                        exact (n5 i).1
                      ·
                        have hnn : (sp_miss (lk S i k.toNatClampNeg) i f).2 < nI 0 := by rw [Int32.le_iff_toInt_le] at c73; rw [nI_0, Int32.lt_iff_toInt_lt]; omega
                        have hsp := hsp.trans (if_pos hnn)
                        refine lv_iload hx hb d_EM_write_76 (lv_at hl 0 rfl) ?_
                        refine mw_iret K hI hr hlk ?_ d_EM_write_78
                        rw [hsp]
                        exact ⟨rfl, own3, gd, ga, hA3, hF2.trans hF3⟩
                    · exact absurd hq.1 (by simp)
                ·
                  exact absurd rfl c47
            · exact absurd hq.1 (by simp)
          ·
            rw [if10.1] at c31
            have hsp : sp_upd S i k v f = _ := (if_pos ⟨hin1, hin2⟩).trans (if_neg c31)
            refine lv_bipush (v := (-22)) hx hb d_EM_write_34 (by decide) ?_
            refine W.widen (k := 4) (n := 22) (by decide) (by decide) ?_
            refine mw_iret K hI hr hlk ?_ d_EM_write_36
            rw [hsp]
            exact ⟨rfl, own, gd, ga, hA, Fr.rf w own⟩
        · cases hq4
      · obtain ⟨hq1, ⟨-, -, hq4⟩ | ⟨hq2, hq4⟩⟩ := hq
        · cases hq4
        · cases hq4
          rw [hq1] at hI
          rw [em] at hq2
          refine WT.widen (k := 4) (n := 22) (by decide) (by decide) ?_
          refine mw_on hI hce hlk hX ?_
          unfold sp_upd
          rw [if_neg (fun z => hq2 z.2)]
          exact ⟨rfl, own, gd, ga, hA, Fr.rf w own⟩
    · cases hq4
  · obtain ⟨hq1, ⟨-, -, hq4⟩ | ⟨hq2, hq4⟩⟩ := hq
    · cases hq4
    · cases hq4
      rw [hq1] at hI
      rw [em] at hq2
      refine WT.widen (k := 4) (n := 22) (by decide) (by decide) ?_
      refine mw_on hI hce hlk hX ?_
      unfold sp_upd
      rw [if_neg (fun z => hq2 z.1)]
      exact ⟨rfl, own, gd, ga, hA, Fr.rf w own⟩
