/-! ### arrays and tables: the entry, its place -/
theorem d_AM_entryOf_0 : decode b_AM_entryOf 0 = .ok (.aload_n 0, 1) := by decide +kernel
theorem d_AM_entryOf_1 : decode b_AM_entryOf 1 = .ok (.getfield 15, 3) := by decide +kernel
theorem d_AM_entryOf_4 : decode b_AM_entryOf 4 = .ok (.iload_n 1, 1) := by decide +kernel
theorem d_AM_entryOf_5 : decode b_AM_entryOf 5 = .ok (.iconst 4, 1) := by decide +kernel
theorem d_AM_entryOf_6 : decode b_AM_entryOf 6 = .ok (.invokevirtual 19, 3) := by decide +kernel
theorem d_AM_entryOf_9 : decode b_AM_entryOf 9 = .ok (.lstore_n 2, 1) := by decide +kernel
theorem d_AM_entryOf_10 : decode b_AM_entryOf 10 = .ok (.lload_n 2, 1) := by decide +kernel
theorem d_AM_entryOf_11 : decode b_AM_entryOf 11 = .ok (.aload_n 0, 1) := by decide +kernel
theorem d_AM_entryOf_12 : decode b_AM_entryOf 12 = .ok (.getfield 9, 3) := by decide +kernel
theorem d_AM_entryOf_15 : decode b_AM_entryOf 15 = .ok (.i2l, 1) := by decide +kernel
theorem d_AM_entryOf_16 : decode b_AM_entryOf 16 = .ok (.lcmp, 1) := by decide +kernel
theorem d_AM_entryOf_17 : decode b_AM_entryOf 17 = .ok (.ifCond .ge 8, 3) := by decide +kernel
theorem d_AM_entryOf_20 : decode b_AM_entryOf 20 = .ok (.lload_n 2, 1) := by decide +kernel
theorem d_AM_entryOf_21 : decode b_AM_entryOf 21 = .ok (.l2i, 1) := by decide +kernel
theorem d_AM_entryOf_22 : decode b_AM_entryOf 22 = .ok (.goto 4, 3) := by decide +kernel
theorem d_AM_entryOf_25 : decode b_AM_entryOf 25 = .ok (.iconst (-1), 1) := by decide +kernel
theorem d_AM_entryOf_26 : decode b_AM_entryOf 26 = .ok (.ireturn, 1) := by decide +kernel
theorem d_AM_entryForMissing_0 : decode b_AM_entryForMissing 0 = .ok (.bipush (-7), 2) := by decide +kernel
theorem d_AM_entryForMissing_2 : decode b_AM_entryForMissing 2 = .ok (.ireturn, 1) := by decide +kernel
theorem d_EM_placeOfEntry_0 : decode b_EM_placeOfEntry 0 = .ok (.aload_n 0, 1) := by decide +kernel
theorem d_EM_placeOfEntry_1 : decode b_EM_placeOfEntry 1 = .ok (.getfield 52, 3) := by decide +kernel
theorem d_EM_placeOfEntry_4 : decode b_EM_placeOfEntry 4 = .ok (.iload_n 1, 1) := by decide +kernel
theorem d_EM_placeOfEntry_5 : decode b_EM_placeOfEntry 5 = .ok (.aload_n 0, 1) := by decide +kernel
theorem d_EM_placeOfEntry_6 : decode b_EM_placeOfEntry 6 = .ok (.getfield 15, 3) := by decide +kernel
theorem d_EM_placeOfEntry_9 : decode b_EM_placeOfEntry 9 = .ok (.invokestatic 55, 3) := by decide +kernel
theorem d_EM_placeOfEntry_12 : decode b_EM_placeOfEntry 12 = .ok (.imul, 1) := by decide +kernel
theorem d_EM_placeOfEntry_13 : decode b_EM_placeOfEntry 13 = .ok (.iadd, 1) := by decide +kernel
theorem d_EM_placeOfEntry_14 : decode b_EM_placeOfEntry 14 = .ok (.ireturn, 1) := by decide +kernel
theorem d_EM_placeOf_0 : decode b_EM_placeOf 0 = .ok (.aload_n 0, 1) := by decide +kernel
theorem d_EM_placeOf_1 : decode b_EM_placeOf 1 = .ok (.getfield 21, 3) := by decide +kernel
theorem d_EM_placeOf_4 : decode b_EM_placeOf 4 = .ok (.iload_n 1, 1) := by decide +kernel
theorem d_EM_placeOf_5 : decode b_EM_placeOf 5 = .ok (.aload_n 0, 1) := by decide +kernel
theorem d_EM_placeOf_6 : decode b_EM_placeOf 6 = .ok (.getfield 9, 3) := by decide +kernel
theorem d_EM_placeOf_9 : decode b_EM_placeOf 9 = .ok (.invokevirtual 25, 3) := by decide +kernel
theorem d_EM_placeOf_12 : decode b_EM_placeOf 12 = .ok (.aload_n 0, 1) := by decide +kernel
theorem d_EM_placeOf_13 : decode b_EM_placeOf 13 = .ok (.iload_n 1, 1) := by decide +kernel
theorem d_EM_placeOf_14 : decode b_EM_placeOf 14 = .ok (.invokevirtual 31, 3) := by decide +kernel
theorem d_EM_placeOf_17 : decode b_EM_placeOf 17 = .ok (.istore_n 2, 1) := by decide +kernel
theorem d_EM_placeOf_18 : decode b_EM_placeOf 18 = .ok (.iload_n 2, 1) := by decide +kernel
theorem d_EM_placeOf_19 : decode b_EM_placeOf 19 = .ok (.iconst (-1), 1) := by decide +kernel
theorem d_EM_placeOf_20 : decode b_EM_placeOf 20 = .ok (.if_icmp .ne 7, 3) := by decide +kernel
theorem d_EM_placeOf_23 : decode b_EM_placeOf 23 = .ok (.iconst (-1), 1) := by decide +kernel
theorem d_EM_placeOf_24 : decode b_EM_placeOf 24 = .ok (.goto 8, 3) := by decide +kernel
theorem d_EM_placeOf_27 : decode b_EM_placeOf 27 = .ok (.aload_n 0, 1) := by decide +kernel
theorem d_EM_placeOf_28 : decode b_EM_placeOf 28 = .ok (.iload_n 2, 1) := by decide +kernel
theorem d_EM_placeOf_29 : decode b_EM_placeOf 29 = .ok (.invokevirtual 35, 3) := by decide +kernel
theorem d_EM_placeOf_32 : decode b_EM_placeOf 32 = .ok (.ireturn, 1) := by decide +kernel
theorem d_EM_write_0 : decode b_EM_write 0 = .ok (.aload_n 0, 1) := by decide +kernel
theorem d_EM_write_1 : decode b_EM_write 1 = .ok (.getfield 21, 3) := by decide +kernel
theorem d_EM_write_4 : decode b_EM_write 4 = .ok (.iload_n 1, 1) := by decide +kernel
theorem d_EM_write_5 : decode b_EM_write 5 = .ok (.aload_n 0, 1) := by decide +kernel
theorem d_EM_write_6 : decode b_EM_write 6 = .ok (.getfield 9, 3) := by decide +kernel
theorem d_EM_write_9 : decode b_EM_write 9 = .ok (.invokevirtual 25, 3) := by decide +kernel
theorem d_EM_write_12 : decode b_EM_write 12 = .ok (.aload_n 0, 1) := by decide +kernel
theorem d_EM_write_13 : decode b_EM_write 13 = .ok (.getfield 21, 3) := by decide +kernel
theorem d_EM_write_16 : decode b_EM_write 16 = .ok (.iload_n 2, 1) := by decide +kernel
theorem d_EM_write_17 : decode b_EM_write 17 = .ok (.aload_n 0, 1) := by decide +kernel
theorem d_EM_write_18 : decode b_EM_write 18 = .ok (.getfield 15, 3) := by decide +kernel
theorem d_EM_write_21 : decode b_EM_write 21 = .ok (.invokevirtual 25, 3) := by decide +kernel
theorem d_EM_write_24 : decode b_EM_write 24 = .ok (.iload_n 3, 1) := by decide +kernel
theorem d_EM_write_25 : decode b_EM_write 25 = .ok (.i2l, 1) := by decide +kernel
theorem d_EM_write_26 : decode b_EM_write 26 = .ok (.iconst 0, 1) := by decide +kernel
theorem d_EM_write_27 : decode b_EM_write 27 = .ok (.iconst 2, 1) := by decide +kernel
theorem d_EM_write_28 : decode b_EM_write 28 = .ok (.invokestatic 38, 3) := by decide +kernel
theorem d_EM_write_31 : decode b_EM_write 31 = .ok (.ifCond .ne 6, 3) := by decide +kernel
theorem d_EM_write_34 : decode b_EM_write 34 = .ok (.bipush (-22), 2) := by decide +kernel
theorem d_EM_write_36 : decode b_EM_write 36 = .ok (.ireturn, 1) := by decide +kernel
theorem d_EM_write_37 : decode b_EM_write 37 = .ok (.aload_n 0, 1) := by decide +kernel
theorem d_EM_write_38 : decode b_EM_write 38 = .ok (.iload_n 1, 1) := by decide +kernel
theorem d_EM_write_39 : decode b_EM_write 39 = .ok (.invokevirtual 31, 3) := by decide +kernel
theorem d_EM_write_42 : decode b_EM_write 42 = .ok (.istore 4, 2) := by decide +kernel
theorem d_EM_write_44 : decode b_EM_write 44 = .ok (.iload 4, 2) := by decide +kernel
theorem d_EM_write_46 : decode b_EM_write 46 = .ok (.iconst (-1), 1) := by decide +kernel
theorem d_EM_write_47 : decode b_EM_write 47 = .ok (.if_icmp .eq 11, 3) := by decide +kernel
theorem d_EM_write_50 : decode b_EM_write 50 = .ok (.iload_n 3, 1) := by decide +kernel
theorem d_EM_write_51 : decode b_EM_write 51 = .ok (.iconst 1, 1) := by decide +kernel
theorem d_EM_write_52 : decode b_EM_write 52 = .ok (.if_icmp .ne 6, 3) := by decide +kernel
theorem d_EM_write_55 : decode b_EM_write 55 = .ok (.bipush (-17), 2) := by decide +kernel
theorem d_EM_write_57 : decode b_EM_write 57 = .ok (.ireturn, 1) := by decide +kernel
theorem d_EM_write_58 : decode b_EM_write 58 = .ok (.iload 4, 2) := by decide +kernel
theorem d_EM_write_60 : decode b_EM_write 60 = .ok (.iconst (-1), 1) := by decide +kernel
theorem d_EM_write_61 : decode b_EM_write 61 = .ok (.if_icmp .ne 10, 3) := by decide +kernel
theorem d_EM_write_64 : decode b_EM_write 64 = .ok (.aload_n 0, 1) := by decide +kernel
theorem d_EM_write_65 : decode b_EM_write 65 = .ok (.iload_n 3, 1) := by decide +kernel
theorem d_EM_write_66 : decode b_EM_write 66 = .ok (.invokevirtual 42, 3) := by decide +kernel
theorem d_EM_write_69 : decode b_EM_write 69 = .ok (.istore 4, 2) := by decide +kernel
theorem d_EM_write_71 : decode b_EM_write 71 = .ok (.iload 4, 2) := by decide +kernel
theorem d_EM_write_73 : decode b_EM_write 73 = .ok (.ifCond .ge 6, 3) := by decide +kernel
theorem d_EM_write_76 : decode b_EM_write 76 = .ok (.iload 4, 2) := by decide +kernel
theorem d_EM_write_78 : decode b_EM_write 78 = .ok (.ireturn, 1) := by decide +kernel
theorem d_EM_write_79 : decode b_EM_write 79 = .ok (.aload_n 0, 1) := by decide +kernel
theorem d_EM_write_80 : decode b_EM_write 80 = .ok (.getfield 45, 3) := by decide +kernel
theorem d_EM_write_83 : decode b_EM_write 83 = .ok (.aload_n 0, 1) := by decide +kernel
theorem d_EM_write_84 : decode b_EM_write 84 = .ok (.iload 4, 2) := by decide +kernel
theorem d_EM_write_86 : decode b_EM_write 86 = .ok (.invokevirtual 35, 3) := by decide +kernel
theorem d_EM_write_89 : decode b_EM_write 89 = .ok (.aload_n 0, 1) := by decide +kernel
theorem d_EM_write_90 : decode b_EM_write 90 = .ok (.getfield 21, 3) := by decide +kernel
theorem d_EM_write_93 : decode b_EM_write 93 = .ok (.iload_n 2, 1) := by decide +kernel
theorem d_EM_write_94 : decode b_EM_write 94 = .ok (.aload_n 0, 1) := by decide +kernel
theorem d_EM_write_95 : decode b_EM_write 95 = .ok (.getfield 15, 3) := by decide +kernel
theorem d_EM_write_98 : decode b_EM_write 98 = .ok (.invokevirtual 48, 3) := by decide +kernel
theorem d_EM_write_101 : decode b_EM_write 101 = .ok (.iconst 0, 1) := by decide +kernel
theorem d_EM_write_102 : decode b_EM_write 102 = .ok (.ireturn, 1) := by decide +kernel
theorem d_AM_inUse_0 : decode b_AM_inUse 0 = .ok (.aload_n 0, 1) := by decide +kernel
theorem d_AM_inUse_1 : decode b_AM_inUse 1 = .ok (.getfield 9, 3) := by decide +kernel
theorem d_AM_inUse_4 : decode b_AM_inUse 4 = .ok (.ireturn, 1) := by decide +kernel
theorem d_TM_inUse_0 : decode b_TM_inUse 0 = .ok (.aload_n 0, 1) := by decide +kernel
theorem d_TM_inUse_1 : decode b_TM_inUse 1 = .ok (.getfield 15, 3) := by decide +kernel
theorem d_TM_inUse_4 : decode b_TM_inUse 4 = .ok (.ireturn, 1) := by decide +kernel
theorem d_RM_inUse_0 : decode b_RM_inUse 0 = .ok (.aload_n 0, 1) := by decide +kernel
theorem d_RM_inUse_1 : decode b_RM_inUse 1 = .ok (.getfield 9, 3) := by decide +kernel
theorem d_RM_inUse_4 : decode b_RM_inUse 4 = .ok (.aload_n 0, 1) := by decide +kernel
theorem d_RM_inUse_5 : decode b_RM_inUse 5 = .ok (.getfield 15, 3) := by decide +kernel
theorem d_RM_inUse_8 : decode b_RM_inUse 8 = .ok (.lsub, 1) := by decide +kernel
theorem d_RM_inUse_9 : decode b_RM_inUse 9 = .ok (.l2i, 1) := by decide +kernel
theorem d_RM_inUse_10 : decode b_RM_inUse 10 = .ok (.ireturn, 1) := by decide +kernel
theorem d_AN_clashes_0 : decode b_AN_clashes 0 = .ok (.iconst 0, 1) := by decide +kernel
theorem d_AN_clashes_1 : decode b_AN_clashes 1 = .ok (.ireturn, 1) := by decide +kernel
theorem d_TM_clashes_0 : decode b_TM_clashes 0 = .ok (.aload_n 0, 1) := by decide +kernel
theorem d_TM_clashes_1 : decode b_TM_clashes 1 = .ok (.getfield 18, 3) := by decide +kernel
theorem d_TM_clashes_4 : decode b_TM_clashes 4 = .ok (.ireturn, 1) := by decide +kernel
theorem up8_ge (n : Nat) : n ≤ up8 n ∧ up8 n ≤ n + 7 ∧ up8 n % 8 = 0 := by unfold up8; omega
/-- the sizes of an array or a table -/
theorem wf_E {t : Nat} {m : as_M} (h : wf_M t m) (hk : kd m = 0 ∨ kd m = 1) : 1 ≤ ks m ∧ ks m ≤ 64 ∧ 1 ≤ vs m ∧ vs m ≤ 256 ∧ 1 ≤ en m ∧ en m ≤ 4096 ∧ bg m + en m * up8 (vs m) ≤ 65536 ∧ (kd m = 0 → ks m = 4) := by
  obtain ⟨-, ⟨k0, h⟩ | ⟨k0, h⟩ | ⟨k0, h⟩⟩ := h
  · exact ⟨by omega, by omega, by omega, by omega, by omega, by omega, by omega, fun _ => by omega⟩
  · obtain ⟨b1, b2, b3, b4, b5, b6, b7, -⟩ := h
    exact ⟨b1, b2, b3, b4, b5, b6, b7, fun z => by omega⟩
  · exact absurd hk (by omega)
theorem rc_AM {dA : Nat → ClassId} {w : mw_W} {own : as_W} {bd ba i a : Nat} {m : as_M} (h : rc_M dA w own bd ba i a m) (hk : kd m = 0) (h4 : kd m = 0 → ks m = 4) : w a = some (.inr (cAM, [.ref bd, .ref ba, .int (nI (bg m)), .int (nI (ks m)), .int (nI (vs m)), .int (nI (en m))])) := by
  obtain ⟨-, ⟨k0, h⟩ | ⟨k0, h⟩ | ⟨k0, h⟩⟩ := h
  · rw [h4 hk]; exact h
  · rw [hk] at k0; cases k0
  · rw [hk] at k0; cases k0
theorem rc_TM {dA : Nat → ClassId} {w : mw_W} {own : as_W} {bd ba i a : Nat} {m : as_M} (h : rc_M dA w own bd ba i a m) (hk : kd m = 1) : ∃ (ka ak rch : Nat) (wk : Int32), w a = some (.inr (cTM, [.ref bd, .ref ba, .int (nI (bg m)), .int (nI (ks m)), .int (nI (vs m)), .int (nI (en m)), .ref ka, .ref ak, .int (nI rch), .int wk, .int (nI 0)])) := by
  obtain ⟨-, ⟨k0, h⟩ | ⟨k0, ka, ak, ax, rch, gk, f, h, -⟩ | ⟨k0, h⟩⟩ := h
  · rw [hk] at k0; cases k0
  · exact ⟨ka, ak, rch, _, h⟩
  · rw [hk] at k0; cases k0
theorem rc_RM {dA : Nat → ClassId} {w : mw_W} {own : as_W} {bd ba i a : Nat} {m : as_M} (h : rc_M dA w own bd ba i a m) (hk : kd m = 2) : own a = (7, i, 0) ∧ w a = some (.inr (cRM, [.ref bd, .ref ba, .int (nI (bg m)), .int (nI (en m)), .long (lN (hd m)), .long (lN (tl m)), .int (nI (rc m)), .int (nI (if bk m = true then 1 else 0))])) := by
  obtain ⟨o, ⟨k0, h⟩ | ⟨k0, h⟩ | ⟨k0, h⟩⟩ := h
  · rw [hk] at k0; cases k0
  · rw [hk] at k0; cases k0
  · exact ⟨o, h⟩
theorem plc_lt {t : Nat} {m : as_M} (h : wf_M t m) (hk : kd m = 0 ∨ kd m = 1) {e : Nat} (he : e < en m) : plc m e + vs m ≤ 65536 ∧ e * up8 (vs m) ≤ 65536 := by
  obtain ⟨-, -, h3, h4, h5, h6, h7, -⟩ := wf_E h hk
  have h8 : (e + 1) * up8 (vs m) ≤ en m * up8 (vs m) := Nat.mul_le_mul_right _ he
  rw [Nat.add_mul, Nat.one_mul] at h8
  have h9 := (up8_ge (vs m)).1
  unfold plc
  omega
theorem lk_nm (S : as_S) (i q : Nat) : nm (lk S i q) = nm S ∧ dk (lk S i q) = dk S ∧ ar (lk S i q) = ar S ∧ gv (lk S i q) = gv S ∧ ∀ j, (mm (lk S i q) j).1 = (mm S j).1 ∧ tb (mm (lk S i q) j) = tb (mm S j) := by
  unfold lk
  by_cases h : kd (mm S i) = 1
  · rw [if_pos h]
    refine ⟨rfl, rfl, rfl, rfl, fun j => ?_⟩
    by_cases e : j = i
    · subst e; rw [S_mm_self]; exact ⟨rfl, rfl⟩
    · rw [S_mm_ne _ _ e]; exact ⟨rfl, rfl⟩
  · rw [if_neg h]; exact ⟨rfl, rfl, rfl, rfl, fun _ => ⟨rfl, rfl⟩⟩
theorem plc_1 {m m' : as_M} (h : m.1 = m'.1) (e : Nat) : plc m e = plc m' e := by show m.1.2.2.2.2 + e * up8 m.1.2.2.1 = m'.1.2.2.2.2 + e * up8 m'.1.2.2.1; rw [h]
theorem lN_tiL {n : Nat} (h : n < 2 ^ 63) : (lN n).toInt = (n : Int) := lg_ofNat_toInt (by omega)
theorem lN_leL {a b : Nat} (ha : a < 2 ^ 63) (hb : b < 2 ^ 63) : lN a ≤ lN b ↔ a ≤ b := by rw [Int64.le_iff_toInt_le, lN_tiL ha, lN_tiL hb]; omega
theorem lN_ltL {a b : Nat} (ha : a < 2 ^ 63) (hb : b < 2 ^ 63) : lN a < lN b ↔ a < b := by rw [Int64.lt_iff_toInt_lt, lN_tiL ha, lN_tiL hb]; omega
theorem lN_eqL {a b : Nat} (ha : a < 2 ^ 63) (hb : b < 2 ^ 63) : lN a = lN b ↔ a = b := by rw [← Int64.toInt_inj, lN_tiL ha, lN_tiL hb]; omega
theorem ent_lt {S : as_S} {i q e : Nat} (h : ent S i q = some e) : e < en (mm S i) := by
  unfold ent at h
  by_cases k : kd (mm S i) = 0
  · rw [if_pos k] at h
    split at h
    · cases h; assumption
    · cases h
  · rw [if_neg k] at h; exact (lst_is h).1
theorem within_i (f : Int32) {a b : Nat} (ha : a < 2 ^ 31) (hb : b < 2 ^ 31) : (if (nI a).toInt64 ≤ f.toInt64 ∧ f.toInt64 ≤ (nI b).toInt64 then (1 : Int32) else 0) = if (a : Int) ≤ f.toInt ∧ f.toInt ≤ b then 1 else 0 := by
  simp only [Int64.le_iff_toInt_le, Int32.toInt_toInt64, nI_toInt ha, nI_toInt hb]
theorem if10 {P : Prop} [Decidable P] : ((if P then (1 : Int32) else 0) = 0 ↔ ¬ P) ∧ (¬ (if P then (1 : Int32) else 0) = 0 ↔ P) := by
  by_cases h : P
  · simp [h]
  · simp [h]
theorem oI_neg {r : Option Nat} (h : ∀ e, r = some e → e < 2 ^ 30) : oI r = -1 ↔ r = none := by
  cases r with
  | none => exact ⟨fun _ => rfl, fun _ => rfl⟩
  | some e => exact ⟨fun z => absurd z.symm (neg_ne (h e rfl)), fun z => by cases z⟩
set_option maxRecDepth 100000 in
set_option maxHeartbeats 4000000 in
theorem c_AM_entryOf (l : Launch) (D : va_G) (dA : Nat → ClassId) {w : mw_W} {own : as_W} {x bd xd ba xa ra : Nat} {mp : Nat → Nat} {gd ga : Nat → Int64} {S : as_S} {t : Nat} (hA : rc_A dA w own x bd xd ba xa ra mp gd ga S) (hW : wf_S t S) {i : Nat} (hi : i < nm S) (hk : kd (mm S i) = 0) {q : Nat} (hq0 : q + ks (mm S i) ≤ 512) : CT l D dA y_AM_entryOf (Cond.code y_AM_entryOf b_AM_entryOf 4 (some .int) :: Ts) 3 80 0 0 [.ref (mp i), .int (nI q)] w (fun r w' => r = .inl (some (.int (oI (ent S i q)))) ∧ rc_A dA w' own x bd xd ba xa ra mp gd ga (lk S i q) ∧ Fr w own w' own) := by
  refine mw_meth (by decide) mk_tb (Nat.le_of_ble_eq_true rfl) ?_
  intro p e s m below meth c K hr hlk hce hnm hP0 hSy ls hl
  have hl : lv_has ls 4 [(0, .ref (mp i)), (1, .int (nI q))] := hl
  obtain ⟨hx, hb, hml, hown, hts, hK, hTb⟩ := id K
  have hI := mw_I.start hP0
  obtain ⟨⟨o1, o2, o3, o4, fx, fd, fa, fr, hdk, har⟩, hM⟩ := id hA
  have hwf := hW.2.2.2.2.2 i hi
  obtain ⟨b1, b2, b3, b4, b5, b6, b7, b8⟩ := wf_E hwf (Or.inl hk)
  have b9 := b8 hk
  have f0 := rc_AM (hA.2 i hi) hk b8
  have en0 := ent_0 (i := i) q hk
  rw [lk_0 q hk]
  generalize em : mm S i = mi at *
  refine lv_aload_n hx hb d_AM_entryOf_0 rfl (lv_at hl 0 rfl) ?_
  refine mw_get K hI gf_AM_15_cAM f0 rfl d_AM_entryOf_1 ?_
  refine lv_iload_n hx hb d_AM_entryOf_4 rfl (lv_at hl 1 rfl) ?_
  refine lv_iconst (v := nI 4) hx hb d_AM_entryOf_5 (by decide) ?_
  refine mw_call (rest := []) K hSy hP0 hI (c_BY_number l D dA fd (by decide) (i := q) (k := 4) (by decide) (by omega)) (mx_invV hx hown (hts _ tw_445) (hts _ tw_380) (hts _ tw_381) (hts _ tw_382) (by decide) (b := bd) (mw_rc K hI fd.1 rfl) (g := F0 m 6 ls [.int (nI 4), .int (nI q), .ref bd]) rfl (argsL := [.int (nI q), .int (nI 4)]) (rest := []) np_BY_number rfl (by rw [hb]; exact d_AM_entryOf_6)) hl.1 d_AM_entryOf_6 ⟨Nat.le_of_ble_eq_true rfl, Nat.le_of_ble_eq_true rfl⟩ (Or.inl ⟨_, _, List.mem_cons_self⟩) (mk_ws tw_382 hts) (fun a9 U9 h9 => Ts_warm hts _ tw_22 a9 U9 h9) ⟨Nat.le_of_ble_eq_true rfl, Nat.le_of_ble_eq_true rfl⟩ (fun v w' H locs hq hI => ?_) (fun k x w' H locs hq hI hX => ?_)
  · obtain ⟨hq5, hq6⟩ := hq
    cases hq5
    rw [hq6] at hI
    refine W.eq (g2 := F0 m 9 ls [.long (lN (bw_n (bw_b gd) q 4))]) rfl ?_
    have ec : bw_n (bw_b gd) q 4 = bw_n (dk S) q 4 := bw_n_congr 4 _ (fun j h1 h2 => hdk j (by omega))
    refine mw_tl (y := lN (bw_n (dk S) q 4)) ((by rw [ec])) ?_
    have hlt := bw_n_lt hW.2.2.2.1 4 q
    refine lv_lstore_n (lv' := [(2, .long (lN (bw_n (dk S) q 4))), (0, .ref (mp i)), (1, .int (nI q))]) hx hb d_AM_entryOf_9 rfl hl (by decide) rfl (fun ls hl => ?_)
    refine lv_lload_n hx hb d_AM_entryOf_10 rfl (lv_at hl 0 rfl) ?_
    refine lv_aload_n hx hb d_AM_entryOf_11 rfl (lv_at hl 1 rfl) ?_
    refine mw_get K hI gf_AM_9_cAM f0 rfl d_AM_entryOf_12 ?_
    refine lv_i2l hx hb d_AM_entryOf_15 rfl ?_
    refine mw_tl (nI_l (by omega)) ?_
    refine W.lcmp hx hb d_AM_entryOf_16 ?_
    refine lv_if_ge (tgt := 25) hx hb d_AM_entryOf_17 (by decide) (fun c17 => ?_) (fun c17 => ?_)
    ·
      rw [lg_cmp_ge, lN_leL (by omega) (by omega)] at c17
      refine lv_iconst (v := (-1)) hx hb d_AM_entryOf_25 (by decide) ?_
      refine mw_iret K hI hr hlk ⟨?_, hA, Fr.rf w own⟩ d_AM_entryOf_26
      rw [en0, if_neg (by omega)]; rfl
    ·
      rw [lg_cmp_ge, lN_leL (by omega) (by omega)] at c17
      refine lv_lload_n hx hb d_AM_entryOf_20 rfl (lv_at hl 0 rfl) ?_
      refine lv_l2i hx hb d_AM_entryOf_21 rfl ?_
      refine mw_ti (lN_i _) ?_
      refine lv_goto (tgt := 26) hx hb d_AM_entryOf_22 (by decide) ?_
      refine mw_iret K hI hr hlk ⟨?_, hA, Fr.rf w own⟩ d_AM_entryOf_26
      rw [en0, if_pos (by omega)]; rfl
  · exact absurd hq.1 (by simp)
theorem c_TM_entryOf2 (l : Launch) (D : va_G) (dA : Nat → ClassId) {w : mw_W} {own : as_W} {x bd xd ba xa ra : Nat} {mp : Nat → Nat} {gd ga : Nat → Int64} {S : as_S} {t : Nat} (hA : rc_A dA w own x bd xd ba xa ra mp gd ga S) (hW : wf_S t S) {i : Nat} (hi : i < nm S) (hk : kd (mm S i) = 1) {q : Nat} (hq0 : q + ks (mm S i) ≤ 512) : CT l D dA y_TM_entryOf (Cond.code y_TM_entryOf b_TM_entryOf 2 (some .int) :: Ts) 3 80 0 0 [.ref (mp i), .int (nI q)] w (fun r w' => r = .inl (some (.int (oI (ent S i q)))) ∧ rc_A dA w' own x bd xd ba xa ra mp gd ga (lk S i q) ∧ Fr w own w' own) := by
  have h := c_TM_entryOf l D dA hA hW hi hk hq0
  rw [← ent_1 q hk, ← lk_1 q hk] at h
  exact h
set_option maxRecDepth 100000 in
set_option maxHeartbeats 4000000 in
theorem c_EM_placeOfEntry_AM (l : Launch) (D : va_G) (dA : Nat → ClassId) {w : mw_W} {own : as_W} {x bd xd ba xa ra : Nat} {mp : Nat → Nat} {gd ga : Nat → Int64} {S : as_S} {t : Nat} (hA : rc_A dA w own x bd xd ba xa ra mp gd ga S) (hW : wf_S t S) {i : Nat} (hi : i < nm S) (hk : kd (mm S i) = 0) {e0 : Nat} (he : e0 < en (mm S i)) : CT l D dA y_EM_placeOfEntry (Cond.code y_EM_placeOfEntry b_EM_placeOfEntry 2 (some .int) :: Ts) 1 20 0 0 [.ref (mp i), .int (nI e0)] w (fun r w' => r = .inl (some (.int (nI (plc (mm S i) e0)))) ∧ w' = w) := by
  refine mw_meth (by decide) mk_tb (Nat.le_of_ble_eq_true rfl) ?_
  intro p e s m below meth c K hr hlk hce hnm hP0 hSy ls hl
  have hl : lv_has ls 2 [(0, .ref (mp i)), (1, .int (nI e0))] := hl
  obtain ⟨hx, hb, hml, hown, hts, hK, hTb⟩ := id K
  have hI := mw_I.start hP0
  have hwf := hW.2.2.2.2.2 i hi
  obtain ⟨b1, b2, b3, b4, b5, b6, b7, b8⟩ := wf_E hwf (Or.inl hk)
  have f0 := rc_AM (hA.2 i hi) hk (wf_E hwf (Or.inl hk)).2.2.2.2.2.2.2
  generalize em : mm S i = mi at *
  refine lv_aload_n hx hb d_EM_placeOfEntry_0 rfl (lv_at hl 0 rfl) ?_
  refine mw_get K hI gf_EM_52_cAM f0 rfl d_EM_placeOfEntry_1 ?_
  refine lv_iload_n hx hb d_EM_placeOfEntry_4 rfl (lv_at hl 1 rfl) ?_
  refine lv_aload_n hx hb d_EM_placeOfEntry_5 rfl (lv_at hl 0 rfl) ?_
  refine mw_get K hI gf_EM_15_cAM f0 rfl d_EM_placeOfEntry_6 ?_
  refine mp_call (rest := [.int (nI e0), .int (nI (bg mi))]) hb hml (c_MS_filledUp l (n := vs mi) (by omega)) (mx_invSN hx hown (hts _ tw_465) (hts _ tw_52) (hts _ tw_21) (hts _ tw_53) (by decide) (g := F0 m 9 ls [.int (nI (vs mi)), .int (nI e0), .int (nI (bg mi))]) rfl (argsL := [.int (nI (vs mi))]) (rest := [.int (nI e0), .int (nI (bg mi))]) np_MS_filledUp rfl (by rw [hb]; exact d_EM_placeOfEntry_9)) hl.1 d_EM_placeOfEntry_9 ⟨Nat.le_of_ble_eq_true rfl, Nat.le_of_ble_eq_true rfl⟩ (Or.inl ⟨_, _, List.mem_cons_self⟩) (mk_ws tw_53 hts) (fun a9 U9 h9 => Ts_warm hts _ tw_21 a9 U9 h9) (by first | exact ⟨Nat.le_of_ble_eq_true rfl, Nat.le_of_ble_eq_true rfl⟩ | assumption) (fun v hv => ?_)
  subst hv
  refine W.eq (g2 := F0 m 12 ls [.int (nI (up8 (vs mi))), .int (nI e0), .int (nI (bg mi))]) rfl ?_
  refine lv_imul hx hb d_EM_placeOfEntry_12 ?_
  refine mw_ti (pk_mul _ _) ?_
  refine lv_iadd hx hb d_EM_placeOfEntry_13 ?_
  refine mw_ti (nI_add _ _) ?_
  exact mw_iret K hI hr hlk ⟨rfl, rfl⟩ d_EM_placeOfEntry_14
set_option maxRecDepth 100000 in
set_option maxHeartbeats 4000000 in
theorem c_EM_placeOfEntry_TM (l : Launch) (D : va_G) (dA : Nat → ClassId) {w : mw_W} {own : as_W} {x bd xd ba xa ra : Nat} {mp : Nat → Nat} {gd ga : Nat → Int64} {S : as_S} {t : Nat} (hA : rc_A dA w own x bd xd ba xa ra mp gd ga S) (hW : wf_S t S) {i : Nat} (hi : i < nm S) (hk : kd (mm S i) = 1) {e0 : Nat} (he : e0 < en (mm S i)) : CT l D dA y_EM_placeOfEntry (Cond.code y_EM_placeOfEntry b_EM_placeOfEntry 2 (some .int) :: Ts) 1 20 0 0 [.ref (mp i), .int (nI e0)] w (fun r w' => r = .inl (some (.int (nI (plc (mm S i) e0)))) ∧ w' = w) := by
  refine mw_meth (by decide) mk_tb (Nat.le_of_ble_eq_true rfl) ?_
  intro p e s m below meth c K hr hlk hce hnm hP0 hSy ls hl
  have hl : lv_has ls 2 [(0, .ref (mp i)), (1, .int (nI e0))] := hl
  obtain ⟨hx, hb, hml, hown, hts, hK, hTb⟩ := id K
  have hI := mw_I.start hP0
  have hwf := hW.2.2.2.2.2 i hi
  obtain ⟨b1, b2, b3, b4, b5, b6, b7, b8⟩ := wf_E hwf (Or.inr hk)
  obtain ⟨ka, ak, rch, wk, f0⟩ := rc_TM (hA.2 i hi) hk
  generalize em : mm S i = mi at *
  refine lv_aload_n hx hb d_EM_placeOfEntry_0 rfl (lv_at hl 0 rfl) ?_
  refine mw_get K hI gf_EM_52_cTM f0 rfl d_EM_placeOfEntry_1 ?_
  refine lv_iload_n hx hb d_EM_placeOfEntry_4 rfl (lv_at hl 1 rfl) ?_
  refine lv_aload_n hx hb d_EM_placeOfEntry_5 rfl (lv_at hl 0 rfl) ?_
  refine mw_get K hI gf_EM_15_cTM f0 rfl d_EM_placeOfEntry_6 ?_
  refine mp_call (rest := [.int (nI e0), .int (nI (bg mi))]) hb hml (c_MS_filledUp l (n := vs mi) (by omega)) (mx_invSN hx hown (hts _ tw_465) (hts _ tw_52) (hts _ tw_21) (hts _ tw_53) (by decide) (g := F0 m 9 ls [.int (nI (vs mi)), .int (nI e0), .int (nI (bg mi))]) rfl (argsL := [.int (nI (vs mi))]) (rest := [.int (nI e0), .int (nI (bg mi))]) np_MS_filledUp rfl (by rw [hb]; exact d_EM_placeOfEntry_9)) hl.1 d_EM_placeOfEntry_9 ⟨Nat.le_of_ble_eq_true rfl, Nat.le_of_ble_eq_true rfl⟩ (Or.inl ⟨_, _, List.mem_cons_self⟩) (mk_ws tw_53 hts) (fun a9 U9 h9 => Ts_warm hts _ tw_21 a9 U9 h9) (by first | exact ⟨Nat.le_of_ble_eq_true rfl, Nat.le_of_ble_eq_true rfl⟩ | assumption) (fun v hv => ?_)
  subst hv
  refine W.eq (g2 := F0 m 12 ls [.int (nI (up8 (vs mi))), .int (nI e0), .int (nI (bg mi))]) rfl ?_
  refine lv_imul hx hb d_EM_placeOfEntry_12 ?_
  refine mw_ti (pk_mul _ _) ?_
  refine lv_iadd hx hb d_EM_placeOfEntry_13 ?_
  refine mw_ti (nI_add _ _) ?_
  exact mw_iret K hI hr hlk ⟨rfl, rfl⟩ d_EM_placeOfEntry_14
