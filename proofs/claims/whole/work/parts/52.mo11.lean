/-! ### the model: its constructor, both starts -/
theorem d_MO_init_0 : decode b_MO_init 0 = .ok (.aload_n 0, 1) := by decide +kernel
theorem d_MO_init_1 : decode b_MO_init 1 = .ok (.invokespecial 1, 3) := by decide +kernel
theorem d_MO_init_4 : decode b_MO_init 4 = .ok (.aload_n 0, 1) := by decide +kernel
theorem d_MO_init_5 : decode b_MO_init 5 = .ok (.sipush 512, 3) := by decide +kernel
theorem d_MO_init_8 : decode b_MO_init 8 = .ok (.newarray .byte, 2) := by decide +kernel
theorem d_MO_init_10 : decode b_MO_init 10 = .ok (.putfield 7, 3) := by decide +kernel
theorem d_MO_init_13 : decode b_MO_init 13 = .ok (.aload_n 0, 1) := by decide +kernel
theorem d_MO_init_14 : decode b_MO_init 14 = .ok (.ldc 13, 2) := by decide +kernel
theorem d_MO_init_16 : decode b_MO_init 16 = .ok (.newarray .byte, 2) := by decide +kernel
theorem d_MO_init_18 : decode b_MO_init 18 = .ok (.putfield 14, 3) := by decide +kernel
theorem d_MO_init_21 : decode b_MO_init 21 = .ok (.aload_n 0, 1) := by decide +kernel
theorem d_MO_init_22 : decode b_MO_init 22 = .ok (.bipush 64, 2) := by decide +kernel
theorem d_MO_init_24 : decode b_MO_init 24 = .ok (.newarray .int, 2) := by decide +kernel
theorem d_MO_init_26 : decode b_MO_init 26 = .ok (.putfield 17, 3) := by decide +kernel
theorem d_MO_init_29 : decode b_MO_init 29 = .ok (.aload_n 0, 1) := by decide +kernel
theorem d_MO_init_30 : decode b_MO_init 30 = .ok (.bipush 64, 2) := by decide +kernel
theorem d_MO_init_32 : decode b_MO_init 32 = .ok (.newarray .int, 2) := by decide +kernel
theorem d_MO_init_34 : decode b_MO_init 34 = .ok (.putfield 21, 3) := by decide +kernel
theorem d_MO_init_37 : decode b_MO_init 37 = .ok (.aload_n 0, 1) := by decide +kernel
theorem d_MO_init_38 : decode b_MO_init 38 = .ok (.bipush 64, 2) := by decide +kernel
theorem d_MO_init_40 : decode b_MO_init 40 = .ok (.newarray .int, 2) := by decide +kernel
theorem d_MO_init_42 : decode b_MO_init 42 = .ok (.putfield 24, 3) := by decide +kernel
theorem d_MO_init_45 : decode b_MO_init 45 = .ok (.aload_n 0, 1) := by decide +kernel
theorem d_MO_init_46 : decode b_MO_init 46 = .ok (.bipush 64, 2) := by decide +kernel
theorem d_MO_init_48 : decode b_MO_init 48 = .ok (.newarray .int, 2) := by decide +kernel
theorem d_MO_init_50 : decode b_MO_init 50 = .ok (.putfield 27, 3) := by decide +kernel
theorem d_MO_init_53 : decode b_MO_init 53 = .ok (.aload_n 0, 1) := by decide +kernel
theorem d_MO_init_54 : decode b_MO_init 54 = .ok (.bipush 64, 2) := by decide +kernel
theorem d_MO_init_56 : decode b_MO_init 56 = .ok (.newarray .int, 2) := by decide +kernel
theorem d_MO_init_58 : decode b_MO_init 58 = .ok (.putfield 30, 3) := by decide +kernel
theorem d_MO_init_61 : decode b_MO_init 61 = .ok (.aload_n 0, 1) := by decide +kernel
theorem d_MO_init_62 : decode b_MO_init 62 = .ok (.bipush 64, 2) := by decide +kernel
theorem d_MO_init_64 : decode b_MO_init 64 = .ok (.newarray .int, 2) := by decide +kernel
theorem d_MO_init_66 : decode b_MO_init 66 = .ok (.putfield 33, 3) := by decide +kernel
theorem d_MO_init_69 : decode b_MO_init 69 = .ok (.aload_n 0, 1) := by decide +kernel
theorem d_MO_init_70 : decode b_MO_init 70 = .ok (.bipush 64, 2) := by decide +kernel
theorem d_MO_init_72 : decode b_MO_init 72 = .ok (.newarray .int, 2) := by decide +kernel
theorem d_MO_init_74 : decode b_MO_init 74 = .ok (.putfield 36, 3) := by decide +kernel
theorem d_MO_init_77 : decode b_MO_init 77 = .ok (.aload_n 0, 1) := by decide +kernel
theorem d_MO_init_78 : decode b_MO_init 78 = .ok (.sipush 8192, 3) := by decide +kernel
theorem d_MO_init_81 : decode b_MO_init 81 = .ok (.newarray .boolean, 2) := by decide +kernel
theorem d_MO_init_83 : decode b_MO_init 83 = .ok (.putfield 39, 3) := by decide +kernel
theorem d_MO_init_86 : decode b_MO_init 86 = .ok (.aload_n 0, 1) := by decide +kernel
theorem d_MO_init_87 : decode b_MO_init 87 = .ok (.ldc 43, 2) := by decide +kernel
theorem d_MO_init_89 : decode b_MO_init 89 = .ok (.newarray .byte, 2) := by decide +kernel
theorem d_MO_init_91 : decode b_MO_init 91 = .ok (.putfield 44, 3) := by decide +kernel
theorem d_MO_init_94 : decode b_MO_init 94 = .ok (.aload_n 0, 1) := by decide +kernel
theorem d_MO_init_95 : decode b_MO_init 95 = .ok (.bipush 64, 2) := by decide +kernel
theorem d_MO_init_97 : decode b_MO_init 97 = .ok (.newarray .long, 2) := by decide +kernel
theorem d_MO_init_99 : decode b_MO_init 99 = .ok (.putfield 47, 3) := by decide +kernel
theorem d_MO_init_102 : decode b_MO_init 102 = .ok (.aload_n 0, 1) := by decide +kernel
theorem d_MO_init_103 : decode b_MO_init 103 = .ok (.bipush 64, 2) := by decide +kernel
theorem d_MO_init_105 : decode b_MO_init 105 = .ok (.newarray .long, 2) := by decide +kernel
theorem d_MO_init_107 : decode b_MO_init 107 = .ok (.putfield 51, 3) := by decide +kernel
theorem d_MO_init_110 : decode b_MO_init 110 = .ok (.aload_n 0, 1) := by decide +kernel
theorem d_MO_init_111 : decode b_MO_init 111 = .ok (.bipush 64, 2) := by decide +kernel
theorem d_MO_init_113 : decode b_MO_init 113 = .ok (.newarray .int, 2) := by decide +kernel
theorem d_MO_init_115 : decode b_MO_init 115 = .ok (.putfield 54, 3) := by decide +kernel
theorem d_MO_init_118 : decode b_MO_init 118 = .ok (.aload_n 0, 1) := by decide +kernel
theorem d_MO_init_119 : decode b_MO_init 119 = .ok (.bipush 64, 2) := by decide +kernel
theorem d_MO_init_121 : decode b_MO_init 121 = .ok (.newarray .boolean, 2) := by decide +kernel
theorem d_MO_init_123 : decode b_MO_init 123 = .ok (.putfield 57, 3) := by decide +kernel
theorem d_MO_init_126 : decode b_MO_init 126 = .ok (.return_, 1) := by decide +kernel
set_option maxRecDepth 100000 in
set_option maxHeartbeats 4000000 in
theorem c_MO_init (l : Launch) (D : va_G) (dA : Nat → ClassId) {w : mw_W} {yo : Nat} (f0 : w yo = some (.inr (cMO, [.int 0, .null, .null, .int 0, .int 0, .null, .null, .null, .null, .null, .null, .null, .int 0, .int 0, .null, .null, .null, .null, .null, .null, .int 0]))) : CT l D dA y_MO_init (Cond.code y_MO_init b_MO_init 1 none :: Ts) 1 20 15 599232 [.ref yo] w (fun r w' => r = .inl none ∧ ∃ A : Nat → Nat, (∀ i, i < 15 → w (A i) = none) ∧ (∀ j, j < 15 → ∀ i, i < j → A i ≠ A j) ∧ w' yo = some (.inr (cMO, mo_F A (nI 0) (nI 0) (nI 0) (nI 0) (nI 0) (nI 0))) ∧ (∀ i, i < 15 → w' (A i) = some (mo_E dA (fun _ _ => 0) (fun _ _ => 0) i)) ∧ ∀ (q : Nat) (z : va_E), w q = some z → q ≠ yo → w' q = some z) := by
  refine mw_meth (by decide) mk_tb (Nat.le_of_ble_eq_true rfl) ?_
  intro p e s m below meth c K hr hlk hce hnm hP0 hSy ls hl
  have hl : lv_has ls 1 [(0, .ref yo)] := hl
  obtain ⟨hx, hb, hml, hown, hts, hK, hTb⟩ := id K
  have hI := mw_I.start hP0
  have hin : meth.name = "<init>" := hnm
  have hF : ∀ (q : Nat) (y : va_E), w q = some y → q ≠ yo → w q = some y := fun q y h1 _ => h1
  refine lv_aload_n hx hb d_MO_init_0 rfl (lv_at hl 0 rfl) ?_
  refine W.objInit hx hb hown (hts _ tw_597) (hts _ tw_43) (hts _ tw_44) rfl (by rw [hml]; exact hl.1) rfl d_MO_init_1 (Nat.le_of_ble_eq_true rfl) (Nat.le_of_ble_eq_true rfl) ?_
  refine W.eq (g2 := F0 m 4 ls []) rfl ?_
  refine lv_aload_n hx hb d_MO_init_4 rfl (lv_at hl 0 rfl) ?_
  refine lv_sipush (v := nI 512) hx hb d_MO_init_5 (by decide) ?_
  refine mw_newa K hI tB (t := .byte) rfl tw_160 rfl (fun C h => by cases h) (a0 := (512, .inl (fun _ => 0))) (fun _ => rfl) (nI_pos (by omega)) (nI_clamp (by omega)) (by show _ * 1 ≤ _; omega) (Nat.le_of_ble_eq_true rfl) (Nat.le_of_ble_eq_true rfl) d_MO_init_8 (fun a0 H hq hI => ?_)
  have hq_a0 := hq
  have hw_a0 : w a0 = none := mw_nn hF f0 hq_a0
  have hI : mw_I D mk_cl w s.heap (mw_up w a0 (.inl (dA tB, 512, .inl (fun _ => 0)))) H _ := hI
  have ne_yo_a0 : yo ≠ a0 := mw_neN f0 hq_a0
  have f0 : (mw_up w a0 (.inl (dA tB, 512, .inl (fun _ => 0)))) yo = some (.inr (cMO, [.int 0, .null, .null, .int 0, .int 0, .null, .null, .null, .null, .null, .null, .null, .int 0, .int 0, .null, .null, .null, .null, .null, .null, .int 0])) := by rw [mw_up_n _ _ (ne_yo_a0)]; exact f0
  have hF : ∀ (q : Nat) (y : va_E), w q = some y → q ≠ yo → (mw_up w a0 (.inl (dA tB, 512, .inl (fun _ => 0)))) q = some y := fun q y h1 h2 => by rw [mw_up_n _ _ (mw_neN h1 hw_a0)]; exact hF q y h1 h2
  have fa0 : (mw_up w a0 (.inl (dA tB, 512, .inl (fun _ => 0)))) a0 = some (.inl (dA tB, 512, .inl (fun _ => 0))) := mw_up_s _ _ _
  generalize (mw_up w a0 (.inl (dA tB, 512, .inl (fun _ => 0)))) = wm1 at hI f0 hF fa0
  refine mw_put K hI gp_MO_7_cMO (Or.inr hin) f0 rfl rfl (by simp) d_MO_init_10 (fun H locs hI => ?_)
  have hI : mw_I D mk_cl w s.heap (mw_up wm1 yo (.inr (cMO, [.int 0, .ref a0, .null, .int 0, .int 0, .null, .null, .null, .null, .null, .null, .null, .int 0, .int 0, .null, .null, .null, .null, .null, .null, .int 0]))) H _ := hI
  have fa0 : (mw_up wm1 yo (.inr (cMO, [.int 0, .ref a0, .null, .int 0, .int 0, .null, .null, .null, .null, .null, .null, .null, .int 0, .int 0, .null, .null, .null, .null, .null, .null, .int 0]))) a0 = some (.inl (dA tB, 512, .inl (fun _ => 0))) := by rw [mw_up_n _ _ ((ne_yo_a0).symm)]; exact fa0
  have hF : ∀ (q : Nat) (y : va_E), w q = some y → q ≠ yo → (mw_up wm1 yo (.inr (cMO, [.int 0, .ref a0, .null, .int 0, .int 0, .null, .null, .null, .null, .null, .null, .null, .int 0, .int 0, .null, .null, .null, .null, .null, .null, .int 0]))) q = some y := fun q y h1 h2 => by rw [mw_up_n _ _ (h2)]; exact hF q y h1 h2
  have f0 : (mw_up wm1 yo (.inr (cMO, [.int 0, .ref a0, .null, .int 0, .int 0, .null, .null, .null, .null, .null, .null, .null, .int 0, .int 0, .null, .null, .null, .null, .null, .null, .int 0]))) yo = some (.inr (cMO, [.int 0, .ref a0, .null, .int 0, .int 0, .null, .null, .null, .null, .null, .null, .null, .int 0, .int 0, .null, .null, .null, .null, .null, .null, .int 0])) := mw_up_s _ _ _
  generalize (mw_up wm1 yo (.inr (cMO, [.int 0, .ref a0, .null, .int 0, .int 0, .null, .null, .null, .null, .null, .null, .null, .int 0, .int 0, .null, .null, .null, .null, .null, .null, .int 0]))) = wm2 at hI fa0 hF f0
  refine lv_aload_n hx hb d_MO_init_13 rfl (lv_at hl 0 rfl) ?_
  refine lv_ldc (v := nI 65536) hx hb hown (hts _ tw_598) d_MO_init_14 ?_
  refine mw_newa K hI tB (t := .byte) rfl tw_160 rfl (fun C h => by cases h) (a0 := (65536, .inl (fun _ => 0))) (fun _ => rfl) (nI_pos (by omega)) (nI_clamp (by omega)) (by show _ * 1 ≤ _; omega) (Nat.le_of_ble_eq_true rfl) (Nat.le_of_ble_eq_true rfl) d_MO_init_16 (fun a1 H hq hI => ?_)
  have hq_a1 := hq
  have hw_a1 : w a1 = none := mw_nn hF f0 hq_a1
  have hI : mw_I D mk_cl w s.heap (mw_up wm2 a1 (.inl (dA tB, 65536, .inl (fun _ => 0)))) H _ := hI
  have ne_yo_a1 : yo ≠ a1 := mw_neN f0 hq_a1
  have f0 : (mw_up wm2 a1 (.inl (dA tB, 65536, .inl (fun _ => 0)))) yo = some (.inr (cMO, [.int 0, .ref a0, .null, .int 0, .int 0, .null, .null, .null, .null, .null, .null, .null, .int 0, .int 0, .null, .null, .null, .null, .null, .null, .int 0])) := by rw [mw_up_n _ _ (ne_yo_a1)]; exact f0
  have ne_a0_a1 : a0 ≠ a1 := mw_neN fa0 hq_a1
  have fa0 : (mw_up wm2 a1 (.inl (dA tB, 65536, .inl (fun _ => 0)))) a0 = some (.inl (dA tB, 512, .inl (fun _ => 0))) := by rw [mw_up_n _ _ (ne_a0_a1)]; exact fa0
  have hF : ∀ (q : Nat) (y : va_E), w q = some y → q ≠ yo → (mw_up wm2 a1 (.inl (dA tB, 65536, .inl (fun _ => 0)))) q = some y := fun q y h1 h2 => by rw [mw_up_n _ _ (mw_neN h1 hw_a1)]; exact hF q y h1 h2
  have fa1 : (mw_up wm2 a1 (.inl (dA tB, 65536, .inl (fun _ => 0)))) a1 = some (.inl (dA tB, 65536, .inl (fun _ => 0))) := mw_up_s _ _ _
  generalize (mw_up wm2 a1 (.inl (dA tB, 65536, .inl (fun _ => 0)))) = wm3 at hI f0 fa0 hF fa1
  refine mw_put K hI gp_MO_14_cMO (Or.inr hin) f0 rfl rfl (by simp) d_MO_init_18 (fun H locs hI => ?_)
  have hI : mw_I D mk_cl w s.heap (mw_up wm3 yo (.inr (cMO, [.int 0, .ref a0, .ref a1, .int 0, .int 0, .null, .null, .null, .null, .null, .null, .null, .int 0, .int 0, .null, .null, .null, .null, .null, .null, .int 0]))) H _ := hI
  have fa0 : (mw_up wm3 yo (.inr (cMO, [.int 0, .ref a0, .ref a1, .int 0, .int 0, .null, .null, .null, .null, .null, .null, .null, .int 0, .int 0, .null, .null, .null, .null, .null, .null, .int 0]))) a0 = some (.inl (dA tB, 512, .inl (fun _ => 0))) := by rw [mw_up_n _ _ ((ne_yo_a0).symm)]; exact fa0
  have fa1 : (mw_up wm3 yo (.inr (cMO, [.int 0, .ref a0, .ref a1, .int 0, .int 0, .null, .null, .null, .null, .null, .null, .null, .int 0, .int 0, .null, .null, .null, .null, .null, .null, .int 0]))) a1 = some (.inl (dA tB, 65536, .inl (fun _ => 0))) := by rw [mw_up_n _ _ ((ne_yo_a1).symm)]; exact fa1
  have hF : ∀ (q : Nat) (y : va_E), w q = some y → q ≠ yo → (mw_up wm3 yo (.inr (cMO, [.int 0, .ref a0, .ref a1, .int 0, .int 0, .null, .null, .null, .null, .null, .null, .null, .int 0, .int 0, .null, .null, .null, .null, .null, .null, .int 0]))) q = some y := fun q y h1 h2 => by rw [mw_up_n _ _ (h2)]; exact hF q y h1 h2
  have f0 : (mw_up wm3 yo (.inr (cMO, [.int 0, .ref a0, .ref a1, .int 0, .int 0, .null, .null, .null, .null, .null, .null, .null, .int 0, .int 0, .null, .null, .null, .null, .null, .null, .int 0]))) yo = some (.inr (cMO, [.int 0, .ref a0, .ref a1, .int 0, .int 0, .null, .null, .null, .null, .null, .null, .null, .int 0, .int 0, .null, .null, .null, .null, .null, .null, .int 0])) := mw_up_s _ _ _
  generalize (mw_up wm3 yo (.inr (cMO, [.int 0, .ref a0, .ref a1, .int 0, .int 0, .null, .null, .null, .null, .null, .null, .null, .int 0, .int 0, .null, .null, .null, .null, .null, .null, .int 0]))) = wm4 at hI fa0 fa1 hF f0
  refine lv_aload_n hx hb d_MO_init_21 rfl (lv_at hl 0 rfl) ?_
  refine lv_bipush (v := nI 64) hx hb d_MO_init_22 (by decide) ?_
  refine mw_newa K hI tI (t := .int) rfl tw_664 rfl (fun C h => by cases h) (a0 := (64, .inl (fun _ => 0))) (fun _ => rfl) (nI_pos (by omega)) (nI_clamp (by omega)) (by show _ * 4 ≤ _; omega) (Nat.le_of_ble_eq_true rfl) (Nat.le_of_ble_eq_true rfl) d_MO_init_24 (fun a2 H hq hI => ?_)
  have hq_a2 := hq
  have hw_a2 : w a2 = none := mw_nn hF f0 hq_a2
  have hI : mw_I D mk_cl w s.heap (mw_up wm4 a2 (.inl (dA tI, 64, .inl (fun _ => 0)))) H _ := hI
  have ne_yo_a2 : yo ≠ a2 := mw_neN f0 hq_a2
  have f0 : (mw_up wm4 a2 (.inl (dA tI, 64, .inl (fun _ => 0)))) yo = some (.inr (cMO, [.int 0, .ref a0, .ref a1, .int 0, .int 0, .null, .null, .null, .null, .null, .null, .null, .int 0, .int 0, .null, .null, .null, .null, .null, .null, .int 0])) := by rw [mw_up_n _ _ (ne_yo_a2)]; exact f0
  have ne_a0_a2 : a0 ≠ a2 := mw_neN fa0 hq_a2
  have fa0 : (mw_up wm4 a2 (.inl (dA tI, 64, .inl (fun _ => 0)))) a0 = some (.inl (dA tB, 512, .inl (fun _ => 0))) := by rw [mw_up_n _ _ (ne_a0_a2)]; exact fa0
  have ne_a1_a2 : a1 ≠ a2 := mw_neN fa1 hq_a2
  have fa1 : (mw_up wm4 a2 (.inl (dA tI, 64, .inl (fun _ => 0)))) a1 = some (.inl (dA tB, 65536, .inl (fun _ => 0))) := by rw [mw_up_n _ _ (ne_a1_a2)]; exact fa1
  have hF : ∀ (q : Nat) (y : va_E), w q = some y → q ≠ yo → (mw_up wm4 a2 (.inl (dA tI, 64, .inl (fun _ => 0)))) q = some y := fun q y h1 h2 => by rw [mw_up_n _ _ (mw_neN h1 hw_a2)]; exact hF q y h1 h2
  have fa2 : (mw_up wm4 a2 (.inl (dA tI, 64, .inl (fun _ => 0)))) a2 = some (.inl (dA tI, 64, .inl (fun _ => 0))) := mw_up_s _ _ _
  generalize (mw_up wm4 a2 (.inl (dA tI, 64, .inl (fun _ => 0)))) = wm5 at hI f0 fa0 fa1 hF fa2
  refine mw_put K hI gp_MO_17_cMO (Or.inr hin) f0 rfl rfl (by simp) d_MO_init_26 (fun H locs hI => ?_)
  have hI : mw_I D mk_cl w s.heap (mw_up wm5 yo (.inr (cMO, [.int 0, .ref a0, .ref a1, .int 0, .int 0, .ref a2, .null, .null, .null, .null, .null, .null, .int 0, .int 0, .null, .null, .null, .null, .null, .null, .int 0]))) H _ := hI
  have fa0 : (mw_up wm5 yo (.inr (cMO, [.int 0, .ref a0, .ref a1, .int 0, .int 0, .ref a2, .null, .null, .null, .null, .null, .null, .int 0, .int 0, .null, .null, .null, .null, .null, .null, .int 0]))) a0 = some (.inl (dA tB, 512, .inl (fun _ => 0))) := by rw [mw_up_n _ _ ((ne_yo_a0).symm)]; exact fa0
  have fa1 : (mw_up wm5 yo (.inr (cMO, [.int 0, .ref a0, .ref a1, .int 0, .int 0, .ref a2, .null, .null, .null, .null, .null, .null, .int 0, .int 0, .null, .null, .null, .null, .null, .null, .int 0]))) a1 = some (.inl (dA tB, 65536, .inl (fun _ => 0))) := by rw [mw_up_n _ _ ((ne_yo_a1).symm)]; exact fa1
  have fa2 : (mw_up wm5 yo (.inr (cMO, [.int 0, .ref a0, .ref a1, .int 0, .int 0, .ref a2, .null, .null, .null, .null, .null, .null, .int 0, .int 0, .null, .null, .null, .null, .null, .null, .int 0]))) a2 = some (.inl (dA tI, 64, .inl (fun _ => 0))) := by rw [mw_up_n _ _ ((ne_yo_a2).symm)]; exact fa2
  have hF : ∀ (q : Nat) (y : va_E), w q = some y → q ≠ yo → (mw_up wm5 yo (.inr (cMO, [.int 0, .ref a0, .ref a1, .int 0, .int 0, .ref a2, .null, .null, .null, .null, .null, .null, .int 0, .int 0, .null, .null, .null, .null, .null, .null, .int 0]))) q = some y := fun q y h1 h2 => by rw [mw_up_n _ _ (h2)]; exact hF q y h1 h2
  have f0 : (mw_up wm5 yo (.inr (cMO, [.int 0, .ref a0, .ref a1, .int 0, .int 0, .ref a2, .null, .null, .null, .null, .null, .null, .int 0, .int 0, .null, .null, .null, .null, .null, .null, .int 0]))) yo = some (.inr (cMO, [.int 0, .ref a0, .ref a1, .int 0, .int 0, .ref a2, .null, .null, .null, .null, .null, .null, .int 0, .int 0, .null, .null, .null, .null, .null, .null, .int 0])) := mw_up_s _ _ _
  generalize (mw_up wm5 yo (.inr (cMO, [.int 0, .ref a0, .ref a1, .int 0, .int 0, .ref a2, .null, .null, .null, .null, .null, .null, .int 0, .int 0, .null, .null, .null, .null, .null, .null, .int 0]))) = wm6 at hI fa0 fa1 fa2 hF f0
  refine lv_aload_n hx hb d_MO_init_29 rfl (lv_at hl 0 rfl) ?_
  refine lv_bipush (v := nI 64) hx hb d_MO_init_30 (by decide) ?_
  refine mw_newa K hI tI (t := .int) rfl tw_664 rfl (fun C h => by cases h) (a0 := (64, .inl (fun _ => 0))) (fun _ => rfl) (nI_pos (by omega)) (nI_clamp (by omega)) (by show _ * 4 ≤ _; omega) (Nat.le_of_ble_eq_true rfl) (Nat.le_of_ble_eq_true rfl) d_MO_init_32 (fun a3 H hq hI => ?_)
  have hq_a3 := hq
  have hw_a3 : w a3 = none := mw_nn hF f0 hq_a3
  have hI : mw_I D mk_cl w s.heap (mw_up wm6 a3 (.inl (dA tI, 64, .inl (fun _ => 0)))) H _ := hI
  have ne_yo_a3 : yo ≠ a3 := mw_neN f0 hq_a3
  have f0 : (mw_up wm6 a3 (.inl (dA tI, 64, .inl (fun _ => 0)))) yo = some (.inr (cMO, [.int 0, .ref a0, .ref a1, .int 0, .int 0, .ref a2, .null, .null, .null, .null, .null, .null, .int 0, .int 0, .null, .null, .null, .null, .null, .null, .int 0])) := by rw [mw_up_n _ _ (ne_yo_a3)]; exact f0
  have ne_a0_a3 : a0 ≠ a3 := mw_neN fa0 hq_a3
  have fa0 : (mw_up wm6 a3 (.inl (dA tI, 64, .inl (fun _ => 0)))) a0 = some (.inl (dA tB, 512, .inl (fun _ => 0))) := by rw [mw_up_n _ _ (ne_a0_a3)]; exact fa0
  have ne_a1_a3 : a1 ≠ a3 := mw_neN fa1 hq_a3
  have fa1 : (mw_up wm6 a3 (.inl (dA tI, 64, .inl (fun _ => 0)))) a1 = some (.inl (dA tB, 65536, .inl (fun _ => 0))) := by rw [mw_up_n _ _ (ne_a1_a3)]; exact fa1
  have ne_a2_a3 : a2 ≠ a3 := mw_neN fa2 hq_a3
  have fa2 : (mw_up wm6 a3 (.inl (dA tI, 64, .inl (fun _ => 0)))) a2 = some (.inl (dA tI, 64, .inl (fun _ => 0))) := by rw [mw_up_n _ _ (ne_a2_a3)]; exact fa2
  have hF : ∀ (q : Nat) (y : va_E), w q = some y → q ≠ yo → (mw_up wm6 a3 (.inl (dA tI, 64, .inl (fun _ => 0)))) q = some y := fun q y h1 h2 => by rw [mw_up_n _ _ (mw_neN h1 hw_a3)]; exact hF q y h1 h2
  have fa3 : (mw_up wm6 a3 (.inl (dA tI, 64, .inl (fun _ => 0)))) a3 = some (.inl (dA tI, 64, .inl (fun _ => 0))) := mw_up_s _ _ _
  generalize (mw_up wm6 a3 (.inl (dA tI, 64, .inl (fun _ => 0)))) = wm7 at hI f0 fa0 fa1 fa2 hF fa3
  refine mw_put K hI gp_MO_21_cMO (Or.inr hin) f0 rfl rfl (by simp) d_MO_init_34 (fun H locs hI => ?_)
  have hI : mw_I D mk_cl w s.heap (mw_up wm7 yo (.inr (cMO, [.int 0, .ref a0, .ref a1, .int 0, .int 0, .ref a2, .ref a3, .null, .null, .null, .null, .null, .int 0, .int 0, .null, .null, .null, .null, .null, .null, .int 0]))) H _ := hI
  have fa0 : (mw_up wm7 yo (.inr (cMO, [.int 0, .ref a0, .ref a1, .int 0, .int 0, .ref a2, .ref a3, .null, .null, .null, .null, .null, .int 0, .int 0, .null, .null, .null, .null, .null, .null, .int 0]))) a0 = some (.inl (dA tB, 512, .inl (fun _ => 0))) := by rw [mw_up_n _ _ ((ne_yo_a0).symm)]; exact fa0
  have fa1 : (mw_up wm7 yo (.inr (cMO, [.int 0, .ref a0, .ref a1, .int 0, .int 0, .ref a2, .ref a3, .null, .null, .null, .null, .null, .int 0, .int 0, .null, .null, .null, .null, .null, .null, .int 0]))) a1 = some (.inl (dA tB, 65536, .inl (fun _ => 0))) := by rw [mw_up_n _ _ ((ne_yo_a1).symm)]; exact fa1
  have fa2 : (mw_up wm7 yo (.inr (cMO, [.int 0, .ref a0, .ref a1, .int 0, .int 0, .ref a2, .ref a3, .null, .null, .null, .null, .null, .int 0, .int 0, .null, .null, .null, .null, .null, .null, .int 0]))) a2 = some (.inl (dA tI, 64, .inl (fun _ => 0))) := by rw [mw_up_n _ _ ((ne_yo_a2).symm)]; exact fa2
  have fa3 : (mw_up wm7 yo (.inr (cMO, [.int 0, .ref a0, .ref a1, .int 0, .int 0, .ref a2, .ref a3, .null, .null, .null, .null, .null, .int 0, .int 0, .null, .null, .null, .null, .null, .null, .int 0]))) a3 = some (.inl (dA tI, 64, .inl (fun _ => 0))) := by rw [mw_up_n _ _ ((ne_yo_a3).symm)]; exact fa3
  have hF : ∀ (q : Nat) (y : va_E), w q = some y → q ≠ yo → (mw_up wm7 yo (.inr (cMO, [.int 0, .ref a0, .ref a1, .int 0, .int 0, .ref a2, .ref a3, .null, .null, .null, .null, .null, .int 0, .int 0, .null, .null, .null, .null, .null, .null, .int 0]))) q = some y := fun q y h1 h2 => by rw [mw_up_n _ _ (h2)]; exact hF q y h1 h2
  have f0 : (mw_up wm7 yo (.inr (cMO, [.int 0, .ref a0, .ref a1, .int 0, .int 0, .ref a2, .ref a3, .null, .null, .null, .null, .null, .int 0, .int 0, .null, .null, .null, .null, .null, .null, .int 0]))) yo = some (.inr (cMO, [.int 0, .ref a0, .ref a1, .int 0, .int 0, .ref a2, .ref a3, .null, .null, .null, .null, .null, .int 0, .int 0, .null, .null, .null, .null, .null, .null, .int 0])) := mw_up_s _ _ _
  generalize (mw_up wm7 yo (.inr (cMO, [.int 0, .ref a0, .ref a1, .int 0, .int 0, .ref a2, .ref a3, .null, .null, .null, .null, .null, .int 0, .int 0, .null, .null, .null, .null, .null, .null, .int 0]))) = wm8 at hI fa0 fa1 fa2 fa3 hF f0
  refine lv_aload_n hx hb d_MO_init_37 rfl (lv_at hl 0 rfl) ?_
  refine lv_bipush (v := nI 64) hx hb d_MO_init_38 (by decide) ?_
  refine mw_newa K hI tI (t := .int) rfl tw_664 rfl (fun C h => by cases h) (a0 := (64, .inl (fun _ => 0))) (fun _ => rfl) (nI_pos (by omega)) (nI_clamp (by omega)) (by show _ * 4 ≤ _; omega) (Nat.le_of_ble_eq_true rfl) (Nat.le_of_ble_eq_true rfl) d_MO_init_40 (fun a4 H hq hI => ?_)
  have hq_a4 := hq
  have hw_a4 : w a4 = none := mw_nn hF f0 hq_a4
  have hI : mw_I D mk_cl w s.heap (mw_up wm8 a4 (.inl (dA tI, 64, .inl (fun _ => 0)))) H _ := hI
  have ne_yo_a4 : yo ≠ a4 := mw_neN f0 hq_a4
  have f0 : (mw_up wm8 a4 (.inl (dA tI, 64, .inl (fun _ => 0)))) yo = some (.inr (cMO, [.int 0, .ref a0, .ref a1, .int 0, .int 0, .ref a2, .ref a3, .null, .null, .null, .null, .null, .int 0, .int 0, .null, .null, .null, .null, .null, .null, .int 0])) := by rw [mw_up_n _ _ (ne_yo_a4)]; exact f0
  have ne_a0_a4 : a0 ≠ a4 := mw_neN fa0 hq_a4
  have fa0 : (mw_up wm8 a4 (.inl (dA tI, 64, .inl (fun _ => 0)))) a0 = some (.inl (dA tB, 512, .inl (fun _ => 0))) := by rw [mw_up_n _ _ (ne_a0_a4)]; exact fa0
  have ne_a1_a4 : a1 ≠ a4 := mw_neN fa1 hq_a4
  have fa1 : (mw_up wm8 a4 (.inl (dA tI, 64, .inl (fun _ => 0)))) a1 = some (.inl (dA tB, 65536, .inl (fun _ => 0))) := by rw [mw_up_n _ _ (ne_a1_a4)]; exact fa1
  have ne_a2_a4 : a2 ≠ a4 := mw_neN fa2 hq_a4
  have fa2 : (mw_up wm8 a4 (.inl (dA tI, 64, .inl (fun _ => 0)))) a2 = some (.inl (dA tI, 64, .inl (fun _ => 0))) := by rw [mw_up_n _ _ (ne_a2_a4)]; exact fa2
  have ne_a3_a4 : a3 ≠ a4 := mw_neN fa3 hq_a4
  have fa3 : (mw_up wm8 a4 (.inl (dA tI, 64, .inl (fun _ => 0)))) a3 = some (.inl (dA tI, 64, .inl (fun _ => 0))) := by rw [mw_up_n _ _ (ne_a3_a4)]; exact fa3
  have hF : ∀ (q : Nat) (y : va_E), w q = some y → q ≠ yo → (mw_up wm8 a4 (.inl (dA tI, 64, .inl (fun _ => 0)))) q = some y := fun q y h1 h2 => by rw [mw_up_n _ _ (mw_neN h1 hw_a4)]; exact hF q y h1 h2
  have fa4 : (mw_up wm8 a4 (.inl (dA tI, 64, .inl (fun _ => 0)))) a4 = some (.inl (dA tI, 64, .inl (fun _ => 0))) := mw_up_s _ _ _
  generalize (mw_up wm8 a4 (.inl (dA tI, 64, .inl (fun _ => 0)))) = wm9 at hI f0 fa0 fa1 fa2 fa3 hF fa4
  refine mw_put K hI gp_MO_24_cMO (Or.inr hin) f0 rfl rfl (by simp) d_MO_init_42 (fun H locs hI => ?_)
  have hI : mw_I D mk_cl w s.heap (mw_up wm9 yo (.inr (cMO, [.int 0, .ref a0, .ref a1, .int 0, .int 0, .ref a2, .ref a3, .ref a4, .null, .null, .null, .null, .int 0, .int 0, .null, .null, .null, .null, .null, .null, .int 0]))) H _ := hI
  have fa0 : (mw_up wm9 yo (.inr (cMO, [.int 0, .ref a0, .ref a1, .int 0, .int 0, .ref a2, .ref a3, .ref a4, .null, .null, .null, .null, .int 0, .int 0, .null, .null, .null, .null, .null, .null, .int 0]))) a0 = some (.inl (dA tB, 512, .inl (fun _ => 0))) := by rw [mw_up_n _ _ ((ne_yo_a0).symm)]; exact fa0
  have fa1 : (mw_up wm9 yo (.inr (cMO, [.int 0, .ref a0, .ref a1, .int 0, .int 0, .ref a2, .ref a3, .ref a4, .null, .null, .null, .null, .int 0, .int 0, .null, .null, .null, .null, .null, .null, .int 0]))) a1 = some (.inl (dA tB, 65536, .inl (fun _ => 0))) := by rw [mw_up_n _ _ ((ne_yo_a1).symm)]; exact fa1
  have fa2 : (mw_up wm9 yo (.inr (cMO, [.int 0, .ref a0, .ref a1, .int 0, .int 0, .ref a2, .ref a3, .ref a4, .null, .null, .null, .null, .int 0, .int 0, .null, .null, .null, .null, .null, .null, .int 0]))) a2 = some (.inl (dA tI, 64, .inl (fun _ => 0))) := by rw [mw_up_n _ _ ((ne_yo_a2).symm)]; exact fa2
  have fa3 : (mw_up wm9 yo (.inr (cMO, [.int 0, .ref a0, .ref a1, .int 0, .int 0, .ref a2, .ref a3, .ref a4, .null, .null, .null, .null, .int 0, .int 0, .null, .null, .null, .null, .null, .null, .int 0]))) a3 = some (.inl (dA tI, 64, .inl (fun _ => 0))) := by rw [mw_up_n _ _ ((ne_yo_a3).symm)]; exact fa3
  have fa4 : (mw_up wm9 yo (.inr (cMO, [.int 0, .ref a0, .ref a1, .int 0, .int 0, .ref a2, .ref a3, .ref a4, .null, .null, .null, .null, .int 0, .int 0, .null, .null, .null, .null, .null, .null, .int 0]))) a4 = some (.inl (dA tI, 64, .inl (fun _ => 0))) := by rw [mw_up_n _ _ ((ne_yo_a4).symm)]; exact fa4
  have hF : ∀ (q : Nat) (y : va_E), w q = some y → q ≠ yo → (mw_up wm9 yo (.inr (cMO, [.int 0, .ref a0, .ref a1, .int 0, .int 0, .ref a2, .ref a3, .ref a4, .null, .null, .null, .null, .int 0, .int 0, .null, .null, .null, .null, .null, .null, .int 0]))) q = some y := fun q y h1 h2 => by rw [mw_up_n _ _ (h2)]; exact hF q y h1 h2
  have f0 : (mw_up wm9 yo (.inr (cMO, [.int 0, .ref a0, .ref a1, .int 0, .int 0, .ref a2, .ref a3, .ref a4, .null, .null, .null, .null, .int 0, .int 0, .null, .null, .null, .null, .null, .null, .int 0]))) yo = some (.inr (cMO, [.int 0, .ref a0, .ref a1, .int 0, .int 0, .ref a2, .ref a3, .ref a4, .null, .null, .null, .null, .int 0, .int 0, .null, .null, .null, .null, .null, .null, .int 0])) := mw_up_s _ _ _
  generalize (mw_up wm9 yo (.inr (cMO, [.int 0, .ref a0, .ref a1, .int 0, .int 0, .ref a2, .ref a3, .ref a4, .null, .null, .null, .null, .int 0, .int 0, .null, .null, .null, .null, .null, .null, .int 0]))) = wm10 at hI fa0 fa1 fa2 fa3 fa4 hF f0
  refine lv_aload_n hx hb d_MO_init_45 rfl (lv_at hl 0 rfl) ?_
  refine lv_bipush (v := nI 64) hx hb d_MO_init_46 (by decide) ?_
  refine mw_newa K hI tI (t := .int) rfl tw_664 rfl (fun C h => by cases h) (a0 := (64, .inl (fun _ => 0))) (fun _ => rfl) (nI_pos (by omega)) (nI_clamp (by omega)) (by show _ * 4 ≤ _; omega) (Nat.le_of_ble_eq_true rfl) (Nat.le_of_ble_eq_true rfl) d_MO_init_48 (fun a5 H hq hI => ?_)
  have hq_a5 := hq
  have hw_a5 : w a5 = none := mw_nn hF f0 hq_a5
  have hI : mw_I D mk_cl w s.heap (mw_up wm10 a5 (.inl (dA tI, 64, .inl (fun _ => 0)))) H _ := hI
  have ne_yo_a5 : yo ≠ a5 := mw_neN f0 hq_a5
  have f0 : (mw_up wm10 a5 (.inl (dA tI, 64, .inl (fun _ => 0)))) yo = some (.inr (cMO, [.int 0, .ref a0, .ref a1, .int 0, .int 0, .ref a2, .ref a3, .ref a4, .null, .null, .null, .null, .int 0, .int 0, .null, .null, .null, .null, .null, .null, .int 0])) := by rw [mw_up_n _ _ (ne_yo_a5)]; exact f0
  have ne_a0_a5 : a0 ≠ a5 := mw_neN fa0 hq_a5
  have fa0 : (mw_up wm10 a5 (.inl (dA tI, 64, .inl (fun _ => 0)))) a0 = some (.inl (dA tB, 512, .inl (fun _ => 0))) := by rw [mw_up_n _ _ (ne_a0_a5)]; exact fa0
  have ne_a1_a5 : a1 ≠ a5 := mw_neN fa1 hq_a5
  have fa1 : (mw_up wm10 a5 (.inl (dA tI, 64, .inl (fun _ => 0)))) a1 = some (.inl (dA tB, 65536, .inl (fun _ => 0))) := by rw [mw_up_n _ _ (ne_a1_a5)]; exact fa1
  have ne_a2_a5 : a2 ≠ a5 := mw_neN fa2 hq_a5
  have fa2 : (mw_up wm10 a5 (.inl (dA tI, 64, .inl (fun _ => 0)))) a2 = some (.inl (dA tI, 64, .inl (fun _ => 0))) := by rw [mw_up_n _ _ (ne_a2_a5)]; exact fa2
  have ne_a3_a5 : a3 ≠ a5 := mw_neN fa3 hq_a5
  have fa3 : (mw_up wm10 a5 (.inl (dA tI, 64, .inl (fun _ => 0)))) a3 = some (.inl (dA tI, 64, .inl (fun _ => 0))) := by rw [mw_up_n _ _ (ne_a3_a5)]; exact fa3
  have ne_a4_a5 : a4 ≠ a5 := mw_neN fa4 hq_a5
  have fa4 : (mw_up wm10 a5 (.inl (dA tI, 64, .inl (fun _ => 0)))) a4 = some (.inl (dA tI, 64, .inl (fun _ => 0))) := by rw [mw_up_n _ _ (ne_a4_a5)]; exact fa4
  have hF : ∀ (q : Nat) (y : va_E), w q = some y → q ≠ yo → (mw_up wm10 a5 (.inl (dA tI, 64, .inl (fun _ => 0)))) q = some y := fun q y h1 h2 => by rw [mw_up_n _ _ (mw_neN h1 hw_a5)]; exact hF q y h1 h2
  have fa5 : (mw_up wm10 a5 (.inl (dA tI, 64, .inl (fun _ => 0)))) a5 = some (.inl (dA tI, 64, .inl (fun _ => 0))) := mw_up_s _ _ _
  generalize (mw_up wm10 a5 (.inl (dA tI, 64, .inl (fun _ => 0)))) = wm11 at hI f0 fa0 fa1 fa2 fa3 fa4 hF fa5
  refine mw_put K hI gp_MO_27_cMO (Or.inr hin) f0 rfl rfl (by simp) d_MO_init_50 (fun H locs hI => ?_)
  have hI : mw_I D mk_cl w s.heap (mw_up wm11 yo (.inr (cMO, [.int 0, .ref a0, .ref a1, .int 0, .int 0, .ref a2, .ref a3, .ref a4, .ref a5, .null, .null, .null, .int 0, .int 0, .null, .null, .null, .null, .null, .null, .int 0]))) H _ := hI
  have fa0 : (mw_up wm11 yo (.inr (cMO, [.int 0, .ref a0, .ref a1, .int 0, .int 0, .ref a2, .ref a3, .ref a4, .ref a5, .null, .null, .null, .int 0, .int 0, .null, .null, .null, .null, .null, .null, .int 0]))) a0 = some (.inl (dA tB, 512, .inl (fun _ => 0))) := by rw [mw_up_n _ _ ((ne_yo_a0).symm)]; exact fa0
  have fa1 : (mw_up wm11 yo (.inr (cMO, [.int 0, .ref a0, .ref a1, .int 0, .int 0, .ref a2, .ref a3, .ref a4, .ref a5, .null, .null, .null, .int 0, .int 0, .null, .null, .null, .null, .null, .null, .int 0]))) a1 = some (.inl (dA tB, 65536, .inl (fun _ => 0))) := by rw [mw_up_n _ _ ((ne_yo_a1).symm)]; exact fa1
  have fa2 : (mw_up wm11 yo (.inr (cMO, [.int 0, .ref a0, .ref a1, .int 0, .int 0, .ref a2, .ref a3, .ref a4, .ref a5, .null, .null, .null, .int 0, .int 0, .null, .null, .null, .null, .null, .null, .int 0]))) a2 = some (.inl (dA tI, 64, .inl (fun _ => 0))) := by rw [mw_up_n _ _ ((ne_yo_a2).symm)]; exact fa2
  have fa3 : (mw_up wm11 yo (.inr (cMO, [.int 0, .ref a0, .ref a1, .int 0, .int 0, .ref a2, .ref a3, .ref a4, .ref a5, .null, .null, .null, .int 0, .int 0, .null, .null, .null, .null, .null, .null, .int 0]))) a3 = some (.inl (dA tI, 64, .inl (fun _ => 0))) := by rw [mw_up_n _ _ ((ne_yo_a3).symm)]; exact fa3
  have fa4 : (mw_up wm11 yo (.inr (cMO, [.int 0, .ref a0, .ref a1, .int 0, .int 0, .ref a2, .ref a3, .ref a4, .ref a5, .null, .null, .null, .int 0, .int 0, .null, .null, .null, .null, .null, .null, .int 0]))) a4 = some (.inl (dA tI, 64, .inl (fun _ => 0))) := by rw [mw_up_n _ _ ((ne_yo_a4).symm)]; exact fa4
  have fa5 : (mw_up wm11 yo (.inr (cMO, [.int 0, .ref a0, .ref a1, .int 0, .int 0, .ref a2, .ref a3, .ref a4, .ref a5, .null, .null, .null, .int 0, .int 0, .null, .null, .null, .null, .null, .null, .int 0]))) a5 = some (.inl (dA tI, 64, .inl (fun _ => 0))) := by rw [mw_up_n _ _ ((ne_yo_a5).symm)]; exact fa5
  have hF : ∀ (q : Nat) (y : va_E), w q = some y → q ≠ yo → (mw_up wm11 yo (.inr (cMO, [.int 0, .ref a0, .ref a1, .int 0, .int 0, .ref a2, .ref a3, .ref a4, .ref a5, .null, .null, .null, .int 0, .int 0, .null, .null, .null, .null, .null, .null, .int 0]))) q = some y := fun q y h1 h2 => by rw [mw_up_n _ _ (h2)]; exact hF q y h1 h2
  have f0 : (mw_up wm11 yo (.inr (cMO, [.int 0, .ref a0, .ref a1, .int 0, .int 0, .ref a2, .ref a3, .ref a4, .ref a5, .null, .null, .null, .int 0, .int 0, .null, .null, .null, .null, .null, .null, .int 0]))) yo = some (.inr (cMO, [.int 0, .ref a0, .ref a1, .int 0, .int 0, .ref a2, .ref a3, .ref a4, .ref a5, .null, .null, .null, .int 0, .int 0, .null, .null, .null, .null, .null, .null, .int 0])) := mw_up_s _ _ _
  generalize (mw_up wm11 yo (.inr (cMO, [.int 0, .ref a0, .ref a1, .int 0, .int 0, .ref a2, .ref a3, .ref a4, .ref a5, .null, .null, .null, .int 0, .int 0, .null, .null, .null, .null, .null, .null, .int 0]))) = wm12 at hI fa0 fa1 fa2 fa3 fa4 fa5 hF f0
  refine lv_aload_n hx hb d_MO_init_53 rfl (lv_at hl 0 rfl) ?_
  refine lv_bipush (v := nI 64) hx hb d_MO_init_54 (by decide) ?_
  refine mw_newa K hI tI (t := .int) rfl tw_664 rfl (fun C h => by cases h) (a0 := (64, .inl (fun _ => 0))) (fun _ => rfl) (nI_pos (by omega)) (nI_clamp (by omega)) (by show _ * 4 ≤ _; omega) (Nat.le_of_ble_eq_true rfl) (Nat.le_of_ble_eq_true rfl) d_MO_init_56 (fun a6 H hq hI => ?_)
  have hq_a6 := hq
  have hw_a6 : w a6 = none := mw_nn hF f0 hq_a6
  have hI : mw_I D mk_cl w s.heap (mw_up wm12 a6 (.inl (dA tI, 64, .inl (fun _ => 0)))) H _ := hI
  have ne_yo_a6 : yo ≠ a6 := mw_neN f0 hq_a6
  have f0 : (mw_up wm12 a6 (.inl (dA tI, 64, .inl (fun _ => 0)))) yo = some (.inr (cMO, [.int 0, .ref a0, .ref a1, .int 0, .int 0, .ref a2, .ref a3, .ref a4, .ref a5, .null, .null, .null, .int 0, .int 0, .null, .null, .null, .null, .null, .null, .int 0])) := by rw [mw_up_n _ _ (ne_yo_a6)]; exact f0
  have ne_a0_a6 : a0 ≠ a6 := mw_neN fa0 hq_a6
  have fa0 : (mw_up wm12 a6 (.inl (dA tI, 64, .inl (fun _ => 0)))) a0 = some (.inl (dA tB, 512, .inl (fun _ => 0))) := by rw [mw_up_n _ _ (ne_a0_a6)]; exact fa0
  have ne_a1_a6 : a1 ≠ a6 := mw_neN fa1 hq_a6
  have fa1 : (mw_up wm12 a6 (.inl (dA tI, 64, .inl (fun _ => 0)))) a1 = some (.inl (dA tB, 65536, .inl (fun _ => 0))) := by rw [mw_up_n _ _ (ne_a1_a6)]; exact fa1
  have ne_a2_a6 : a2 ≠ a6 := mw_neN fa2 hq_a6
  have fa2 : (mw_up wm12 a6 (.inl (dA tI, 64, .inl (fun _ => 0)))) a2 = some (.inl (dA tI, 64, .inl (fun _ => 0))) := by rw [mw_up_n _ _ (ne_a2_a6)]; exact fa2
  have ne_a3_a6 : a3 ≠ a6 := mw_neN fa3 hq_a6
  have fa3 : (mw_up wm12 a6 (.inl (dA tI, 64, .inl (fun _ => 0)))) a3 = some (.inl (dA tI, 64, .inl (fun _ => 0))) := by rw [mw_up_n _ _ (ne_a3_a6)]; exact fa3
  have ne_a4_a6 : a4 ≠ a6 := mw_neN fa4 hq_a6
  have fa4 : (mw_up wm12 a6 (.inl (dA tI, 64, .inl (fun _ => 0)))) a4 = some (.inl (dA tI, 64, .inl (fun _ => 0))) := by rw [mw_up_n _ _ (ne_a4_a6)]; exact fa4
  have ne_a5_a6 : a5 ≠ a6 := mw_neN fa5 hq_a6
  have fa5 : (mw_up wm12 a6 (.inl (dA tI, 64, .inl (fun _ => 0)))) a5 = some (.inl (dA tI, 64, .inl (fun _ => 0))) := by rw [mw_up_n _ _ (ne_a5_a6)]; exact fa5
  have hF : ∀ (q : Nat) (y : va_E), w q = some y → q ≠ yo → (mw_up wm12 a6 (.inl (dA tI, 64, .inl (fun _ => 0)))) q = some y := fun q y h1 h2 => by rw [mw_up_n _ _ (mw_neN h1 hw_a6)]; exact hF q y h1 h2
  have fa6 : (mw_up wm12 a6 (.inl (dA tI, 64, .inl (fun _ => 0)))) a6 = some (.inl (dA tI, 64, .inl (fun _ => 0))) := mw_up_s _ _ _
  generalize (mw_up wm12 a6 (.inl (dA tI, 64, .inl (fun _ => 0)))) = wm13 at hI f0 fa0 fa1 fa2 fa3 fa4 fa5 hF fa6
  refine mw_put K hI gp_MO_30_cMO (Or.inr hin) f0 rfl rfl (by simp) d_MO_init_58 (fun H locs hI => ?_)
  have hI : mw_I D mk_cl w s.heap (mw_up wm13 yo (.inr (cMO, [.int 0, .ref a0, .ref a1, .int 0, .int 0, .ref a2, .ref a3, .ref a4, .ref a5, .ref a6, .null, .null, .int 0, .int 0, .null, .null, .null, .null, .null, .null, .int 0]))) H _ := hI
  have fa0 : (mw_up wm13 yo (.inr (cMO, [.int 0, .ref a0, .ref a1, .int 0, .int 0, .ref a2, .ref a3, .ref a4, .ref a5, .ref a6, .null, .null, .int 0, .int 0, .null, .null, .null, .null, .null, .null, .int 0]))) a0 = some (.inl (dA tB, 512, .inl (fun _ => 0))) := by rw [mw_up_n _ _ ((ne_yo_a0).symm)]; exact fa0
  have fa1 : (mw_up wm13 yo (.inr (cMO, [.int 0, .ref a0, .ref a1, .int 0, .int 0, .ref a2, .ref a3, .ref a4, .ref a5, .ref a6, .null, .null, .int 0, .int 0, .null, .null, .null, .null, .null, .null, .int 0]))) a1 = some (.inl (dA tB, 65536, .inl (fun _ => 0))) := by rw [mw_up_n _ _ ((ne_yo_a1).symm)]; exact fa1
  have fa2 : (mw_up wm13 yo (.inr (cMO, [.int 0, .ref a0, .ref a1, .int 0, .int 0, .ref a2, .ref a3, .ref a4, .ref a5, .ref a6, .null, .null, .int 0, .int 0, .null, .null, .null, .null, .null, .null, .int 0]))) a2 = some (.inl (dA tI, 64, .inl (fun _ => 0))) := by rw [mw_up_n _ _ ((ne_yo_a2).symm)]; exact fa2
  have fa3 : (mw_up wm13 yo (.inr (cMO, [.int 0, .ref a0, .ref a1, .int 0, .int 0, .ref a2, .ref a3, .ref a4, .ref a5, .ref a6, .null, .null, .int 0, .int 0, .null, .null, .null, .null, .null, .null, .int 0]))) a3 = some (.inl (dA tI, 64, .inl (fun _ => 0))) := by rw [mw_up_n _ _ ((ne_yo_a3).symm)]; exact fa3
  have fa4 : (mw_up wm13 yo (.inr (cMO, [.int 0, .ref a0, .ref a1, .int 0, .int 0, .ref a2, .ref a3, .ref a4, .ref a5, .ref a6, .null, .null, .int 0, .int 0, .null, .null, .null, .null, .null, .null, .int 0]))) a4 = some (.inl (dA tI, 64, .inl (fun _ => 0))) := by rw [mw_up_n _ _ ((ne_yo_a4).symm)]; exact fa4
  have fa5 : (mw_up wm13 yo (.inr (cMO, [.int 0, .ref a0, .ref a1, .int 0, .int 0, .ref a2, .ref a3, .ref a4, .ref a5, .ref a6, .null, .null, .int 0, .int 0, .null, .null, .null, .null, .null, .null, .int 0]))) a5 = some (.inl (dA tI, 64, .inl (fun _ => 0))) := by rw [mw_up_n _ _ ((ne_yo_a5).symm)]; exact fa5
  have fa6 : (mw_up wm13 yo (.inr (cMO, [.int 0, .ref a0, .ref a1, .int 0, .int 0, .ref a2, .ref a3, .ref a4, .ref a5, .ref a6, .null, .null, .int 0, .int 0, .null, .null, .null, .null, .null, .null, .int 0]))) a6 = some (.inl (dA tI, 64, .inl (fun _ => 0))) := by rw [mw_up_n _ _ ((ne_yo_a6).symm)]; exact fa6
  have hF : ∀ (q : Nat) (y : va_E), w q = some y → q ≠ yo → (mw_up wm13 yo (.inr (cMO, [.int 0, .ref a0, .ref a1, .int 0, .int 0, .ref a2, .ref a3, .ref a4, .ref a5, .ref a6, .null, .null, .int 0, .int 0, .null, .null, .null, .null, .null, .null, .int 0]))) q = some y := fun q y h1 h2 => by rw [mw_up_n _ _ (h2)]; exact hF q y h1 h2
  have f0 : (mw_up wm13 yo (.inr (cMO, [.int 0, .ref a0, .ref a1, .int 0, .int 0, .ref a2, .ref a3, .ref a4, .ref a5, .ref a6, .null, .null, .int 0, .int 0, .null, .null, .null, .null, .null, .null, .int 0]))) yo = some (.inr (cMO, [.int 0, .ref a0, .ref a1, .int 0, .int 0, .ref a2, .ref a3, .ref a4, .ref a5, .ref a6, .null, .null, .int 0, .int 0, .null, .null, .null, .null, .null, .null, .int 0])) := mw_up_s _ _ _
  generalize (mw_up wm13 yo (.inr (cMO, [.int 0, .ref a0, .ref a1, .int 0, .int 0, .ref a2, .ref a3, .ref a4, .ref a5, .ref a6, .null, .null, .int 0, .int 0, .null, .null, .null, .null, .null, .null, .int 0]))) = wm14 at hI fa0 fa1 fa2 fa3 fa4 fa5 fa6 hF f0
  refine lv_aload_n hx hb d_MO_init_61 rfl (lv_at hl 0 rfl) ?_
  refine lv_bipush (v := nI 64) hx hb d_MO_init_62 (by decide) ?_
  refine mw_newa K hI tI (t := .int) rfl tw_664 rfl (fun C h => by cases h) (a0 := (64, .inl (fun _ => 0))) (fun _ => rfl) (nI_pos (by omega)) (nI_clamp (by omega)) (by show _ * 4 ≤ _; omega) (Nat.le_of_ble_eq_true rfl) (Nat.le_of_ble_eq_true rfl) d_MO_init_64 (fun a7 H hq hI => ?_)
  have hq_a7 := hq
  have hw_a7 : w a7 = none := mw_nn hF f0 hq_a7
  have hI : mw_I D mk_cl w s.heap (mw_up wm14 a7 (.inl (dA tI, 64, .inl (fun _ => 0)))) H _ := hI
  have ne_yo_a7 : yo ≠ a7 := mw_neN f0 hq_a7
  have f0 : (mw_up wm14 a7 (.inl (dA tI, 64, .inl (fun _ => 0)))) yo = some (.inr (cMO, [.int 0, .ref a0, .ref a1, .int 0, .int 0, .ref a2, .ref a3, .ref a4, .ref a5, .ref a6, .null, .null, .int 0, .int 0, .null, .null, .null, .null, .null, .null, .int 0])) := by rw [mw_up_n _ _ (ne_yo_a7)]; exact f0
  have ne_a0_a7 : a0 ≠ a7 := mw_neN fa0 hq_a7
  have fa0 : (mw_up wm14 a7 (.inl (dA tI, 64, .inl (fun _ => 0)))) a0 = some (.inl (dA tB, 512, .inl (fun _ => 0))) := by rw [mw_up_n _ _ (ne_a0_a7)]; exact fa0
  have ne_a1_a7 : a1 ≠ a7 := mw_neN fa1 hq_a7
  have fa1 : (mw_up wm14 a7 (.inl (dA tI, 64, .inl (fun _ => 0)))) a1 = some (.inl (dA tB, 65536, .inl (fun _ => 0))) := by rw [mw_up_n _ _ (ne_a1_a7)]; exact fa1
  have ne_a2_a7 : a2 ≠ a7 := mw_neN fa2 hq_a7
  have fa2 : (mw_up wm14 a7 (.inl (dA tI, 64, .inl (fun _ => 0)))) a2 = some (.inl (dA tI, 64, .inl (fun _ => 0))) := by rw [mw_up_n _ _ (ne_a2_a7)]; exact fa2
  have ne_a3_a7 : a3 ≠ a7 := mw_neN fa3 hq_a7
  have fa3 : (mw_up wm14 a7 (.inl (dA tI, 64, .inl (fun _ => 0)))) a3 = some (.inl (dA tI, 64, .inl (fun _ => 0))) := by rw [mw_up_n _ _ (ne_a3_a7)]; exact fa3
  have ne_a4_a7 : a4 ≠ a7 := mw_neN fa4 hq_a7
  have fa4 : (mw_up wm14 a7 (.inl (dA tI, 64, .inl (fun _ => 0)))) a4 = some (.inl (dA tI, 64, .inl (fun _ => 0))) := by rw [mw_up_n _ _ (ne_a4_a7)]; exact fa4
  have ne_a5_a7 : a5 ≠ a7 := mw_neN fa5 hq_a7
  have fa5 : (mw_up wm14 a7 (.inl (dA tI, 64, .inl (fun _ => 0)))) a5 = some (.inl (dA tI, 64, .inl (fun _ => 0))) := by rw [mw_up_n _ _ (ne_a5_a7)]; exact fa5
  have ne_a6_a7 : a6 ≠ a7 := mw_neN fa6 hq_a7
  have fa6 : (mw_up wm14 a7 (.inl (dA tI, 64, .inl (fun _ => 0)))) a6 = some (.inl (dA tI, 64, .inl (fun _ => 0))) := by rw [mw_up_n _ _ (ne_a6_a7)]; exact fa6
  have hF : ∀ (q : Nat) (y : va_E), w q = some y → q ≠ yo → (mw_up wm14 a7 (.inl (dA tI, 64, .inl (fun _ => 0)))) q = some y := fun q y h1 h2 => by rw [mw_up_n _ _ (mw_neN h1 hw_a7)]; exact hF q y h1 h2
  have fa7 : (mw_up wm14 a7 (.inl (dA tI, 64, .inl (fun _ => 0)))) a7 = some (.inl (dA tI, 64, .inl (fun _ => 0))) := mw_up_s _ _ _
  generalize (mw_up wm14 a7 (.inl (dA tI, 64, .inl (fun _ => 0)))) = wm15 at hI f0 fa0 fa1 fa2 fa3 fa4 fa5 fa6 hF fa7
  refine mw_put K hI gp_MO_33_cMO (Or.inr hin) f0 rfl rfl (by simp) d_MO_init_66 (fun H locs hI => ?_)
  have hI : mw_I D mk_cl w s.heap (mw_up wm15 yo (.inr (cMO, [.int 0, .ref a0, .ref a1, .int 0, .int 0, .ref a2, .ref a3, .ref a4, .ref a5, .ref a6, .ref a7, .null, .int 0, .int 0, .null, .null, .null, .null, .null, .null, .int 0]))) H _ := hI
  have fa0 : (mw_up wm15 yo (.inr (cMO, [.int 0, .ref a0, .ref a1, .int 0, .int 0, .ref a2, .ref a3, .ref a4, .ref a5, .ref a6, .ref a7, .null, .int 0, .int 0, .null, .null, .null, .null, .null, .null, .int 0]))) a0 = some (.inl (dA tB, 512, .inl (fun _ => 0))) := by rw [mw_up_n _ _ ((ne_yo_a0).symm)]; exact fa0
  have fa1 : (mw_up wm15 yo (.inr (cMO, [.int 0, .ref a0, .ref a1, .int 0, .int 0, .ref a2, .ref a3, .ref a4, .ref a5, .ref a6, .ref a7, .null, .int 0, .int 0, .null, .null, .null, .null, .null, .null, .int 0]))) a1 = some (.inl (dA tB, 65536, .inl (fun _ => 0))) := by rw [mw_up_n _ _ ((ne_yo_a1).symm)]; exact fa1
  have fa2 : (mw_up wm15 yo (.inr (cMO, [.int 0, .ref a0, .ref a1, .int 0, .int 0, .ref a2, .ref a3, .ref a4, .ref a5, .ref a6, .ref a7, .null, .int 0, .int 0, .null, .null, .null, .null, .null, .null, .int 0]))) a2 = some (.inl (dA tI, 64, .inl (fun _ => 0))) := by rw [mw_up_n _ _ ((ne_yo_a2).symm)]; exact fa2
  have fa3 : (mw_up wm15 yo (.inr (cMO, [.int 0, .ref a0, .ref a1, .int 0, .int 0, .ref a2, .ref a3, .ref a4, .ref a5, .ref a6, .ref a7, .null, .int 0, .int 0, .null, .null, .null, .null, .null, .null, .int 0]))) a3 = some (.inl (dA tI, 64, .inl (fun _ => 0))) := by rw [mw_up_n _ _ ((ne_yo_a3).symm)]; exact fa3
  have fa4 : (mw_up wm15 yo (.inr (cMO, [.int 0, .ref a0, .ref a1, .int 0, .int 0, .ref a2, .ref a3, .ref a4, .ref a5, .ref a6, .ref a7, .null, .int 0, .int 0, .null, .null, .null, .null, .null, .null, .int 0]))) a4 = some (.inl (dA tI, 64, .inl (fun _ => 0))) := by rw [mw_up_n _ _ ((ne_yo_a4).symm)]; exact fa4
  have fa5 : (mw_up wm15 yo (.inr (cMO, [.int 0, .ref a0, .ref a1, .int 0, .int 0, .ref a2, .ref a3, .ref a4, .ref a5, .ref a6, .ref a7, .null, .int 0, .int 0, .null, .null, .null, .null, .null, .null, .int 0]))) a5 = some (.inl (dA tI, 64, .inl (fun _ => 0))) := by rw [mw_up_n _ _ ((ne_yo_a5).symm)]; exact fa5
  have fa6 : (mw_up wm15 yo (.inr (cMO, [.int 0, .ref a0, .ref a1, .int 0, .int 0, .ref a2, .ref a3, .ref a4, .ref a5, .ref a6, .ref a7, .null, .int 0, .int 0, .null, .null, .null, .null, .null, .null, .int 0]))) a6 = some (.inl (dA tI, 64, .inl (fun _ => 0))) := by rw [mw_up_n _ _ ((ne_yo_a6).symm)]; exact fa6
  have fa7 : (mw_up wm15 yo (.inr (cMO, [.int 0, .ref a0, .ref a1, .int 0, .int 0, .ref a2, .ref a3, .ref a4, .ref a5, .ref a6, .ref a7, .null, .int 0, .int 0, .null, .null, .null, .null, .null, .null, .int 0]))) a7 = some (.inl (dA tI, 64, .inl (fun _ => 0))) := by rw [mw_up_n _ _ ((ne_yo_a7).symm)]; exact fa7
  have hF : ∀ (q : Nat) (y : va_E), w q = some y → q ≠ yo → (mw_up wm15 yo (.inr (cMO, [.int 0, .ref a0, .ref a1, .int 0, .int 0, .ref a2, .ref a3, .ref a4, .ref a5, .ref a6, .ref a7, .null, .int 0, .int 0, .null, .null, .null, .null, .null, .null, .int 0]))) q = some y := fun q y h1 h2 => by rw [mw_up_n _ _ (h2)]; exact hF q y h1 h2
  have f0 : (mw_up wm15 yo (.inr (cMO, [.int 0, .ref a0, .ref a1, .int 0, .int 0, .ref a2, .ref a3, .ref a4, .ref a5, .ref a6, .ref a7, .null, .int 0, .int 0, .null, .null, .null, .null, .null, .null, .int 0]))) yo = some (.inr (cMO, [.int 0, .ref a0, .ref a1, .int 0, .int 0, .ref a2, .ref a3, .ref a4, .ref a5, .ref a6, .ref a7, .null, .int 0, .int 0, .null, .null, .null, .null, .null, .null, .int 0])) := mw_up_s _ _ _
  generalize (mw_up wm15 yo (.inr (cMO, [.int 0, .ref a0, .ref a1, .int 0, .int 0, .ref a2, .ref a3, .ref a4, .ref a5, .ref a6, .ref a7, .null, .int 0, .int 0, .null, .null, .null, .null, .null, .null, .int 0]))) = wm16 at hI fa0 fa1 fa2 fa3 fa4 fa5 fa6 fa7 hF f0
  refine lv_aload_n hx hb d_MO_init_69 rfl (lv_at hl 0 rfl) ?_
  refine lv_bipush (v := nI 64) hx hb d_MO_init_70 (by decide) ?_
  refine mw_newa K hI tI (t := .int) rfl tw_664 rfl (fun C h => by cases h) (a0 := (64, .inl (fun _ => 0))) (fun _ => rfl) (nI_pos (by omega)) (nI_clamp (by omega)) (by show _ * 4 ≤ _; omega) (Nat.le_of_ble_eq_true rfl) (Nat.le_of_ble_eq_true rfl) d_MO_init_72 (fun a8 H hq hI => ?_)
  have hq_a8 := hq
  have hw_a8 : w a8 = none := mw_nn hF f0 hq_a8
  have hI : mw_I D mk_cl w s.heap (mw_up wm16 a8 (.inl (dA tI, 64, .inl (fun _ => 0)))) H _ := hI
  have ne_yo_a8 : yo ≠ a8 := mw_neN f0 hq_a8
  have f0 : (mw_up wm16 a8 (.inl (dA tI, 64, .inl (fun _ => 0)))) yo = some (.inr (cMO, [.int 0, .ref a0, .ref a1, .int 0, .int 0, .ref a2, .ref a3, .ref a4, .ref a5, .ref a6, .ref a7, .null, .int 0, .int 0, .null, .null, .null, .null, .null, .null, .int 0])) := by rw [mw_up_n _ _ (ne_yo_a8)]; exact f0
  have ne_a0_a8 : a0 ≠ a8 := mw_neN fa0 hq_a8
  have fa0 : (mw_up wm16 a8 (.inl (dA tI, 64, .inl (fun _ => 0)))) a0 = some (.inl (dA tB, 512, .inl (fun _ => 0))) := by rw [mw_up_n _ _ (ne_a0_a8)]; exact fa0
  have ne_a1_a8 : a1 ≠ a8 := mw_neN fa1 hq_a8
  have fa1 : (mw_up wm16 a8 (.inl (dA tI, 64, .inl (fun _ => 0)))) a1 = some (.inl (dA tB, 65536, .inl (fun _ => 0))) := by rw [mw_up_n _ _ (ne_a1_a8)]; exact fa1
  have ne_a2_a8 : a2 ≠ a8 := mw_neN fa2 hq_a8
  have fa2 : (mw_up wm16 a8 (.inl (dA tI, 64, .inl (fun _ => 0)))) a2 = some (.inl (dA tI, 64, .inl (fun _ => 0))) := by rw [mw_up_n _ _ (ne_a2_a8)]; exact fa2
  have ne_a3_a8 : a3 ≠ a8 := mw_neN fa3 hq_a8
  have fa3 : (mw_up wm16 a8 (.inl (dA tI, 64, .inl (fun _ => 0)))) a3 = some (.inl (dA tI, 64, .inl (fun _ => 0))) := by rw [mw_up_n _ _ (ne_a3_a8)]; exact fa3
  have ne_a4_a8 : a4 ≠ a8 := mw_neN fa4 hq_a8
  have fa4 : (mw_up wm16 a8 (.inl (dA tI, 64, .inl (fun _ => 0)))) a4 = some (.inl (dA tI, 64, .inl (fun _ => 0))) := by rw [mw_up_n _ _ (ne_a4_a8)]; exact fa4
  have ne_a5_a8 : a5 ≠ a8 := mw_neN fa5 hq_a8
  have fa5 : (mw_up wm16 a8 (.inl (dA tI, 64, .inl (fun _ => 0)))) a5 = some (.inl (dA tI, 64, .inl (fun _ => 0))) := by rw [mw_up_n _ _ (ne_a5_a8)]; exact fa5
  have ne_a6_a8 : a6 ≠ a8 := mw_neN fa6 hq_a8
  have fa6 : (mw_up wm16 a8 (.inl (dA tI, 64, .inl (fun _ => 0)))) a6 = some (.inl (dA tI, 64, .inl (fun _ => 0))) := by rw [mw_up_n _ _ (ne_a6_a8)]; exact fa6
  have ne_a7_a8 : a7 ≠ a8 := mw_neN fa7 hq_a8
  have fa7 : (mw_up wm16 a8 (.inl (dA tI, 64, .inl (fun _ => 0)))) a7 = some (.inl (dA tI, 64, .inl (fun _ => 0))) := by rw [mw_up_n _ _ (ne_a7_a8)]; exact fa7
  have hF : ∀ (q : Nat) (y : va_E), w q = some y → q ≠ yo → (mw_up wm16 a8 (.inl (dA tI, 64, .inl (fun _ => 0)))) q = some y := fun q y h1 h2 => by rw [mw_up_n _ _ (mw_neN h1 hw_a8)]; exact hF q y h1 h2
  have fa8 : (mw_up wm16 a8 (.inl (dA tI, 64, .inl (fun _ => 0)))) a8 = some (.inl (dA tI, 64, .inl (fun _ => 0))) := mw_up_s _ _ _
  generalize (mw_up wm16 a8 (.inl (dA tI, 64, .inl (fun _ => 0)))) = wm17 at hI f0 fa0 fa1 fa2 fa3 fa4 fa5 fa6 fa7 hF fa8
  refine mw_put K hI gp_MO_36_cMO (Or.inr hin) f0 rfl rfl (by simp) d_MO_init_74 (fun H locs hI => ?_)
  have hI : mw_I D mk_cl w s.heap (mw_up wm17 yo (.inr (cMO, [.int 0, .ref a0, .ref a1, .int 0, .int 0, .ref a2, .ref a3, .ref a4, .ref a5, .ref a6, .ref a7, .ref a8, .int 0, .int 0, .null, .null, .null, .null, .null, .null, .int 0]))) H _ := hI
  have fa0 : (mw_up wm17 yo (.inr (cMO, [.int 0, .ref a0, .ref a1, .int 0, .int 0, .ref a2, .ref a3, .ref a4, .ref a5, .ref a6, .ref a7, .ref a8, .int 0, .int 0, .null, .null, .null, .null, .null, .null, .int 0]))) a0 = some (.inl (dA tB, 512, .inl (fun _ => 0))) := by rw [mw_up_n _ _ ((ne_yo_a0).symm)]; exact fa0
  have fa1 : (mw_up wm17 yo (.inr (cMO, [.int 0, .ref a0, .ref a1, .int 0, .int 0, .ref a2, .ref a3, .ref a4, .ref a5, .ref a6, .ref a7, .ref a8, .int 0, .int 0, .null, .null, .null, .null, .null, .null, .int 0]))) a1 = some (.inl (dA tB, 65536, .inl (fun _ => 0))) := by rw [mw_up_n _ _ ((ne_yo_a1).symm)]; exact fa1
  have fa2 : (mw_up wm17 yo (.inr (cMO, [.int 0, .ref a0, .ref a1, .int 0, .int 0, .ref a2, .ref a3, .ref a4, .ref a5, .ref a6, .ref a7, .ref a8, .int 0, .int 0, .null, .null, .null, .null, .null, .null, .int 0]))) a2 = some (.inl (dA tI, 64, .inl (fun _ => 0))) := by rw [mw_up_n _ _ ((ne_yo_a2).symm)]; exact fa2
  have fa3 : (mw_up wm17 yo (.inr (cMO, [.int 0, .ref a0, .ref a1, .int 0, .int 0, .ref a2, .ref a3, .ref a4, .ref a5, .ref a6, .ref a7, .ref a8, .int 0, .int 0, .null, .null, .null, .null, .null, .null, .int 0]))) a3 = some (.inl (dA tI, 64, .inl (fun _ => 0))) := by rw [mw_up_n _ _ ((ne_yo_a3).symm)]; exact fa3
  have fa4 : (mw_up wm17 yo (.inr (cMO, [.int 0, .ref a0, .ref a1, .int 0, .int 0, .ref a2, .ref a3, .ref a4, .ref a5, .ref a6, .ref a7, .ref a8, .int 0, .int 0, .null, .null, .null, .null, .null, .null, .int 0]))) a4 = some (.inl (dA tI, 64, .inl (fun _ => 0))) := by rw [mw_up_n _ _ ((ne_yo_a4).symm)]; exact fa4
  have fa5 : (mw_up wm17 yo (.inr (cMO, [.int 0, .ref a0, .ref a1, .int 0, .int 0, .ref a2, .ref a3, .ref a4, .ref a5, .ref a6, .ref a7, .ref a8, .int 0, .int 0, .null, .null, .null, .null, .null, .null, .int 0]))) a5 = some (.inl (dA tI, 64, .inl (fun _ => 0))) := by rw [mw_up_n _ _ ((ne_yo_a5).symm)]; exact fa5
  have fa6 : (mw_up wm17 yo (.inr (cMO, [.int 0, .ref a0, .ref a1, .int 0, .int 0, .ref a2, .ref a3, .ref a4, .ref a5, .ref a6, .ref a7, .ref a8, .int 0, .int 0, .null, .null, .null, .null, .null, .null, .int 0]))) a6 = some (.inl (dA tI, 64, .inl (fun _ => 0))) := by rw [mw_up_n _ _ ((ne_yo_a6).symm)]; exact fa6
  have fa7 : (mw_up wm17 yo (.inr (cMO, [.int 0, .ref a0, .ref a1, .int 0, .int 0, .ref a2, .ref a3, .ref a4, .ref a5, .ref a6, .ref a7, .ref a8, .int 0, .int 0, .null, .null, .null, .null, .null, .null, .int 0]))) a7 = some (.inl (dA tI, 64, .inl (fun _ => 0))) := by rw [mw_up_n _ _ ((ne_yo_a7).symm)]; exact fa7
  have fa8 : (mw_up wm17 yo (.inr (cMO, [.int 0, .ref a0, .ref a1, .int 0, .int 0, .ref a2, .ref a3, .ref a4, .ref a5, .ref a6, .ref a7, .ref a8, .int 0, .int 0, .null, .null, .null, .null, .null, .null, .int 0]))) a8 = some (.inl (dA tI, 64, .inl (fun _ => 0))) := by rw [mw_up_n _ _ ((ne_yo_a8).symm)]; exact fa8
  have hF : ∀ (q : Nat) (y : va_E), w q = some y → q ≠ yo → (mw_up wm17 yo (.inr (cMO, [.int 0, .ref a0, .ref a1, .int 0, .int 0, .ref a2, .ref a3, .ref a4, .ref a5, .ref a6, .ref a7, .ref a8, .int 0, .int 0, .null, .null, .null, .null, .null, .null, .int 0]))) q = some y := fun q y h1 h2 => by rw [mw_up_n _ _ (h2)]; exact hF q y h1 h2
  have f0 : (mw_up wm17 yo (.inr (cMO, [.int 0, .ref a0, .ref a1, .int 0, .int 0, .ref a2, .ref a3, .ref a4, .ref a5, .ref a6, .ref a7, .ref a8, .int 0, .int 0, .null, .null, .null, .null, .null, .null, .int 0]))) yo = some (.inr (cMO, [.int 0, .ref a0, .ref a1, .int 0, .int 0, .ref a2, .ref a3, .ref a4, .ref a5, .ref a6, .ref a7, .ref a8, .int 0, .int 0, .null, .null, .null, .null, .null, .null, .int 0])) := mw_up_s _ _ _
  generalize (mw_up wm17 yo (.inr (cMO, [.int 0, .ref a0, .ref a1, .int 0, .int 0, .ref a2, .ref a3, .ref a4, .ref a5, .ref a6, .ref a7, .ref a8, .int 0, .int 0, .null, .null, .null, .null, .null, .null, .int 0]))) = wm18 at hI fa0 fa1 fa2 fa3 fa4 fa5 fa6 fa7 fa8 hF f0
  refine lv_aload_n hx hb d_MO_init_77 rfl (lv_at hl 0 rfl) ?_
  refine lv_sipush (v := nI 8192) hx hb d_MO_init_78 (by decide) ?_
  refine mw_newa K hI tZ (t := .boolean) rfl tw_665 rfl (fun C h => by cases h) (a0 := (8192, .inl (fun _ => 0))) (fun _ => rfl) (nI_pos (by omega)) (nI_clamp (by omega)) (by show _ * 1 ≤ _; omega) (Nat.le_of_ble_eq_true rfl) (Nat.le_of_ble_eq_true rfl) d_MO_init_81 (fun a9 H hq hI => ?_)
  have hq_a9 := hq
  have hw_a9 : w a9 = none := mw_nn hF f0 hq_a9
  have hI : mw_I D mk_cl w s.heap (mw_up wm18 a9 (.inl (dA tZ, 8192, .inl (fun _ => 0)))) H _ := hI
  have ne_yo_a9 : yo ≠ a9 := mw_neN f0 hq_a9
  have f0 : (mw_up wm18 a9 (.inl (dA tZ, 8192, .inl (fun _ => 0)))) yo = some (.inr (cMO, [.int 0, .ref a0, .ref a1, .int 0, .int 0, .ref a2, .ref a3, .ref a4, .ref a5, .ref a6, .ref a7, .ref a8, .int 0, .int 0, .null, .null, .null, .null, .null, .null, .int 0])) := by rw [mw_up_n _ _ (ne_yo_a9)]; exact f0
  have ne_a0_a9 : a0 ≠ a9 := mw_neN fa0 hq_a9
  have fa0 : (mw_up wm18 a9 (.inl (dA tZ, 8192, .inl (fun _ => 0)))) a0 = some (.inl (dA tB, 512, .inl (fun _ => 0))) := by rw [mw_up_n _ _ (ne_a0_a9)]; exact fa0
  have ne_a1_a9 : a1 ≠ a9 := mw_neN fa1 hq_a9
  have fa1 : (mw_up wm18 a9 (.inl (dA tZ, 8192, .inl (fun _ => 0)))) a1 = some (.inl (dA tB, 65536, .inl (fun _ => 0))) := by rw [mw_up_n _ _ (ne_a1_a9)]; exact fa1
  have ne_a2_a9 : a2 ≠ a9 := mw_neN fa2 hq_a9
  have fa2 : (mw_up wm18 a9 (.inl (dA tZ, 8192, .inl (fun _ => 0)))) a2 = some (.inl (dA tI, 64, .inl (fun _ => 0))) := by rw [mw_up_n _ _ (ne_a2_a9)]; exact fa2
  have ne_a3_a9 : a3 ≠ a9 := mw_neN fa3 hq_a9
  have fa3 : (mw_up wm18 a9 (.inl (dA tZ, 8192, .inl (fun _ => 0)))) a3 = some (.inl (dA tI, 64, .inl (fun _ => 0))) := by rw [mw_up_n _ _ (ne_a3_a9)]; exact fa3
  have ne_a4_a9 : a4 ≠ a9 := mw_neN fa4 hq_a9
  have fa4 : (mw_up wm18 a9 (.inl (dA tZ, 8192, .inl (fun _ => 0)))) a4 = some (.inl (dA tI, 64, .inl (fun _ => 0))) := by rw [mw_up_n _ _ (ne_a4_a9)]; exact fa4
  have ne_a5_a9 : a5 ≠ a9 := mw_neN fa5 hq_a9
  have fa5 : (mw_up wm18 a9 (.inl (dA tZ, 8192, .inl (fun _ => 0)))) a5 = some (.inl (dA tI, 64, .inl (fun _ => 0))) := by rw [mw_up_n _ _ (ne_a5_a9)]; exact fa5
  have ne_a6_a9 : a6 ≠ a9 := mw_neN fa6 hq_a9
  have fa6 : (mw_up wm18 a9 (.inl (dA tZ, 8192, .inl (fun _ => 0)))) a6 = some (.inl (dA tI, 64, .inl (fun _ => 0))) := by rw [mw_up_n _ _ (ne_a6_a9)]; exact fa6
  have ne_a7_a9 : a7 ≠ a9 := mw_neN fa7 hq_a9
  have fa7 : (mw_up wm18 a9 (.inl (dA tZ, 8192, .inl (fun _ => 0)))) a7 = some (.inl (dA tI, 64, .inl (fun _ => 0))) := by rw [mw_up_n _ _ (ne_a7_a9)]; exact fa7
  have ne_a8_a9 : a8 ≠ a9 := mw_neN fa8 hq_a9
  have fa8 : (mw_up wm18 a9 (.inl (dA tZ, 8192, .inl (fun _ => 0)))) a8 = some (.inl (dA tI, 64, .inl (fun _ => 0))) := by rw [mw_up_n _ _ (ne_a8_a9)]; exact fa8
  have hF : ∀ (q : Nat) (y : va_E), w q = some y → q ≠ yo → (mw_up wm18 a9 (.inl (dA tZ, 8192, .inl (fun _ => 0)))) q = some y := fun q y h1 h2 => by rw [mw_up_n _ _ (mw_neN h1 hw_a9)]; exact hF q y h1 h2
  have fa9 : (mw_up wm18 a9 (.inl (dA tZ, 8192, .inl (fun _ => 0)))) a9 = some (.inl (dA tZ, 8192, .inl (fun _ => 0))) := mw_up_s _ _ _
  generalize (mw_up wm18 a9 (.inl (dA tZ, 8192, .inl (fun _ => 0)))) = wm19 at hI f0 fa0 fa1 fa2 fa3 fa4 fa5 fa6 fa7 fa8 hF fa9
  refine mw_put K hI gp_MO_39_cMO (Or.inr hin) f0 rfl rfl (by simp) d_MO_init_83 (fun H locs hI => ?_)
  have hI : mw_I D mk_cl w s.heap (mw_up wm19 yo (.inr (cMO, [.int 0, .ref a0, .ref a1, .int 0, .int 0, .ref a2, .ref a3, .ref a4, .ref a5, .ref a6, .ref a7, .ref a8, .int 0, .int 0, .ref a9, .null, .null, .null, .null, .null, .int 0]))) H _ := hI
  have fa0 : (mw_up wm19 yo (.inr (cMO, [.int 0, .ref a0, .ref a1, .int 0, .int 0, .ref a2, .ref a3, .ref a4, .ref a5, .ref a6, .ref a7, .ref a8, .int 0, .int 0, .ref a9, .null, .null, .null, .null, .null, .int 0]))) a0 = some (.inl (dA tB, 512, .inl (fun _ => 0))) := by rw [mw_up_n _ _ ((ne_yo_a0).symm)]; exact fa0
  have fa1 : (mw_up wm19 yo (.inr (cMO, [.int 0, .ref a0, .ref a1, .int 0, .int 0, .ref a2, .ref a3, .ref a4, .ref a5, .ref a6, .ref a7, .ref a8, .int 0, .int 0, .ref a9, .null, .null, .null, .null, .null, .int 0]))) a1 = some (.inl (dA tB, 65536, .inl (fun _ => 0))) := by rw [mw_up_n _ _ ((ne_yo_a1).symm)]; exact fa1
  have fa2 : (mw_up wm19 yo (.inr (cMO, [.int 0, .ref a0, .ref a1, .int 0, .int 0, .ref a2, .ref a3, .ref a4, .ref a5, .ref a6, .ref a7, .ref a8, .int 0, .int 0, .ref a9, .null, .null, .null, .null, .null, .int 0]))) a2 = some (.inl (dA tI, 64, .inl (fun _ => 0))) := by rw [mw_up_n _ _ ((ne_yo_a2).symm)]; exact fa2
  have fa3 : (mw_up wm19 yo (.inr (cMO, [.int 0, .ref a0, .ref a1, .int 0, .int 0, .ref a2, .ref a3, .ref a4, .ref a5, .ref a6, .ref a7, .ref a8, .int 0, .int 0, .ref a9, .null, .null, .null, .null, .null, .int 0]))) a3 = some (.inl (dA tI, 64, .inl (fun _ => 0))) := by rw [mw_up_n _ _ ((ne_yo_a3).symm)]; exact fa3
  have fa4 : (mw_up wm19 yo (.inr (cMO, [.int 0, .ref a0, .ref a1, .int 0, .int 0, .ref a2, .ref a3, .ref a4, .ref a5, .ref a6, .ref a7, .ref a8, .int 0, .int 0, .ref a9, .null, .null, .null, .null, .null, .int 0]))) a4 = some (.inl (dA tI, 64, .inl (fun _ => 0))) := by rw [mw_up_n _ _ ((ne_yo_a4).symm)]; exact fa4
  have fa5 : (mw_up wm19 yo (.inr (cMO, [.int 0, .ref a0, .ref a1, .int 0, .int 0, .ref a2, .ref a3, .ref a4, .ref a5, .ref a6, .ref a7, .ref a8, .int 0, .int 0, .ref a9, .null, .null, .null, .null, .null, .int 0]))) a5 = some (.inl (dA tI, 64, .inl (fun _ => 0))) := by rw [mw_up_n _ _ ((ne_yo_a5).symm)]; exact fa5
  have fa6 : (mw_up wm19 yo (.inr (cMO, [.int 0, .ref a0, .ref a1, .int 0, .int 0, .ref a2, .ref a3, .ref a4, .ref a5, .ref a6, .ref a7, .ref a8, .int 0, .int 0, .ref a9, .null, .null, .null, .null, .null, .int 0]))) a6 = some (.inl (dA tI, 64, .inl (fun _ => 0))) := by rw [mw_up_n _ _ ((ne_yo_a6).symm)]; exact fa6
  have fa7 : (mw_up wm19 yo (.inr (cMO, [.int 0, .ref a0, .ref a1, .int 0, .int 0, .ref a2, .ref a3, .ref a4, .ref a5, .ref a6, .ref a7, .ref a8, .int 0, .int 0, .ref a9, .null, .null, .null, .null, .null, .int 0]))) a7 = some (.inl (dA tI, 64, .inl (fun _ => 0))) := by rw [mw_up_n _ _ ((ne_yo_a7).symm)]; exact fa7
  have fa8 : (mw_up wm19 yo (.inr (cMO, [.int 0, .ref a0, .ref a1, .int 0, .int 0, .ref a2, .ref a3, .ref a4, .ref a5, .ref a6, .ref a7, .ref a8, .int 0, .int 0, .ref a9, .null, .null, .null, .null, .null, .int 0]))) a8 = some (.inl (dA tI, 64, .inl (fun _ => 0))) := by rw [mw_up_n _ _ ((ne_yo_a8).symm)]; exact fa8
  have fa9 : (mw_up wm19 yo (.inr (cMO, [.int 0, .ref a0, .ref a1, .int 0, .int 0, .ref a2, .ref a3, .ref a4, .ref a5, .ref a6, .ref a7, .ref a8, .int 0, .int 0, .ref a9, .null, .null, .null, .null, .null, .int 0]))) a9 = some (.inl (dA tZ, 8192, .inl (fun _ => 0))) := by rw [mw_up_n _ _ ((ne_yo_a9).symm)]; exact fa9
  have hF : ∀ (q : Nat) (y : va_E), w q = some y → q ≠ yo → (mw_up wm19 yo (.inr (cMO, [.int 0, .ref a0, .ref a1, .int 0, .int 0, .ref a2, .ref a3, .ref a4, .ref a5, .ref a6, .ref a7, .ref a8, .int 0, .int 0, .ref a9, .null, .null, .null, .null, .null, .int 0]))) q = some y := fun q y h1 h2 => by rw [mw_up_n _ _ (h2)]; exact hF q y h1 h2
  have f0 : (mw_up wm19 yo (.inr (cMO, [.int 0, .ref a0, .ref a1, .int 0, .int 0, .ref a2, .ref a3, .ref a4, .ref a5, .ref a6, .ref a7, .ref a8, .int 0, .int 0, .ref a9, .null, .null, .null, .null, .null, .int 0]))) yo = some (.inr (cMO, [.int 0, .ref a0, .ref a1, .int 0, .int 0, .ref a2, .ref a3, .ref a4, .ref a5, .ref a6, .ref a7, .ref a8, .int 0, .int 0, .ref a9, .null, .null, .null, .null, .null, .int 0])) := mw_up_s _ _ _
  generalize (mw_up wm19 yo (.inr (cMO, [.int 0, .ref a0, .ref a1, .int 0, .int 0, .ref a2, .ref a3, .ref a4, .ref a5, .ref a6, .ref a7, .ref a8, .int 0, .int 0, .ref a9, .null, .null, .null, .null, .null, .int 0]))) = wm20 at hI fa0 fa1 fa2 fa3 fa4 fa5 fa6 fa7 fa8 fa9 hF f0
  refine lv_aload_n hx hb d_MO_init_86 rfl (lv_at hl 0 rfl) ?_
  refine lv_ldc (v := nI 524288) hx hb hown (hts _ tw_599) d_MO_init_87 ?_
  refine mw_newa K hI tB (t := .byte) rfl tw_160 rfl (fun C h => by cases h) (a0 := (524288, .inl (fun _ => 0))) (fun _ => rfl) (nI_pos (by omega)) (nI_clamp (by omega)) (by show _ * 1 ≤ _; omega) (Nat.le_of_ble_eq_true rfl) (Nat.le_of_ble_eq_true rfl) d_MO_init_89 (fun a10 H hq hI => ?_)
  have hq_a10 := hq
  have hw_a10 : w a10 = none := mw_nn hF f0 hq_a10
  have hI : mw_I D mk_cl w s.heap (mw_up wm20 a10 (.inl (dA tB, 524288, .inl (fun _ => 0)))) H _ := hI
  have ne_yo_a10 : yo ≠ a10 := mw_neN f0 hq_a10
  have f0 : (mw_up wm20 a10 (.inl (dA tB, 524288, .inl (fun _ => 0)))) yo = some (.inr (cMO, [.int 0, .ref a0, .ref a1, .int 0, .int 0, .ref a2, .ref a3, .ref a4, .ref a5, .ref a6, .ref a7, .ref a8, .int 0, .int 0, .ref a9, .null, .null, .null, .null, .null, .int 0])) := by rw [mw_up_n _ _ (ne_yo_a10)]; exact f0
  have ne_a0_a10 : a0 ≠ a10 := mw_neN fa0 hq_a10
  have fa0 : (mw_up wm20 a10 (.inl (dA tB, 524288, .inl (fun _ => 0)))) a0 = some (.inl (dA tB, 512, .inl (fun _ => 0))) := by rw [mw_up_n _ _ (ne_a0_a10)]; exact fa0
  have ne_a1_a10 : a1 ≠ a10 := mw_neN fa1 hq_a10
  have fa1 : (mw_up wm20 a10 (.inl (dA tB, 524288, .inl (fun _ => 0)))) a1 = some (.inl (dA tB, 65536, .inl (fun _ => 0))) := by rw [mw_up_n _ _ (ne_a1_a10)]; exact fa1
  have ne_a2_a10 : a2 ≠ a10 := mw_neN fa2 hq_a10
  have fa2 : (mw_up wm20 a10 (.inl (dA tB, 524288, .inl (fun _ => 0)))) a2 = some (.inl (dA tI, 64, .inl (fun _ => 0))) := by rw [mw_up_n _ _ (ne_a2_a10)]; exact fa2
  have ne_a3_a10 : a3 ≠ a10 := mw_neN fa3 hq_a10
  have fa3 : (mw_up wm20 a10 (.inl (dA tB, 524288, .inl (fun _ => 0)))) a3 = some (.inl (dA tI, 64, .inl (fun _ => 0))) := by rw [mw_up_n _ _ (ne_a3_a10)]; exact fa3
  have ne_a4_a10 : a4 ≠ a10 := mw_neN fa4 hq_a10
  have fa4 : (mw_up wm20 a10 (.inl (dA tB, 524288, .inl (fun _ => 0)))) a4 = some (.inl (dA tI, 64, .inl (fun _ => 0))) := by rw [mw_up_n _ _ (ne_a4_a10)]; exact fa4
  have ne_a5_a10 : a5 ≠ a10 := mw_neN fa5 hq_a10
  have fa5 : (mw_up wm20 a10 (.inl (dA tB, 524288, .inl (fun _ => 0)))) a5 = some (.inl (dA tI, 64, .inl (fun _ => 0))) := by rw [mw_up_n _ _ (ne_a5_a10)]; exact fa5
  have ne_a6_a10 : a6 ≠ a10 := mw_neN fa6 hq_a10
  have fa6 : (mw_up wm20 a10 (.inl (dA tB, 524288, .inl (fun _ => 0)))) a6 = some (.inl (dA tI, 64, .inl (fun _ => 0))) := by rw [mw_up_n _ _ (ne_a6_a10)]; exact fa6
  have ne_a7_a10 : a7 ≠ a10 := mw_neN fa7 hq_a10
  have fa7 : (mw_up wm20 a10 (.inl (dA tB, 524288, .inl (fun _ => 0)))) a7 = some (.inl (dA tI, 64, .inl (fun _ => 0))) := by rw [mw_up_n _ _ (ne_a7_a10)]; exact fa7
  have ne_a8_a10 : a8 ≠ a10 := mw_neN fa8 hq_a10
  have fa8 : (mw_up wm20 a10 (.inl (dA tB, 524288, .inl (fun _ => 0)))) a8 = some (.inl (dA tI, 64, .inl (fun _ => 0))) := by rw [mw_up_n _ _ (ne_a8_a10)]; exact fa8
  have ne_a9_a10 : a9 ≠ a10 := mw_neN fa9 hq_a10
  have fa9 : (mw_up wm20 a10 (.inl (dA tB, 524288, .inl (fun _ => 0)))) a9 = some (.inl (dA tZ, 8192, .inl (fun _ => 0))) := by rw [mw_up_n _ _ (ne_a9_a10)]; exact fa9
  have hF : ∀ (q : Nat) (y : va_E), w q = some y → q ≠ yo → (mw_up wm20 a10 (.inl (dA tB, 524288, .inl (fun _ => 0)))) q = some y := fun q y h1 h2 => by rw [mw_up_n _ _ (mw_neN h1 hw_a10)]; exact hF q y h1 h2
  have fa10 : (mw_up wm20 a10 (.inl (dA tB, 524288, .inl (fun _ => 0)))) a10 = some (.inl (dA tB, 524288, .inl (fun _ => 0))) := mw_up_s _ _ _
  generalize (mw_up wm20 a10 (.inl (dA tB, 524288, .inl (fun _ => 0)))) = wm21 at hI f0 fa0 fa1 fa2 fa3 fa4 fa5 fa6 fa7 fa8 fa9 hF fa10
  refine mw_put K hI gp_MO_44_cMO (Or.inr hin) f0 rfl rfl (by simp) d_MO_init_91 (fun H locs hI => ?_)
  have hI : mw_I D mk_cl w s.heap (mw_up wm21 yo (.inr (cMO, [.int 0, .ref a0, .ref a1, .int 0, .int 0, .ref a2, .ref a3, .ref a4, .ref a5, .ref a6, .ref a7, .ref a8, .int 0, .int 0, .ref a9, .ref a10, .null, .null, .null, .null, .int 0]))) H _ := hI
  have fa0 : (mw_up wm21 yo (.inr (cMO, [.int 0, .ref a0, .ref a1, .int 0, .int 0, .ref a2, .ref a3, .ref a4, .ref a5, .ref a6, .ref a7, .ref a8, .int 0, .int 0, .ref a9, .ref a10, .null, .null, .null, .null, .int 0]))) a0 = some (.inl (dA tB, 512, .inl (fun _ => 0))) := by rw [mw_up_n _ _ ((ne_yo_a0).symm)]; exact fa0
  have fa1 : (mw_up wm21 yo (.inr (cMO, [.int 0, .ref a0, .ref a1, .int 0, .int 0, .ref a2, .ref a3, .ref a4, .ref a5, .ref a6, .ref a7, .ref a8, .int 0, .int 0, .ref a9, .ref a10, .null, .null, .null, .null, .int 0]))) a1 = some (.inl (dA tB, 65536, .inl (fun _ => 0))) := by rw [mw_up_n _ _ ((ne_yo_a1).symm)]; exact fa1
  have fa2 : (mw_up wm21 yo (.inr (cMO, [.int 0, .ref a0, .ref a1, .int 0, .int 0, .ref a2, .ref a3, .ref a4, .ref a5, .ref a6, .ref a7, .ref a8, .int 0, .int 0, .ref a9, .ref a10, .null, .null, .null, .null, .int 0]))) a2 = some (.inl (dA tI, 64, .inl (fun _ => 0))) := by rw [mw_up_n _ _ ((ne_yo_a2).symm)]; exact fa2
  have fa3 : (mw_up wm21 yo (.inr (cMO, [.int 0, .ref a0, .ref a1, .int 0, .int 0, .ref a2, .ref a3, .ref a4, .ref a5, .ref a6, .ref a7, .ref a8, .int 0, .int 0, .ref a9, .ref a10, .null, .null, .null, .null, .int 0]))) a3 = some (.inl (dA tI, 64, .inl (fun _ => 0))) := by rw [mw_up_n _ _ ((ne_yo_a3).symm)]; exact fa3
  have fa4 : (mw_up wm21 yo (.inr (cMO, [.int 0, .ref a0, .ref a1, .int 0, .int 0, .ref a2, .ref a3, .ref a4, .ref a5, .ref a6, .ref a7, .ref a8, .int 0, .int 0, .ref a9, .ref a10, .null, .null, .null, .null, .int 0]))) a4 = some (.inl (dA tI, 64, .inl (fun _ => 0))) := by rw [mw_up_n _ _ ((ne_yo_a4).symm)]; exact fa4
  have fa5 : (mw_up wm21 yo (.inr (cMO, [.int 0, .ref a0, .ref a1, .int 0, .int 0, .ref a2, .ref a3, .ref a4, .ref a5, .ref a6, .ref a7, .ref a8, .int 0, .int 0, .ref a9, .ref a10, .null, .null, .null, .null, .int 0]))) a5 = some (.inl (dA tI, 64, .inl (fun _ => 0))) := by rw [mw_up_n _ _ ((ne_yo_a5).symm)]; exact fa5
  have fa6 : (mw_up wm21 yo (.inr (cMO, [.int 0, .ref a0, .ref a1, .int 0, .int 0, .ref a2, .ref a3, .ref a4, .ref a5, .ref a6, .ref a7, .ref a8, .int 0, .int 0, .ref a9, .ref a10, .null, .null, .null, .null, .int 0]))) a6 = some (.inl (dA tI, 64, .inl (fun _ => 0))) := by rw [mw_up_n _ _ ((ne_yo_a6).symm)]; exact fa6
  have fa7 : (mw_up wm21 yo (.inr (cMO, [.int 0, .ref a0, .ref a1, .int 0, .int 0, .ref a2, .ref a3, .ref a4, .ref a5, .ref a6, .ref a7, .ref a8, .int 0, .int 0, .ref a9, .ref a10, .null, .null, .null, .null, .int 0]))) a7 = some (.inl (dA tI, 64, .inl (fun _ => 0))) := by rw [mw_up_n _ _ ((ne_yo_a7).symm)]; exact fa7
  have fa8 : (mw_up wm21 yo (.inr (cMO, [.int 0, .ref a0, .ref a1, .int 0, .int 0, .ref a2, .ref a3, .ref a4, .ref a5, .ref a6, .ref a7, .ref a8, .int 0, .int 0, .ref a9, .ref a10, .null, .null, .null, .null, .int 0]))) a8 = some (.inl (dA tI, 64, .inl (fun _ => 0))) := by rw [mw_up_n _ _ ((ne_yo_a8).symm)]; exact fa8
  have fa9 : (mw_up wm21 yo (.inr (cMO, [.int 0, .ref a0, .ref a1, .int 0, .int 0, .ref a2, .ref a3, .ref a4, .ref a5, .ref a6, .ref a7, .ref a8, .int 0, .int 0, .ref a9, .ref a10, .null, .null, .null, .null, .int 0]))) a9 = some (.inl (dA tZ, 8192, .inl (fun _ => 0))) := by rw [mw_up_n _ _ ((ne_yo_a9).symm)]; exact fa9
  have fa10 : (mw_up wm21 yo (.inr (cMO, [.int 0, .ref a0, .ref a1, .int 0, .int 0, .ref a2, .ref a3, .ref a4, .ref a5, .ref a6, .ref a7, .ref a8, .int 0, .int 0, .ref a9, .ref a10, .null, .null, .null, .null, .int 0]))) a10 = some (.inl (dA tB, 524288, .inl (fun _ => 0))) := by rw [mw_up_n _ _ ((ne_yo_a10).symm)]; exact fa10
  have hF : ∀ (q : Nat) (y : va_E), w q = some y → q ≠ yo → (mw_up wm21 yo (.inr (cMO, [.int 0, .ref a0, .ref a1, .int 0, .int 0, .ref a2, .ref a3, .ref a4, .ref a5, .ref a6, .ref a7, .ref a8, .int 0, .int 0, .ref a9, .ref a10, .null, .null, .null, .null, .int 0]))) q = some y := fun q y h1 h2 => by rw [mw_up_n _ _ (h2)]; exact hF q y h1 h2
  have f0 : (mw_up wm21 yo (.inr (cMO, [.int 0, .ref a0, .ref a1, .int 0, .int 0, .ref a2, .ref a3, .ref a4, .ref a5, .ref a6, .ref a7, .ref a8, .int 0, .int 0, .ref a9, .ref a10, .null, .null, .null, .null, .int 0]))) yo = some (.inr (cMO, [.int 0, .ref a0, .ref a1, .int 0, .int 0, .ref a2, .ref a3, .ref a4, .ref a5, .ref a6, .ref a7, .ref a8, .int 0, .int 0, .ref a9, .ref a10, .null, .null, .null, .null, .int 0])) := mw_up_s _ _ _
  generalize (mw_up wm21 yo (.inr (cMO, [.int 0, .ref a0, .ref a1, .int 0, .int 0, .ref a2, .ref a3, .ref a4, .ref a5, .ref a6, .ref a7, .ref a8, .int 0, .int 0, .ref a9, .ref a10, .null, .null, .null, .null, .int 0]))) = wm22 at hI fa0 fa1 fa2 fa3 fa4 fa5 fa6 fa7 fa8 fa9 fa10 hF f0
  refine lv_aload_n hx hb d_MO_init_94 rfl (lv_at hl 0 rfl) ?_
  refine lv_bipush (v := nI 64) hx hb d_MO_init_95 (by decide) ?_
  refine mw_newa K hI tJ (t := .long) rfl tw_61 rfl (fun C h => by cases h) (a0 := (64, .inr (.inl (fun _ => 0)))) (fun _ => rfl) (nI_pos (by omega)) (nI_clamp (by omega)) (by show _ * 8 ≤ _; omega) (Nat.le_of_ble_eq_true rfl) (Nat.le_of_ble_eq_true rfl) d_MO_init_97 (fun a11 H hq hI => ?_)
  have hq_a11 := hq
  have hw_a11 : w a11 = none := mw_nn hF f0 hq_a11
  have hI : mw_I D mk_cl w s.heap (mw_up wm22 a11 (.inl (dA tJ, 64, .inr (.inl (fun _ => 0))))) H _ := hI
  have ne_yo_a11 : yo ≠ a11 := mw_neN f0 hq_a11
  have f0 : (mw_up wm22 a11 (.inl (dA tJ, 64, .inr (.inl (fun _ => 0))))) yo = some (.inr (cMO, [.int 0, .ref a0, .ref a1, .int 0, .int 0, .ref a2, .ref a3, .ref a4, .ref a5, .ref a6, .ref a7, .ref a8, .int 0, .int 0, .ref a9, .ref a10, .null, .null, .null, .null, .int 0])) := by rw [mw_up_n _ _ (ne_yo_a11)]; exact f0
  have ne_a0_a11 : a0 ≠ a11 := mw_neN fa0 hq_a11
  have fa0 : (mw_up wm22 a11 (.inl (dA tJ, 64, .inr (.inl (fun _ => 0))))) a0 = some (.inl (dA tB, 512, .inl (fun _ => 0))) := by rw [mw_up_n _ _ (ne_a0_a11)]; exact fa0
  have ne_a1_a11 : a1 ≠ a11 := mw_neN fa1 hq_a11
  have fa1 : (mw_up wm22 a11 (.inl (dA tJ, 64, .inr (.inl (fun _ => 0))))) a1 = some (.inl (dA tB, 65536, .inl (fun _ => 0))) := by rw [mw_up_n _ _ (ne_a1_a11)]; exact fa1
  have ne_a2_a11 : a2 ≠ a11 := mw_neN fa2 hq_a11
  have fa2 : (mw_up wm22 a11 (.inl (dA tJ, 64, .inr (.inl (fun _ => 0))))) a2 = some (.inl (dA tI, 64, .inl (fun _ => 0))) := by rw [mw_up_n _ _ (ne_a2_a11)]; exact fa2
  have ne_a3_a11 : a3 ≠ a11 := mw_neN fa3 hq_a11
  have fa3 : (mw_up wm22 a11 (.inl (dA tJ, 64, .inr (.inl (fun _ => 0))))) a3 = some (.inl (dA tI, 64, .inl (fun _ => 0))) := by rw [mw_up_n _ _ (ne_a3_a11)]; exact fa3
  have ne_a4_a11 : a4 ≠ a11 := mw_neN fa4 hq_a11
  have fa4 : (mw_up wm22 a11 (.inl (dA tJ, 64, .inr (.inl (fun _ => 0))))) a4 = some (.inl (dA tI, 64, .inl (fun _ => 0))) := by rw [mw_up_n _ _ (ne_a4_a11)]; exact fa4
  have ne_a5_a11 : a5 ≠ a11 := mw_neN fa5 hq_a11
  have fa5 : (mw_up wm22 a11 (.inl (dA tJ, 64, .inr (.inl (fun _ => 0))))) a5 = some (.inl (dA tI, 64, .inl (fun _ => 0))) := by rw [mw_up_n _ _ (ne_a5_a11)]; exact fa5
  have ne_a6_a11 : a6 ≠ a11 := mw_neN fa6 hq_a11
  have fa6 : (mw_up wm22 a11 (.inl (dA tJ, 64, .inr (.inl (fun _ => 0))))) a6 = some (.inl (dA tI, 64, .inl (fun _ => 0))) := by rw [mw_up_n _ _ (ne_a6_a11)]; exact fa6
  have ne_a7_a11 : a7 ≠ a11 := mw_neN fa7 hq_a11
  have fa7 : (mw_up wm22 a11 (.inl (dA tJ, 64, .inr (.inl (fun _ => 0))))) a7 = some (.inl (dA tI, 64, .inl (fun _ => 0))) := by rw [mw_up_n _ _ (ne_a7_a11)]; exact fa7
  have ne_a8_a11 : a8 ≠ a11 := mw_neN fa8 hq_a11
  have fa8 : (mw_up wm22 a11 (.inl (dA tJ, 64, .inr (.inl (fun _ => 0))))) a8 = some (.inl (dA tI, 64, .inl (fun _ => 0))) := by rw [mw_up_n _ _ (ne_a8_a11)]; exact fa8
  have ne_a9_a11 : a9 ≠ a11 := mw_neN fa9 hq_a11
  have fa9 : (mw_up wm22 a11 (.inl (dA tJ, 64, .inr (.inl (fun _ => 0))))) a9 = some (.inl (dA tZ, 8192, .inl (fun _ => 0))) := by rw [mw_up_n _ _ (ne_a9_a11)]; exact fa9
  have ne_a10_a11 : a10 ≠ a11 := mw_neN fa10 hq_a11
  have fa10 : (mw_up wm22 a11 (.inl (dA tJ, 64, .inr (.inl (fun _ => 0))))) a10 = some (.inl (dA tB, 524288, .inl (fun _ => 0))) := by rw [mw_up_n _ _ (ne_a10_a11)]; exact fa10
  have hF : ∀ (q : Nat) (y : va_E), w q = some y → q ≠ yo → (mw_up wm22 a11 (.inl (dA tJ, 64, .inr (.inl (fun _ => 0))))) q = some y := fun q y h1 h2 => by rw [mw_up_n _ _ (mw_neN h1 hw_a11)]; exact hF q y h1 h2
  have fa11 : (mw_up wm22 a11 (.inl (dA tJ, 64, .inr (.inl (fun _ => 0))))) a11 = some (.inl (dA tJ, 64, .inr (.inl (fun _ => 0)))) := mw_up_s _ _ _
  generalize (mw_up wm22 a11 (.inl (dA tJ, 64, .inr (.inl (fun _ => 0))))) = wm23 at hI f0 fa0 fa1 fa2 fa3 fa4 fa5 fa6 fa7 fa8 fa9 fa10 hF fa11
  refine mw_put K hI gp_MO_47_cMO (Or.inr hin) f0 rfl rfl (by simp) d_MO_init_99 (fun H locs hI => ?_)
  have hI : mw_I D mk_cl w s.heap (mw_up wm23 yo (.inr (cMO, [.int 0, .ref a0, .ref a1, .int 0, .int 0, .ref a2, .ref a3, .ref a4, .ref a5, .ref a6, .ref a7, .ref a8, .int 0, .int 0, .ref a9, .ref a10, .ref a11, .null, .null, .null, .int 0]))) H _ := hI
  have fa0 : (mw_up wm23 yo (.inr (cMO, [.int 0, .ref a0, .ref a1, .int 0, .int 0, .ref a2, .ref a3, .ref a4, .ref a5, .ref a6, .ref a7, .ref a8, .int 0, .int 0, .ref a9, .ref a10, .ref a11, .null, .null, .null, .int 0]))) a0 = some (.inl (dA tB, 512, .inl (fun _ => 0))) := by rw [mw_up_n _ _ ((ne_yo_a0).symm)]; exact fa0
  have fa1 : (mw_up wm23 yo (.inr (cMO, [.int 0, .ref a0, .ref a1, .int 0, .int 0, .ref a2, .ref a3, .ref a4, .ref a5, .ref a6, .ref a7, .ref a8, .int 0, .int 0, .ref a9, .ref a10, .ref a11, .null, .null, .null, .int 0]))) a1 = some (.inl (dA tB, 65536, .inl (fun _ => 0))) := by rw [mw_up_n _ _ ((ne_yo_a1).symm)]; exact fa1
  have fa2 : (mw_up wm23 yo (.inr (cMO, [.int 0, .ref a0, .ref a1, .int 0, .int 0, .ref a2, .ref a3, .ref a4, .ref a5, .ref a6, .ref a7, .ref a8, .int 0, .int 0, .ref a9, .ref a10, .ref a11, .null, .null, .null, .int 0]))) a2 = some (.inl (dA tI, 64, .inl (fun _ => 0))) := by rw [mw_up_n _ _ ((ne_yo_a2).symm)]; exact fa2
  have fa3 : (mw_up wm23 yo (.inr (cMO, [.int 0, .ref a0, .ref a1, .int 0, .int 0, .ref a2, .ref a3, .ref a4, .ref a5, .ref a6, .ref a7, .ref a8, .int 0, .int 0, .ref a9, .ref a10, .ref a11, .null, .null, .null, .int 0]))) a3 = some (.inl (dA tI, 64, .inl (fun _ => 0))) := by rw [mw_up_n _ _ ((ne_yo_a3).symm)]; exact fa3
  have fa4 : (mw_up wm23 yo (.inr (cMO, [.int 0, .ref a0, .ref a1, .int 0, .int 0, .ref a2, .ref a3, .ref a4, .ref a5, .ref a6, .ref a7, .ref a8, .int 0, .int 0, .ref a9, .ref a10, .ref a11, .null, .null, .null, .int 0]))) a4 = some (.inl (dA tI, 64, .inl (fun _ => 0))) := by rw [mw_up_n _ _ ((ne_yo_a4).symm)]; exact fa4
  have fa5 : (mw_up wm23 yo (.inr (cMO, [.int 0, .ref a0, .ref a1, .int 0, .int 0, .ref a2, .ref a3, .ref a4, .ref a5, .ref a6, .ref a7, .ref a8, .int 0, .int 0, .ref a9, .ref a10, .ref a11, .null, .null, .null, .int 0]))) a5 = some (.inl (dA tI, 64, .inl (fun _ => 0))) := by rw [mw_up_n _ _ ((ne_yo_a5).symm)]; exact fa5
  have fa6 : (mw_up wm23 yo (.inr (cMO, [.int 0, .ref a0, .ref a1, .int 0, .int 0, .ref a2, .ref a3, .ref a4, .ref a5, .ref a6, .ref a7, .ref a8, .int 0, .int 0, .ref a9, .ref a10, .ref a11, .null, .null, .null, .int 0]))) a6 = some (.inl (dA tI, 64, .inl (fun _ => 0))) := by rw [mw_up_n _ _ ((ne_yo_a6).symm)]; exact fa6
  have fa7 : (mw_up wm23 yo (.inr (cMO, [.int 0, .ref a0, .ref a1, .int 0, .int 0, .ref a2, .ref a3, .ref a4, .ref a5, .ref a6, .ref a7, .ref a8, .int 0, .int 0, .ref a9, .ref a10, .ref a11, .null, .null, .null, .int 0]))) a7 = some (.inl (dA tI, 64, .inl (fun _ => 0))) := by rw [mw_up_n _ _ ((ne_yo_a7).symm)]; exact fa7
  have fa8 : (mw_up wm23 yo (.inr (cMO, [.int 0, .ref a0, .ref a1, .int 0, .int 0, .ref a2, .ref a3, .ref a4, .ref a5, .ref a6, .ref a7, .ref a8, .int 0, .int 0, .ref a9, .ref a10, .ref a11, .null, .null, .null, .int 0]))) a8 = some (.inl (dA tI, 64, .inl (fun _ => 0))) := by rw [mw_up_n _ _ ((ne_yo_a8).symm)]; exact fa8
  have fa9 : (mw_up wm23 yo (.inr (cMO, [.int 0, .ref a0, .ref a1, .int 0, .int 0, .ref a2, .ref a3, .ref a4, .ref a5, .ref a6, .ref a7, .ref a8, .int 0, .int 0, .ref a9, .ref a10, .ref a11, .null, .null, .null, .int 0]))) a9 = some (.inl (dA tZ, 8192, .inl (fun _ => 0))) := by rw [mw_up_n _ _ ((ne_yo_a9).symm)]; exact fa9
  have fa10 : (mw_up wm23 yo (.inr (cMO, [.int 0, .ref a0, .ref a1, .int 0, .int 0, .ref a2, .ref a3, .ref a4, .ref a5, .ref a6, .ref a7, .ref a8, .int 0, .int 0, .ref a9, .ref a10, .ref a11, .null, .null, .null, .int 0]))) a10 = some (.inl (dA tB, 524288, .inl (fun _ => 0))) := by rw [mw_up_n _ _ ((ne_yo_a10).symm)]; exact fa10
  have fa11 : (mw_up wm23 yo (.inr (cMO, [.int 0, .ref a0, .ref a1, .int 0, .int 0, .ref a2, .ref a3, .ref a4, .ref a5, .ref a6, .ref a7, .ref a8, .int 0, .int 0, .ref a9, .ref a10, .ref a11, .null, .null, .null, .int 0]))) a11 = some (.inl (dA tJ, 64, .inr (.inl (fun _ => 0)))) := by rw [mw_up_n _ _ ((ne_yo_a11).symm)]; exact fa11
  have hF : ∀ (q : Nat) (y : va_E), w q = some y → q ≠ yo → (mw_up wm23 yo (.inr (cMO, [.int 0, .ref a0, .ref a1, .int 0, .int 0, .ref a2, .ref a3, .ref a4, .ref a5, .ref a6, .ref a7, .ref a8, .int 0, .int 0, .ref a9, .ref a10, .ref a11, .null, .null, .null, .int 0]))) q = some y := fun q y h1 h2 => by rw [mw_up_n _ _ (h2)]; exact hF q y h1 h2
  have f0 : (mw_up wm23 yo (.inr (cMO, [.int 0, .ref a0, .ref a1, .int 0, .int 0, .ref a2, .ref a3, .ref a4, .ref a5, .ref a6, .ref a7, .ref a8, .int 0, .int 0, .ref a9, .ref a10, .ref a11, .null, .null, .null, .int 0]))) yo = some (.inr (cMO, [.int 0, .ref a0, .ref a1, .int 0, .int 0, .ref a2, .ref a3, .ref a4, .ref a5, .ref a6, .ref a7, .ref a8, .int 0, .int 0, .ref a9, .ref a10, .ref a11, .null, .null, .null, .int 0])) := mw_up_s _ _ _
  generalize (mw_up wm23 yo (.inr (cMO, [.int 0, .ref a0, .ref a1, .int 0, .int 0, .ref a2, .ref a3, .ref a4, .ref a5, .ref a6, .ref a7, .ref a8, .int 0, .int 0, .ref a9, .ref a10, .ref a11, .null, .null, .null, .int 0]))) = wm24 at hI fa0 fa1 fa2 fa3 fa4 fa5 fa6 fa7 fa8 fa9 fa10 fa11 hF f0
  refine lv_aload_n hx hb d_MO_init_102 rfl (lv_at hl 0 rfl) ?_
  refine lv_bipush (v := nI 64) hx hb d_MO_init_103 (by decide) ?_
  refine mw_newa K hI tJ (t := .long) rfl tw_61 rfl (fun C h => by cases h) (a0 := (64, .inr (.inl (fun _ => 0)))) (fun _ => rfl) (nI_pos (by omega)) (nI_clamp (by omega)) (by show _ * 8 ≤ _; omega) (Nat.le_of_ble_eq_true rfl) (Nat.le_of_ble_eq_true rfl) d_MO_init_105 (fun a12 H hq hI => ?_)
  have hq_a12 := hq
  have hw_a12 : w a12 = none := mw_nn hF f0 hq_a12
  have hI : mw_I D mk_cl w s.heap (mw_up wm24 a12 (.inl (dA tJ, 64, .inr (.inl (fun _ => 0))))) H _ := hI
  have ne_yo_a12 : yo ≠ a12 := mw_neN f0 hq_a12
  have f0 : (mw_up wm24 a12 (.inl (dA tJ, 64, .inr (.inl (fun _ => 0))))) yo = some (.inr (cMO, [.int 0, .ref a0, .ref a1, .int 0, .int 0, .ref a2, .ref a3, .ref a4, .ref a5, .ref a6, .ref a7, .ref a8, .int 0, .int 0, .ref a9, .ref a10, .ref a11, .null, .null, .null, .int 0])) := by rw [mw_up_n _ _ (ne_yo_a12)]; exact f0
  have ne_a0_a12 : a0 ≠ a12 := mw_neN fa0 hq_a12
  have fa0 : (mw_up wm24 a12 (.inl (dA tJ, 64, .inr (.inl (fun _ => 0))))) a0 = some (.inl (dA tB, 512, .inl (fun _ => 0))) := by rw [mw_up_n _ _ (ne_a0_a12)]; exact fa0
  have ne_a1_a12 : a1 ≠ a12 := mw_neN fa1 hq_a12
  have fa1 : (mw_up wm24 a12 (.inl (dA tJ, 64, .inr (.inl (fun _ => 0))))) a1 = some (.inl (dA tB, 65536, .inl (fun _ => 0))) := by rw [mw_up_n _ _ (ne_a1_a12)]; exact fa1
  have ne_a2_a12 : a2 ≠ a12 := mw_neN fa2 hq_a12
  have fa2 : (mw_up wm24 a12 (.inl (dA tJ, 64, .inr (.inl (fun _ => 0))))) a2 = some (.inl (dA tI, 64, .inl (fun _ => 0))) := by rw [mw_up_n _ _ (ne_a2_a12)]; exact fa2
  have ne_a3_a12 : a3 ≠ a12 := mw_neN fa3 hq_a12
  have fa3 : (mw_up wm24 a12 (.inl (dA tJ, 64, .inr (.inl (fun _ => 0))))) a3 = some (.inl (dA tI, 64, .inl (fun _ => 0))) := by rw [mw_up_n _ _ (ne_a3_a12)]; exact fa3
  have ne_a4_a12 : a4 ≠ a12 := mw_neN fa4 hq_a12
  have fa4 : (mw_up wm24 a12 (.inl (dA tJ, 64, .inr (.inl (fun _ => 0))))) a4 = some (.inl (dA tI, 64, .inl (fun _ => 0))) := by rw [mw_up_n _ _ (ne_a4_a12)]; exact fa4
  have ne_a5_a12 : a5 ≠ a12 := mw_neN fa5 hq_a12
  have fa5 : (mw_up wm24 a12 (.inl (dA tJ, 64, .inr (.inl (fun _ => 0))))) a5 = some (.inl (dA tI, 64, .inl (fun _ => 0))) := by rw [mw_up_n _ _ (ne_a5_a12)]; exact fa5
  have ne_a6_a12 : a6 ≠ a12 := mw_neN fa6 hq_a12
  have fa6 : (mw_up wm24 a12 (.inl (dA tJ, 64, .inr (.inl (fun _ => 0))))) a6 = some (.inl (dA tI, 64, .inl (fun _ => 0))) := by rw [mw_up_n _ _ (ne_a6_a12)]; exact fa6
  have ne_a7_a12 : a7 ≠ a12 := mw_neN fa7 hq_a12
  have fa7 : (mw_up wm24 a12 (.inl (dA tJ, 64, .inr (.inl (fun _ => 0))))) a7 = some (.inl (dA tI, 64, .inl (fun _ => 0))) := by rw [mw_up_n _ _ (ne_a7_a12)]; exact fa7
  have ne_a8_a12 : a8 ≠ a12 := mw_neN fa8 hq_a12
  have fa8 : (mw_up wm24 a12 (.inl (dA tJ, 64, .inr (.inl (fun _ => 0))))) a8 = some (.inl (dA tI, 64, .inl (fun _ => 0))) := by rw [mw_up_n _ _ (ne_a8_a12)]; exact fa8
  have ne_a9_a12 : a9 ≠ a12 := mw_neN fa9 hq_a12
  have fa9 : (mw_up wm24 a12 (.inl (dA tJ, 64, .inr (.inl (fun _ => 0))))) a9 = some (.inl (dA tZ, 8192, .inl (fun _ => 0))) := by rw [mw_up_n _ _ (ne_a9_a12)]; exact fa9
  have ne_a10_a12 : a10 ≠ a12 := mw_neN fa10 hq_a12
  have fa10 : (mw_up wm24 a12 (.inl (dA tJ, 64, .inr (.inl (fun _ => 0))))) a10 = some (.inl (dA tB, 524288, .inl (fun _ => 0))) := by rw [mw_up_n _ _ (ne_a10_a12)]; exact fa10
  have ne_a11_a12 : a11 ≠ a12 := mw_neN fa11 hq_a12
  have fa11 : (mw_up wm24 a12 (.inl (dA tJ, 64, .inr (.inl (fun _ => 0))))) a11 = some (.inl (dA tJ, 64, .inr (.inl (fun _ => 0)))) := by rw [mw_up_n _ _ (ne_a11_a12)]; exact fa11
  have hF : ∀ (q : Nat) (y : va_E), w q = some y → q ≠ yo → (mw_up wm24 a12 (.inl (dA tJ, 64, .inr (.inl (fun _ => 0))))) q = some y := fun q y h1 h2 => by rw [mw_up_n _ _ (mw_neN h1 hw_a12)]; exact hF q y h1 h2
  have fa12 : (mw_up wm24 a12 (.inl (dA tJ, 64, .inr (.inl (fun _ => 0))))) a12 = some (.inl (dA tJ, 64, .inr (.inl (fun _ => 0)))) := mw_up_s _ _ _
  generalize (mw_up wm24 a12 (.inl (dA tJ, 64, .inr (.inl (fun _ => 0))))) = wm25 at hI f0 fa0 fa1 fa2 fa3 fa4 fa5 fa6 fa7 fa8 fa9 fa10 fa11 hF fa12
  refine mw_put K hI gp_MO_51_cMO (Or.inr hin) f0 rfl rfl (by simp) d_MO_init_107 (fun H locs hI => ?_)
  have hI : mw_I D mk_cl w s.heap (mw_up wm25 yo (.inr (cMO, [.int 0, .ref a0, .ref a1, .int 0, .int 0, .ref a2, .ref a3, .ref a4, .ref a5, .ref a6, .ref a7, .ref a8, .int 0, .int 0, .ref a9, .ref a10, .ref a11, .ref a12, .null, .null, .int 0]))) H _ := hI
  have fa0 : (mw_up wm25 yo (.inr (cMO, [.int 0, .ref a0, .ref a1, .int 0, .int 0, .ref a2, .ref a3, .ref a4, .ref a5, .ref a6, .ref a7, .ref a8, .int 0, .int 0, .ref a9, .ref a10, .ref a11, .ref a12, .null, .null, .int 0]))) a0 = some (.inl (dA tB, 512, .inl (fun _ => 0))) := by rw [mw_up_n _ _ ((ne_yo_a0).symm)]; exact fa0
  have fa1 : (mw_up wm25 yo (.inr (cMO, [.int 0, .ref a0, .ref a1, .int 0, .int 0, .ref a2, .ref a3, .ref a4, .ref a5, .ref a6, .ref a7, .ref a8, .int 0, .int 0, .ref a9, .ref a10, .ref a11, .ref a12, .null, .null, .int 0]))) a1 = some (.inl (dA tB, 65536, .inl (fun _ => 0))) := by rw [mw_up_n _ _ ((ne_yo_a1).symm)]; exact fa1
  have fa2 : (mw_up wm25 yo (.inr (cMO, [.int 0, .ref a0, .ref a1, .int 0, .int 0, .ref a2, .ref a3, .ref a4, .ref a5, .ref a6, .ref a7, .ref a8, .int 0, .int 0, .ref a9, .ref a10, .ref a11, .ref a12, .null, .null, .int 0]))) a2 = some (.inl (dA tI, 64, .inl (fun _ => 0))) := by rw [mw_up_n _ _ ((ne_yo_a2).symm)]; exact fa2
  have fa3 : (mw_up wm25 yo (.inr (cMO, [.int 0, .ref a0, .ref a1, .int 0, .int 0, .ref a2, .ref a3, .ref a4, .ref a5, .ref a6, .ref a7, .ref a8, .int 0, .int 0, .ref a9, .ref a10, .ref a11, .ref a12, .null, .null, .int 0]))) a3 = some (.inl (dA tI, 64, .inl (fun _ => 0))) := by rw [mw_up_n _ _ ((ne_yo_a3).symm)]; exact fa3
  have fa4 : (mw_up wm25 yo (.inr (cMO, [.int 0, .ref a0, .ref a1, .int 0, .int 0, .ref a2, .ref a3, .ref a4, .ref a5, .ref a6, .ref a7, .ref a8, .int 0, .int 0, .ref a9, .ref a10, .ref a11, .ref a12, .null, .null, .int 0]))) a4 = some (.inl (dA tI, 64, .inl (fun _ => 0))) := by rw [mw_up_n _ _ ((ne_yo_a4).symm)]; exact fa4
  have fa5 : (mw_up wm25 yo (.inr (cMO, [.int 0, .ref a0, .ref a1, .int 0, .int 0, .ref a2, .ref a3, .ref a4, .ref a5, .ref a6, .ref a7, .ref a8, .int 0, .int 0, .ref a9, .ref a10, .ref a11, .ref a12, .null, .null, .int 0]))) a5 = some (.inl (dA tI, 64, .inl (fun _ => 0))) := by rw [mw_up_n _ _ ((ne_yo_a5).symm)]; exact fa5
  have fa6 : (mw_up wm25 yo (.inr (cMO, [.int 0, .ref a0, .ref a1, .int 0, .int 0, .ref a2, .ref a3, .ref a4, .ref a5, .ref a6, .ref a7, .ref a8, .int 0, .int 0, .ref a9, .ref a10, .ref a11, .ref a12, .null, .null, .int 0]))) a6 = some (.inl (dA tI, 64, .inl (fun _ => 0))) := by rw [mw_up_n _ _ ((ne_yo_a6).symm)]; exact fa6
  have fa7 : (mw_up wm25 yo (.inr (cMO, [.int 0, .ref a0, .ref a1, .int 0, .int 0, .ref a2, .ref a3, .ref a4, .ref a5, .ref a6, .ref a7, .ref a8, .int 0, .int 0, .ref a9, .ref a10, .ref a11, .ref a12, .null, .null, .int 0]))) a7 = some (.inl (dA tI, 64, .inl (fun _ => 0))) := by rw [mw_up_n _ _ ((ne_yo_a7).symm)]; exact fa7
  have fa8 : (mw_up wm25 yo (.inr (cMO, [.int 0, .ref a0, .ref a1, .int 0, .int 0, .ref a2, .ref a3, .ref a4, .ref a5, .ref a6, .ref a7, .ref a8, .int 0, .int 0, .ref a9, .ref a10, .ref a11, .ref a12, .null, .null, .int 0]))) a8 = some (.inl (dA tI, 64, .inl (fun _ => 0))) := by rw [mw_up_n _ _ ((ne_yo_a8).symm)]; exact fa8
  have fa9 : (mw_up wm25 yo (.inr (cMO, [.int 0, .ref a0, .ref a1, .int 0, .int 0, .ref a2, .ref a3, .ref a4, .ref a5, .ref a6, .ref a7, .ref a8, .int 0, .int 0, .ref a9, .ref a10, .ref a11, .ref a12, .null, .null, .int 0]))) a9 = some (.inl (dA tZ, 8192, .inl (fun _ => 0))) := by rw [mw_up_n _ _ ((ne_yo_a9).symm)]; exact fa9
  have fa10 : (mw_up wm25 yo (.inr (cMO, [.int 0, .ref a0, .ref a1, .int 0, .int 0, .ref a2, .ref a3, .ref a4, .ref a5, .ref a6, .ref a7, .ref a8, .int 0, .int 0, .ref a9, .ref a10, .ref a11, .ref a12, .null, .null, .int 0]))) a10 = some (.inl (dA tB, 524288, .inl (fun _ => 0))) := by rw [mw_up_n _ _ ((ne_yo_a10).symm)]; exact fa10
  have fa11 : (mw_up wm25 yo (.inr (cMO, [.int 0, .ref a0, .ref a1, .int 0, .int 0, .ref a2, .ref a3, .ref a4, .ref a5, .ref a6, .ref a7, .ref a8, .int 0, .int 0, .ref a9, .ref a10, .ref a11, .ref a12, .null, .null, .int 0]))) a11 = some (.inl (dA tJ, 64, .inr (.inl (fun _ => 0)))) := by rw [mw_up_n _ _ ((ne_yo_a11).symm)]; exact fa11
  have fa12 : (mw_up wm25 yo (.inr (cMO, [.int 0, .ref a0, .ref a1, .int 0, .int 0, .ref a2, .ref a3, .ref a4, .ref a5, .ref a6, .ref a7, .ref a8, .int 0, .int 0, .ref a9, .ref a10, .ref a11, .ref a12, .null, .null, .int 0]))) a12 = some (.inl (dA tJ, 64, .inr (.inl (fun _ => 0)))) := by rw [mw_up_n _ _ ((ne_yo_a12).symm)]; exact fa12
  have hF : ∀ (q : Nat) (y : va_E), w q = some y → q ≠ yo → (mw_up wm25 yo (.inr (cMO, [.int 0, .ref a0, .ref a1, .int 0, .int 0, .ref a2, .ref a3, .ref a4, .ref a5, .ref a6, .ref a7, .ref a8, .int 0, .int 0, .ref a9, .ref a10, .ref a11, .ref a12, .null, .null, .int 0]))) q = some y := fun q y h1 h2 => by rw [mw_up_n _ _ (h2)]; exact hF q y h1 h2
  have f0 : (mw_up wm25 yo (.inr (cMO, [.int 0, .ref a0, .ref a1, .int 0, .int 0, .ref a2, .ref a3, .ref a4, .ref a5, .ref a6, .ref a7, .ref a8, .int 0, .int 0, .ref a9, .ref a10, .ref a11, .ref a12, .null, .null, .int 0]))) yo = some (.inr (cMO, [.int 0, .ref a0, .ref a1, .int 0, .int 0, .ref a2, .ref a3, .ref a4, .ref a5, .ref a6, .ref a7, .ref a8, .int 0, .int 0, .ref a9, .ref a10, .ref a11, .ref a12, .null, .null, .int 0])) := mw_up_s _ _ _
  generalize (mw_up wm25 yo (.inr (cMO, [.int 0, .ref a0, .ref a1, .int 0, .int 0, .ref a2, .ref a3, .ref a4, .ref a5, .ref a6, .ref a7, .ref a8, .int 0, .int 0, .ref a9, .ref a10, .ref a11, .ref a12, .null, .null, .int 0]))) = wm26 at hI fa0 fa1 fa2 fa3 fa4 fa5 fa6 fa7 fa8 fa9 fa10 fa11 fa12 hF f0
  refine lv_aload_n hx hb d_MO_init_110 rfl (lv_at hl 0 rfl) ?_
  refine lv_bipush (v := nI 64) hx hb d_MO_init_111 (by decide) ?_
  refine mw_newa K hI tI (t := .int) rfl tw_664 rfl (fun C h => by cases h) (a0 := (64, .inl (fun _ => 0))) (fun _ => rfl) (nI_pos (by omega)) (nI_clamp (by omega)) (by show _ * 4 ≤ _; omega) (Nat.le_of_ble_eq_true rfl) (Nat.le_of_ble_eq_true rfl) d_MO_init_113 (fun a13 H hq hI => ?_)
  have hq_a13 := hq
  have hw_a13 : w a13 = none := mw_nn hF f0 hq_a13
  have hI : mw_I D mk_cl w s.heap (mw_up wm26 a13 (.inl (dA tI, 64, .inl (fun _ => 0)))) H _ := hI
  have ne_yo_a13 : yo ≠ a13 := mw_neN f0 hq_a13
  have f0 : (mw_up wm26 a13 (.inl (dA tI, 64, .inl (fun _ => 0)))) yo = some (.inr (cMO, [.int 0, .ref a0, .ref a1, .int 0, .int 0, .ref a2, .ref a3, .ref a4, .ref a5, .ref a6, .ref a7, .ref a8, .int 0, .int 0, .ref a9, .ref a10, .ref a11, .ref a12, .null, .null, .int 0])) := by rw [mw_up_n _ _ (ne_yo_a13)]; exact f0
  have ne_a0_a13 : a0 ≠ a13 := mw_neN fa0 hq_a13
  have fa0 : (mw_up wm26 a13 (.inl (dA tI, 64, .inl (fun _ => 0)))) a0 = some (.inl (dA tB, 512, .inl (fun _ => 0))) := by rw [mw_up_n _ _ (ne_a0_a13)]; exact fa0
  have ne_a1_a13 : a1 ≠ a13 := mw_neN fa1 hq_a13
  have fa1 : (mw_up wm26 a13 (.inl (dA tI, 64, .inl (fun _ => 0)))) a1 = some (.inl (dA tB, 65536, .inl (fun _ => 0))) := by rw [mw_up_n _ _ (ne_a1_a13)]; exact fa1
  have ne_a2_a13 : a2 ≠ a13 := mw_neN fa2 hq_a13
  have fa2 : (mw_up wm26 a13 (.inl (dA tI, 64, .inl (fun _ => 0)))) a2 = some (.inl (dA tI, 64, .inl (fun _ => 0))) := by rw [mw_up_n _ _ (ne_a2_a13)]; exact fa2
  have ne_a3_a13 : a3 ≠ a13 := mw_neN fa3 hq_a13
  have fa3 : (mw_up wm26 a13 (.inl (dA tI, 64, .inl (fun _ => 0)))) a3 = some (.inl (dA tI, 64, .inl (fun _ => 0))) := by rw [mw_up_n _ _ (ne_a3_a13)]; exact fa3
  have ne_a4_a13 : a4 ≠ a13 := mw_neN fa4 hq_a13
  have fa4 : (mw_up wm26 a13 (.inl (dA tI, 64, .inl (fun _ => 0)))) a4 = some (.inl (dA tI, 64, .inl (fun _ => 0))) := by rw [mw_up_n _ _ (ne_a4_a13)]; exact fa4
  have ne_a5_a13 : a5 ≠ a13 := mw_neN fa5 hq_a13
  have fa5 : (mw_up wm26 a13 (.inl (dA tI, 64, .inl (fun _ => 0)))) a5 = some (.inl (dA tI, 64, .inl (fun _ => 0))) := by rw [mw_up_n _ _ (ne_a5_a13)]; exact fa5
  have ne_a6_a13 : a6 ≠ a13 := mw_neN fa6 hq_a13
  have fa6 : (mw_up wm26 a13 (.inl (dA tI, 64, .inl (fun _ => 0)))) a6 = some (.inl (dA tI, 64, .inl (fun _ => 0))) := by rw [mw_up_n _ _ (ne_a6_a13)]; exact fa6
  have ne_a7_a13 : a7 ≠ a13 := mw_neN fa7 hq_a13
  have fa7 : (mw_up wm26 a13 (.inl (dA tI, 64, .inl (fun _ => 0)))) a7 = some (.inl (dA tI, 64, .inl (fun _ => 0))) := by rw [mw_up_n _ _ (ne_a7_a13)]; exact fa7
  have ne_a8_a13 : a8 ≠ a13 := mw_neN fa8 hq_a13
  have fa8 : (mw_up wm26 a13 (.inl (dA tI, 64, .inl (fun _ => 0)))) a8 = some (.inl (dA tI, 64, .inl (fun _ => 0))) := by rw [mw_up_n _ _ (ne_a8_a13)]; exact fa8
  have ne_a9_a13 : a9 ≠ a13 := mw_neN fa9 hq_a13
  have fa9 : (mw_up wm26 a13 (.inl (dA tI, 64, .inl (fun _ => 0)))) a9 = some (.inl (dA tZ, 8192, .inl (fun _ => 0))) := by rw [mw_up_n _ _ (ne_a9_a13)]; exact fa9
  have ne_a10_a13 : a10 ≠ a13 := mw_neN fa10 hq_a13
  have fa10 : (mw_up wm26 a13 (.inl (dA tI, 64, .inl (fun _ => 0)))) a10 = some (.inl (dA tB, 524288, .inl (fun _ => 0))) := by rw [mw_up_n _ _ (ne_a10_a13)]; exact fa10
  have ne_a11_a13 : a11 ≠ a13 := mw_neN fa11 hq_a13
  have fa11 : (mw_up wm26 a13 (.inl (dA tI, 64, .inl (fun _ => 0)))) a11 = some (.inl (dA tJ, 64, .inr (.inl (fun _ => 0)))) := by rw [mw_up_n _ _ (ne_a11_a13)]; exact fa11
  have ne_a12_a13 : a12 ≠ a13 := mw_neN fa12 hq_a13
  have fa12 : (mw_up wm26 a13 (.inl (dA tI, 64, .inl (fun _ => 0)))) a12 = some (.inl (dA tJ, 64, .inr (.inl (fun _ => 0)))) := by rw [mw_up_n _ _ (ne_a12_a13)]; exact fa12
  have hF : ∀ (q : Nat) (y : va_E), w q = some y → q ≠ yo → (mw_up wm26 a13 (.inl (dA tI, 64, .inl (fun _ => 0)))) q = some y := fun q y h1 h2 => by rw [mw_up_n _ _ (mw_neN h1 hw_a13)]; exact hF q y h1 h2
  have fa13 : (mw_up wm26 a13 (.inl (dA tI, 64, .inl (fun _ => 0)))) a13 = some (.inl (dA tI, 64, .inl (fun _ => 0))) := mw_up_s _ _ _
  generalize (mw_up wm26 a13 (.inl (dA tI, 64, .inl (fun _ => 0)))) = wm27 at hI f0 fa0 fa1 fa2 fa3 fa4 fa5 fa6 fa7 fa8 fa9 fa10 fa11 fa12 hF fa13
  refine mw_put K hI gp_MO_54_cMO (Or.inr hin) f0 rfl rfl (by simp) d_MO_init_115 (fun H locs hI => ?_)
  have hI : mw_I D mk_cl w s.heap (mw_up wm27 yo (.inr (cMO, [.int 0, .ref a0, .ref a1, .int 0, .int 0, .ref a2, .ref a3, .ref a4, .ref a5, .ref a6, .ref a7, .ref a8, .int 0, .int 0, .ref a9, .ref a10, .ref a11, .ref a12, .ref a13, .null, .int 0]))) H _ := hI
  have fa0 : (mw_up wm27 yo (.inr (cMO, [.int 0, .ref a0, .ref a1, .int 0, .int 0, .ref a2, .ref a3, .ref a4, .ref a5, .ref a6, .ref a7, .ref a8, .int 0, .int 0, .ref a9, .ref a10, .ref a11, .ref a12, .ref a13, .null, .int 0]))) a0 = some (.inl (dA tB, 512, .inl (fun _ => 0))) := by rw [mw_up_n _ _ ((ne_yo_a0).symm)]; exact fa0
  have fa1 : (mw_up wm27 yo (.inr (cMO, [.int 0, .ref a0, .ref a1, .int 0, .int 0, .ref a2, .ref a3, .ref a4, .ref a5, .ref a6, .ref a7, .ref a8, .int 0, .int 0, .ref a9, .ref a10, .ref a11, .ref a12, .ref a13, .null, .int 0]))) a1 = some (.inl (dA tB, 65536, .inl (fun _ => 0))) := by rw [mw_up_n _ _ ((ne_yo_a1).symm)]; exact fa1
  have fa2 : (mw_up wm27 yo (.inr (cMO, [.int 0, .ref a0, .ref a1, .int 0, .int 0, .ref a2, .ref a3, .ref a4, .ref a5, .ref a6, .ref a7, .ref a8, .int 0, .int 0, .ref a9, .ref a10, .ref a11, .ref a12, .ref a13, .null, .int 0]))) a2 = some (.inl (dA tI, 64, .inl (fun _ => 0))) := by rw [mw_up_n _ _ ((ne_yo_a2).symm)]; exact fa2
  have fa3 : (mw_up wm27 yo (.inr (cMO, [.int 0, .ref a0, .ref a1, .int 0, .int 0, .ref a2, .ref a3, .ref a4, .ref a5, .ref a6, .ref a7, .ref a8, .int 0, .int 0, .ref a9, .ref a10, .ref a11, .ref a12, .ref a13, .null, .int 0]))) a3 = some (.inl (dA tI, 64, .inl (fun _ => 0))) := by rw [mw_up_n _ _ ((ne_yo_a3).symm)]; exact fa3
  have fa4 : (mw_up wm27 yo (.inr (cMO, [.int 0, .ref a0, .ref a1, .int 0, .int 0, .ref a2, .ref a3, .ref a4, .ref a5, .ref a6, .ref a7, .ref a8, .int 0, .int 0, .ref a9, .ref a10, .ref a11, .ref a12, .ref a13, .null, .int 0]))) a4 = some (.inl (dA tI, 64, .inl (fun _ => 0))) := by rw [mw_up_n _ _ ((ne_yo_a4).symm)]; exact fa4
  have fa5 : (mw_up wm27 yo (.inr (cMO, [.int 0, .ref a0, .ref a1, .int 0, .int 0, .ref a2, .ref a3, .ref a4, .ref a5, .ref a6, .ref a7, .ref a8, .int 0, .int 0, .ref a9, .ref a10, .ref a11, .ref a12, .ref a13, .null, .int 0]))) a5 = some (.inl (dA tI, 64, .inl (fun _ => 0))) := by rw [mw_up_n _ _ ((ne_yo_a5).symm)]; exact fa5
  have fa6 : (mw_up wm27 yo (.inr (cMO, [.int 0, .ref a0, .ref a1, .int 0, .int 0, .ref a2, .ref a3, .ref a4, .ref a5, .ref a6, .ref a7, .ref a8, .int 0, .int 0, .ref a9, .ref a10, .ref a11, .ref a12, .ref a13, .null, .int 0]))) a6 = some (.inl (dA tI, 64, .inl (fun _ => 0))) := by rw [mw_up_n _ _ ((ne_yo_a6).symm)]; exact fa6
  have fa7 : (mw_up wm27 yo (.inr (cMO, [.int 0, .ref a0, .ref a1, .int 0, .int 0, .ref a2, .ref a3, .ref a4, .ref a5, .ref a6, .ref a7, .ref a8, .int 0, .int 0, .ref a9, .ref a10, .ref a11, .ref a12, .ref a13, .null, .int 0]))) a7 = some (.inl (dA tI, 64, .inl (fun _ => 0))) := by rw [mw_up_n _ _ ((ne_yo_a7).symm)]; exact fa7
  have fa8 : (mw_up wm27 yo (.inr (cMO, [.int 0, .ref a0, .ref a1, .int 0, .int 0, .ref a2, .ref a3, .ref a4, .ref a5, .ref a6, .ref a7, .ref a8, .int 0, .int 0, .ref a9, .ref a10, .ref a11, .ref a12, .ref a13, .null, .int 0]))) a8 = some (.inl (dA tI, 64, .inl (fun _ => 0))) := by rw [mw_up_n _ _ ((ne_yo_a8).symm)]; exact fa8
  have fa9 : (mw_up wm27 yo (.inr (cMO, [.int 0, .ref a0, .ref a1, .int 0, .int 0, .ref a2, .ref a3, .ref a4, .ref a5, .ref a6, .ref a7, .ref a8, .int 0, .int 0, .ref a9, .ref a10, .ref a11, .ref a12, .ref a13, .null, .int 0]))) a9 = some (.inl (dA tZ, 8192, .inl (fun _ => 0))) := by rw [mw_up_n _ _ ((ne_yo_a9).symm)]; exact fa9
  have fa10 : (mw_up wm27 yo (.inr (cMO, [.int 0, .ref a0, .ref a1, .int 0, .int 0, .ref a2, .ref a3, .ref a4, .ref a5, .ref a6, .ref a7, .ref a8, .int 0, .int 0, .ref a9, .ref a10, .ref a11, .ref a12, .ref a13, .null, .int 0]))) a10 = some (.inl (dA tB, 524288, .inl (fun _ => 0))) := by rw [mw_up_n _ _ ((ne_yo_a10).symm)]; exact fa10
  have fa11 : (mw_up wm27 yo (.inr (cMO, [.int 0, .ref a0, .ref a1, .int 0, .int 0, .ref a2, .ref a3, .ref a4, .ref a5, .ref a6, .ref a7, .ref a8, .int 0, .int 0, .ref a9, .ref a10, .ref a11, .ref a12, .ref a13, .null, .int 0]))) a11 = some (.inl (dA tJ, 64, .inr (.inl (fun _ => 0)))) := by rw [mw_up_n _ _ ((ne_yo_a11).symm)]; exact fa11
  have fa12 : (mw_up wm27 yo (.inr (cMO, [.int 0, .ref a0, .ref a1, .int 0, .int 0, .ref a2, .ref a3, .ref a4, .ref a5, .ref a6, .ref a7, .ref a8, .int 0, .int 0, .ref a9, .ref a10, .ref a11, .ref a12, .ref a13, .null, .int 0]))) a12 = some (.inl (dA tJ, 64, .inr (.inl (fun _ => 0)))) := by rw [mw_up_n _ _ ((ne_yo_a12).symm)]; exact fa12
  have fa13 : (mw_up wm27 yo (.inr (cMO, [.int 0, .ref a0, .ref a1, .int 0, .int 0, .ref a2, .ref a3, .ref a4, .ref a5, .ref a6, .ref a7, .ref a8, .int 0, .int 0, .ref a9, .ref a10, .ref a11, .ref a12, .ref a13, .null, .int 0]))) a13 = some (.inl (dA tI, 64, .inl (fun _ => 0))) := by rw [mw_up_n _ _ ((ne_yo_a13).symm)]; exact fa13
  have hF : ∀ (q : Nat) (y : va_E), w q = some y → q ≠ yo → (mw_up wm27 yo (.inr (cMO, [.int 0, .ref a0, .ref a1, .int 0, .int 0, .ref a2, .ref a3, .ref a4, .ref a5, .ref a6, .ref a7, .ref a8, .int 0, .int 0, .ref a9, .ref a10, .ref a11, .ref a12, .ref a13, .null, .int 0]))) q = some y := fun q y h1 h2 => by rw [mw_up_n _ _ (h2)]; exact hF q y h1 h2
  have f0 : (mw_up wm27 yo (.inr (cMO, [.int 0, .ref a0, .ref a1, .int 0, .int 0, .ref a2, .ref a3, .ref a4, .ref a5, .ref a6, .ref a7, .ref a8, .int 0, .int 0, .ref a9, .ref a10, .ref a11, .ref a12, .ref a13, .null, .int 0]))) yo = some (.inr (cMO, [.int 0, .ref a0, .ref a1, .int 0, .int 0, .ref a2, .ref a3, .ref a4, .ref a5, .ref a6, .ref a7, .ref a8, .int 0, .int 0, .ref a9, .ref a10, .ref a11, .ref a12, .ref a13, .null, .int 0])) := mw_up_s _ _ _
  generalize (mw_up wm27 yo (.inr (cMO, [.int 0, .ref a0, .ref a1, .int 0, .int 0, .ref a2, .ref a3, .ref a4, .ref a5, .ref a6, .ref a7, .ref a8, .int 0, .int 0, .ref a9, .ref a10, .ref a11, .ref a12, .ref a13, .null, .int 0]))) = wm28 at hI fa0 fa1 fa2 fa3 fa4 fa5 fa6 fa7 fa8 fa9 fa10 fa11 fa12 fa13 hF f0
  refine lv_aload_n hx hb d_MO_init_118 rfl (lv_at hl 0 rfl) ?_
  refine lv_bipush (v := nI 64) hx hb d_MO_init_119 (by decide) ?_
  refine mw_newa K hI tZ (t := .boolean) rfl tw_665 rfl (fun C h => by cases h) (a0 := (64, .inl (fun _ => 0))) (fun _ => rfl) (nI_pos (by omega)) (nI_clamp (by omega)) (by show _ * 1 ≤ _; omega) (Nat.le_of_ble_eq_true rfl) (Nat.le_of_ble_eq_true rfl) d_MO_init_121 (fun a14 H hq hI => ?_)
  have hq_a14 := hq
  have hw_a14 : w a14 = none := mw_nn hF f0 hq_a14
  have hI : mw_I D mk_cl w s.heap (mw_up wm28 a14 (.inl (dA tZ, 64, .inl (fun _ => 0)))) H _ := hI
  have ne_yo_a14 : yo ≠ a14 := mw_neN f0 hq_a14
  have f0 : (mw_up wm28 a14 (.inl (dA tZ, 64, .inl (fun _ => 0)))) yo = some (.inr (cMO, [.int 0, .ref a0, .ref a1, .int 0, .int 0, .ref a2, .ref a3, .ref a4, .ref a5, .ref a6, .ref a7, .ref a8, .int 0, .int 0, .ref a9, .ref a10, .ref a11, .ref a12, .ref a13, .null, .int 0])) := by rw [mw_up_n _ _ (ne_yo_a14)]; exact f0
  have ne_a0_a14 : a0 ≠ a14 := mw_neN fa0 hq_a14
  have fa0 : (mw_up wm28 a14 (.inl (dA tZ, 64, .inl (fun _ => 0)))) a0 = some (.inl (dA tB, 512, .inl (fun _ => 0))) := by rw [mw_up_n _ _ (ne_a0_a14)]; exact fa0
  have ne_a1_a14 : a1 ≠ a14 := mw_neN fa1 hq_a14
  have fa1 : (mw_up wm28 a14 (.inl (dA tZ, 64, .inl (fun _ => 0)))) a1 = some (.inl (dA tB, 65536, .inl (fun _ => 0))) := by rw [mw_up_n _ _ (ne_a1_a14)]; exact fa1
  have ne_a2_a14 : a2 ≠ a14 := mw_neN fa2 hq_a14
  have fa2 : (mw_up wm28 a14 (.inl (dA tZ, 64, .inl (fun _ => 0)))) a2 = some (.inl (dA tI, 64, .inl (fun _ => 0))) := by rw [mw_up_n _ _ (ne_a2_a14)]; exact fa2
  have ne_a3_a14 : a3 ≠ a14 := mw_neN fa3 hq_a14
  have fa3 : (mw_up wm28 a14 (.inl (dA tZ, 64, .inl (fun _ => 0)))) a3 = some (.inl (dA tI, 64, .inl (fun _ => 0))) := by rw [mw_up_n _ _ (ne_a3_a14)]; exact fa3
  have ne_a4_a14 : a4 ≠ a14 := mw_neN fa4 hq_a14
  have fa4 : (mw_up wm28 a14 (.inl (dA tZ, 64, .inl (fun _ => 0)))) a4 = some (.inl (dA tI, 64, .inl (fun _ => 0))) := by rw [mw_up_n _ _ (ne_a4_a14)]; exact fa4
  have ne_a5_a14 : a5 ≠ a14 := mw_neN fa5 hq_a14
  have fa5 : (mw_up wm28 a14 (.inl (dA tZ, 64, .inl (fun _ => 0)))) a5 = some (.inl (dA tI, 64, .inl (fun _ => 0))) := by rw [mw_up_n _ _ (ne_a5_a14)]; exact fa5
  have ne_a6_a14 : a6 ≠ a14 := mw_neN fa6 hq_a14
  have fa6 : (mw_up wm28 a14 (.inl (dA tZ, 64, .inl (fun _ => 0)))) a6 = some (.inl (dA tI, 64, .inl (fun _ => 0))) := by rw [mw_up_n _ _ (ne_a6_a14)]; exact fa6
  have ne_a7_a14 : a7 ≠ a14 := mw_neN fa7 hq_a14
  have fa7 : (mw_up wm28 a14 (.inl (dA tZ, 64, .inl (fun _ => 0)))) a7 = some (.inl (dA tI, 64, .inl (fun _ => 0))) := by rw [mw_up_n _ _ (ne_a7_a14)]; exact fa7
  have ne_a8_a14 : a8 ≠ a14 := mw_neN fa8 hq_a14
  have fa8 : (mw_up wm28 a14 (.inl (dA tZ, 64, .inl (fun _ => 0)))) a8 = some (.inl (dA tI, 64, .inl (fun _ => 0))) := by rw [mw_up_n _ _ (ne_a8_a14)]; exact fa8
  have ne_a9_a14 : a9 ≠ a14 := mw_neN fa9 hq_a14
  have fa9 : (mw_up wm28 a14 (.inl (dA tZ, 64, .inl (fun _ => 0)))) a9 = some (.inl (dA tZ, 8192, .inl (fun _ => 0))) := by rw [mw_up_n _ _ (ne_a9_a14)]; exact fa9
  have ne_a10_a14 : a10 ≠ a14 := mw_neN fa10 hq_a14
  have fa10 : (mw_up wm28 a14 (.inl (dA tZ, 64, .inl (fun _ => 0)))) a10 = some (.inl (dA tB, 524288, .inl (fun _ => 0))) := by rw [mw_up_n _ _ (ne_a10_a14)]; exact fa10
  have ne_a11_a14 : a11 ≠ a14 := mw_neN fa11 hq_a14
  have fa11 : (mw_up wm28 a14 (.inl (dA tZ, 64, .inl (fun _ => 0)))) a11 = some (.inl (dA tJ, 64, .inr (.inl (fun _ => 0)))) := by rw [mw_up_n _ _ (ne_a11_a14)]; exact fa11
  have ne_a12_a14 : a12 ≠ a14 := mw_neN fa12 hq_a14
  have fa12 : (mw_up wm28 a14 (.inl (dA tZ, 64, .inl (fun _ => 0)))) a12 = some (.inl (dA tJ, 64, .inr (.inl (fun _ => 0)))) := by rw [mw_up_n _ _ (ne_a12_a14)]; exact fa12
  have ne_a13_a14 : a13 ≠ a14 := mw_neN fa13 hq_a14
  have fa13 : (mw_up wm28 a14 (.inl (dA tZ, 64, .inl (fun _ => 0)))) a13 = some (.inl (dA tI, 64, .inl (fun _ => 0))) := by rw [mw_up_n _ _ (ne_a13_a14)]; exact fa13
  have hF : ∀ (q : Nat) (y : va_E), w q = some y → q ≠ yo → (mw_up wm28 a14 (.inl (dA tZ, 64, .inl (fun _ => 0)))) q = some y := fun q y h1 h2 => by rw [mw_up_n _ _ (mw_neN h1 hw_a14)]; exact hF q y h1 h2
  have fa14 : (mw_up wm28 a14 (.inl (dA tZ, 64, .inl (fun _ => 0)))) a14 = some (.inl (dA tZ, 64, .inl (fun _ => 0))) := mw_up_s _ _ _
  generalize (mw_up wm28 a14 (.inl (dA tZ, 64, .inl (fun _ => 0)))) = wm29 at hI f0 fa0 fa1 fa2 fa3 fa4 fa5 fa6 fa7 fa8 fa9 fa10 fa11 fa12 fa13 hF fa14
  refine mw_put K hI gp_MO_57_cMO (Or.inr hin) f0 rfl rfl (by simp) d_MO_init_123 (fun H locs hI => ?_)
  have hI : mw_I D mk_cl w s.heap (mw_up wm29 yo (.inr (cMO, [.int 0, .ref a0, .ref a1, .int 0, .int 0, .ref a2, .ref a3, .ref a4, .ref a5, .ref a6, .ref a7, .ref a8, .int 0, .int 0, .ref a9, .ref a10, .ref a11, .ref a12, .ref a13, .ref a14, .int 0]))) H _ := hI
  have fa0 : (mw_up wm29 yo (.inr (cMO, [.int 0, .ref a0, .ref a1, .int 0, .int 0, .ref a2, .ref a3, .ref a4, .ref a5, .ref a6, .ref a7, .ref a8, .int 0, .int 0, .ref a9, .ref a10, .ref a11, .ref a12, .ref a13, .ref a14, .int 0]))) a0 = some (.inl (dA tB, 512, .inl (fun _ => 0))) := by rw [mw_up_n _ _ ((ne_yo_a0).symm)]; exact fa0
  have fa1 : (mw_up wm29 yo (.inr (cMO, [.int 0, .ref a0, .ref a1, .int 0, .int 0, .ref a2, .ref a3, .ref a4, .ref a5, .ref a6, .ref a7, .ref a8, .int 0, .int 0, .ref a9, .ref a10, .ref a11, .ref a12, .ref a13, .ref a14, .int 0]))) a1 = some (.inl (dA tB, 65536, .inl (fun _ => 0))) := by rw [mw_up_n _ _ ((ne_yo_a1).symm)]; exact fa1
  have fa2 : (mw_up wm29 yo (.inr (cMO, [.int 0, .ref a0, .ref a1, .int 0, .int 0, .ref a2, .ref a3, .ref a4, .ref a5, .ref a6, .ref a7, .ref a8, .int 0, .int 0, .ref a9, .ref a10, .ref a11, .ref a12, .ref a13, .ref a14, .int 0]))) a2 = some (.inl (dA tI, 64, .inl (fun _ => 0))) := by rw [mw_up_n _ _ ((ne_yo_a2).symm)]; exact fa2
  have fa3 : (mw_up wm29 yo (.inr (cMO, [.int 0, .ref a0, .ref a1, .int 0, .int 0, .ref a2, .ref a3, .ref a4, .ref a5, .ref a6, .ref a7, .ref a8, .int 0, .int 0, .ref a9, .ref a10, .ref a11, .ref a12, .ref a13, .ref a14, .int 0]))) a3 = some (.inl (dA tI, 64, .inl (fun _ => 0))) := by rw [mw_up_n _ _ ((ne_yo_a3).symm)]; exact fa3
  have fa4 : (mw_up wm29 yo (.inr (cMO, [.int 0, .ref a0, .ref a1, .int 0, .int 0, .ref a2, .ref a3, .ref a4, .ref a5, .ref a6, .ref a7, .ref a8, .int 0, .int 0, .ref a9, .ref a10, .ref a11, .ref a12, .ref a13, .ref a14, .int 0]))) a4 = some (.inl (dA tI, 64, .inl (fun _ => 0))) := by rw [mw_up_n _ _ ((ne_yo_a4).symm)]; exact fa4
  have fa5 : (mw_up wm29 yo (.inr (cMO, [.int 0, .ref a0, .ref a1, .int 0, .int 0, .ref a2, .ref a3, .ref a4, .ref a5, .ref a6, .ref a7, .ref a8, .int 0, .int 0, .ref a9, .ref a10, .ref a11, .ref a12, .ref a13, .ref a14, .int 0]))) a5 = some (.inl (dA tI, 64, .inl (fun _ => 0))) := by rw [mw_up_n _ _ ((ne_yo_a5).symm)]; exact fa5
  have fa6 : (mw_up wm29 yo (.inr (cMO, [.int 0, .ref a0, .ref a1, .int 0, .int 0, .ref a2, .ref a3, .ref a4, .ref a5, .ref a6, .ref a7, .ref a8, .int 0, .int 0, .ref a9, .ref a10, .ref a11, .ref a12, .ref a13, .ref a14, .int 0]))) a6 = some (.inl (dA tI, 64, .inl (fun _ => 0))) := by rw [mw_up_n _ _ ((ne_yo_a6).symm)]; exact fa6
  have fa7 : (mw_up wm29 yo (.inr (cMO, [.int 0, .ref a0, .ref a1, .int 0, .int 0, .ref a2, .ref a3, .ref a4, .ref a5, .ref a6, .ref a7, .ref a8, .int 0, .int 0, .ref a9, .ref a10, .ref a11, .ref a12, .ref a13, .ref a14, .int 0]))) a7 = some (.inl (dA tI, 64, .inl (fun _ => 0))) := by rw [mw_up_n _ _ ((ne_yo_a7).symm)]; exact fa7
  have fa8 : (mw_up wm29 yo (.inr (cMO, [.int 0, .ref a0, .ref a1, .int 0, .int 0, .ref a2, .ref a3, .ref a4, .ref a5, .ref a6, .ref a7, .ref a8, .int 0, .int 0, .ref a9, .ref a10, .ref a11, .ref a12, .ref a13, .ref a14, .int 0]))) a8 = some (.inl (dA tI, 64, .inl (fun _ => 0))) := by rw [mw_up_n _ _ ((ne_yo_a8).symm)]; exact fa8
  have fa9 : (mw_up wm29 yo (.inr (cMO, [.int 0, .ref a0, .ref a1, .int 0, .int 0, .ref a2, .ref a3, .ref a4, .ref a5, .ref a6, .ref a7, .ref a8, .int 0, .int 0, .ref a9, .ref a10, .ref a11, .ref a12, .ref a13, .ref a14, .int 0]))) a9 = some (.inl (dA tZ, 8192, .inl (fun _ => 0))) := by rw [mw_up_n _ _ ((ne_yo_a9).symm)]; exact fa9
  have fa10 : (mw_up wm29 yo (.inr (cMO, [.int 0, .ref a0, .ref a1, .int 0, .int 0, .ref a2, .ref a3, .ref a4, .ref a5, .ref a6, .ref a7, .ref a8, .int 0, .int 0, .ref a9, .ref a10, .ref a11, .ref a12, .ref a13, .ref a14, .int 0]))) a10 = some (.inl (dA tB, 524288, .inl (fun _ => 0))) := by rw [mw_up_n _ _ ((ne_yo_a10).symm)]; exact fa10
  have fa11 : (mw_up wm29 yo (.inr (cMO, [.int 0, .ref a0, .ref a1, .int 0, .int 0, .ref a2, .ref a3, .ref a4, .ref a5, .ref a6, .ref a7, .ref a8, .int 0, .int 0, .ref a9, .ref a10, .ref a11, .ref a12, .ref a13, .ref a14, .int 0]))) a11 = some (.inl (dA tJ, 64, .inr (.inl (fun _ => 0)))) := by rw [mw_up_n _ _ ((ne_yo_a11).symm)]; exact fa11
  have fa12 : (mw_up wm29 yo (.inr (cMO, [.int 0, .ref a0, .ref a1, .int 0, .int 0, .ref a2, .ref a3, .ref a4, .ref a5, .ref a6, .ref a7, .ref a8, .int 0, .int 0, .ref a9, .ref a10, .ref a11, .ref a12, .ref a13, .ref a14, .int 0]))) a12 = some (.inl (dA tJ, 64, .inr (.inl (fun _ => 0)))) := by rw [mw_up_n _ _ ((ne_yo_a12).symm)]; exact fa12
  have fa13 : (mw_up wm29 yo (.inr (cMO, [.int 0, .ref a0, .ref a1, .int 0, .int 0, .ref a2, .ref a3, .ref a4, .ref a5, .ref a6, .ref a7, .ref a8, .int 0, .int 0, .ref a9, .ref a10, .ref a11, .ref a12, .ref a13, .ref a14, .int 0]))) a13 = some (.inl (dA tI, 64, .inl (fun _ => 0))) := by rw [mw_up_n _ _ ((ne_yo_a13).symm)]; exact fa13
  have fa14 : (mw_up wm29 yo (.inr (cMO, [.int 0, .ref a0, .ref a1, .int 0, .int 0, .ref a2, .ref a3, .ref a4, .ref a5, .ref a6, .ref a7, .ref a8, .int 0, .int 0, .ref a9, .ref a10, .ref a11, .ref a12, .ref a13, .ref a14, .int 0]))) a14 = some (.inl (dA tZ, 64, .inl (fun _ => 0))) := by rw [mw_up_n _ _ ((ne_yo_a14).symm)]; exact fa14
  have hF : ∀ (q : Nat) (y : va_E), w q = some y → q ≠ yo → (mw_up wm29 yo (.inr (cMO, [.int 0, .ref a0, .ref a1, .int 0, .int 0, .ref a2, .ref a3, .ref a4, .ref a5, .ref a6, .ref a7, .ref a8, .int 0, .int 0, .ref a9, .ref a10, .ref a11, .ref a12, .ref a13, .ref a14, .int 0]))) q = some y := fun q y h1 h2 => by rw [mw_up_n _ _ (h2)]; exact hF q y h1 h2
  have f0 : (mw_up wm29 yo (.inr (cMO, [.int 0, .ref a0, .ref a1, .int 0, .int 0, .ref a2, .ref a3, .ref a4, .ref a5, .ref a6, .ref a7, .ref a8, .int 0, .int 0, .ref a9, .ref a10, .ref a11, .ref a12, .ref a13, .ref a14, .int 0]))) yo = some (.inr (cMO, [.int 0, .ref a0, .ref a1, .int 0, .int 0, .ref a2, .ref a3, .ref a4, .ref a5, .ref a6, .ref a7, .ref a8, .int 0, .int 0, .ref a9, .ref a10, .ref a11, .ref a12, .ref a13, .ref a14, .int 0])) := mw_up_s _ _ _
  generalize (mw_up wm29 yo (.inr (cMO, [.int 0, .ref a0, .ref a1, .int 0, .int 0, .ref a2, .ref a3, .ref a4, .ref a5, .ref a6, .ref a7, .ref a8, .int 0, .int 0, .ref a9, .ref a10, .ref a11, .ref a12, .ref a13, .ref a14, .int 0]))) = wm30 at hI fa0 fa1 fa2 fa3 fa4 fa5 fa6 fa7 fa8 fa9 fa10 fa11 fa12 fa13 fa14 hF f0
  refine mw_vret K hI hr hlk ⟨rfl, fun i => match i with | 0 => a0 | 1 => a1 | 2 => a2 | 3 => a3 | 4 => a4 | 5 => a5 | 6 => a6 | 7 => a7 | 8 => a8 | 9 => a9 | 10 => a10 | 11 => a11 | 12 => a12 | 13 => a13 | _ => a14, fun i hi => ?_, fun j hj => ?_, f0, fun i hi => ?_, hF⟩ d_MO_init_126
  · rcases (by omega : i = 0 ∨ i = 1 ∨ i = 2 ∨ i = 3 ∨ i = 4 ∨ i = 5 ∨ i = 6 ∨ i = 7 ∨ i = 8 ∨ i = 9 ∨ i = 10 ∨ i = 11 ∨ i = 12 ∨ i = 13 ∨ i = 14) with h | h | h | h | h | h | h | h | h | h | h | h | h | h | h
    · subst h; exact hw_a0
    · subst h; exact hw_a1
    · subst h; exact hw_a2
    · subst h; exact hw_a3
    · subst h; exact hw_a4
    · subst h; exact hw_a5
    · subst h; exact hw_a6
    · subst h; exact hw_a7
    · subst h; exact hw_a8
    · subst h; exact hw_a9
    · subst h; exact hw_a10
    · subst h; exact hw_a11
    · subst h; exact hw_a12
    · subst h; exact hw_a13
    · subst h; exact hw_a14
  · rcases (by omega : j = 0 ∨ j = 1 ∨ j = 2 ∨ j = 3 ∨ j = 4 ∨ j = 5 ∨ j = 6 ∨ j = 7 ∨ j = 8 ∨ j = 9 ∨ j = 10 ∨ j = 11 ∨ j = 12 ∨ j = 13 ∨ j = 14) with h | h | h | h | h | h | h | h | h | h | h | h | h | h | h
    · intro i hi; omega
    · subst h; intro i hi
      have hi : i = 0 := by omega
      subst hi; exact ne_a0_a1
    · subst h; intro i hi
      rcases (by omega : i = 0 ∨ i = 1) with h | h
      · subst h; exact ne_a0_a2
      · subst h; exact ne_a1_a2
    · subst h; intro i hi
      rcases (by omega : i = 0 ∨ i = 1 ∨ i = 2) with h | h | h
      · subst h; exact ne_a0_a3
      · subst h; exact ne_a1_a3
      · subst h; exact ne_a2_a3
    · subst h; intro i hi
      rcases (by omega : i = 0 ∨ i = 1 ∨ i = 2 ∨ i = 3) with h | h | h | h
      · subst h; exact ne_a0_a4
      · subst h; exact ne_a1_a4
      · subst h; exact ne_a2_a4
      · subst h; exact ne_a3_a4
    · subst h; intro i hi
      rcases (by omega : i = 0 ∨ i = 1 ∨ i = 2 ∨ i = 3 ∨ i = 4) with h | h | h | h | h
      · subst h; exact ne_a0_a5
      · subst h; exact ne_a1_a5
      · subst h; exact ne_a2_a5
      · subst h; exact ne_a3_a5
      · subst h; exact ne_a4_a5
    · subst h; intro i hi
      rcases (by omega : i = 0 ∨ i = 1 ∨ i = 2 ∨ i = 3 ∨ i = 4 ∨ i = 5) with h | h | h | h | h | h
      · subst h; exact ne_a0_a6
      · subst h; exact ne_a1_a6
      · subst h; exact ne_a2_a6
      · subst h; exact ne_a3_a6
      · subst h; exact ne_a4_a6
      · subst h; exact ne_a5_a6
    · subst h; intro i hi
      rcases (by omega : i = 0 ∨ i = 1 ∨ i = 2 ∨ i = 3 ∨ i = 4 ∨ i = 5 ∨ i = 6) with h | h | h | h | h | h | h
      · subst h; exact ne_a0_a7
      · subst h; exact ne_a1_a7
      · subst h; exact ne_a2_a7
      · subst h; exact ne_a3_a7
      · subst h; exact ne_a4_a7
      · subst h; exact ne_a5_a7
      · subst h; exact ne_a6_a7
    · subst h; intro i hi
      rcases (by omega : i = 0 ∨ i = 1 ∨ i = 2 ∨ i = 3 ∨ i = 4 ∨ i = 5 ∨ i = 6 ∨ i = 7) with h | h | h | h | h | h | h | h
      · subst h; exact ne_a0_a8
      · subst h; exact ne_a1_a8
      · subst h; exact ne_a2_a8
      · subst h; exact ne_a3_a8
      · subst h; exact ne_a4_a8
      · subst h; exact ne_a5_a8
      · subst h; exact ne_a6_a8
      · subst h; exact ne_a7_a8
    · subst h; intro i hi
      rcases (by omega : i = 0 ∨ i = 1 ∨ i = 2 ∨ i = 3 ∨ i = 4 ∨ i = 5 ∨ i = 6 ∨ i = 7 ∨ i = 8) with h | h | h | h | h | h | h | h | h
      · subst h; exact ne_a0_a9
      · subst h; exact ne_a1_a9
      · subst h; exact ne_a2_a9
      · subst h; exact ne_a3_a9
      · subst h; exact ne_a4_a9
      · subst h; exact ne_a5_a9
      · subst h; exact ne_a6_a9
      · subst h; exact ne_a7_a9
      · subst h; exact ne_a8_a9
    · subst h; intro i hi
      rcases (by omega : i = 0 ∨ i = 1 ∨ i = 2 ∨ i = 3 ∨ i = 4 ∨ i = 5 ∨ i = 6 ∨ i = 7 ∨ i = 8 ∨ i = 9) with h | h | h | h | h | h | h | h | h | h
      · subst h; exact ne_a0_a10
      · subst h; exact ne_a1_a10
      · subst h; exact ne_a2_a10
      · subst h; exact ne_a3_a10
      · subst h; exact ne_a4_a10
      · subst h; exact ne_a5_a10
      · subst h; exact ne_a6_a10
      · subst h; exact ne_a7_a10
      · subst h; exact ne_a8_a10
      · subst h; exact ne_a9_a10
    · subst h; intro i hi
      rcases (by omega : i = 0 ∨ i = 1 ∨ i = 2 ∨ i = 3 ∨ i = 4 ∨ i = 5 ∨ i = 6 ∨ i = 7 ∨ i = 8 ∨ i = 9 ∨ i = 10) with h | h | h | h | h | h | h | h | h | h | h
      · subst h; exact ne_a0_a11
      · subst h; exact ne_a1_a11
      · subst h; exact ne_a2_a11
      · subst h; exact ne_a3_a11
      · subst h; exact ne_a4_a11
      · subst h; exact ne_a5_a11
      · subst h; exact ne_a6_a11
      · subst h; exact ne_a7_a11
      · subst h; exact ne_a8_a11
      · subst h; exact ne_a9_a11
      · subst h; exact ne_a10_a11
    · subst h; intro i hi
      rcases (by omega : i = 0 ∨ i = 1 ∨ i = 2 ∨ i = 3 ∨ i = 4 ∨ i = 5 ∨ i = 6 ∨ i = 7 ∨ i = 8 ∨ i = 9 ∨ i = 10 ∨ i = 11) with h | h | h | h | h | h | h | h | h | h | h | h
      · subst h; exact ne_a0_a12
      · subst h; exact ne_a1_a12
      · subst h; exact ne_a2_a12
      · subst h; exact ne_a3_a12
      · subst h; exact ne_a4_a12
      · subst h; exact ne_a5_a12
      · subst h; exact ne_a6_a12
      · subst h; exact ne_a7_a12
      · subst h; exact ne_a8_a12
      · subst h; exact ne_a9_a12
      · subst h; exact ne_a10_a12
      · subst h; exact ne_a11_a12
    · subst h; intro i hi
      rcases (by omega : i = 0 ∨ i = 1 ∨ i = 2 ∨ i = 3 ∨ i = 4 ∨ i = 5 ∨ i = 6 ∨ i = 7 ∨ i = 8 ∨ i = 9 ∨ i = 10 ∨ i = 11 ∨ i = 12) with h | h | h | h | h | h | h | h | h | h | h | h | h
      · subst h; exact ne_a0_a13
      · subst h; exact ne_a1_a13
      · subst h; exact ne_a2_a13
      · subst h; exact ne_a3_a13
      · subst h; exact ne_a4_a13
      · subst h; exact ne_a5_a13
      · subst h; exact ne_a6_a13
      · subst h; exact ne_a7_a13
      · subst h; exact ne_a8_a13
      · subst h; exact ne_a9_a13
      · subst h; exact ne_a10_a13
      · subst h; exact ne_a11_a13
      · subst h; exact ne_a12_a13
    · subst h; intro i hi
      rcases (by omega : i = 0 ∨ i = 1 ∨ i = 2 ∨ i = 3 ∨ i = 4 ∨ i = 5 ∨ i = 6 ∨ i = 7 ∨ i = 8 ∨ i = 9 ∨ i = 10 ∨ i = 11 ∨ i = 12 ∨ i = 13) with h | h | h | h | h | h | h | h | h | h | h | h | h | h
      · subst h; exact ne_a0_a14
      · subst h; exact ne_a1_a14
      · subst h; exact ne_a2_a14
      · subst h; exact ne_a3_a14
      · subst h; exact ne_a4_a14
      · subst h; exact ne_a5_a14
      · subst h; exact ne_a6_a14
      · subst h; exact ne_a7_a14
      · subst h; exact ne_a8_a14
      · subst h; exact ne_a9_a14
      · subst h; exact ne_a10_a14
      · subst h; exact ne_a11_a14
      · subst h; exact ne_a12_a14
      · subst h; exact ne_a13_a14
  · rcases (by omega : i = 0 ∨ i = 1 ∨ i = 2 ∨ i = 3 ∨ i = 4 ∨ i = 5 ∨ i = 6 ∨ i = 7 ∨ i = 8 ∨ i = 9 ∨ i = 10 ∨ i = 11 ∨ i = 12 ∨ i = 13 ∨ i = 14) with h | h | h | h | h | h | h | h | h | h | h | h | h | h | h
    · subst h; exact fa0
    · subst h; exact fa1
    · subst h; exact fa2
    · subst h; exact fa3
    · subst h; exact fa4
    · subst h; exact fa5
    · subst h; exact fa6
    · subst h; exact fa7
    · subst h; exact fa8
    · subst h; exact fa9
    · subst h; exact fa10
    · subst h; exact fa11
    · subst h; exact fa12
    · subst h; exact fa13
    · subst h; exact fa14
def S_0 : as_S := (fun _ => 0, fun _ => 0, 0, 0, fun _ => newM 0 0 0 0 0)
theorem wf_S_0 : wf_S 0 S_0 := ⟨by decide, by decide, by decide, fun _ => (by decide : (0 : Nat) < 256), fun _ => (by decide : (0 : Nat) < 256), fun i hi => absurd hi (Nat.not_lt_zero i)⟩
theorem mo_R_0 : mo_R (fun _ => 0) (fun _ => 0) 0 0 (fun _ _ => 0) (fun _ _ => 0) S_0 := ⟨fun _ _ => (by decide : (0 : Int32) = sB 0), fun _ _ => (by decide : (0 : Int32) = sB 0), fun i hi => absurd hi (Nat.not_lt_zero i), fun _ _ _ => ⟨(by decide : (0 : Int64) = lN 0), (by decide : (0 : Int64) = lN 0), (by decide : (0 : Int32) = nI 0), (by decide : (0 : Int32) = nI 0)⟩, fun i hi => absurd hi (Nat.not_lt_zero i), fun i j _ hj => absurd hj (Nat.not_lt_zero j), fun _ _ _ => (by decide : (0 : Int32) = nI 0), by decide, by decide⟩
/-- the books with n arrays of the model more -/
def mo_own (own : as_W) (A : Nat → Nat) : Nat → as_W
  | 0 => own
  | n + 1 => va_up (mo_own own A n) (A n) (21 + n, 0, 0)
theorem mo_own_o {own : as_W} {A : Nat → Nat} {q : Nat} : ∀ n, (∀ i, i < n → q ≠ A i) → mo_own own A n q = own q
  | 0, _ => rfl
  | n + 1, h => by rw [mo_own, va_up_ne _ _ (h n (Nat.lt_succ_self n))]; exact mo_own_o n (fun i hi => h i (by omega))
theorem mo_own_s {own : as_W} {A : Nat → Nat} {k : Nat} : ∀ n, (∀ j, j < n → ∀ i, i < j → A i ≠ A j) → k < n → mo_own own A n (A k) = (21 + k, 0, 0)
  | 0, _, hk => absurd hk (Nat.not_lt_zero k)
  | n + 1, h, hk => by
    rw [mo_own]
    by_cases e : k = n
    · subst e; rw [va_up_self]
    · rw [va_up_ne _ _ (h n (Nat.lt_succ_self n) k (by omega))]
      exact mo_own_s n (fun j hj => h j (by omega)) (by omega)
theorem RepM.start {dA : Nat → ClassId} {w w' : mw_W} {own : as_W} {y : Nat} {A : Nat → Nat} (hy : own y = (20, 0, 0)) (hyw : w y ≠ none) (h1 : ∀ i, i < 15 → w (A i) = none) (h2 : ∀ j, j < 15 → ∀ i, i < j → A i ≠ A j) (h3 : w' y = some (.inr (cMO, mo_F A (nI 0) (nI 0) (nI 0) (nI 0) (nI 0) (nI 0)))) (h4 : ∀ i, i < 15 → w' (A i) = some (mo_E dA (fun _ _ => 0) (fun _ _ => 0) i)) : RepM dA w' (mo_own own A 15) y (nI 0) S_0 ∧ ∀ q z, w q = some z → mo_own own A 15 q = own q := by
  have ho : ∀ q, w q ≠ none → mo_own own A 15 q = own q := fun q hq => mo_own_o 15 (fun i hi e => hq (by rw [e]; exact h1 i hi))
  exact ⟨⟨A, fun _ => 0, fun _ => 0, 0, 0, fun _ _ => 0, fun _ _ => 0, ⟨h3, (ho y hyw).trans hy, fun i hi => mo_own_s 15 h2 hi, h4⟩, mo_R_0⟩, fun q z h => ho q (by rw [h]; exact Option.some_ne_none z)⟩
theorem bw_b_0 (j : Nat) : bw_b (fun _ => (0 : Int64)) j = 0 := by
  show (0 : Int64).toUInt64.toNat / 2 ^ (8 * (j % 8)) % 256 = 0
  rw [show (0 : Int64).toUInt64.toNat = 0 from rfl, Nat.zero_div]
theorem RepC.start {dA : Nat → ClassId} {w w' : mw_W} {own : as_W} {x bd xd ba xa ra : Nat} {y0 : va_E} (hx : own x = (8, 0, 0)) (hw : w x = some y0) (n2 : w xd = none) (n4 : w xa = none) (n5 : w ra = none) (h1 : w' x = some (.inr (cMS, [.ref bd, .ref ba, .ref ra, .int (nI 0), .int (nI 0)]))) (h2 : by_ok dA w' bd xd 512 (fun _ => 0)) (h3 : by_ok dA w' ba xa 65536 (fun _ => 0)) (h4 : w' ra = some (.inl (dA tAN, 64, .inr (.inr (.inr (.inr (fun _ => none))))))) : ∃ own', RepC dA w' own' x S_0 ∧ ∀ q z, w q = some z → own' q = own q := by
  have e1 : xd ≠ xa := fun e => by
    have := h2.2
    rw [e, h3.2] at this
    injection this with this
    injection this with this
    injection this with _ this
    injection this with this _
    exact absurd this (by decide)
  have e2 : xd ≠ ra := mw_ne h2.2 h4 (by simp)
  have e3 : xa ≠ ra := mw_ne h3.2 h4 (by simp)
  have d1 : x ≠ xd := mw_neN hw n2
  have d2 : x ≠ xa := mw_neN hw n4
  have d3 : x ≠ ra := mw_neN hw n5
  refine ⟨va_up (va_up (va_up own xd (1, 0, 0)) xa (2, 0, 0)) ra (6, 0, 0), ⟨bd, xd, ba, xa, ra, fun _ => 0, fun _ => 0, fun _ => 0, ⟨?_, ?_, ?_, ?_, h1, h2, h3, ?_, fun j _ => bw_b_0 j, fun j _ => bw_b_0 j⟩, fun i hi => absurd hi (Nat.not_lt_zero i)⟩, fun q z hq => ?_⟩
  · rw [va_up_ne _ _ d3, va_up_ne _ _ d2, va_up_ne _ _ d1]; exact hx
  · rw [va_up_ne _ _ e2, va_up_ne _ _ e1, va_up_self]
  · rw [va_up_ne _ _ e3, va_up_self]
  · rw [va_up_self]
  · rw [h4]; rfl
  · rw [va_up_ne _ _ (mw_neN hq n5), va_up_ne _ _ (mw_neN hq n4), va_up_ne _ _ (mw_neN hq n2)]
