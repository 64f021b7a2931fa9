/-! ### MapStore: make -/
theorem d_MS_newMap_0 : decode b_MS_newMap 0 = .ok (.iload_n 1, 1) := by decide +kernel
theorem d_MS_newMap_1 : decode b_MS_newMap 1 = .ok (.lookupswitch 74 #[(0, 27), (1, 50)], 27) := by decide +kernel
theorem d_MS_newMap_28 : decode b_MS_newMap 28 = .ok (.new 113, 3) := by decide +kernel
theorem d_MS_newMap_31 : decode b_MS_newMap 31 = .ok (.dup, 1) := by decide +kernel
theorem d_MS_newMap_32 : decode b_MS_newMap 32 = .ok (.aload_n 0, 1) := by decide +kernel
theorem d_MS_newMap_33 : decode b_MS_newMap 33 = .ok (.getfield 14, 3) := by decide +kernel
theorem d_MS_newMap_36 : decode b_MS_newMap 36 = .ok (.aload_n 0, 1) := by decide +kernel
theorem d_MS_newMap_37 : decode b_MS_newMap 37 = .ok (.getfield 19, 3) := by decide +kernel
theorem d_MS_newMap_40 : decode b_MS_newMap 40 = .ok (.aload_n 0, 1) := by decide +kernel
theorem d_MS_newMap_41 : decode b_MS_newMap 41 = .ok (.getfield 32, 3) := by decide +kernel
theorem d_MS_newMap_44 : decode b_MS_newMap 44 = .ok (.iload_n 3, 1) := by decide +kernel
theorem d_MS_newMap_45 : decode b_MS_newMap 45 = .ok (.iload 4, 2) := by decide +kernel
theorem d_MS_newMap_47 : decode b_MS_newMap 47 = .ok (.invokespecial 115, 3) := by decide +kernel
theorem d_MS_newMap_50 : decode b_MS_newMap 50 = .ok (.areturn, 1) := by decide +kernel
theorem d_MS_newMap_51 : decode b_MS_newMap 51 = .ok (.new 118, 3) := by decide +kernel
theorem d_MS_newMap_54 : decode b_MS_newMap 54 = .ok (.dup, 1) := by decide +kernel
theorem d_MS_newMap_55 : decode b_MS_newMap 55 = .ok (.aload_n 0, 1) := by decide +kernel
theorem d_MS_newMap_56 : decode b_MS_newMap 56 = .ok (.getfield 14, 3) := by decide +kernel
theorem d_MS_newMap_59 : decode b_MS_newMap 59 = .ok (.aload_n 0, 1) := by decide +kernel
theorem d_MS_newMap_60 : decode b_MS_newMap 60 = .ok (.getfield 19, 3) := by decide +kernel
theorem d_MS_newMap_63 : decode b_MS_newMap 63 = .ok (.aload_n 0, 1) := by decide +kernel
theorem d_MS_newMap_64 : decode b_MS_newMap 64 = .ok (.getfield 32, 3) := by decide +kernel
theorem d_MS_newMap_67 : decode b_MS_newMap 67 = .ok (.iload_n 2, 1) := by decide +kernel
theorem d_MS_newMap_68 : decode b_MS_newMap 68 = .ok (.iload_n 3, 1) := by decide +kernel
theorem d_MS_newMap_69 : decode b_MS_newMap 69 = .ok (.iload 4, 2) := by decide +kernel
theorem d_MS_newMap_71 : decode b_MS_newMap 71 = .ok (.invokespecial 120, 3) := by decide +kernel
theorem d_MS_newMap_74 : decode b_MS_newMap 74 = .ok (.areturn, 1) := by decide +kernel
theorem d_MS_newMap_75 : decode b_MS_newMap 75 = .ok (.new 123, 3) := by decide +kernel
theorem d_MS_newMap_78 : decode b_MS_newMap 78 = .ok (.dup, 1) := by decide +kernel
theorem d_MS_newMap_79 : decode b_MS_newMap 79 = .ok (.aload_n 0, 1) := by decide +kernel
theorem d_MS_newMap_80 : decode b_MS_newMap 80 = .ok (.getfield 14, 3) := by decide +kernel
theorem d_MS_newMap_83 : decode b_MS_newMap 83 = .ok (.aload_n 0, 1) := by decide +kernel
theorem d_MS_newMap_84 : decode b_MS_newMap 84 = .ok (.getfield 19, 3) := by decide +kernel
theorem d_MS_newMap_87 : decode b_MS_newMap 87 = .ok (.aload_n 0, 1) := by decide +kernel
theorem d_MS_newMap_88 : decode b_MS_newMap 88 = .ok (.getfield 32, 3) := by decide +kernel
theorem d_MS_newMap_91 : decode b_MS_newMap 91 = .ok (.iload 4, 2) := by decide +kernel
theorem d_MS_newMap_93 : decode b_MS_newMap 93 = .ok (.invokespecial 125, 3) := by decide +kernel
theorem d_MS_newMap_96 : decode b_MS_newMap 96 = .ok (.areturn, 1) := by decide +kernel
theorem d_MS_make_0 : decode b_MS_make 0 = .ok (.iload_n 1, 1) := by decide +kernel
theorem d_MS_make_1 : decode b_MS_make 1 = .ok (.iload_n 2, 1) := by decide +kernel
theorem d_MS_make_2 : decode b_MS_make 2 = .ok (.iload_n 3, 1) := by decide +kernel
theorem d_MS_make_3 : decode b_MS_make 3 = .ok (.iload 4, 2) := by decide +kernel
theorem d_MS_make_5 : decode b_MS_make 5 = .ok (.invokestatic 35, 3) := by decide +kernel
theorem d_MS_make_8 : decode b_MS_make 8 = .ok (.ifCond .ne 13, 3) := by decide +kernel
theorem d_MS_make_11 : decode b_MS_make 11 = .ok (.new 39, 3) := by decide +kernel
theorem d_MS_make_14 : decode b_MS_make 14 = .ok (.dup, 1) := by decide +kernel
theorem d_MS_make_15 : decode b_MS_make 15 = .ok (.ldc 41, 2) := by decide +kernel
theorem d_MS_make_17 : decode b_MS_make 17 = .ok (.invokespecial 43, 3) := by decide +kernel
theorem d_MS_make_20 : decode b_MS_make 20 = .ok (.athrow, 1) := by decide +kernel
theorem d_MS_make_21 : decode b_MS_make 21 = .ok (.iload_n 1, 1) := by decide +kernel
theorem d_MS_make_22 : decode b_MS_make 22 = .ok (.iconst 2, 1) := by decide +kernel
theorem d_MS_make_23 : decode b_MS_make 23 = .ok (.if_icmp .ne 8, 3) := by decide +kernel
theorem d_MS_make_26 : decode b_MS_make 26 = .ok (.iload 4, 2) := by decide +kernel
theorem d_MS_make_28 : decode b_MS_make 28 = .ok (.goto 10, 3) := by decide +kernel
theorem d_MS_make_31 : decode b_MS_make 31 = .ok (.iload 4, 2) := by decide +kernel
theorem d_MS_make_33 : decode b_MS_make 33 = .ok (.iload_n 3, 1) := by decide +kernel
theorem d_MS_make_34 : decode b_MS_make 34 = .ok (.invokestatic 46, 3) := by decide +kernel
theorem d_MS_make_37 : decode b_MS_make 37 = .ok (.imul, 1) := by decide +kernel
theorem d_MS_make_38 : decode b_MS_make 38 = .ok (.istore 5, 2) := by decide +kernel
theorem d_MS_make_40 : decode b_MS_make 40 = .ok (.aload_n 0, 1) := by decide +kernel
theorem d_MS_make_41 : decode b_MS_make 41 = .ok (.getfield 28, 3) := by decide +kernel
theorem d_MS_make_44 : decode b_MS_make 44 = .ok (.bipush 64, 2) := by decide +kernel
theorem d_MS_make_46 : decode b_MS_make 46 = .ok (.if_icmp .ge 15, 3) := by decide +kernel
theorem d_MS_make_49 : decode b_MS_make 49 = .ok (.iload 5, 2) := by decide +kernel
theorem d_MS_make_51 : decode b_MS_make 51 = .ok (.ldc 18, 2) := by decide +kernel
theorem d_MS_make_53 : decode b_MS_make 53 = .ok (.aload_n 0, 1) := by decide +kernel
theorem d_MS_make_54 : decode b_MS_make 54 = .ok (.getfield 32, 3) := by decide +kernel
theorem d_MS_make_57 : decode b_MS_make 57 = .ok (.isub, 1) := by decide +kernel
theorem d_MS_make_58 : decode b_MS_make 58 = .ok (.if_icmp .le 13, 3) := by decide +kernel
theorem d_MS_make_61 : decode b_MS_make 61 = .ok (.new 50, 3) := by decide +kernel
theorem d_MS_make_64 : decode b_MS_make 64 = .ok (.dup, 1) := by decide +kernel
theorem d_MS_make_65 : decode b_MS_make 65 = .ok (.ldc 52, 2) := by decide +kernel
theorem d_MS_make_67 : decode b_MS_make 67 = .ok (.invokespecial 54, 3) := by decide +kernel
theorem d_MS_make_70 : decode b_MS_make 70 = .ok (.athrow, 1) := by decide +kernel
theorem d_MS_make_71 : decode b_MS_make 71 = .ok (.aload_n 0, 1) := by decide +kernel
theorem d_MS_make_72 : decode b_MS_make 72 = .ok (.getfield 24, 3) := by decide +kernel
theorem d_MS_make_75 : decode b_MS_make 75 = .ok (.aload_n 0, 1) := by decide +kernel
theorem d_MS_make_76 : decode b_MS_make 76 = .ok (.getfield 28, 3) := by decide +kernel
theorem d_MS_make_79 : decode b_MS_make 79 = .ok (.aload_n 0, 1) := by decide +kernel
theorem d_MS_make_80 : decode b_MS_make 80 = .ok (.iload_n 1, 1) := by decide +kernel
theorem d_MS_make_81 : decode b_MS_make 81 = .ok (.iload_n 2, 1) := by decide +kernel
theorem d_MS_make_82 : decode b_MS_make 82 = .ok (.iload_n 3, 1) := by decide +kernel
theorem d_MS_make_83 : decode b_MS_make 83 = .ok (.iload 4, 2) := by decide +kernel
theorem d_MS_make_85 : decode b_MS_make 85 = .ok (.invokevirtual 55, 3) := by decide +kernel
theorem d_MS_make_88 : decode b_MS_make 88 = .ok (.aastore, 1) := by decide +kernel
theorem d_MS_make_89 : decode b_MS_make 89 = .ok (.aload_n 0, 1) := by decide +kernel
theorem d_MS_make_90 : decode b_MS_make 90 = .ok (.dup, 1) := by decide +kernel
theorem d_MS_make_91 : decode b_MS_make 91 = .ok (.getfield 32, 3) := by decide +kernel
theorem d_MS_make_94 : decode b_MS_make 94 = .ok (.iload 5, 2) := by decide +kernel
theorem d_MS_make_96 : decode b_MS_make 96 = .ok (.iadd, 1) := by decide +kernel
theorem d_MS_make_97 : decode b_MS_make 97 = .ok (.putfield 32, 3) := by decide +kernel
theorem d_MS_make_100 : decode b_MS_make 100 = .ok (.aload_n 0, 1) := by decide +kernel
theorem d_MS_make_101 : decode b_MS_make 101 = .ok (.dup, 1) := by decide +kernel
theorem d_MS_make_102 : decode b_MS_make 102 = .ok (.getfield 28, 3) := by decide +kernel
theorem d_MS_make_105 : decode b_MS_make 105 = .ok (.iconst 1, 1) := by decide +kernel
theorem d_MS_make_106 : decode b_MS_make 106 = .ok (.iadd, 1) := by decide +kernel
theorem d_MS_make_107 : decode b_MS_make 107 = .ok (.putfield 28, 3) := by decide +kernel
theorem d_MS_make_110 : decode b_MS_make 110 = .ok (.aload_n 0, 1) := by decide +kernel
theorem d_MS_make_111 : decode b_MS_make 111 = .ok (.getfield 28, 3) := by decide +kernel
theorem d_MS_make_114 : decode b_MS_make 114 = .ok (.iconst 1, 1) := by decide +kernel
theorem d_MS_make_115 : decode b_MS_make 115 = .ok (.isub, 1) := by decide +kernel
theorem d_MS_make_116 : decode b_MS_make 116 = .ok (.ireturn, 1) := by decide +kernel
/-- the map that make makes -/
def newM (k a v n g : Nat) : as_M := ((k, a, v, n, g), fun _ => none, (0, 0, 0, false), List.replicate a 0)
def okM (k a v n : Nat) : Prop := (k = 0 ∧ a = 4 ∧ 1 ≤ v ∧ v ≤ 256 ∧ 1 ≤ n ∧ n ≤ 4096) ∨ (k = 1 ∧ 1 ≤ a ∧ a ≤ 64 ∧ 1 ≤ v ∧ v ≤ 256 ∧ 1 ≤ n ∧ n ≤ 4096) ∨ (k = 2 ∧ a = 0 ∧ v = 0 ∧ ∃ p, 6 ≤ p ∧ p ≤ 14 ∧ n = 2 ^ p)
theorem okM_le {k a v n : Nat} (h : okM k a v n) : k ≤ 2 ∧ a ≤ 64 ∧ v ≤ 256 ∧ n ≤ 16384 ∧ (k ≠ 2 → n ≤ 4096) := by
  rcases h with h | h | ⟨h1, h2, h3, h4⟩
  · omega
  · omega
  · have := p2_8 h4; omega
theorem fit_ok {k a v n : Int32} (h : fitS k a v n) : k = nI k.toNatClampNeg ∧ a = nI a.toNatClampNeg ∧ v = nI v.toNatClampNeg ∧ n = nI n.toNatClampNeg ∧ okM k.toNatClampNeg a.toNatClampNeg v.toNatClampNeg n.toNatClampNeg := by
  rcases h with ⟨rfl, rfl, h1, h2⟩ | ⟨rfl, h0, h1, h2⟩ | ⟨rfl, rfl, rfl, h1, h2⟩
  · obtain ⟨a1, a2, a3⟩ := inB_nI h1 (by decide)
    obtain ⟨b1, b2, b3⟩ := inB_nI h2 (by decide)
    exact ⟨by decide, by decide, a1, b1, Or.inl ⟨by decide, by decide, a2, a3, b2, b3⟩⟩
  · obtain ⟨c1, c2, c3⟩ := inB_nI h0 (by decide)
    obtain ⟨a1, a2, a3⟩ := inB_nI h1 (by decide)
    obtain ⟨b1, b2, b3⟩ := inB_nI h2 (by decide)
    exact ⟨by decide, c1, a1, b1, Or.inr (Or.inl ⟨by decide, c2, c3, a2, a3, b2, b3⟩)⟩
  · obtain ⟨b1, b2, b3⟩ := inB_nI h1 (by decide)
    exact ⟨by decide, by decide, by decide, b1, Or.inr (Or.inr ⟨by decide, by decide, by decide, h2⟩)⟩
def mkB (k v n : Nat) : Nat := if k = 2 then n else n * up8 v
def S_mk (S : as_S) (k a v n : Nat) : as_S := (dk S, ar S, nm S + 1, gv S + mkB k v n, va_up (mm S) (nm S) (newM k a v n (gv S)))
noncomputable def fitB (k a v n : Int32) : Bool := @decide (fitS k a v n) (Classical.propDecidable _)
theorem fitB_iff {k a v n : Int32} : fitB k a v n = true ↔ fitS k a v n := by unfold fitB; exact @decide_eq_true_iff _ (Classical.propDecidable _)
noncomputable def sp_MAKE (S : as_S) (k a v n : Int32) : as_S × (Int32 ⊕ Nat) := if fitB k a v n = true then
    (if 64 ≤ nm S ∨ 65536 - gv S < mkB k.toNatClampNeg v.toNatClampNeg n.toNatClampNeg then (S, .inr 1) else (S_mk S k.toNatClampNeg a.toNatClampNeg v.toNatClampNeg n.toNatClampNeg, .inl (nI (nm S))))
  else (S, .inr 0)
theorem tb_n_0 : ∀ n, tb_n (fun _ => none) n = 0
  | 0 => rfl
  | n + 1 => by rw [tb_n, tb_n_0 n]; rfl
theorem by_l_0 (k : Nat) : by_l (fun _ => 0) k (List.replicate k 0) := by
  have z : ∀ j, bw_b (fun _ => (0 : Int64)) j = 0 := fun j => by
    show (0 : Int64).toUInt64.toNat / 2 ^ (8 * (j % 8)) % 256 = 0
    rw [show (0 : Int64).toUInt64.toNat = 0 from rfl, Nat.zero_div]
  refine ⟨List.length_replicate, fun j hj => ?_, fun j _ _ => z j⟩
  rw [z j, List.getD_eq_getElem?_getD, List.getElem?_replicate, if_pos hj]; rfl
theorem rc_A.add {dA : Nat → ClassId} {w w' wE : mw_W} {own own' : as_W} {x bd xd ba xa ra a' g' : Nat} {mp : Nat → Nat} {gd ga : Nat → Int64} {S : as_S} {m' : as_M} (hA : rc_A dA w own x bd xd ba xa ra mp gd ga S) (hm : rc_M dA w' own' bd ba (nm S) a' m') (hF : ∀ (q : Nat) (y : va_E), w q = some y → w' q = some y ∧ own' q = own q)
    (hx : wE x = some (.inr (cMS, [.ref bd, .ref ba, .ref ra, .int (nI (nm S + 1)), .int (nI g')]))) (hr : wE ra = some (.inl (dA tAN, 64, .inr (.inr (.inr (.inr (fun i => if i < nm S + 1 then some (va_up mp (nm S) a' i) else none)))))))
    (hE : ∀ q, q ≠ x → q ≠ ra → wE q = w' q) : rc_A dA wE own' x bd xd ba xa ra (va_up mp (nm S) a') gd ga (dk S, ar S, nm S + 1, g', va_up (mm S) (nm S) m') := by
  obtain ⟨⟨h1, h2, h3, h4, h5, h6, h7, h8, h9, h10⟩, hM⟩ := hA
  have ox : own' x = (8, 0, 0) := (hF _ _ h5).2.trans h1
  have oxd : own' xd = (1, 0, 0) := (hF _ _ h6.2).2.trans h2
  have oxa : own' xa = (2, 0, 0) := (hF _ _ h7.2).2.trans h3
  have ora : own' ra = (6, 0, 0) := (hF _ _ h8).2.trans h4
  have hx' := (hF _ _ h5).1
  have hr' := (hF _ _ h8).1
  have kB : ∀ {b : Nat} {fs : List Value}, w' b = some (.inr (cBY, fs)) → wE b = some (.inr (cBY, fs)) := fun {b fs} hb => by
    rw [hE b (mw_neC hb hx' (by decide)) (mw_neA hb hr')]; exact hb
  have kO : ∀ {q : Nat} {y : va_E}, w' q = some y → (own' q).1 ≠ 8 → (own' q).1 ≠ 6 → wE q = some y := fun {q y} hq o8 o6 => by
    rw [hE q (fun z => o8 (by rw [z, ox])) (fun z => o6 (by rw [z, ora]))]; exact hq
  have kM : ∀ {i a : Nat} {m : as_M}, rc_M dA w' own' bd ba i a m → rc_M dA wE own' bd ba i a m := fun {i a m} h => by
    refine h.keep (fun q y hq hr => ?_) (fun _ _ _ => rfl)
    rcases hr with (e | e | e | ⟨e', e⟩) | ⟨fs, e⟩
    · exact kO hq (by rw [e]; simp) (by rw [e]; simp)
    · exact kO hq (by rw [e]; simp) (by rw [e]; simp)
    · exact kO hq (by rw [e]; simp) (by rw [e]; simp)
    · exact kO hq (by rw [e]; simp) (by rw [e]; simp)
    · rw [e] at hq ⊢; exact kB hq
  refine ⟨⟨ox, oxd, oxa, ora, hx, ⟨kB (hF _ _ h6.1).1, kO (hF _ _ h6.2).1 (by rw [oxd]; decide) (by rw [oxd]; decide)⟩, ⟨kB (hF _ _ h7.1).1, kO (hF _ _ h7.2).1 (by rw [oxa]; decide) (by rw [oxa]; decide)⟩, hr, h9, h10⟩, fun i hi => ?_⟩
  by_cases e : i = nm S
  · subst e
    show rc_M dA wE own' bd ba (nm S) (va_up mp (nm S) a' (nm S)) (va_up (mm S) (nm S) m' (nm S))
    rw [va_up_self, va_up_self]; exact kM hm
  · show rc_M dA wE own' bd ba i (va_up mp (nm S) a' i) (va_up (mm S) (nm S) m' i)
    have hi : i < nm S + 1 := hi
    rw [va_up_ne _ _ e, va_up_ne _ _ e]
    exact kM ((hM i (by omega)).keep (fun q y hq _ => (hF q y hq).1) (fun q y hq => (hF q y hq).2))
set_option maxRecDepth 100000 in
set_option maxHeartbeats 4000000 in
theorem c_MS_newMap (l : Launch) (D : va_G) (dA : Nat → ClassId) {w : mw_W} {own : as_W} {x bd xd ba xa ra : Nat} {mp : Nat → Nat} {gd ga : Nat → Int64} {S : as_S} (hA : rc_A dA w own x bd xd ba xa ra mp gd ga S) {k a v n : Nat} (hok : okM k a v n) : CT l D dA y_MS_newMap (Cond.code y_MS_newMap b_MS_newMap 5 (some (.object "MapStore$AnyMap")) :: Ts) 4 110 4 4120 [.ref x, .int (nI k), .int (nI a), .int (nI v), .int (nI n)] w (fun r w' => ∃ (a' : Nat) (own' : as_W), r = .inl (some (.ref a')) ∧ rc_M dA w' own' bd ba (nm S) a' (newM k a v n (gv S)) ∧ ∀ (q : Nat) (y : va_E), w q = some y → w' q = some y ∧ own' q = own q) := by
  refine mw_meth (by decide) mk_tb (Nat.le_of_ble_eq_true rfl) ?_
  intro p e s m below meth c K hr hlk hce hnm hP0 hSy ls hl
  have hl : lv_has ls 5 [(0, .ref x), (1, .int (nI k)), (2, .int (nI a)), (3, .int (nI v)), (4, .int (nI n))] := hl
  obtain ⟨hx, hb, hml, hown, hts, hK, hTb⟩ := id K
  have hI := mw_I.start hP0
  obtain ⟨⟨o1, o2, o3, o4, f0, fd, fa, fr, hdk, har⟩, hM⟩ := id hA
  have hle := okM_le hok
  refine lv_iload_n hx hb d_MS_newMap_0 rfl (lv_at hl 1 rfl) ?_
  rcases hok with ⟨rfl, rfl, hok⟩ | ⟨rfl, hok⟩ | ⟨rfl, rfl, rfl, hok⟩
  · refine lv_lookup (off := 27) (tgt := 28) hx hb d_MS_newMap_1 (by decide) (by decide) (by decide) ?_
    refine mw_new K hI (ci := cAM) (fs := [.null, .null, .int 0, .int 0, .int 0, .int 0]) rfl tw_228 tw_229 tw_32 (by decide) (Nat.le_of_ble_eq_true rfl) (Nat.le_of_ble_eq_true rfl) d_MS_newMap_28 (fun b H hq hI => ?_)
    have hq_b := hq
    have hI : mw_I D mk_cl w s.heap (mw_up w b (.inr (cAM, [.null, .null, .int 0, .int 0, .int 0, .int 0]))) H _ := hI
    have ne_x_b : x ≠ b := mw_neN f0 hq_b
    have f0 : (mw_up w b (.inr (cAM, [.null, .null, .int 0, .int 0, .int 0, .int 0]))) x = some (.inr (cMS, [.ref bd, .ref ba, .ref ra, .int (nI (nm S)), .int (nI (gv S))])) := by rw [mw_up_n _ _ (ne_x_b)]; exact f0
    have fb : (mw_up w b (.inr (cAM, [.null, .null, .int 0, .int 0, .int 0, .int 0]))) b = some (.inr (cAM, [.null, .null, .int 0, .int 0, .int 0, .int 0])) := mw_up_s _ _ _
    refine lv_dup hx hb d_MS_newMap_31 rfl ?_
    refine lv_aload_n hx hb d_MS_newMap_32 rfl (lv_at hl 0 rfl) ?_
    refine mw_get K hI gf_MS_14_cMS f0 rfl d_MS_newMap_33 ?_
    refine lv_aload_n hx hb d_MS_newMap_36 rfl (lv_at hl 0 rfl) ?_
    refine mw_get K hI gf_MS_19_cMS f0 rfl d_MS_newMap_37 ?_
    refine lv_aload_n hx hb d_MS_newMap_40 rfl (lv_at hl 0 rfl) ?_
    refine mw_get K hI gf_MS_32_cMS f0 rfl d_MS_newMap_41 ?_
    refine lv_iload_n hx hb d_MS_newMap_44 rfl (lv_at hl 3 rfl) ?_
    refine lv_iload hx hb d_MS_newMap_45 (lv_at hl 4 rfl) ?_
    refine mw_call (rest := [.ref b]) K hSy hP0 hI (c_AM_init l D dA fb) (mx_invI hx hown rfl (hts _ tw_230) (hts _ tw_231) (hts _ tw_232) (by decide) (g := F0 m 47 ls [.int (nI n), .int (nI v), .int (nI (gv S)), .ref ba, .ref bd, .ref b, .ref b]) rfl (a := b) (argsL := [.ref bd, .ref ba, .int (nI (gv S)), .int (nI v), .int (nI n)]) (rest := [.ref b]) np_AM_init rfl (by rw [hb]; exact d_MS_newMap_47)) hl.1 d_MS_newMap_47 ⟨Nat.le_of_ble_eq_true rfl, Nat.le_of_ble_eq_true rfl⟩ (Or.inl ⟨_, _, List.mem_cons_self⟩) (mk_ws tw_232 hts) (fun a9 U9 h9 => Ts_warm hts _ tw_32 a9 U9 h9) ⟨Nat.le_of_ble_eq_true rfl, Nat.le_of_ble_eq_true rfl⟩ (fun v w' H locs hq hI => ?_) (fun k x w' H locs hq hI hX => ?_)
    · obtain ⟨hq1, hq2⟩ := hq
      cases hq1
      rw [hq2, mw_uu] at hI
      refine W.eq (g2 := F0 m 50 ls [.ref b]) rfl ?_
      refine W.widen (k := 4) (n := 4120) (by decide) (by decide) ?_
      refine mw_aret K hI hr (Or.inl ⟨_, rfl⟩) hlk (Or.inr ⟨_, rfl⟩) ⟨b, va_up own b (7, nm S, 0), rfl, ⟨va_up_self _ _ _, Or.inl ⟨rfl, mw_up_s _ _ _⟩⟩, fun q y hy => ?_⟩ d_MS_newMap_50
      have hne : q ≠ b := mw_neN hy hq_b
      exact ⟨by rw [mw_up_n _ _ hne]; exact hy, va_up_ne _ _ hne⟩
    · exact absurd hq.1 (by simp)
  · refine lv_lookup (off := 50) (tgt := 51) hx hb d_MS_newMap_1 (by decide) (by decide) (by decide) ?_
    refine mw_new K hI (ci := cTM) (fs := [.null, .null, .int 0, .int 0, .int 0, .int 0, .null, .null, .int 0, .int 0, .int 0]) rfl tw_282 tw_283 tw_33 (by decide) (Nat.le_of_ble_eq_true rfl) (Nat.le_of_ble_eq_true rfl) d_MS_newMap_51 (fun b2 H hq hI => ?_)
    have hq_b2 := hq
    have hI : mw_I D mk_cl w s.heap (mw_up w b2 (.inr (cTM, [.null, .null, .int 0, .int 0, .int 0, .int 0, .null, .null, .int 0, .int 0, .int 0]))) H _ := hI
    have ne_x_b2 : x ≠ b2 := mw_neN f0 hq_b2
    have f0 : (mw_up w b2 (.inr (cTM, [.null, .null, .int 0, .int 0, .int 0, .int 0, .null, .null, .int 0, .int 0, .int 0]))) x = some (.inr (cMS, [.ref bd, .ref ba, .ref ra, .int (nI (nm S)), .int (nI (gv S))])) := by rw [mw_up_n _ _ (ne_x_b2)]; exact f0
    have fb : (mw_up w b2 (.inr (cTM, [.null, .null, .int 0, .int 0, .int 0, .int 0, .null, .null, .int 0, .int 0, .int 0]))) b2 = some (.inr (cTM, [.null, .null, .int 0, .int 0, .int 0, .int 0, .null, .null, .int 0, .int 0, .int 0])) := mw_up_s _ _ _
    refine lv_dup hx hb d_MS_newMap_54 rfl ?_
    refine lv_aload_n hx hb d_MS_newMap_55 rfl (lv_at hl 0 rfl) ?_
    refine mw_get K hI gf_MS_14_cMS f0 rfl d_MS_newMap_56 ?_
    refine lv_aload_n hx hb d_MS_newMap_59 rfl (lv_at hl 0 rfl) ?_
    refine mw_get K hI gf_MS_19_cMS f0 rfl d_MS_newMap_60 ?_
    refine lv_aload_n hx hb d_MS_newMap_63 rfl (lv_at hl 0 rfl) ?_
    refine mw_get K hI gf_MS_32_cMS f0 rfl d_MS_newMap_64 ?_
    refine lv_iload_n hx hb d_MS_newMap_67 rfl (lv_at hl 2 rfl) ?_
    refine lv_iload_n hx hb d_MS_newMap_68 rfl (lv_at hl 3 rfl) ?_
    refine lv_iload hx hb d_MS_newMap_69 (lv_at hl 4 rfl) ?_
    refine mw_call (rest := [.ref b2]) K hSy hP0 hI (c_TM_init l D dA fb (kz := a) (n := n) (by omega) (by omega)) (mx_invI hx hown rfl (hts _ tw_284) (hts _ tw_285) (hts _ tw_286) (by decide) (g := F0 m 71 ls [.int (nI n), .int (nI v), .int (nI a), .int (nI (gv S)), .ref ba, .ref bd, .ref b2, .ref b2]) rfl (a := b2) (argsL := [.ref bd, .ref ba, .int (nI (gv S)), .int (nI a), .int (nI v), .int (nI n)]) (rest := [.ref b2]) np_TM_init rfl (by rw [hb]; exact d_MS_newMap_71)) hl.1 d_MS_newMap_71 ⟨Nat.le_of_ble_eq_true rfl, Nat.le_of_ble_eq_true rfl⟩ (Or.inl ⟨_, _, List.mem_cons_self⟩) (mk_ws tw_286 hts) (fun a9 U9 h9 => Ts_warm hts _ tw_33 a9 U9 h9) ⟨Nat.le_of_ble_eq_true rfl, by dsimp only; omega⟩ (fun v w' H locs hq hI => ?_) (fun k x w' H locs hq hI hX => ?_)
    · obtain ⟨hq1, ka, ak, ax, z1, z2, z3, g1, g2, g3, g4⟩ := hq
      cases hq1
      refine W.eq (g2 := F0 m 74 ls [.ref b2]) rfl ?_
      refine W.widen (k := 4) (n := 4120) (by omega) (by omega) ?_
      have nb1 : b2 ≠ ka := mw_neN fb z1
      have nb3 : b2 ≠ ax := mw_neN fb z3
      have n13 : ka ≠ ax := mw_ne g2 g3.2 (by simp)
      have wn : ∀ {q : Nat} {y : va_E}, w q = some y → q ≠ b2 ∧ q ≠ ka ∧ q ≠ ax := fun {q y} hy => by
        have hb9 : q ≠ b2 := mw_neN hy hq_b2
        have hy2 : (mw_up w b2 (.inr (cTM, [.null, .null, .int 0, .int 0, .int 0, .int 0, .null, .null, .int 0, .int 0, .int 0]))) q = some y := by rw [mw_up_n _ _ hb9]; exact hy
        exact ⟨hb9, mw_neN hy2 z1, mw_neN hy2 z3⟩
      refine mw_aret K hI hr (Or.inl ⟨_, rfl⟩) hlk (Or.inr ⟨_, rfl⟩) ⟨b2, va_up (va_up (va_up own b2 (7, nm S, 0)) ka (5, nm S, 0)) ax (3, nm S, 0), rfl, ⟨?_, Or.inr (Or.inl ⟨rfl, ka, ak, ax, 0, fun _ => 0, fun _ => none, ?_, ?_, va_up_self _ _ _, g3, by_l_0 a, g2, Nat.zero_le _, fun _ _ _ => rfl, fun e k he => by cases he⟩)⟩, fun q y hy => ?_⟩ d_MS_newMap_74
      · rw [va_up_ne _ _ nb3, va_up_ne _ _ nb1, va_up_self]
      · rw [g1]
        show _ = some (Sum.inr (cTM, ([.ref bd, .ref ba, .int (nI (gv S)), .int (nI a), .int (nI v), .int (nI n), .ref ka, .ref ak, .int (nI 0), .int (nI (tb_n (fun _ => none) n)), .int (nI 0)] : List Value)))
        rw [tb_n_0]
      · rw [va_up_ne _ _ n13, va_up_self]
      · obtain ⟨m1, m2, m3⟩ := wn hy
        exact ⟨g4 q y (by rw [mw_up_n _ _ m1]; exact hy) m1, by rw [va_up_ne _ _ m3, va_up_ne _ _ m2, va_up_ne _ _ m1]⟩
    · exact absurd hq.1 (by simp)
  · refine lv_lookup (off := 74) (tgt := 75) hx hb d_MS_newMap_1 (by decide) (by decide) (by decide) ?_
    refine mw_new K hI (ci := cRM) (fs := [.null, .null, .int 0, .int 0, .long 0, .long 0, .int 0, .int 0]) rfl tw_313 tw_314 tw_34 (by decide) (Nat.le_of_ble_eq_true rfl) (Nat.le_of_ble_eq_true rfl) d_MS_newMap_75 (fun b3 H hq hI => ?_)
    have hq_b3 := hq
    have hI : mw_I D mk_cl w s.heap (mw_up w b3 (.inr (cRM, [.null, .null, .int 0, .int 0, .long 0, .long 0, .int 0, .int 0]))) H _ := hI
    have ne_x_b3 : x ≠ b3 := mw_neN f0 hq_b3
    have f0 : (mw_up w b3 (.inr (cRM, [.null, .null, .int 0, .int 0, .long 0, .long 0, .int 0, .int 0]))) x = some (.inr (cMS, [.ref bd, .ref ba, .ref ra, .int (nI (nm S)), .int (nI (gv S))])) := by rw [mw_up_n _ _ (ne_x_b3)]; exact f0
    have fb : (mw_up w b3 (.inr (cRM, [.null, .null, .int 0, .int 0, .long 0, .long 0, .int 0, .int 0]))) b3 = some (.inr (cRM, [.null, .null, .int 0, .int 0, .long 0, .long 0, .int 0, .int 0])) := mw_up_s _ _ _
    refine lv_dup hx hb d_MS_newMap_78 rfl ?_
    refine lv_aload_n hx hb d_MS_newMap_79 rfl (lv_at hl 0 rfl) ?_
    refine mw_get K hI gf_MS_14_cMS f0 rfl d_MS_newMap_80 ?_
    refine lv_aload_n hx hb d_MS_newMap_83 rfl (lv_at hl 0 rfl) ?_
    refine mw_get K hI gf_MS_19_cMS f0 rfl d_MS_newMap_84 ?_
    refine lv_aload_n hx hb d_MS_newMap_87 rfl (lv_at hl 0 rfl) ?_
    refine mw_get K hI gf_MS_32_cMS f0 rfl d_MS_newMap_88 ?_
    refine lv_iload hx hb d_MS_newMap_91 (lv_at hl 4 rfl) ?_
    refine mw_call (rest := [.ref b3]) K hSy hP0 hI (c_RM_init l D dA fb) (mx_invI hx hown rfl (hts _ tw_315) (hts _ tw_316) (hts _ tw_317) (by decide) (g := F0 m 93 ls [.int (nI n), .int (nI (gv S)), .ref ba, .ref bd, .ref b3, .ref b3]) rfl (a := b3) (argsL := [.ref bd, .ref ba, .int (nI (gv S)), .int (nI n)]) (rest := [.ref b3]) np_RM_init rfl (by rw [hb]; exact d_MS_newMap_93)) hl.1 d_MS_newMap_93 ⟨Nat.le_of_ble_eq_true rfl, Nat.le_of_ble_eq_true rfl⟩ (Or.inl ⟨_, _, List.mem_cons_self⟩) (mk_ws tw_317 hts) (fun a9 U9 h9 => Ts_warm hts _ tw_34 a9 U9 h9) ⟨Nat.le_of_ble_eq_true rfl, Nat.le_of_ble_eq_true rfl⟩ (fun v w' H locs hq hI => ?_) (fun k x w' H locs hq hI hX => ?_)
    · obtain ⟨hq1, hq2⟩ := hq
      cases hq1
      rw [hq2, mw_uu] at hI
      refine W.eq (g2 := F0 m 96 ls [.ref b3]) rfl ?_
      refine W.widen (k := 4) (n := 4120) (by decide) (by decide) ?_
      refine mw_aret K hI hr (Or.inl ⟨_, rfl⟩) hlk (Or.inr ⟨_, rfl⟩) ⟨b3, va_up own b3 (7, nm S, 0), rfl, ⟨va_up_self _ _ _, Or.inr (Or.inr ⟨rfl, mw_up_s _ _ _⟩)⟩, fun q y hy => ?_⟩ d_MS_newMap_96
      have hne : q ≠ b3 := mw_neN hy hq_b3
      exact ⟨by rw [mw_up_n _ _ hne]; exact hy, va_up_ne _ _ hne⟩
    · exact absurd hq.1 (by simp)
set_option maxRecDepth 100000 in
set_option maxHeartbeats 4000000 in
theorem c_MS_make (l : Launch) (D : va_G) (dA : Nat → ClassId) (hL : mw_L l) {w : mw_W} {own : as_W} {x t : Nat} {S : as_S} (hR : RepC dA w own x S) (hW : wf_S t S) (k a v n : Int32) : CT l D dA y_MS_make (Cond.code y_MS_make b_MS_make 6 (some .int) :: Ts) 6 150 4 4120 [.ref x, .int k, .int a, .int v, .int n] w (PR dA w own x (sp_MAKE S k a v n)) := by
  refine mw_meth (by decide) mk_tb (Nat.le_of_ble_eq_true rfl) ?_
  intro p e s m below meth c K hr hlk hce hnm hP0 hSy ls hl
  have hl : lv_has ls 6 [(0, .ref x), (1, .int k), (2, .int a), (3, .int v), (4, .int n)] := hl
  obtain ⟨hx, hb, hml, hown, hts, hK, hTb⟩ := id K
  have hI := mw_I.start hP0
  have hR0 := hR
  obtain ⟨bd, xd, ba, xa, ra, mp, gd, ga, hA⟩ := hR
  obtain ⟨⟨o1, o2, o3, o4, f0, fd, fa, fr, hdk, har⟩, hM⟩ := id hA
  have h64 := hW.1
  have hgv := hW.2.1
  refine lv_iload_n hx hb d_MS_make_0 rfl (lv_at hl 1 rfl) ?_
  refine lv_iload_n hx hb d_MS_make_1 rfl (lv_at hl 2 rfl) ?_
  refine lv_iload_n hx hb d_MS_make_2 rfl (lv_at hl 3 rfl) ?_
  refine lv_iload hx hb d_MS_make_3 (lv_at hl 4 rfl) ?_
  refine mp_call (rest := []) hb hml (c_MS_sizesFit l k a v n) (mx_invS hx hown (hts _ tw_179) (hts _ tw_180) (hts _ tw_21) (hts _ tw_181) (by decide) (g := F0 m 5 ls [.int n, .int v, .int a, .int k]) rfl (argsL := [.int k, .int a, .int v, .int n]) (rest := []) np_MS_sizesFit rfl (by rw [hb]; exact d_MS_make_5)) hl.1 d_MS_make_5 ⟨Nat.le_of_ble_eq_true rfl, Nat.le_of_ble_eq_true rfl⟩ (Or.inl ⟨_, _, List.mem_cons_self⟩) (mk_ws tw_181 hts) (fun a9 U9 h9 => Ts_warm hts _ tw_21 a9 U9 h9) (by first | exact ⟨Nat.le_of_ble_eq_true rfl, Nat.le_of_ble_eq_true rfl⟩ | assumption) (fun v hv => ?_)
  obtain ⟨r9, hv, hr9⟩ := hv
  subst hv
  refine W.eq (g2 := F0 m 8 ls [.int r9]) rfl ?_
  refine lv_if_ne (tgt := 21) hx hb d_MS_make_8 (by decide) (fun c8 => ?_) (fun c8 => ?_)
  ·
    have hfit : fitS k a v n := by
      rcases hr9 with ⟨-, h⟩ | ⟨h, -⟩
      · exact h
      · exact absurd h c8
    have hsp : sp_MAKE S k a v n = _ := if_pos (fitB_iff.mpr hfit)
    obtain ⟨e1, e2, e3, e4, hok⟩ := fit_ok hfit
    have hle := okM_le hok
    rw [e1, e2, e3, e4] at hl
    generalize k.toNatClampNeg = kn at *
    generalize a.toNatClampNeg = an at *
    generalize v.toNatClampNeg = vn at *
    generalize n.toNatClampNeg = nn at *
    have u8 := up8_ge vn
    have hmul : nn * up8 vn ≤ 16384 * 263 := Nat.mul_le_mul (by omega) (by omega)
    have fin : ∀ (bn : Nat), bn = mkB kn vn nn → bn < 2 ^ 23 → ∀ ls : Array Slot, lv_has ls 6 [(0, .ref x), (1, .int (nI kn)), (2, .int (nI an)), (3, .int (nI vn)), (4, .int (nI nn))] → W p l e { frames := 6, cells := 4, slots := 4120, locals := 150 } s m ([.ref x, .int k, .int a, .int v, .int n] : List Value).toArray below meth c s.heap [] 0 0 (mx_Q below (mw_Qc D mk_cl w s.heap.size (PR dA w own x (sp_MAKE S k a v n))) ([.ref x, .int k, .int a, .int v, .int n] : List Value).toArray s 4 4120 (mw_A w s.heap.size)) (F0 m 38 ls [.int (nI bn)]) := by
      intro bn hbn hb23 ls hl
      rw [← hbn] at hsp
      have full : ∀ ls : Array Slot, lv_has ls 6 [] → (64 ≤ nm S ∨ 65536 - gv S < bn) → W p l e { frames := 6, cells := 4, slots := 4120, locals := 150 } s m ([.ref x, .int k, .int a, .int v, .int n] : List Value).toArray below meth c s.heap [] 0 0 (mx_Q below (mw_Qc D mk_cl w s.heap.size (PR dA w own x (sp_MAKE S k a v n))) ([.ref x, .int k, .int a, .int v, .int n] : List Value).toArray s 4 4120 (mw_A w s.heap.size)) (F0 m 61 ls []) := by
        intro ls hl hfull
        have hsp := hsp.trans (if_pos hfull)
        refine W.widen (k := 3) (n := 4114) (by decide) (by decide) ?_
        exact mw_throw (tx := "too many maps, or too little area") K hL hSy hP0 hce hlk 1 rfl (by decide) (by decide) (ow_in ow_MS54) (by decide) tw_208 tw_29 tw_209 hl.1 d_MS_make_61 d_MS_make_64 d_MS_make_65 d_MS_make_67 d_MS_make_70 (Nat.le_of_ble_eq_true rfl) (Nat.le_of_ble_eq_true rfl) (Nat.le_of_ble_eq_true rfl) (Nat.le_of_ble_eq_true rfl) (by rw [hsp]; exact ⟨rfl, own, hR0, Fr.rf w own⟩)
      refine lv_istore (lv' := [(5, .int (nI bn)), (0, .ref x), (1, .int (nI kn)), (2, .int (nI an)), (3, .int (nI vn)), (4, .int (nI nn))]) hx hb d_MS_make_38 hl (by decide) rfl (fun ls hl => ?_)
      refine lv_aload_n hx hb d_MS_make_40 rfl (lv_at hl 1 rfl) ?_
      refine mw_get K hI gf_MS_28_cMS f0 rfl d_MS_make_41 ?_
      refine lv_bipush (v := nI 64) hx hb d_MS_make_44 (by decide) ?_
      refine lv_icmp_ge (tgt := 61) hx hb d_MS_make_46 (by decide) (fun c46 => ?_) (fun c46 => ?_)
      ·
        exact full ls (lv_sub hl [] rfl) (Or.inl ((nI_leI (by decide) (by omega)).mp c46))
      ·
        have c46 : nm S < 64 := Nat.lt_of_not_le (fun h => c46 ((nI_leI (by decide) (by omega)).mpr h))
        refine lv_iload hx hb d_MS_make_49 (lv_at hl 0 rfl) ?_
        refine lv_ldc (v := nI 65536) hx hb hown (hts _ tw_62) d_MS_make_51 ?_
        refine lv_aload_n hx hb d_MS_make_53 rfl (lv_at hl 1 rfl) ?_
        refine mw_get K hI gf_MS_32_cMS f0 rfl d_MS_make_54 ?_
        refine lv_isub hx hb d_MS_make_57 ?_
        refine mw_ti (pk_sub (by omega)) ?_
        refine lv_icmp_le (tgt := 71) hx hb d_MS_make_58 (by decide) (fun c58 => ?_) (fun c58 => ?_)
        ·
          have c58 : bn ≤ 65536 - gv S := (nI_leI (by omega) (by omega)).mp c58
          have hsp := hsp.trans (if_neg (by omega))
          refine lv_aload_n hx hb d_MS_make_71 rfl (lv_at hl 1 rfl) ?_
          refine mw_get K hI gf_MS_24_cMS f0 rfl d_MS_make_72 ?_
          refine lv_aload_n hx hb d_MS_make_75 rfl (lv_at hl 1 rfl) ?_
          refine mw_get K hI gf_MS_28_cMS f0 rfl d_MS_make_76 ?_
          refine lv_aload_n hx hb d_MS_make_79 rfl (lv_at hl 1 rfl) ?_
          refine lv_iload_n hx hb d_MS_make_80 rfl (lv_at hl 2 rfl) ?_
          refine lv_iload_n hx hb d_MS_make_81 rfl (lv_at hl 3 rfl) ?_
          refine lv_iload_n hx hb d_MS_make_82 rfl (lv_at hl 4 rfl) ?_
          refine lv_iload hx hb d_MS_make_83 (lv_at hl 5 rfl) ?_
          refine mw_call (rest := [.int (nI (nm S)), .ref ra]) K hSy hP0 hI (c_MS_newMap l D dA hA hok) (mx_invV hx hown (hts _ tw_224) (hts _ tw_226) (hts _ tw_2) (hts _ tw_227) (by decide) (b := x) (mw_rc K hI f0 rfl) (g := F0 m 85 ls [.int (nI nn), .int (nI vn), .int (nI an), .int (nI kn), .ref x, .int (nI (nm S)), .ref ra]) rfl (argsL := [.int (nI kn), .int (nI an), .int (nI vn), .int (nI nn)]) (rest := [.int (nI (nm S)), .ref ra]) np_MS_newMap rfl (by rw [hb]; exact d_MS_make_85)) hl.1 d_MS_make_85 ⟨Nat.le_of_ble_eq_true rfl, Nat.le_of_ble_eq_true rfl⟩ (Or.inl ⟨_, _, List.mem_cons_self⟩) (mk_ws tw_227 hts) (fun a9 U9 h9 => Ts_warm hts _ tw_21 a9 U9 h9) ⟨Nat.le_of_ble_eq_true rfl, Nat.le_of_ble_eq_true rfl⟩ (fun v w' H locs hq hI => ?_) (fun k x w' H locs hq hI hX => ?_)
          · obtain ⟨a', own', hq1, hm, hfr⟩ := hq
            cases hq1
            refine W.eq (g2 := F0 m 88 ls [.ref a', .int (nI (nm S)), .ref ra]) rfl ?_
            have f0' := (hfr _ _ f0).1
            have fr' := (hfr _ _ fr).1
            have hobj : ∃ (ci : Nat) (vs : List Value) (r : vw_C), w' a' = some (.inr (ci, vs)) ∧ mk_cl[ci]? = some r ∧ ∀ comp : ClassId, s.vm.findClass "MapStore$AnyMap" = some comp → s.vm.assignable (D.1 ci) comp = true := by
              obtain ⟨om, ⟨k0, fm⟩ | ⟨k0, ka, ak, ax, rch, gk, ff, fm, h9⟩ | ⟨k0, fm⟩⟩ := hm
              · exact ⟨cAM, _, _, fm, rfl, fun comp hc => vb_asgC (va_Nw.of rfl (hts _ tw_805)) comp _ hc (hK.1 cAM _ rfl).2.1⟩
              · exact ⟨cTM, _, _, fm, rfl, fun comp hc => vb_asgC (va_Nw.of rfl (hts _ tw_807)) comp _ hc (hK.1 cTM _ rfl).2.1⟩
              · exact ⟨cRM, _, _, fm, rfl, fun comp hc => vb_asgC (va_Nw.of rfl (hts _ tw_806)) comp _ hc (hK.1 cRM _ rfl).2.1⟩
            obtain ⟨ci, vs9, r8, ho1, ho2, ho3⟩ := hobj
            refine mw_aast K hI tAN fr' rfl ho1 ho2 ho3 (nm S) rfl (by omega) (by omega) d_MS_make_88 (fun H locs hI => ?_)
            have hfn : (va_up (fun i => if i < nm S then some (mp i) else none) (nm S) (some a')) = fun i => if i < nm S + 1 then some (va_up mp (nm S) a' i) else none := by
              funext i
              by_cases e : i = nm S
              · subst e; rw [va_up_self, if_pos (by omega), va_up_self]
              · rw [va_up_ne _ _ e, va_up_ne _ _ e]
                by_cases e2 : i < nm S
                · rw [if_pos e2, if_pos (by omega)]
                · rw [if_neg e2, if_neg (by omega)]
            rw [hfn] at hI
            have nxr : x ≠ ra := own_ne o1 o4 (by decide)
            have f2 := (mw_up_n w' (.inl (dA tAN, 64, .inr (.inr (.inr (.inr (fun i => if i < nm S + 1 then some (va_up mp (nm S) a' i) else none)))))) nxr).trans f0'
            have f3 := mw_up_s w' ra (.inl (dA tAN, 64, .inr (.inr (.inr (.inr (fun i => if i < nm S + 1 then some (va_up mp (nm S) a' i) else none))))))
            have hE : ∀ q, q ≠ x → q ≠ ra → (mw_up w' ra (.inl (dA tAN, 64, .inr (.inr (.inr (.inr (fun i => if i < nm S + 1 then some (va_up mp (nm S) a' i) else none))))))) q = w' q := fun q _ h => mw_up_n _ _ h
            generalize ew : mw_up w' ra (.inl (dA tAN, 64, .inr (.inr (.inr (.inr (fun i => if i < nm S + 1 then some (va_up mp (nm S) a' i) else none)))))) = w2 at *
            refine lv_aload_n hx hb d_MS_make_89 rfl (lv_at hl 1 rfl) ?_
            refine lv_dup hx hb d_MS_make_90 rfl ?_
            refine mw_get K hI gf_MS_32_cMS f2 rfl d_MS_make_91 ?_
            refine lv_iload hx hb d_MS_make_94 (lv_at hl 0 rfl) ?_
            refine lv_iadd hx hb d_MS_make_96 ?_
            refine mw_ti (nI_add _ _) ?_
            refine mw_put K hI gp_MS_32_cMS (Or.inl ⟨_, rfl, rfl⟩) f2 rfl rfl (by simp) d_MS_make_97 (fun H locs hI => ?_)
            have hI : mw_I D mk_cl w s.heap (mw_up w2 x (.inr (cMS, [.ref bd, .ref ba, .ref ra, .int (nI (nm S)), .int (nI ((gv S) + bn))]))) H _ := hI
            have f2 : (mw_up w2 x (.inr (cMS, [.ref bd, .ref ba, .ref ra, .int (nI (nm S)), .int (nI ((gv S) + bn))]))) x = some (.inr (cMS, [.ref bd, .ref ba, .ref ra, .int (nI (nm S)), .int (nI ((gv S) + bn))])) := mw_up_s _ _ _
            refine lv_aload_n hx hb d_MS_make_100 rfl (lv_at hl 1 rfl) ?_
            refine lv_dup hx hb d_MS_make_101 rfl ?_
            refine mw_get K hI gf_MS_28_cMS f2 rfl d_MS_make_102 ?_
            refine lv_iconst (v := nI 1) hx hb d_MS_make_105 (by decide) ?_
            refine lv_iadd hx hb d_MS_make_106 ?_
            refine mw_ti (nI_add _ _) ?_
            refine mw_put K hI gp_MS_28_cMS (Or.inl ⟨_, rfl, rfl⟩) f2 rfl rfl (by simp) d_MS_make_107 (fun H locs hI => ?_)
            rw [mw_uu] at hI
            have hI : mw_I D mk_cl w s.heap (mw_up w2 x (.inr (cMS, [.ref bd, .ref ba, .ref ra, .int (nI ((nm S) + 1)), .int (nI ((gv S) + bn))]))) H _ := hI
            have f2 : (mw_up w2 x (.inr (cMS, [.ref bd, .ref ba, .ref ra, .int (nI ((nm S) + 1)), .int (nI ((gv S) + bn))]))) x = some (.inr (cMS, [.ref bd, .ref ba, .ref ra, .int (nI ((nm S) + 1)), .int (nI ((gv S) + bn))])) := mw_up_s _ _ _
            refine lv_aload_n hx hb d_MS_make_110 rfl (lv_at hl 1 rfl) ?_
            refine mw_get K hI gf_MS_28_cMS f2 rfl d_MS_make_111 ?_
            refine lv_iconst (v := nI 1) hx hb d_MS_make_114 (by decide) ?_
            refine lv_isub hx hb d_MS_make_115 ?_
            refine mw_ti (pk_sub (by omega)) ?_
            refine mw_iret K hI hr hlk ?_ d_MS_make_116
            rw [hsp]
            have f3' := (mw_up_n w2 (.inr (cMS, [.ref bd, .ref ba, .ref ra, .int (nI (nm S + 1)), .int (nI (gv S + bn))])) nxr.symm).trans f3
            have hA2 := hA.add (wE := mw_up w2 x (.inr (cMS, [.ref bd, .ref ba, .ref ra, .int (nI (nm S + 1)), .int (nI (gv S + bn))]))) hm hfr (mw_up_s _ _ _) f3' (fun q h1 h2 => (mw_up_n _ _ h1).trans (hE q h1 h2))
            refine ⟨rfl, own', ⟨bd, xd, ba, xa, ra, va_up mp (nm S) a', gd, ga, ?_⟩, fun q y hy => ?_⟩
            · unfold S_mk
              rw [← hbn]
              exact hA2
            · refine ⟨(hfr q y hy).2, ?_⟩
              by_cases h1 : q = x
              · subst h1; exact ⟨_, mw_up_s _ _ _, fun z => absurd z (by rw [o1]; decide)⟩
              · by_cases h2 : q = ra
                · subst h2; exact ⟨_, f3', fun z => absurd z (by rw [o4]; decide)⟩
                · exact ⟨y, by rw [mw_up_n _ _ h1, hE q h1 h2]; exact (hfr q y hy).1, fun _ => rfl⟩
          · obtain ⟨a', own', hq1, hm, hfr⟩ := hq
            cases hq1
        ·
          have c58 : ¬ bn ≤ 65536 - gv S := fun h => c58 ((nI_leI (by omega) (by omega)).mpr h)
          exact full ls (lv_sub hl [] rfl) (Or.inr (by omega))
    refine lv_iload_n hx hb d_MS_make_21 rfl (lv_at hl 1 rfl) ?_
    refine lv_iconst (v := nI 2) hx hb d_MS_make_22 (by decide) ?_
    refine lv_icmp_ne (tgt := 31) hx hb d_MS_make_23 (by decide) (fun c23 => ?_) (fun c23 => ?_)
    ·
      have hk2 : kn ≠ 2 := fun z => c23 (by rw [z])
      have hmk : mkB kn vn nn = nn * up8 vn := if_neg hk2
      refine lv_iload hx hb d_MS_make_31 (lv_at hl 4 rfl) ?_
      refine lv_iload_n hx hb d_MS_make_33 rfl (lv_at hl 3 rfl) ?_
      refine mp_call (rest := [.int (nI nn)]) hb hml (c_MS_filledUp l (n := vn) (by omega)) (mx_invS hx hown (hts _ tw_207) (hts _ tw_52) (hts _ tw_21) (hts _ tw_53) (by decide) (g := F0 m 34 ls [.int (nI vn), .int (nI nn)]) rfl (argsL := [.int (nI vn)]) (rest := [.int (nI nn)]) np_MS_filledUp rfl (by rw [hb]; exact d_MS_make_34)) hl.1 d_MS_make_34 ⟨Nat.le_of_ble_eq_true rfl, Nat.le_of_ble_eq_true rfl⟩ (Or.inl ⟨_, _, List.mem_cons_self⟩) (mk_ws tw_53 hts) (fun a9 U9 h9 => Ts_warm hts _ tw_21 a9 U9 h9) (by first | exact ⟨Nat.le_of_ble_eq_true rfl, Nat.le_of_ble_eq_true rfl⟩ | assumption) (fun v hv => ?_)
      subst hv
      refine W.eq (g2 := F0 m 37 ls [.int (nI (up8 vn)), .int (nI nn)]) rfl ?_
      refine lv_imul hx hb d_MS_make_37 ?_
      refine mw_ti (pk_mul _ _) ?_
      exact fin (nn * up8 vn) hmk.symm (by omega) ls hl
    ·
      have hk2 : kn = 2 := (nI_eq (by omega) (by decide)).mp c23
      have hmk : mkB kn vn nn = nn := if_pos hk2
      refine lv_iload hx hb d_MS_make_26 (lv_at hl 4 rfl) ?_
      refine lv_goto (tgt := 38) hx hb d_MS_make_28 (by decide) ?_
      exact fin nn hmk.symm (by omega) ls hl
  ·
    have hfit : ¬ fitS k a v n := by
      rcases hr9 with ⟨h, -⟩ | ⟨-, h⟩
      · rw [h] at c8; exact absurd c8 (by decide)
      · exact h
    have hsp : sp_MAKE S k a v n = (S, .inr 0) := if_neg (fun z => hfit (fitB_iff.mp z))
    refine W.widen (k := 3) (n := 4114) (by decide) (by decide) ?_
    exact mw_throw (tx := "no map has this kind with these sizes") K hL hSy hP0 hce hlk 0 rfl (by decide) (by decide) (ow_in ow_MS43) (by decide) tw_191 tw_28 tw_192 hl.1 d_MS_make_11 d_MS_make_14 d_MS_make_15 d_MS_make_17 d_MS_make_20 (Nat.le_of_ble_eq_true rfl) (Nat.le_of_ble_eq_true rfl) (Nat.le_of_ble_eq_true rfl) (Nat.le_of_ble_eq_true rfl) (by rw [hsp]; exact ⟨rfl, own, hR0, Fr.rf w own⟩)
