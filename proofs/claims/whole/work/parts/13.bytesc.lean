/-! ### MapStore.Bytes: numbers and copies in -/
theorem d_BY_copy_0 : decode b_BY_copy 0 = .ok (.iconst 0, 1) := by decide +kernel
theorem d_BY_copy_1 : decode b_BY_copy 1 = .ok (.istore 5, 2) := by decide +kernel
theorem d_BY_copy_3 : decode b_BY_copy 3 = .ok (.iload 5, 2) := by decide +kernel
theorem d_BY_copy_5 : decode b_BY_copy 5 = .ok (.iload 4, 2) := by decide +kernel
theorem d_BY_copy_7 : decode b_BY_copy 7 = .ok (.if_icmp .ge 26, 3) := by decide +kernel
theorem d_BY_copy_10 : decode b_BY_copy 10 = .ok (.aload_n 0, 1) := by decide +kernel
theorem d_BY_copy_11 : decode b_BY_copy 11 = .ok (.iload_n 1, 1) := by decide +kernel
theorem d_BY_copy_12 : decode b_BY_copy 12 = .ok (.iload 5, 2) := by decide +kernel
theorem d_BY_copy_14 : decode b_BY_copy 14 = .ok (.iadd, 1) := by decide +kernel
theorem d_BY_copy_15 : decode b_BY_copy 15 = .ok (.aload_n 2, 1) := by decide +kernel
theorem d_BY_copy_16 : decode b_BY_copy 16 = .ok (.iload_n 3, 1) := by decide +kernel
theorem d_BY_copy_17 : decode b_BY_copy 17 = .ok (.iload 5, 2) := by decide +kernel
theorem d_BY_copy_19 : decode b_BY_copy 19 = .ok (.iadd, 1) := by decide +kernel
theorem d_BY_copy_20 : decode b_BY_copy 20 = .ok (.invokevirtual 37, 3) := by decide +kernel
theorem d_BY_copy_23 : decode b_BY_copy 23 = .ok (.i2l, 1) := by decide +kernel
theorem d_BY_copy_24 : decode b_BY_copy 24 = .ok (.invokevirtual 40, 3) := by decide +kernel
theorem d_BY_copy_27 : decode b_BY_copy 27 = .ok (.iinc 5 1, 3) := by decide +kernel
theorem d_BY_copy_30 : decode b_BY_copy 30 = .ok (.goto (-27), 3) := by decide +kernel
theorem d_BY_copy_33 : decode b_BY_copy 33 = .ok (.return_, 1) := by decide +kernel
theorem d_BY_same_0 : decode b_BY_same 0 = .ok (.aload_n 0, 1) := by decide +kernel
theorem d_BY_same_1 : decode b_BY_same 1 = .ok (.getfield 19, 3) := by decide +kernel
theorem d_BY_same_4 : decode b_BY_same 4 = .ok (.arraylength, 1) := by decide +kernel
theorem d_BY_same_5 : decode b_BY_same 5 = .ok (.aload_n 1, 1) := by decide +kernel
theorem d_BY_same_6 : decode b_BY_same 6 = .ok (.getfield 19, 3) := by decide +kernel
theorem d_BY_same_9 : decode b_BY_same 9 = .ok (.arraylength, 1) := by decide +kernel
theorem d_BY_same_10 : decode b_BY_same 10 = .ok (.if_icmp .eq 5, 3) := by decide +kernel
theorem d_BY_same_13 : decode b_BY_same 13 = .ok (.iconst 0, 1) := by decide +kernel
theorem d_BY_same_14 : decode b_BY_same 14 = .ok (.ireturn, 1) := by decide +kernel
theorem d_BY_same_15 : decode b_BY_same 15 = .ok (.iconst 0, 1) := by decide +kernel
theorem d_BY_same_16 : decode b_BY_same 16 = .ok (.istore_n 2, 1) := by decide +kernel
theorem d_BY_same_17 : decode b_BY_same 17 = .ok (.iload_n 2, 1) := by decide +kernel
theorem d_BY_same_18 : decode b_BY_same 18 = .ok (.aload_n 0, 1) := by decide +kernel
theorem d_BY_same_19 : decode b_BY_same 19 = .ok (.getfield 19, 3) := by decide +kernel
theorem d_BY_same_22 : decode b_BY_same 22 = .ok (.arraylength, 1) := by decide +kernel
theorem d_BY_same_23 : decode b_BY_same 23 = .ok (.if_icmp .ge 27, 3) := by decide +kernel
theorem d_BY_same_26 : decode b_BY_same 26 = .ok (.aload_n 0, 1) := by decide +kernel
theorem d_BY_same_27 : decode b_BY_same 27 = .ok (.getfield 19, 3) := by decide +kernel
theorem d_BY_same_30 : decode b_BY_same 30 = .ok (.iload_n 2, 1) := by decide +kernel
theorem d_BY_same_31 : decode b_BY_same 31 = .ok (.laload, 1) := by decide +kernel
theorem d_BY_same_32 : decode b_BY_same 32 = .ok (.aload_n 1, 1) := by decide +kernel
theorem d_BY_same_33 : decode b_BY_same 33 = .ok (.getfield 19, 3) := by decide +kernel
theorem d_BY_same_36 : decode b_BY_same 36 = .ok (.iload_n 2, 1) := by decide +kernel
theorem d_BY_same_37 : decode b_BY_same 37 = .ok (.laload, 1) := by decide +kernel
theorem d_BY_same_38 : decode b_BY_same 38 = .ok (.lcmp, 1) := by decide +kernel
theorem d_BY_same_39 : decode b_BY_same 39 = .ok (.ifCond .eq 5, 3) := by decide +kernel
theorem d_BY_same_42 : decode b_BY_same 42 = .ok (.iconst 0, 1) := by decide +kernel
theorem d_BY_same_43 : decode b_BY_same 43 = .ok (.ireturn, 1) := by decide +kernel
theorem d_BY_same_44 : decode b_BY_same 44 = .ok (.iinc 2 1, 3) := by decide +kernel
theorem d_BY_same_47 : decode b_BY_same 47 = .ok (.goto (-30), 3) := by decide +kernel
theorem d_BY_same_50 : decode b_BY_same 50 = .ok (.iconst 1, 1) := by decide +kernel
theorem d_BY_same_51 : decode b_BY_same 51 = .ok (.ireturn, 1) := by decide +kernel
theorem d_BY_init_0 : decode b_BY_init 0 = .ok (.aload_n 0, 1) := by decide +kernel
theorem d_BY_init_1 : decode b_BY_init 1 = .ok (.invokespecial 3, 3) := by decide +kernel
theorem d_BY_init_4 : decode b_BY_init 4 = .ok (.aload_n 0, 1) := by decide +kernel
theorem d_BY_init_5 : decode b_BY_init 5 = .ok (.iload_n 1, 1) := by decide +kernel
theorem d_BY_init_6 : decode b_BY_init 6 = .ok (.putfield 9, 3) := by decide +kernel
theorem d_BY_init_9 : decode b_BY_init 9 = .ok (.aload_n 0, 1) := by decide +kernel
theorem d_BY_init_10 : decode b_BY_init 10 = .ok (.iload_n 1, 1) := by decide +kernel
theorem d_BY_init_11 : decode b_BY_init 11 = .ok (.invokestatic 15, 3) := by decide +kernel
theorem d_BY_init_14 : decode b_BY_init 14 = .ok (.bipush 8, 2) := by decide +kernel
theorem d_BY_init_16 : decode b_BY_init 16 = .ok (.idiv, 1) := by decide +kernel
theorem d_BY_init_17 : decode b_BY_init 17 = .ok (.newarray .long, 2) := by decide +kernel
theorem d_BY_init_19 : decode b_BY_init 19 = .ok (.putfield 19, 3) := by decide +kernel
theorem d_BY_init_22 : decode b_BY_init 22 = .ok (.return_, 1) := by decide +kernel
/-- the longs of a Bytes -/
abbrev by_a (dA : Nat → ClassId) (n : Nat) (g : Nat → Int64) : va_E := .inl (dA tJ, (n + 7) / 8, .inr (.inl g))
theorem mw_uu (w : mw_W) (a : Nat) (x y : va_E) : mw_up (mw_up w a x) a y = mw_up w a y := by
  funext q
  by_cases h : q = a
  · subst h; rw [mw_up_s, mw_up_s]
  · rw [mw_up_n _ _ h, mw_up_n _ _ h, mw_up_n _ _ h]
theorem mw_self {w : mw_W} {a : Nat} {x : va_E} (h : w a = some x) : w = mw_up w a x := by
  funext q
  by_cases e : q = a
  · subst e; rw [mw_up_s]; exact h
  · rw [mw_up_n _ _ e]
theorem by_ok.up {dA : Nat → ClassId} {w : mw_W} {b x n : Nat} {g : Nat → Int64} (h : by_ok dA w b x n g) (g' : Nat → Int64) : by_ok dA (mw_up w x (by_a dA n g')) b x n g' := ⟨by rw [mw_up_n _ _ (mw_neA h.1 h.2)]; exact h.1, mw_up_s _ _ _⟩
theorem by_ok.keep {dA : Nat → ClassId} {w : mw_W} {b x n a : Nat} {g : Nat → Int64} {y : va_E} (h : by_ok dA w b x n g) (h1 : b ≠ a) (h2 : x ≠ a) : by_ok dA (mw_up w a y) b x n g := ⟨by rw [mw_up_n _ _ h1]; exact h.1, by rw [mw_up_n _ _ h2]; exact h.2⟩
/-- k bytes from i on are those of h, the others stay -/
def by_w (g g' : Nat → Int64) (i k : Nat) (h : Nat → Nat) : Prop := ∀ j, bw_b g' j = if i ≤ j ∧ j < i + k then h (j - i) else bw_b g j
theorem by_w.z (g : Nat → Int64) (i : Nat) (h : Nat → Nat) : by_w g g i 0 h := fun j => by rw [if_neg (by omega)]
theorem by_w.s {g g' : Nat → Int64} {i k : Nat} {h : Nat → Nat} (e : by_w g g' i k h) {v : Int64} (hv : uN v % 256 = h k) : by_w g (bw_s g' (i + k) v) i (k + 1) h := by
  intro j
  rw [bw_sb]
  by_cases hj : j = i + k
  · rw [if_pos hj, if_pos (by omega), hv]; congr 1; omega
  · rw [if_neg hj, e j]
    by_cases h2 : i ≤ j ∧ j < i + k
    · rw [if_pos h2, if_pos (by omega)]
    · rw [if_neg h2, if_neg (by omega)]
set_option maxRecDepth 100000 in
set_option maxHeartbeats 4000000 in
theorem c_BY_setNumber (l : Launch) (D : va_G) (dA : Nat → ClassId) {w : mw_W} {b x n : Nat} {g : Nat → Int64} (h : by_ok dA w b x n g) (hn : n ≤ 65536) {i k : Nat} (hk : k ≤ 8) (hi : i + k ≤ n) (v : Int64) : CT l D dA y_BY_setNumber (Cond.code y_BY_setNumber b_BY_setNumber 6 none :: Ts) 2 50 0 0 [.ref b, .int (nI i), .int (nI k), .long v] w (fun r w' => r = .inl none ∧ ∃ g', w' = mw_up w x (by_a dA n g') ∧ by_w g g' i k (fun j => uN v / 2 ^ (8 * j) % 256)) := by
  refine mw_meth (by decide) mk_tb (Nat.le_of_ble_eq_true rfl) ?_
  intro p e s m below meth c K hr hlk hce hnm hP0 hSy ls hl
  have hl : lv_has ls 6 [(0, .ref b), (1, .int (nI i)), (2, .int (nI k)), (3, .long v)] := hl
  obtain ⟨hx, hb, hml, hown, hts, hK, hTb⟩ := id K
  have hI := mw_I.start hP0
  have hloop : ∀ (q j : Nat), j + q = k → ∀ (g1 : Nat → Int64) (w1 : mw_W), w1 = mw_up w x (by_a dA n g1) → by_w g g1 i j (fun j => uN v / 2 ^ (8 * j) % 256) → ∀ (H : Heap) (locs : List Loc), mw_I D mk_cl w s.heap w1 H locs → ∀ ls : Array Slot, lv_has ls 6 [(5, .int (nI j)), (0, .ref b), (1, .int (nI i)), (2, .int (nI k)), (3, .long v)] → W p l e { frames := 2, cells := 0, slots := 0, locals := 50 } s m ([.ref b, .int (nI i), .int (nI k), .long v] : List Value).toArray below meth c H locs 0 0 (mx_Q below (mw_Qc D mk_cl w s.heap.size (fun r w' => r = .inl none ∧ ∃ g', w' = mw_up w x (by_a dA n g') ∧ by_w g g' i k (fun j => uN v / 2 ^ (8 * j) % 256))) ([.ref b, .int (nI i), .int (nI k), .long v] : List Value).toArray s 0 0 (mw_A w s.heap.size)) (F0 m 3 ls []) := by
    intro q
    induction q with
    | zero =>
      intro j hj g1 w1 hw1 hg H locs hI ls hl
      refine lv_iload hx hb d_BY_setNumber_3 (lv_at hl 0 rfl) ?_
      refine lv_iload_n hx hb d_BY_setNumber_5 rfl (lv_at hl 3 rfl) ?_
      refine lv_icmp_ge (tgt := 30) hx hb d_BY_setNumber_6 (by decide) (fun c6 => ?_) (fun c6 => ?_)
      ·
        have e : j = k := by omega
        subst e
        exact mw_vret K hI hr hlk ⟨rfl, g1, hw1, hg⟩ d_BY_setNumber_30
      ·
        exact absurd (nI_le (by omega) (by omega)) c6
    | succ q ih =>
      intro j hj g1 w1 hw1 hg H locs hI ls hl
      have h1 : by_ok dA w1 b x n g1 := by rw [hw1]; exact h.up g1
      refine lv_iload hx hb d_BY_setNumber_3 (lv_at hl 0 rfl) ?_
      refine lv_iload_n hx hb d_BY_setNumber_5 rfl (lv_at hl 3 rfl) ?_
      refine lv_icmp_ge (tgt := 30) hx hb d_BY_setNumber_6 (by decide) (fun c6 => ?_) (fun c6 => ?_)
      ·
        exact absurd c6 (nI_ge (by omega) (by omega))
      ·
        refine lv_aload_n hx hb d_BY_setNumber_9 rfl (lv_at hl 1 rfl) ?_
        refine lv_iload_n hx hb d_BY_setNumber_10 rfl (lv_at hl 2 rfl) ?_
        refine lv_iload hx hb d_BY_setNumber_11 (lv_at hl 0 rfl) ?_
        refine lv_iadd hx hb d_BY_setNumber_13 ?_
        refine mw_ti (nI_add _ _) ?_
        refine lv_lload_n hx hb d_BY_setNumber_14 rfl (lv_at hl 4 rfl) ?_
        refine lv_bipush (v := nI 8) hx hb d_BY_setNumber_15 (by decide) ?_
        refine lv_iload hx hb d_BY_setNumber_17 (lv_at hl 0 rfl) ?_
        refine lv_imul hx hb d_BY_setNumber_19 ?_
        refine mw_ti (pk_mul _ _) ?_
        refine lv_lushr hx hb d_BY_setNumber_20 rfl ?_
        refine mw_call (rest := []) K hSy hP0 hI (c_BY_setByte l D dA h1 hn (i := i + j) (by omega) _) (mx_invV hx hown (hts _ tw_401) (hts _ tw_402) (hts _ tw_403) (hts _ tw_404) (by decide) (b := b) (mw_rc K hI h1.1 rfl) (g := F0 m 21 ls [.long ((v.toUInt64 >>> ((nI (8 * j)).toInt64.toUInt64 &&& Int64.toUInt64 63)).toInt64), .int (nI (i + j)), .ref b]) rfl (argsL := [.int (nI (i + j)), .long ((v.toUInt64 >>> ((nI (8 * j)).toInt64.toUInt64 &&& Int64.toUInt64 63)).toInt64)]) (rest := []) np_BY_setByte rfl (by rw [hb]; exact d_BY_setNumber_21)) hl.1 d_BY_setNumber_21 ⟨Nat.le_of_ble_eq_true rfl, Nat.le_of_ble_eq_true rfl⟩ (Or.inl ⟨_, _, List.mem_cons_self⟩) (mk_ws tw_404 hts) (fun a9 U9 h9 => Ts_warm hts _ tw_22 a9 U9 h9) ⟨Nat.le_of_ble_eq_true rfl, Nat.le_of_ble_eq_true rfl⟩ (fun v w' H locs hq hI => ?_) (fun k x w' H locs hq hI hX => ?_)
        · obtain ⟨hq1, hq2⟩ := hq
          cases hq1
          refine W.eq (g2 := F0 m 24 ls []) rfl ?_
          refine lv_iinc (v := nI (j + 1)) (lv' := [(5, .int (nI (j + 1))), (0, .ref b), (1, .int (nI i)), (2, .int (nI k)), (3, .long v)]) hx hb d_BY_setNumber_24 hl (k := 0) rfl (nI_add _ _) (by decide) rfl (fun ls hl => ?_)
          refine lv_goto (tgt := 3) hx hb d_BY_setNumber_27 (by decide) ?_
          refine ih (j + 1) (by omega) (bw_s g1 (i + j) _) w' (by rw [hq2, hw1, mw_uu]) (hg.s ?_) H locs hI ls (lv_sub hl [0, 1, 2, 3, 4] rfl)
          rw [uN_sk v (by omega)]
        · exact absurd hq.1 (by simp)
  refine lv_iconst (v := nI 0) hx hb d_BY_setNumber_0 (by decide) ?_
  refine lv_istore (lv' := [(5, .int (nI 0)), (0, .ref b), (1, .int (nI i)), (2, .int (nI k)), (3, .long v)]) hx hb d_BY_setNumber_1 hl (by decide) rfl (fun ls hl => ?_)
  exact hloop k 0 (by omega) g w (mw_self h.2) (by_w.z g i _) _ _ hI ls (lv_sub hl [0, 1, 2, 3, 4] rfl)
set_option maxRecDepth 100000 in
set_option maxHeartbeats 4000000 in
theorem c_BY_copy (l : Launch) (D : va_G) (dA : Nat → ClassId) {w : mw_W} {b x n : Nat} {g : Nat → Int64} (h : by_ok dA w b x n g) (hn : n ≤ 65536) {b2 x2 n2 : Nat} {g2 : Nat → Int64} (h2 : by_ok dA w b2 x2 n2 g2) (hn2 : n2 ≤ 65536) (hne : x2 ≠ x) {i i2 k : Nat} (hi : i + k ≤ n) (hi2 : i2 + k ≤ n2) : CT l D dA y_BY_copy (Cond.code y_BY_copy b_BY_copy 6 none :: Ts) 2 50 0 0 [.ref b, .int (nI i), .ref b2, .int (nI i2), .int (nI k)] w (fun r w' => r = .inl none ∧ ∃ g', w' = mw_up w x (by_a dA n g') ∧ by_w g g' i k (fun j => bw_b g2 (i2 + j))) := by
  refine mw_meth (by decide) mk_tb (Nat.le_of_ble_eq_true rfl) ?_
  intro p e s m below meth c K hr hlk hce hnm hP0 hSy ls hl
  have hl : lv_has ls 6 [(0, .ref b), (1, .int (nI i)), (2, .ref b2), (3, .int (nI i2)), (4, .int (nI k))] := hl
  obtain ⟨hx, hb, hml, hown, hts, hK, hTb⟩ := id K
  have hI := mw_I.start hP0
  have hloop : ∀ (q j : Nat), j + q = k → ∀ (g1 : Nat → Int64) (w1 : mw_W), w1 = mw_up w x (by_a dA n g1) → by_w g g1 i j (fun j => bw_b g2 (i2 + j)) → ∀ (H : Heap) (locs : List Loc), mw_I D mk_cl w s.heap w1 H locs → ∀ ls : Array Slot, lv_has ls 6 [(5, .int (nI j)), (0, .ref b), (1, .int (nI i)), (2, .ref b2), (3, .int (nI i2)), (4, .int (nI k))] → W p l e { frames := 2, cells := 0, slots := 0, locals := 50 } s m ([.ref b, .int (nI i), .ref b2, .int (nI i2), .int (nI k)] : List Value).toArray below meth c H locs 0 0 (mx_Q below (mw_Qc D mk_cl w s.heap.size (fun r w' => r = .inl none ∧ ∃ g', w' = mw_up w x (by_a dA n g') ∧ by_w g g' i k (fun j => bw_b g2 (i2 + j)))) ([.ref b, .int (nI i), .ref b2, .int (nI i2), .int (nI k)] : List Value).toArray s 0 0 (mw_A w s.heap.size)) (F0 m 3 ls []) := by
    intro q
    induction q with
    | zero =>
      intro j hj g1 w1 hw1 hg H locs hI ls hl
      refine lv_iload hx hb d_BY_copy_3 (lv_at hl 0 rfl) ?_
      refine lv_iload hx hb d_BY_copy_5 (lv_at hl 5 rfl) ?_
      refine lv_icmp_ge (tgt := 33) hx hb d_BY_copy_7 (by decide) (fun c7 => ?_) (fun c7 => ?_)
      ·
        have e : j = k := by omega
        subst e
        exact mw_vret K hI hr hlk ⟨rfl, g1, hw1, hg⟩ d_BY_copy_33
      ·
        exact absurd (nI_le (by omega) (by omega)) c7
    | succ q ih =>
      intro j hj g1 w1 hw1 hg H locs hI ls hl
      have h1 : by_ok dA w1 b x n g1 := by rw [hw1]; exact h.up g1
      have h3 : by_ok dA w1 b2 x2 n2 g2 := by rw [hw1]; exact h2.keep (mw_neA h2.1 h.2) hne
      refine lv_iload hx hb d_BY_copy_3 (lv_at hl 0 rfl) ?_
      refine lv_iload hx hb d_BY_copy_5 (lv_at hl 5 rfl) ?_
      refine lv_icmp_ge (tgt := 33) hx hb d_BY_copy_7 (by decide) (fun c7 => ?_) (fun c7 => ?_)
      ·
        exact absurd c7 (nI_ge (by omega) (by omega))
      ·
        refine lv_aload_n hx hb d_BY_copy_10 rfl (lv_at hl 1 rfl) ?_
        refine lv_iload_n hx hb d_BY_copy_11 rfl (lv_at hl 2 rfl) ?_
        refine lv_iload hx hb d_BY_copy_12 (lv_at hl 0 rfl) ?_
        refine lv_iadd hx hb d_BY_copy_14 ?_
        refine mw_ti (nI_add _ _) ?_
        refine lv_aload_n hx hb d_BY_copy_15 rfl (lv_at hl 3 rfl) ?_
        refine lv_iload_n hx hb d_BY_copy_16 rfl (lv_at hl 4 rfl) ?_
        refine lv_iload hx hb d_BY_copy_17 (lv_at hl 0 rfl) ?_
        refine lv_iadd hx hb d_BY_copy_19 ?_
        refine mw_ti (nI_add _ _) ?_
        refine mw_call (rest := [.int (nI (i + j)), .ref b]) K hSy hP0 hI (c_BY_byteAt l D dA h3 hn2 (i := i2 + j) (by omega)) (mx_invV hx hown (hts _ tw_383) (hts _ tw_384) (hts _ tw_385) (hts _ tw_386) (by decide) (b := b2) (mw_rc K hI h3.1 rfl) (g := F0 m 20 ls [.int (nI (i2 + j)), .ref b2, .int (nI (i + j)), .ref b]) rfl (argsL := [.int (nI (i2 + j))]) (rest := [.int (nI (i + j)), .ref b]) np_BY_byteAt rfl (by rw [hb]; exact d_BY_copy_20)) hl.1 d_BY_copy_20 ⟨Nat.le_of_ble_eq_true rfl, Nat.le_of_ble_eq_true rfl⟩ (Or.inl ⟨_, _, List.mem_cons_self⟩) (mk_ws tw_386 hts) (fun a9 U9 h9 => Ts_warm hts _ tw_22 a9 U9 h9) ⟨Nat.le_of_ble_eq_true rfl, Nat.le_of_ble_eq_true rfl⟩ (fun v w' H locs hq hI => ?_) (fun k x w' H locs hq hI hX => ?_)
        · obtain ⟨hq1, hq2⟩ := hq
          cases hq1
          rw [hq2] at hI
          refine W.eq (g2 := F0 m 23 ls [.int (nI (bw_b g2 (i2 + j))), .int (nI (i + j)), .ref b]) rfl ?_
          refine lv_i2l hx hb d_BY_copy_23 rfl ?_
          have hbl := bw_lt g2 (i2 + j)
          refine mw_tl (y := lN (bw_b g2 (i2 + j))) (nI_l (by omega)) ?_
          refine mw_call (rest := []) K hSy hP0 hI (c_BY_setByte l D dA h1 hn (i := i + j) (by omega) (lN (bw_b g2 (i2 + j)))) (mx_invV hx hown (hts _ tw_401) (hts _ tw_402) (hts _ tw_403) (hts _ tw_404) (by decide) (b := b) (mw_rc K hI h1.1 rfl) (g := F0 m 24 ls [.long (lN (bw_b g2 (i2 + j))), .int (nI (i + j)), .ref b]) rfl (argsL := [.int (nI (i + j)), .long (lN (bw_b g2 (i2 + j)))]) (rest := []) np_BY_setByte rfl (by rw [hb]; exact d_BY_copy_24)) hl.1 d_BY_copy_24 ⟨Nat.le_of_ble_eq_true rfl, Nat.le_of_ble_eq_true rfl⟩ (Or.inl ⟨_, _, List.mem_cons_self⟩) (mk_ws tw_404 hts) (fun a9 U9 h9 => Ts_warm hts _ tw_22 a9 U9 h9) ⟨Nat.le_of_ble_eq_true rfl, Nat.le_of_ble_eq_true rfl⟩ (fun v w' H locs hq hI => ?_) (fun k x w' H locs hq hI hX => ?_)
          · obtain ⟨hq1, hq2⟩ := hq
            cases hq1
            refine W.eq (g2 := F0 m 27 ls []) rfl ?_
            refine lv_iinc (v := nI (j + 1)) (lv' := [(5, .int (nI (j + 1))), (0, .ref b), (1, .int (nI i)), (2, .ref b2), (3, .int (nI i2)), (4, .int (nI k))]) hx hb d_BY_copy_27 hl (k := 0) rfl (nI_add _ _) (by decide) rfl (fun ls hl => ?_)
            refine lv_goto (tgt := 3) hx hb d_BY_copy_30 (by decide) ?_
            refine ih (j + 1) (by omega) (bw_s g1 (i + j) _) w' (by rw [hq2, hw1, mw_uu]) (hg.s ?_) H locs hI ls (lv_sub hl [0, 1, 2, 3, 4, 5] rfl)
            show (lN (bw_b g2 (i2 + j))).toBitVec.toNat % 256 = _
            rw [wb_tn (by omega), Nat.mod_eq_of_lt hbl]
          · exact absurd hq.1 (by simp)
        · exact absurd hq.1 (by simp)
  refine lv_iconst (v := nI 0) hx hb d_BY_copy_0 (by decide) ?_
  refine lv_istore (lv' := [(5, .int (nI 0)), (0, .ref b), (1, .int (nI i)), (2, .ref b2), (3, .int (nI i2)), (4, .int (nI k))]) hx hb d_BY_copy_1 hl (by decide) rfl (fun ls hl => ?_)
  exact hloop k 0 (by omega) g w (mw_self h.2) (by_w.z g i _) _ _ hI ls (lv_sub hl [0, 1, 2, 3, 4, 5] rfl)
set_option maxRecDepth 100000 in
set_option maxHeartbeats 4000000 in
theorem c_BY_same (l : Launch) (D : va_G) (dA : Nat → ClassId) {w : mw_W} {b x n : Nat} {g : Nat → Int64} (h : by_ok dA w b x n g) (hn : n ≤ 65536) {b2 x2 : Nat} {g2 : Nat → Int64} (h2 : by_ok dA w b2 x2 n g2) : CT l D dA y_BY_same (Cond.code y_BY_same b_BY_same 3 (some .boolean) :: Ts) 0 0 0 0 [.ref b, .ref b2] w (fun r w' => w' = w ∧ ∃ v : Int32, r = .inl (some (.int v)) ∧ ((v = 1 ∧ ∀ j, j < (n + 7) / 8 → g j = g2 j) ∨ (v = 0 ∧ ¬ ∀ j, j < (n + 7) / 8 → g j = g2 j))) := by
  refine mw_meth (by decide) mk_tb (Nat.le_of_ble_eq_true rfl) ?_
  intro p e s m below meth c K hr hlk hce hnm hP0 hSy ls hl
  have hl : lv_has ls 3 [(0, .ref b), (1, .ref b2)] := hl
  obtain ⟨hx, hb, hml, hown, hts, hK, hTb⟩ := id K
  have hI := mw_I.start hP0
  obtain ⟨f0, f1⟩ := h
  obtain ⟨f2, f3⟩ := h2
  have hloop : ∀ (q j : Nat), j + q = (n + 7) / 8 → (∀ i, i < j → g i = g2 i) → ∀ ls : Array Slot, lv_has ls 3 [(2, .int (nI j)), (0, .ref b), (1, .ref b2)] → W p l e { frames := 0, cells := 0, slots := 0, locals := 0 } s m ([.ref b, .ref b2] : List Value).toArray below meth c s.heap [] 0 0 (mx_Q below (mw_Qc D mk_cl w s.heap.size (fun r w' => w' = w ∧ ∃ v : Int32, r = .inl (some (.int v)) ∧ ((v = 1 ∧ ∀ j, j < (n + 7) / 8 → g j = g2 j) ∨ (v = 0 ∧ ¬ ∀ j, j < (n + 7) / 8 → g j = g2 j)))) ([.ref b, .ref b2] : List Value).toArray s 0 0 (mw_A w s.heap.size)) (F0 m 17 ls []) := by
    intro q
    induction q with
    | zero =>
      intro j hj hg ls hl
      refine lv_iload_n hx hb d_BY_same_17 rfl (lv_at hl 0 rfl) ?_
      refine lv_aload_n hx hb d_BY_same_18 rfl (lv_at hl 1 rfl) ?_
      refine mw_get K hI gf_BY_19_cBY f0 rfl d_BY_same_19 ?_
      refine mw_alen K hI tJ f1 rfl d_BY_same_22 ?_
      refine lv_icmp_ge (tgt := 50) hx hb d_BY_same_23 (by decide) (fun c23 => ?_) (fun c23 => ?_)
      ·
        refine lv_iconst (v := nI 1) hx hb d_BY_same_50 (by decide) ?_
        have e : j = (n + 7) / 8 := by omega
        subst e
        exact mw_zret K hI hr hlk (Or.inr rfl) ⟨rfl, _, rfl, Or.inl ⟨rfl, hg⟩⟩ d_BY_same_51
      ·
        exact absurd (nI_le (by omega) (by omega)) c23
    | succ q ih =>
      intro j hj hg ls hl
      refine lv_iload_n hx hb d_BY_same_17 rfl (lv_at hl 0 rfl) ?_
      refine lv_aload_n hx hb d_BY_same_18 rfl (lv_at hl 1 rfl) ?_
      refine mw_get K hI gf_BY_19_cBY f0 rfl d_BY_same_19 ?_
      refine mw_alen K hI tJ f1 rfl d_BY_same_22 ?_
      refine lv_icmp_ge (tgt := 50) hx hb d_BY_same_23 (by decide) (fun c23 => ?_) (fun c23 => ?_)
      ·
        exact absurd c23 (nI_ge (by omega) (by omega))
      ·
        refine lv_aload_n hx hb d_BY_same_26 rfl (lv_at hl 1 rfl) ?_
        refine mw_get K hI gf_BY_19_cBY f0 rfl d_BY_same_27 ?_
        refine lv_iload_n hx hb d_BY_same_30 rfl (lv_at hl 0 rfl) ?_
        refine mw_lald K hI tJ f1 rfl j rfl (by first | assumption | omega) (by omega) d_BY_same_31 ?_
        refine lv_aload_n hx hb d_BY_same_32 rfl (lv_at hl 2 rfl) ?_
        refine mw_get K hI gf_BY_19_cBY f2 rfl d_BY_same_33 ?_
        refine lv_iload_n hx hb d_BY_same_36 rfl (lv_at hl 0 rfl) ?_
        refine mw_lald K hI tJ f3 rfl j rfl (by first | assumption | omega) (by omega) d_BY_same_37 ?_
        refine W.lcmp hx hb d_BY_same_38 ?_
        refine lv_if_eq (tgt := 44) hx hb d_BY_same_39 (by decide) (fun c39 => ?_) (fun c39 => ?_)
        · rw [lg_cmp_eq] at c39
          refine lv_iinc (v := nI (j + 1)) (lv' := [(2, .int (nI (j + 1))), (0, .ref b), (1, .ref b2)]) hx hb d_BY_same_44 hl (k := 0) rfl (nI_add _ _) (by decide) rfl (fun ls hl => ?_)
          refine lv_goto (tgt := 17) hx hb d_BY_same_47 (by decide) ?_
          exact ih (j + 1) (by omega) (lt_s hg c39) ls (lv_sub hl [0, 1, 2] rfl)
        · rw [lg_cmp_eq] at c39
          refine lv_iconst (v := nI 0) hx hb d_BY_same_42 (by decide) ?_
          exact mw_zret K hI hr hlk (Or.inl rfl) ⟨rfl, _, rfl, Or.inr ⟨rfl, fun z => c39 (z j (by omega))⟩⟩ d_BY_same_43
  refine lv_aload_n hx hb d_BY_same_0 rfl (lv_at hl 0 rfl) ?_
  refine mw_get K hI gf_BY_19_cBY f0 rfl d_BY_same_1 ?_
  refine mw_alen K hI tJ f1 rfl d_BY_same_4 ?_
  refine lv_aload_n hx hb d_BY_same_5 rfl (lv_at hl 1 rfl) ?_
  refine mw_get K hI gf_BY_19_cBY f2 rfl d_BY_same_6 ?_
  refine mw_alen K hI tJ f3 rfl d_BY_same_9 ?_
  refine lv_icmp_eq (tgt := 15) hx hb d_BY_same_10 (by decide) (fun c10 => ?_) (fun c10 => ?_)
  ·
    refine lv_iconst (v := nI 0) hx hb d_BY_same_15 (by decide) ?_
    refine lv_istore_n (lv' := [(2, .int (nI 0)), (0, .ref b), (1, .ref b2)]) hx hb d_BY_same_16 rfl hl (by decide) rfl (fun ls hl => ?_)
    exact hloop ((n + 7) / 8) 0 (by omega) lt_0 ls (lv_sub hl [0, 1, 2] rfl)
  ·
    exact absurd rfl c10
