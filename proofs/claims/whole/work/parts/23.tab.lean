/-! ### tables: looking for keys -/
theorem d_TM_entryWithAsked_0 : decode b_TM_entryWithAsked 0 = .ok (.iconst 0, 1) := by decide +kernel
theorem d_TM_entryWithAsked_1 : decode b_TM_entryWithAsked 1 = .ok (.istore_n 2, 1) := by decide +kernel
theorem d_TM_entryWithAsked_2 : decode b_TM_entryWithAsked 2 = .ok (.iload_n 2, 1) := by decide +kernel
theorem d_TM_entryWithAsked_3 : decode b_TM_entryWithAsked 3 = .ok (.aload_n 0, 1) := by decide +kernel
theorem d_TM_entryWithAsked_4 : decode b_TM_entryWithAsked 4 = .ok (.getfield 9, 3) := by decide +kernel
theorem d_TM_entryWithAsked_7 : decode b_TM_entryWithAsked 7 = .ok (.if_icmp .ge 38, 3) := by decide +kernel
theorem d_TM_entryWithAsked_10 : decode b_TM_entryWithAsked 10 = .ok (.aload_n 0, 1) := by decide +kernel
theorem d_TM_entryWithAsked_11 : decode b_TM_entryWithAsked 11 = .ok (.getfield 23, 3) := by decide +kernel
theorem d_TM_entryWithAsked_14 : decode b_TM_entryWithAsked 14 = .ok (.iload_n 2, 1) := by decide +kernel
theorem d_TM_entryWithAsked_15 : decode b_TM_entryWithAsked 15 = .ok (.aaload, 1) := by decide +kernel
theorem d_TM_entryWithAsked_16 : decode b_TM_entryWithAsked 16 = .ok (.astore_n 3, 1) := by decide +kernel
theorem d_TM_entryWithAsked_17 : decode b_TM_entryWithAsked 17 = .ok (.aload_n 3, 1) := by decide +kernel
theorem d_TM_entryWithAsked_18 : decode b_TM_entryWithAsked 18 = .ok (.ifnull 21, 3) := by decide +kernel
theorem d_TM_entryWithAsked_21 : decode b_TM_entryWithAsked 21 = .ok (.iload_n 2, 1) := by decide +kernel
theorem d_TM_entryWithAsked_22 : decode b_TM_entryWithAsked 22 = .ok (.iload_n 1, 1) := by decide +kernel
theorem d_TM_entryWithAsked_23 : decode b_TM_entryWithAsked 23 = .ok (.if_icmp .eq 16, 3) := by decide +kernel
theorem d_TM_entryWithAsked_26 : decode b_TM_entryWithAsked 26 = .ok (.aload_n 3, 1) := by decide +kernel
theorem d_TM_entryWithAsked_27 : decode b_TM_entryWithAsked 27 = .ok (.aload_n 0, 1) := by decide +kernel
theorem d_TM_entryWithAsked_28 : decode b_TM_entryWithAsked 28 = .ok (.getfield 30, 3) := by decide +kernel
theorem d_TM_entryWithAsked_31 : decode b_TM_entryWithAsked 31 = .ok (.invokevirtual 62, 3) := by decide +kernel
theorem d_TM_entryWithAsked_34 : decode b_TM_entryWithAsked 34 = .ok (.ifCond .eq 5, 3) := by decide +kernel
theorem d_TM_entryWithAsked_37 : decode b_TM_entryWithAsked 37 = .ok (.iload_n 2, 1) := by decide +kernel
theorem d_TM_entryWithAsked_38 : decode b_TM_entryWithAsked 38 = .ok (.ireturn, 1) := by decide +kernel
theorem d_TM_entryWithAsked_39 : decode b_TM_entryWithAsked 39 = .ok (.iinc 2 1, 3) := by decide +kernel
theorem d_TM_entryWithAsked_42 : decode b_TM_entryWithAsked 42 = .ok (.goto (-40), 3) := by decide +kernel
theorem d_TM_entryWithAsked_45 : decode b_TM_entryWithAsked 45 = .ok (.iconst (-1), 1) := by decide +kernel
theorem d_TM_entryWithAsked_46 : decode b_TM_entryWithAsked 46 = .ok (.ireturn, 1) := by decide +kernel
theorem d_TM_leastFree_0 : decode b_TM_leastFree 0 = .ok (.iconst 0, 1) := by decide +kernel
theorem d_TM_leastFree_1 : decode b_TM_leastFree 1 = .ok (.istore_n 1, 1) := by decide +kernel
theorem d_TM_leastFree_2 : decode b_TM_leastFree 2 = .ok (.iload_n 1, 1) := by decide +kernel
theorem d_TM_leastFree_3 : decode b_TM_leastFree 3 = .ok (.aload_n 0, 1) := by decide +kernel
theorem d_TM_leastFree_4 : decode b_TM_leastFree 4 = .ok (.getfield 66, 3) := by decide +kernel
theorem d_TM_leastFree_7 : decode b_TM_leastFree 7 = .ok (.if_icmp .ge 20, 3) := by decide +kernel
theorem d_TM_leastFree_10 : decode b_TM_leastFree 10 = .ok (.aload_n 0, 1) := by decide +kernel
theorem d_TM_leastFree_11 : decode b_TM_leastFree 11 = .ok (.getfield 23, 3) := by decide +kernel
theorem d_TM_leastFree_14 : decode b_TM_leastFree 14 = .ok (.iload_n 1, 1) := by decide +kernel
theorem d_TM_leastFree_15 : decode b_TM_leastFree 15 = .ok (.aaload, 1) := by decide +kernel
theorem d_TM_leastFree_16 : decode b_TM_leastFree 16 = .ok (.ifnonnull 5, 3) := by decide +kernel
theorem d_TM_leastFree_19 : decode b_TM_leastFree 19 = .ok (.iload_n 1, 1) := by decide +kernel
theorem d_TM_leastFree_20 : decode b_TM_leastFree 20 = .ok (.ireturn, 1) := by decide +kernel
theorem d_TM_leastFree_21 : decode b_TM_leastFree 21 = .ok (.iinc 1 1, 3) := by decide +kernel
theorem d_TM_leastFree_24 : decode b_TM_leastFree 24 = .ok (.goto (-22), 3) := by decide +kernel
theorem d_TM_leastFree_27 : decode b_TM_leastFree 27 = .ok (.iconst (-1), 1) := by decide +kernel
theorem d_TM_leastFree_28 : decode b_TM_leastFree 28 = .ok (.ireturn, 1) := by decide +kernel
theorem d_TM_entryOf_0 : decode b_TM_entryOf 0 = .ok (.aload_n 0, 1) := by decide +kernel
theorem d_TM_entryOf_1 : decode b_TM_entryOf 1 = .ok (.getfield 30, 3) := by decide +kernel
theorem d_TM_entryOf_4 : decode b_TM_entryOf 4 = .ok (.iconst 0, 1) := by decide +kernel
theorem d_TM_entryOf_5 : decode b_TM_entryOf 5 = .ok (.aload_n 0, 1) := by decide +kernel
theorem d_TM_entryOf_6 : decode b_TM_entryOf 6 = .ok (.getfield 34, 3) := by decide +kernel
theorem d_TM_entryOf_9 : decode b_TM_entryOf 9 = .ok (.iload_n 1, 1) := by decide +kernel
theorem d_TM_entryOf_10 : decode b_TM_entryOf 10 = .ok (.aload_n 0, 1) := by decide +kernel
theorem d_TM_entryOf_11 : decode b_TM_entryOf 11 = .ok (.getfield 37, 3) := by decide +kernel
theorem d_TM_entryOf_14 : decode b_TM_entryOf 14 = .ok (.invokevirtual 40, 3) := by decide +kernel
theorem d_TM_entryOf_17 : decode b_TM_entryOf 17 = .ok (.aload_n 0, 1) := by decide +kernel
theorem d_TM_entryOf_18 : decode b_TM_entryOf 18 = .ok (.iconst (-1), 1) := by decide +kernel
theorem d_TM_entryOf_19 : decode b_TM_entryOf 19 = .ok (.invokevirtual 44, 3) := by decide +kernel
theorem d_TM_entryOf_22 : decode b_TM_entryOf 22 = .ok (.ireturn, 1) := by decide +kernel
theorem bw_ext {x y : Int64} (h : ∀ t, t < 8 → uN x / 2 ^ (8 * t) % 256 = uN y / 2 ^ (8 * t) % 256) : x = y := by
  apply uN_inj
  apply Nat.eq_of_testBit_eq
  intro i
  by_cases hi : i < 64
  · have h1 := congrArg (fun n => n.testBit (i % 8)) (h (i / 8) (by omega))
    simp only [bw_tb] at h1
    have h2 : i % 8 < 8 := Nat.mod_lt _ (by decide)
    have h3 : 8 * (i / 8) + i % 8 = i := by omega
    rw [h3] at h1
    simpa [h2] using h1
  · have hp : (18446744073709551616 : Nat) ≤ 2 ^ i := by
      have : (2 : Nat) ^ 64 ≤ 2 ^ i := Nat.pow_le_pow_right (by decide) (by omega)
      omega
    rw [Nat.testBit_lt_two_pow (Nat.lt_of_lt_of_le (uN_lt x) hp), Nat.testBit_lt_two_pow (Nat.lt_of_lt_of_le (uN_lt y) hp)]
theorem by_l_eq {g g2 : Nat → Int64} {k : Nat} {l l2 : List Nat} (h : by_l g k l) (h2 : by_l g2 k l2) : (∀ j, j < (k + 7) / 8 → g j = g2 j) ↔ l = l2 := by
  constructor
  · intro e
    apply List.ext_getElem (by rw [h.1, h2.1])
    intro j h3 h4
    have hj : j < k := by rw [h.1] at h3; exact h3
    have e1 := h.2.1 j hj
    have e2 := h2.2.1 j hj
    have e3 : bw_b g j = bw_b g2 j := by unfold bw_b; rw [e (j / 8) (by omega)]
    rw [e1, e2, List.getD_eq_getElem?_getD, List.getD_eq_getElem?_getD, List.getElem?_eq_getElem h3, List.getElem?_eq_getElem h4] at e3
    exact e3
  · intro e j hj
    subst e
    apply bw_ext
    intro t ht
    have hb : bw_b g (8 * j + t) = bw_b g2 (8 * j + t) := by
      by_cases hk : 8 * j + t < k
      · rw [h.2.1 _ hk, h2.2.1 _ hk]
      · rw [h.2.2 _ (by omega) (by omega), h2.2.2 _ (by omega) (by omega)]
    unfold bw_b at hb
    rw [show (8 * j + t) / 8 = j by omega, show (8 * j + t) % 8 = t by omega] at hb
    exact hb
/-- the least number under n with P -/
def lst (P : Nat → Bool) : Nat → Option Nat
  | 0 => none
  | n + 1 => match lst P n with
    | some e => some e
    | none => if P n = true then some n else none
theorem lst_none {P : Nat → Bool} : ∀ {n : Nat}, (∀ e, e < n → P e = false) → lst P n = none
  | 0, _ => rfl
  | n + 1, h => by rw [lst, lst_none (fun e he => h e (by omega)), h n (by omega)]; rfl
theorem lst_some {P : Nat → Bool} {e : Nat} (he : P e = true) (hl : ∀ e', e' < e → P e' = false) : ∀ {n : Nat}, e < n → lst P n = some e
  | 0, h => absurd h (by omega)
  | n + 1, h => by
    by_cases q : e < n
    · rw [lst, lst_some he hl q]
    · have : e = n := by omega
      subst this
      rw [lst, lst_none hl, he]; rfl
theorem lst_is {P : Nat → Bool} : ∀ {n e : Nat}, lst P n = some e → e < n ∧ P e = true ∧ ∀ e', e' < e → P e' = false
  | 0, _, h => by cases h
  | n + 1, e, h => by
    rw [lst] at h
    cases q : lst P n with
    | some a =>
      rw [q] at h; cases h
      obtain ⟨h1, h2, h3⟩ := lst_is q
      exact ⟨by omega, h2, h3⟩
    | none =>
      rw [q] at h
      by_cases hp : P n = true
      · rw [if_pos hp] at h; cases h
        exact ⟨by omega, hp, fun e' he' => lst_no q e' he'⟩
      · rw [if_neg hp] at h; cases h
where lst_no {P : Nat → Bool} : ∀ {n : Nat}, lst P n = none → ∀ e, e < n → P e = false
  | 0, _, e, he => absurd he (by omega)
  | n + 1, h, e, he => by
    rw [lst] at h
    cases q : lst P n with
    | some a => rw [q] at h; cases h
    | none =>
      rw [q] at h
      by_cases hp : P n = true
      · rw [if_pos hp] at h; cases h
      · by_cases e2 : e = n
        · subst e2; simpa using hp
        · exact lst_no q e (by omega)
def oI (r : Option Nat) : Int32 := match r with
  | none => -1
  | some e => nI e
set_option maxRecDepth 100000 in
set_option maxHeartbeats 4000000 in
theorem c_TM_entryWithAsked (l : Launch) (D : va_G) (dA : Nat → ClassId) {w : mw_W} {a : Nat} {m0 : as_M} {bd ba ka ak ax rch : Nat} {gk : Nat → Int64} {f : Nat → Option Nat} {wk : Int32} (f0 : w a = some (.inr (cTM, [.ref bd, .ref ba, .int (nI (bg m0)), .int (nI (ks m0)), .int (nI (vs m0)), .int (nI (en m0)), .ref ka, .ref ak, .int (nI rch), .int wk, .int (nI 0)]))) (fk : by_ok dA w ak ax (ks m0) gk) (hk : by_l gk (ks m0) (aq m0)) (hks : ks m0 ≤ 64) (hen : en m0 ≤ 4096) (f1 : w ka = some (.inl (dA tBY, en m0, .inr (.inr (.inr (.inr f)))))) (hr1 : rch ≤ en m0) (hn1 : ∀ e, e < en m0 → tb m0 e = none → f e = none) (hs1 : ∀ e k, tb m0 e = some k → e < rch ∧ ∃ (kb kx : Nat) (g : Nat → Int64), f e = some kb ∧ by_ok dA w kb kx (ks m0) g ∧ by_l g (ks m0) k) (bes : Int32) : CT l D dA y_TM_entryWithAsked (Cond.code y_TM_entryWithAsked b_TM_entryWithAsked 4 (some .int) :: Ts) 1 20 0 0 [.ref a, .int bes] w (fun r w' => w' = w ∧ r = .inl (some (.int (oI (lst (fun e => decide (tb m0 e = some (aq m0)) && decide (bes ≠ nI e)) (en m0)))))) := by
  refine mw_meth (by decide) mk_tb (Nat.le_of_ble_eq_true rfl) ?_
  intro p e s m below meth c K hr hlk hce hnm hP0 hSy ls hl
  have hl : lv_has ls 4 [(0, .ref a), (1, .int bes)] := hl
  obtain ⟨hx, hb, hml, hown, hts, hK, hTb⟩ := id K
  have hI := mw_I.start hP0
  have hloop : ∀ (q j : Nat), j + q = rch → (∀ e, e < j → (decide (tb m0 e = some (aq m0)) && decide (bes ≠ nI e)) = false) → ∀ (H : Heap) (locs : List Loc), mw_I D mk_cl w s.heap w H locs → ∀ ls : Array Slot, lv_has ls 4 [(2, .int (nI j)), (0, .ref a), (1, .int bes)] → W p l e { frames := 1, cells := 0, slots := 0, locals := 20 } s m ([.ref a, .int bes] : List Value).toArray below meth c H locs 0 0 (mx_Q below (mw_Qc D mk_cl w s.heap.size (fun r w' => w' = w ∧ r = .inl (some (.int (oI (lst (fun e => decide (tb m0 e = some (aq m0)) && decide (bes ≠ nI e)) (en m0))))))) ([.ref a, .int bes] : List Value).toArray s 0 0 (mw_A w s.heap.size)) (F0 m 2 ls []) := by
    intro q
    induction q with
    | zero =>
      intro j hj hno H locs hI ls hl
      refine lv_iload_n hx hb d_TM_entryWithAsked_2 rfl (lv_at hl 0 rfl) ?_
      refine lv_aload_n hx hb d_TM_entryWithAsked_3 rfl (lv_at hl 1 rfl) ?_
      refine mw_get K hI gf_TM_9_cTM f0 rfl d_TM_entryWithAsked_4 ?_
      refine lv_icmp_ge (tgt := 45) hx hb d_TM_entryWithAsked_7 (by decide) (fun c7 => ?_) (fun c7 => ?_)
      ·
        refine lv_iconst (v := (-1)) hx hb d_TM_entryWithAsked_45 (by decide) ?_
        refine mw_iret K hI hr hlk ⟨rfl, ?_⟩ d_TM_entryWithAsked_46
        rw [lst_none (fun e he => ?_)]
        · rfl
        · by_cases hej : e < j
          · exact hno e hej
          · cases ht : tb m0 e with
            | none => rfl
            | some k => exact absurd (hs1 e k ht).1 (by omega)
      ·
        exact absurd (nI_le (by omega) (by omega)) c7
    | succ q ih =>
      intro j hj hno H locs hI ls hl
      refine lv_iload_n hx hb d_TM_entryWithAsked_2 rfl (lv_at hl 0 rfl) ?_
      refine lv_aload_n hx hb d_TM_entryWithAsked_3 rfl (lv_at hl 1 rfl) ?_
      refine mw_get K hI gf_TM_9_cTM f0 rfl d_TM_entryWithAsked_4 ?_
      refine lv_icmp_ge (tgt := 45) hx hb d_TM_entryWithAsked_7 (by decide) (fun c7 => ?_) (fun c7 => ?_)
      ·
        exact absurd c7 (nI_ge (by omega) (by omega))
      ·
        refine lv_aload_n hx hb d_TM_entryWithAsked_10 rfl (lv_at hl 1 rfl) ?_
        refine mw_get K hI gf_TM_23_cTM f0 rfl d_TM_entryWithAsked_11 ?_
        refine lv_iload_n hx hb d_TM_entryWithAsked_14 rfl (lv_at hl 0 rfl) ?_
        refine mw_aald K hI tBY f1 rfl j rfl (by first | assumption | omega) (by omega) d_TM_entryWithAsked_15 ?_
        cases ht : tb m0 j with
        | none =>
          have hfj := hn1 j (by omega) ht
          refine mw_tv (y := .null) ((by rw [hfj]; rfl)) ?_
          refine lv_astore_nN (lv' := [(3, .null), (2, .int (nI j)), (0, .ref a), (1, .int bes)]) hx hb d_TM_entryWithAsked_16 rfl hl (by decide) rfl (fun ls hl => ?_)
          refine lv_aload_nN hx hb d_TM_entryWithAsked_17 rfl (lv_at hl 0 rfl) ?_
          refine lv_ifnullN (tgt := 39) hx hb d_TM_entryWithAsked_18 (by decide) ?_
          refine lv_iinc (v := nI (j + 1)) (lv' := [(2, .int (nI (j + 1))), (3, .null), (0, .ref a), (1, .int bes)]) hx hb d_TM_entryWithAsked_39 hl (k := 1) rfl (nI_add _ _) (by decide) rfl (fun ls hl => ?_)
          refine lv_goto (tgt := 2) hx hb d_TM_entryWithAsked_42 (by decide) ?_
          exact ih (j + 1) (by omega) (lt_s hno (by rw [ht]; rfl)) H locs hI ls (lv_sub hl [0, 2, 3] rfl)
        | some k =>
          obtain ⟨hjr, kb, kx, g, hfj, fb, hbl⟩ := hs1 j k ht
          refine mw_tv (y := .ref kb) ((by rw [hfj]; rfl)) ?_
          refine lv_astore_n (lv' := [(3, .ref kb), (2, .int (nI j)), (0, .ref a), (1, .int bes)]) hx hb d_TM_entryWithAsked_16 rfl hl (by decide) rfl (fun ls hl => ?_)
          refine lv_aload_n hx hb d_TM_entryWithAsked_17 rfl (lv_at hl 0 rfl) ?_
          refine lv_ifnull hx hb d_TM_entryWithAsked_18 ?_
          refine lv_iload_n hx hb d_TM_entryWithAsked_21 rfl (lv_at hl 1 rfl) ?_
          refine lv_iload_n hx hb d_TM_entryWithAsked_22 rfl (lv_at hl 3 rfl) ?_
          refine lv_icmp_eq (tgt := 39) hx hb d_TM_entryWithAsked_23 (by decide) (fun c23 => ?_) (fun c23 => ?_)
          ·
            refine lv_iinc (v := nI (j + 1)) (lv' := [(2, .int (nI (j + 1))), (3, .ref kb), (0, .ref a), (1, .int bes)]) hx hb d_TM_entryWithAsked_39 hl (k := 1) rfl (nI_add _ _) (by decide) rfl (fun ls hl => ?_)
            refine lv_goto (tgt := 2) hx hb d_TM_entryWithAsked_42 (by decide) ?_
            exact ih (j + 1) (by omega) (lt_s hno (by rw [← c23]; simp)) H locs hI ls (lv_sub hl [0, 2, 3] rfl)
          ·
            refine lv_aload_n hx hb d_TM_entryWithAsked_26 rfl (lv_at hl 0 rfl) ?_
            refine lv_aload_n hx hb d_TM_entryWithAsked_27 rfl (lv_at hl 2 rfl) ?_
            refine mw_get K hI gf_TM_30_cTM f0 rfl d_TM_entryWithAsked_28 ?_
            refine mw_call (rest := []) K hSy hP0 hI (c_BY_same l D dA fb (by omega) fk) (mx_invV hx hown (hts _ tw_457) (hts _ tw_458) (hts _ tw_459) (hts _ tw_460) (by decide) (b := kb) (mw_rc K hI fb.1 rfl) (g := F0 m 31 ls [.ref ak, .ref kb]) rfl (argsL := [.ref ak]) (rest := []) np_BY_same rfl (by rw [hb]; exact d_TM_entryWithAsked_31)) hl.1 d_TM_entryWithAsked_31 ⟨Nat.le_of_ble_eq_true rfl, Nat.le_of_ble_eq_true rfl⟩ (Or.inl ⟨_, _, List.mem_cons_self⟩) (mk_ws tw_460 hts) (fun a9 U9 h9 => Ts_warm hts _ tw_22 a9 U9 h9) ⟨Nat.le_of_ble_eq_true rfl, Nat.le_of_ble_eq_true rfl⟩ (fun v w' H locs hq hI => ?_) (fun k x w' H locs hq hI hX => ?_)
            · obtain ⟨hq1, v9, hq2, hq3⟩ := hq
              cases hq2
              rw [hq1] at hI
              refine W.eq (g2 := F0 m 34 ls [.int v9]) rfl ?_
              refine lv_if_eq (tgt := 39) hx hb d_TM_entryWithAsked_34 (by decide) (fun c34 => ?_) (fun c34 => ?_)
              ·
                refine lv_iinc (v := nI (j + 1)) (lv' := [(2, .int (nI (j + 1))), (3, .ref kb), (0, .ref a), (1, .int bes)]) hx hb d_TM_entryWithAsked_39 hl (k := 1) rfl (nI_add _ _) (by decide) rfl (fun ls hl => ?_)
                refine lv_goto (tgt := 2) hx hb d_TM_entryWithAsked_42 (by decide) ?_
                refine ih (j + 1) (by omega) (lt_s hno ?_) H locs hI ls (lv_sub hl [0, 2, 3] rfl)
                rcases hq3 with ⟨e9, -⟩ | ⟨-, hne⟩
                · rw [e9] at c34; exact absurd c34 (by decide)
                · rw [by_l_eq hbl hk] at hne
                  rw [ht]
                  simp [hne]
              ·
                refine lv_iload_n hx hb d_TM_entryWithAsked_37 rfl (lv_at hl 1 rfl) ?_
                refine mw_iret K hI hr hlk ⟨rfl, ?_⟩ d_TM_entryWithAsked_38
                rcases hq3 with ⟨-, heq⟩ | ⟨e9, -⟩
                · rw [by_l_eq hbl hk] at heq
                  rw [lst_some (e := j) (by rw [ht, heq]; simp; exact fun z => c23 z.symm) hno (by omega)]
                  rfl
                · exact absurd e9 c34
            · obtain ⟨-, v9, hq2, -⟩ := hq
              cases hq2
  refine lv_iconst (v := nI 0) hx hb d_TM_entryWithAsked_0 (by decide) ?_
  refine lv_istore_n (lv' := [(2, .int (nI 0)), (0, .ref a), (1, .int bes)]) hx hb d_TM_entryWithAsked_1 rfl hl (by decide) rfl (fun ls hl => ?_)
  exact hloop rch 0 (by omega) lt_0 _ _ hI ls (lv_sub hl [0, 1, 2] rfl)
