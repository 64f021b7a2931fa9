/-! ### the law: its wrappers -/
theorem rV_inl {u : Int32} {r : Int32 ⊕ Nat} (h : (.inl (some (.int u)) : mw_R) = rV r) : r = .inl u := by
  cases r with
  | inl v => injection h with h; injection h with h; injection h with h; rw [h]
  | inr k => cases h
theorem rV_inr {k : Nat} {r : Int32 ⊕ Nat} (h : (.inr k : mw_R) = rV r) : r = .inr k := by
  cases r with
  | inl v => cases h
  | inr j => injection h with h; rw [h]
def sL (r : Int32 ⊕ Nat) : Int64 ⊕ Nat := match r with
  | .inl u => .inl u.toInt64
  | .inr k => .inr k
/-- an answer that is laid into the law's cell, or a number for what was thrown -/
def LWP (dA : Nat → ClassId) (w : mw_W) (own : as_W) (x o : Nat) (S : as_S) (res : Int64 ⊕ Nat) (ka : Nat → Nat) : mw_R → mw_W → Prop := fun r w' => ∃ (own' : as_W) (fo' : Nat → Int64) (kc : Int32), r = .inl (some (.int kc)) ∧ RepC dA w' own' x S ∧ w' o = some (.inl (dA tJ, 1, .inr (.inl fo'))) ∧ FrL w own w' own' o ∧ (∀ u, res = .inl u → kc = nI 0 ∧ fo' 0 = u) ∧ ∀ k, res = .inr k → kc = nI (ka k)
section
variable {dA : Nat → ClassId} {w w1 : mw_W} {own own1 : as_W} {x o : Nat} {S : as_S} {res : Int64 ⊕ Nat} {ka : Nat → Nat} {fo : Nat → Int64}
theorem LWP.ok (hR : RepC dA w1 own1 x S) (hF : Fr w own w1 own1) (f2 : w1 o = some (.inl (dA tJ, 1, .inr (.inl fo)))) (ho : own1 o = (40, 0, 0)) {u : Int64} (hres : res = .inl u) : LWP dA w own x o S res ka (.inl (some (.int (nI 0)))) (mw_up w1 o (.inl (dA tJ, 1, .inr (.inl (vp_updL fo 0 u))))) :=
  ⟨own1, _, _, rfl, hR.up f2 (by rw [ho]; decide), mw_up_s _ _ _, hF.upO o _, fun v hv => by rw [hres] at hv; injection hv with hv; exact ⟨rfl, by rw [← hv]; exact if_pos rfl⟩, fun k hk => by rw [hres] at hk; cases hk⟩
theorem LWP.bad (hR : RepC dA w1 own1 x S) (hF : Fr w own w1 own1) (f2 : w1 o = some (.inl (dA tJ, 1, .inr (.inl fo)))) {k : Nat} (hres : res = .inr k) {kc : Int32} (hkc : kc = nI (ka k)) : LWP dA w own x o S res ka (.inl (some (.int kc))) w1 :=
  ⟨own1, fo, kc, rfl, hR, f2, hF.toL o, fun u hu => (by rw [hres] at hu; cases hu), fun j hj => by rw [hres] at hj; injection hj with hj; rw [← hj]; exact hkc⟩
end
/-- a code, and the state afterwards -/
def LWQ (dA : Nat → ClassId) (w : mw_W) (own : as_W) (x : Nat) (sr : as_S × Nat) : mw_R → mw_W → Prop := fun r w' => r = .inl (some (.int (nI sr.2))) ∧ ∃ own', RepC dA w' own' x sr.1 ∧ Fr w own w' own'
def sp_DESK (S : as_S) (q : Int32) : Int64 ⊕ Nat := if inD q 8 512 then .inl (lN (bw_n (dk S) q.toNatClampNeg 8)) else .inr 2
def sp_LOAD (S : as_S) (q z : Int32) : Int64 ⊕ Nat := if okZ z then (if inD q z.toNatClampNeg 65536 then .inl (lN (bw_n (ar S) q.toNatClampNeg z.toNatClampNeg)) else .inr 2) else .inr 0
def sp_LAY (S : as_S) (q : Int32) (v : Int64) : as_S × Nat := if inD q 8 512 then (S_dk S (wr (dk S) q.toNatClampNeg 8 v), 0) else (S, 1)
def sp_STORE (S : as_S) (q z : Int32) (v : Int64) : as_S × Nat := if okZ z then (if inD q z.toNatClampNeg 65536 then (S_ar S (wr (ar S) q.toNatClampNeg z.toNatClampNeg v), 0) else (S, 1)) else (S, 2)
theorem k_USED {S : as_S} {q : Int32} {j : Nat} (h : (sp_USED S q).2 = .inr j) : j = 2 := by
  unfold sp_USED at h
  repeat' split at h
  all_goals first | (cases h; done) | (cases h; rfl)
theorem k_BEG {S : as_S} {q : Int32} {j : Nat} (h : (sp_BEG S q).2 = .inr j) : j = 2 := by
  unfold sp_BEG at h
  repeat' split at h
  all_goals first | (cases h; done) | (cases h; rfl)
theorem k_FIND {S : as_S} {q k : Int32} {j : Nat} (h : (sp_FIND S q k).2 = .inr j) : j = 2 := by
  unfold sp_FIND sp_find at h
  repeat' split at h
  all_goals first | (cases h; done) | (cases h; rfl)
theorem k_UPD {S : as_S} {q k v f : Int32} {j : Nat} (h : (sp_UPD S q k v f).2 = .inr j) : j = 2 := by
  unfold sp_UPD sp_upd at h
  repeat' split at h
  all_goals first | (cases h; done) | (cases h; rfl)
theorem k_REM {S : as_S} {q k : Int32} {j : Nat} (h : (sp_REM S q k).2 = .inr j) : j = 2 := by
  unfold sp_REM sp_free at h
  repeat' split at h
  all_goals first | (cases h; done) | (cases h; rfl)
theorem k_PUT {S : as_S} {q a z : Int32} {j : Nat} (h : (sp_PUT S q a z).2 = .inr j) : j = 2 := by
  unfold sp_PUT sp_put at h
  repeat' split at h
  all_goals first | (cases h; done) | (cases h; rfl)
theorem k_TAKE {S : as_S} {q a : Int32} {j : Nat} (h : (sp_TAKE S q a).2 = .inr j) : j = 2 := by
  unfold sp_TAKE sp_take at h
  repeat' split at h
  all_goals first | (cases h; done) | (cases h; rfl)
theorem k_NEXT {S : as_S} {q k to : Int32} {j : Nat} (h : (sp_NEXT S q k to).2 = .inr j) : j = 2 := by
  unfold sp_NEXT sp_next nxK at h
  repeat' split at h
  all_goals first | (cases h; done) | (cases h; rfl)
theorem k_MAKE {S : as_S} {k a v n : Int32} {j : Nat} (h : (sp_MAKE S k a v n).2 = .inr j) : j = 0 ∨ j = 1 := by
  unfold sp_MAKE at h
  repeat' split at h
  all_goals first | (cases h; done) | (cases h; exact Or.inl rfl) | (cases h; exact Or.inr rfl)
theorem k_DESK {S : as_S} {q : Int32} {j : Nat} (h : sp_DESK S q = .inr j) : j = 2 := by
  unfold sp_DESK at h
  repeat' split at h
  all_goals first | (cases h; done) | (cases h; rfl)
theorem k_LOAD {S : as_S} {q z : Int32} {j : Nat} (h : sp_LOAD S q z = .inr j) : j = 2 ∨ j = 0 := by
  unfold sp_LOAD at h
  repeat' split at h
  all_goals first | (cases h; done) | (cases h; exact Or.inl rfl) | (cases h; exact Or.inr rfl)
theorem c_MS_begins_PR (l : Launch) (D : va_G) (dA : Nat → ClassId) (hL : mw_L l) {w : mw_W} {own : as_W} {x t : Nat} {S : as_S} (hR : RepC dA w own x S) (hW : wf_S t S) (q : Int32) : CT l D dA y_MS_begins (Cond.code y_MS_begins b_MS_begins 2 (some .int) :: Ts) 7 110 1 6 [.ref x, .int q] w (PR dA w own x (sp_BEG S q)) :=
  (c_MS_begins l D dA hL hR hW q).mono (fun r w' ⟨h1, h2⟩ => by
    subst h1
    rcases h2 with ⟨h2, h3⟩ | ⟨h2, h3⟩
    · rw [show sp_BEG S q = _ from if_pos h2]; exact ⟨h3, own, hR, Fr.rf _ _⟩
    · rw [show sp_BEG S q = _ from if_neg h2]; exact ⟨h3, own, hR, Fr.rf _ _⟩)
theorem d_LW_make_0 : decode b_LW_make 0 = .ok (.aload 5, 2) := by decide +kernel
theorem d_LW_make_2 : decode b_LW_make 2 = .ok (.iconst 0, 1) := by decide +kernel
theorem d_LW_make_3 : decode b_LW_make 3 = .ok (.aload_n 0, 1) := by decide +kernel
theorem d_LW_make_4 : decode b_LW_make 4 = .ok (.iload_n 1, 1) := by decide +kernel
theorem d_LW_make_5 : decode b_LW_make 5 = .ok (.iload_n 2, 1) := by decide +kernel
theorem d_LW_make_6 : decode b_LW_make 6 = .ok (.iload_n 3, 1) := by decide +kernel
theorem d_LW_make_7 : decode b_LW_make 7 = .ok (.iload 4, 2) := by decide +kernel
theorem d_LW_make_9 : decode b_LW_make 9 = .ok (.invokevirtual 7, 3) := by decide +kernel
theorem d_LW_make_12 : decode b_LW_make 12 = .ok (.i2l, 1) := by decide +kernel
theorem d_LW_make_13 : decode b_LW_make 13 = .ok (.lastore, 1) := by decide +kernel
theorem d_LW_make_14 : decode b_LW_make 14 = .ok (.goto 11, 3) := by decide +kernel
theorem d_LW_make_17 : decode b_LW_make 17 = .ok (.astore 6, 2) := by decide +kernel
theorem d_LW_make_19 : decode b_LW_make 19 = .ok (.iconst 1, 1) := by decide +kernel
theorem d_LW_make_20 : decode b_LW_make 20 = .ok (.ireturn, 1) := by decide +kernel
theorem d_LW_make_21 : decode b_LW_make 21 = .ok (.astore 6, 2) := by decide +kernel
theorem d_LW_make_23 : decode b_LW_make 23 = .ok (.iconst 2, 1) := by decide +kernel
theorem d_LW_make_24 : decode b_LW_make 24 = .ok (.ireturn, 1) := by decide +kernel
theorem d_LW_make_25 : decode b_LW_make 25 = .ok (.iconst 0, 1) := by decide +kernel
theorem d_LW_make_26 : decode b_LW_make 26 = .ok (.ireturn, 1) := by decide +kernel
theorem d_LW_begins_0 : decode b_LW_begins 0 = .ok (.aload_n 2, 1) := by decide +kernel
theorem d_LW_begins_1 : decode b_LW_begins 1 = .ok (.iconst 0, 1) := by decide +kernel
theorem d_LW_begins_2 : decode b_LW_begins 2 = .ok (.aload_n 0, 1) := by decide +kernel
theorem d_LW_begins_3 : decode b_LW_begins 3 = .ok (.iload_n 1, 1) := by decide +kernel
theorem d_LW_begins_4 : decode b_LW_begins 4 = .ok (.invokevirtual 17, 3) := by decide +kernel
theorem d_LW_begins_7 : decode b_LW_begins 7 = .ok (.i2l, 1) := by decide +kernel
theorem d_LW_begins_8 : decode b_LW_begins 8 = .ok (.lastore, 1) := by decide +kernel
theorem d_LW_begins_9 : decode b_LW_begins 9 = .ok (.goto 6, 3) := by decide +kernel
theorem d_LW_begins_12 : decode b_LW_begins 12 = .ok (.astore_n 3, 1) := by decide +kernel
theorem d_LW_begins_13 : decode b_LW_begins 13 = .ok (.iconst 1, 1) := by decide +kernel
theorem d_LW_begins_14 : decode b_LW_begins 14 = .ok (.ireturn, 1) := by decide +kernel
theorem d_LW_begins_15 : decode b_LW_begins 15 = .ok (.iconst 0, 1) := by decide +kernel
theorem d_LW_begins_16 : decode b_LW_begins 16 = .ok (.ireturn, 1) := by decide +kernel
theorem d_LW_used_0 : decode b_LW_used 0 = .ok (.aload_n 2, 1) := by decide +kernel
theorem d_LW_used_1 : decode b_LW_used 1 = .ok (.iconst 0, 1) := by decide +kernel
theorem d_LW_used_2 : decode b_LW_used 2 = .ok (.aload_n 0, 1) := by decide +kernel
theorem d_LW_used_3 : decode b_LW_used 3 = .ok (.iload_n 1, 1) := by decide +kernel
theorem d_LW_used_4 : decode b_LW_used 4 = .ok (.invokevirtual 23, 3) := by decide +kernel
theorem d_LW_used_7 : decode b_LW_used 7 = .ok (.i2l, 1) := by decide +kernel
theorem d_LW_used_8 : decode b_LW_used 8 = .ok (.lastore, 1) := by decide +kernel
theorem d_LW_used_9 : decode b_LW_used 9 = .ok (.goto 6, 3) := by decide +kernel
theorem d_LW_used_12 : decode b_LW_used 12 = .ok (.astore_n 3, 1) := by decide +kernel
theorem d_LW_used_13 : decode b_LW_used 13 = .ok (.iconst 1, 1) := by decide +kernel
theorem d_LW_used_14 : decode b_LW_used 14 = .ok (.ireturn, 1) := by decide +kernel
theorem d_LW_used_15 : decode b_LW_used 15 = .ok (.iconst 0, 1) := by decide +kernel
theorem d_LW_used_16 : decode b_LW_used 16 = .ok (.ireturn, 1) := by decide +kernel
theorem d_LW_desk_0 : decode b_LW_desk 0 = .ok (.aload_n 2, 1) := by decide +kernel
theorem d_LW_desk_1 : decode b_LW_desk 1 = .ok (.iconst 0, 1) := by decide +kernel
theorem d_LW_desk_2 : decode b_LW_desk 2 = .ok (.aload_n 0, 1) := by decide +kernel
theorem d_LW_desk_3 : decode b_LW_desk 3 = .ok (.iload_n 1, 1) := by decide +kernel
theorem d_LW_desk_4 : decode b_LW_desk 4 = .ok (.invokevirtual 26, 3) := by decide +kernel
theorem d_LW_desk_7 : decode b_LW_desk 7 = .ok (.lastore, 1) := by decide +kernel
theorem d_LW_desk_8 : decode b_LW_desk 8 = .ok (.goto 6, 3) := by decide +kernel
theorem d_LW_desk_11 : decode b_LW_desk 11 = .ok (.astore_n 3, 1) := by decide +kernel
theorem d_LW_desk_12 : decode b_LW_desk 12 = .ok (.iconst 1, 1) := by decide +kernel
theorem d_LW_desk_13 : decode b_LW_desk 13 = .ok (.ireturn, 1) := by decide +kernel
theorem d_LW_desk_14 : decode b_LW_desk 14 = .ok (.iconst 0, 1) := by decide +kernel
theorem d_LW_desk_15 : decode b_LW_desk 15 = .ok (.ireturn, 1) := by decide +kernel
theorem d_LW_lay_0 : decode b_LW_lay 0 = .ok (.aload_n 0, 1) := by decide +kernel
theorem d_LW_lay_1 : decode b_LW_lay 1 = .ok (.iload_n 1, 1) := by decide +kernel
theorem d_LW_lay_2 : decode b_LW_lay 2 = .ok (.lload_n 2, 1) := by decide +kernel
theorem d_LW_lay_3 : decode b_LW_lay 3 = .ok (.invokevirtual 30, 3) := by decide +kernel
theorem d_LW_lay_6 : decode b_LW_lay 6 = .ok (.goto 7, 3) := by decide +kernel
theorem d_LW_lay_9 : decode b_LW_lay 9 = .ok (.astore 4, 2) := by decide +kernel
theorem d_LW_lay_11 : decode b_LW_lay 11 = .ok (.iconst 1, 1) := by decide +kernel
theorem d_LW_lay_12 : decode b_LW_lay 12 = .ok (.ireturn, 1) := by decide +kernel
theorem d_LW_lay_13 : decode b_LW_lay 13 = .ok (.iconst 0, 1) := by decide +kernel
theorem d_LW_lay_14 : decode b_LW_lay 14 = .ok (.ireturn, 1) := by decide +kernel
theorem d_LW_load_0 : decode b_LW_load 0 = .ok (.aload_n 3, 1) := by decide +kernel
theorem d_LW_load_1 : decode b_LW_load 1 = .ok (.iconst 0, 1) := by decide +kernel
theorem d_LW_load_2 : decode b_LW_load 2 = .ok (.aload_n 0, 1) := by decide +kernel
theorem d_LW_load_3 : decode b_LW_load 3 = .ok (.iload_n 1, 1) := by decide +kernel
theorem d_LW_load_4 : decode b_LW_load 4 = .ok (.iload_n 2, 1) := by decide +kernel
theorem d_LW_load_5 : decode b_LW_load 5 = .ok (.invokevirtual 34, 3) := by decide +kernel
theorem d_LW_load_8 : decode b_LW_load 8 = .ok (.lastore, 1) := by decide +kernel
theorem d_LW_load_9 : decode b_LW_load 9 = .ok (.goto 11, 3) := by decide +kernel
theorem d_LW_load_12 : decode b_LW_load 12 = .ok (.astore 4, 2) := by decide +kernel
theorem d_LW_load_14 : decode b_LW_load 14 = .ok (.iconst 1, 1) := by decide +kernel
theorem d_LW_load_15 : decode b_LW_load 15 = .ok (.ireturn, 1) := by decide +kernel
theorem d_LW_load_16 : decode b_LW_load 16 = .ok (.astore 4, 2) := by decide +kernel
theorem d_LW_load_18 : decode b_LW_load 18 = .ok (.iconst 2, 1) := by decide +kernel
theorem d_LW_load_19 : decode b_LW_load 19 = .ok (.ireturn, 1) := by decide +kernel
theorem d_LW_load_20 : decode b_LW_load 20 = .ok (.iconst 0, 1) := by decide +kernel
theorem d_LW_load_21 : decode b_LW_load 21 = .ok (.ireturn, 1) := by decide +kernel
theorem d_LW_store_0 : decode b_LW_store 0 = .ok (.aload_n 0, 1) := by decide +kernel
theorem d_LW_store_1 : decode b_LW_store 1 = .ok (.iload_n 1, 1) := by decide +kernel
theorem d_LW_store_2 : decode b_LW_store 2 = .ok (.iload_n 2, 1) := by decide +kernel
theorem d_LW_store_3 : decode b_LW_store 3 = .ok (.lload_n 3, 1) := by decide +kernel
theorem d_LW_store_4 : decode b_LW_store 4 = .ok (.invokevirtual 38, 3) := by decide +kernel
theorem d_LW_store_7 : decode b_LW_store 7 = .ok (.goto 11, 3) := by decide +kernel
theorem d_LW_store_10 : decode b_LW_store 10 = .ok (.astore 5, 2) := by decide +kernel
theorem d_LW_store_12 : decode b_LW_store 12 = .ok (.iconst 1, 1) := by decide +kernel
theorem d_LW_store_13 : decode b_LW_store 13 = .ok (.ireturn, 1) := by decide +kernel
theorem d_LW_store_14 : decode b_LW_store 14 = .ok (.astore 5, 2) := by decide +kernel
theorem d_LW_store_16 : decode b_LW_store 16 = .ok (.iconst 2, 1) := by decide +kernel
theorem d_LW_store_17 : decode b_LW_store 17 = .ok (.ireturn, 1) := by decide +kernel
theorem d_LW_store_18 : decode b_LW_store 18 = .ok (.iconst 0, 1) := by decide +kernel
theorem d_LW_store_19 : decode b_LW_store 19 = .ok (.ireturn, 1) := by decide +kernel
theorem d_LW_find_0 : decode b_LW_find 0 = .ok (.aload_n 3, 1) := by decide +kernel
theorem d_LW_find_1 : decode b_LW_find 1 = .ok (.iconst 0, 1) := by decide +kernel
theorem d_LW_find_2 : decode b_LW_find 2 = .ok (.aload_n 0, 1) := by decide +kernel
theorem d_LW_find_3 : decode b_LW_find 3 = .ok (.iload_n 1, 1) := by decide +kernel
theorem d_LW_find_4 : decode b_LW_find 4 = .ok (.iload_n 2, 1) := by decide +kernel
theorem d_LW_find_5 : decode b_LW_find 5 = .ok (.invokevirtual 42, 3) := by decide +kernel
theorem d_LW_find_8 : decode b_LW_find 8 = .ok (.i2l, 1) := by decide +kernel
theorem d_LW_find_9 : decode b_LW_find 9 = .ok (.lastore, 1) := by decide +kernel
theorem d_LW_find_10 : decode b_LW_find 10 = .ok (.goto 7, 3) := by decide +kernel
theorem d_LW_find_13 : decode b_LW_find 13 = .ok (.astore 4, 2) := by decide +kernel
theorem d_LW_find_15 : decode b_LW_find 15 = .ok (.iconst 1, 1) := by decide +kernel
theorem d_LW_find_16 : decode b_LW_find 16 = .ok (.ireturn, 1) := by decide +kernel
theorem d_LW_find_17 : decode b_LW_find 17 = .ok (.iconst 0, 1) := by decide +kernel
theorem d_LW_find_18 : decode b_LW_find 18 = .ok (.ireturn, 1) := by decide +kernel
theorem d_LW_update_0 : decode b_LW_update 0 = .ok (.aload 5, 2) := by decide +kernel
theorem d_LW_update_2 : decode b_LW_update 2 = .ok (.iconst 0, 1) := by decide +kernel
theorem d_LW_update_3 : decode b_LW_update 3 = .ok (.aload_n 0, 1) := by decide +kernel
theorem d_LW_update_4 : decode b_LW_update 4 = .ok (.iload_n 1, 1) := by decide +kernel
theorem d_LW_update_5 : decode b_LW_update 5 = .ok (.iload_n 2, 1) := by decide +kernel
theorem d_LW_update_6 : decode b_LW_update 6 = .ok (.iload_n 3, 1) := by decide +kernel
theorem d_LW_update_7 : decode b_LW_update 7 = .ok (.iload 4, 2) := by decide +kernel
theorem d_LW_update_9 : decode b_LW_update 9 = .ok (.invokevirtual 46, 3) := by decide +kernel
theorem d_LW_update_12 : decode b_LW_update 12 = .ok (.i2l, 1) := by decide +kernel
theorem d_LW_update_13 : decode b_LW_update 13 = .ok (.lastore, 1) := by decide +kernel
theorem d_LW_update_14 : decode b_LW_update 14 = .ok (.goto 7, 3) := by decide +kernel
theorem d_LW_update_17 : decode b_LW_update 17 = .ok (.astore 6, 2) := by decide +kernel
theorem d_LW_update_19 : decode b_LW_update 19 = .ok (.iconst 1, 1) := by decide +kernel
theorem d_LW_update_20 : decode b_LW_update 20 = .ok (.ireturn, 1) := by decide +kernel
theorem d_LW_update_21 : decode b_LW_update 21 = .ok (.iconst 0, 1) := by decide +kernel
theorem d_LW_update_22 : decode b_LW_update 22 = .ok (.ireturn, 1) := by decide +kernel
theorem d_LW_remove_0 : decode b_LW_remove 0 = .ok (.aload_n 3, 1) := by decide +kernel
theorem d_LW_remove_1 : decode b_LW_remove 1 = .ok (.iconst 0, 1) := by decide +kernel
theorem d_LW_remove_2 : decode b_LW_remove 2 = .ok (.aload_n 0, 1) := by decide +kernel
theorem d_LW_remove_3 : decode b_LW_remove 3 = .ok (.iload_n 1, 1) := by decide +kernel
theorem d_LW_remove_4 : decode b_LW_remove 4 = .ok (.iload_n 2, 1) := by decide +kernel
theorem d_LW_remove_5 : decode b_LW_remove 5 = .ok (.invokevirtual 49, 3) := by decide +kernel
theorem d_LW_remove_8 : decode b_LW_remove 8 = .ok (.i2l, 1) := by decide +kernel
theorem d_LW_remove_9 : decode b_LW_remove 9 = .ok (.lastore, 1) := by decide +kernel
theorem d_LW_remove_10 : decode b_LW_remove 10 = .ok (.goto 7, 3) := by decide +kernel
theorem d_LW_remove_13 : decode b_LW_remove 13 = .ok (.astore 4, 2) := by decide +kernel
theorem d_LW_remove_15 : decode b_LW_remove 15 = .ok (.iconst 1, 1) := by decide +kernel
theorem d_LW_remove_16 : decode b_LW_remove 16 = .ok (.ireturn, 1) := by decide +kernel
theorem d_LW_remove_17 : decode b_LW_remove 17 = .ok (.iconst 0, 1) := by decide +kernel
theorem d_LW_remove_18 : decode b_LW_remove 18 = .ok (.ireturn, 1) := by decide +kernel
theorem d_LW_put_0 : decode b_LW_put 0 = .ok (.aload 4, 2) := by decide +kernel
theorem d_LW_put_2 : decode b_LW_put 2 = .ok (.iconst 0, 1) := by decide +kernel
theorem d_LW_put_3 : decode b_LW_put 3 = .ok (.aload_n 0, 1) := by decide +kernel
theorem d_LW_put_4 : decode b_LW_put 4 = .ok (.iload_n 1, 1) := by decide +kernel
theorem d_LW_put_5 : decode b_LW_put 5 = .ok (.iload_n 2, 1) := by decide +kernel
theorem d_LW_put_6 : decode b_LW_put 6 = .ok (.iload_n 3, 1) := by decide +kernel
theorem d_LW_put_7 : decode b_LW_put 7 = .ok (.invokevirtual 52, 3) := by decide +kernel
theorem d_LW_put_10 : decode b_LW_put 10 = .ok (.i2l, 1) := by decide +kernel
theorem d_LW_put_11 : decode b_LW_put 11 = .ok (.lastore, 1) := by decide +kernel
theorem d_LW_put_12 : decode b_LW_put 12 = .ok (.goto 7, 3) := by decide +kernel
theorem d_LW_put_15 : decode b_LW_put 15 = .ok (.astore 5, 2) := by decide +kernel
theorem d_LW_put_17 : decode b_LW_put 17 = .ok (.iconst 1, 1) := by decide +kernel
theorem d_LW_put_18 : decode b_LW_put 18 = .ok (.ireturn, 1) := by decide +kernel
theorem d_LW_put_19 : decode b_LW_put 19 = .ok (.iconst 0, 1) := by decide +kernel
theorem d_LW_put_20 : decode b_LW_put 20 = .ok (.ireturn, 1) := by decide +kernel
theorem d_LW_take_0 : decode b_LW_take 0 = .ok (.aload_n 3, 1) := by decide +kernel
theorem d_LW_take_1 : decode b_LW_take 1 = .ok (.iconst 0, 1) := by decide +kernel
theorem d_LW_take_2 : decode b_LW_take 2 = .ok (.aload_n 0, 1) := by decide +kernel
theorem d_LW_take_3 : decode b_LW_take 3 = .ok (.iload_n 1, 1) := by decide +kernel
theorem d_LW_take_4 : decode b_LW_take 4 = .ok (.iload_n 2, 1) := by decide +kernel
theorem d_LW_take_5 : decode b_LW_take 5 = .ok (.invokevirtual 56, 3) := by decide +kernel
theorem d_LW_take_8 : decode b_LW_take 8 = .ok (.i2l, 1) := by decide +kernel
theorem d_LW_take_9 : decode b_LW_take 9 = .ok (.lastore, 1) := by decide +kernel
theorem d_LW_take_10 : decode b_LW_take 10 = .ok (.goto 7, 3) := by decide +kernel
theorem d_LW_take_13 : decode b_LW_take 13 = .ok (.astore 4, 2) := by decide +kernel
theorem d_LW_take_15 : decode b_LW_take 15 = .ok (.iconst 1, 1) := by decide +kernel
theorem d_LW_take_16 : decode b_LW_take 16 = .ok (.ireturn, 1) := by decide +kernel
theorem d_LW_take_17 : decode b_LW_take 17 = .ok (.iconst 0, 1) := by decide +kernel
theorem d_LW_take_18 : decode b_LW_take 18 = .ok (.ireturn, 1) := by decide +kernel
theorem d_LW_next_0 : decode b_LW_next 0 = .ok (.aload 4, 2) := by decide +kernel
theorem d_LW_next_2 : decode b_LW_next 2 = .ok (.iconst 0, 1) := by decide +kernel
theorem d_LW_next_3 : decode b_LW_next 3 = .ok (.aload_n 0, 1) := by decide +kernel
theorem d_LW_next_4 : decode b_LW_next 4 = .ok (.iload_n 1, 1) := by decide +kernel
theorem d_LW_next_5 : decode b_LW_next 5 = .ok (.iload_n 2, 1) := by decide +kernel
theorem d_LW_next_6 : decode b_LW_next 6 = .ok (.iload_n 3, 1) := by decide +kernel
theorem d_LW_next_7 : decode b_LW_next 7 = .ok (.invokevirtual 59, 3) := by decide +kernel
theorem d_LW_next_10 : decode b_LW_next 10 = .ok (.i2l, 1) := by decide +kernel
theorem d_LW_next_11 : decode b_LW_next 11 = .ok (.lastore, 1) := by decide +kernel
theorem d_LW_next_12 : decode b_LW_next 12 = .ok (.goto 7, 3) := by decide +kernel
theorem d_LW_next_15 : decode b_LW_next 15 = .ok (.astore 5, 2) := by decide +kernel
theorem d_LW_next_17 : decode b_LW_next 17 = .ok (.iconst 1, 1) := by decide +kernel
theorem d_LW_next_18 : decode b_LW_next 18 = .ok (.ireturn, 1) := by decide +kernel
theorem d_LW_next_19 : decode b_LW_next 19 = .ok (.iconst 0, 1) := by decide +kernel
theorem d_LW_next_20 : decode b_LW_next 20 = .ok (.ireturn, 1) := by decide +kernel
set_option maxRecDepth 100000 in
set_option maxHeartbeats 4000000 in
theorem c_LW_make (l : Launch) (D : va_G) (dA : Nat → ClassId) (hL : mw_L l) {w : mw_W} {own : as_W} {xo t o : Nat} {S : as_S} (hR : RepC dA w own xo S) (hW : wf_S t S) (ht : t ≤ 512) {fo : Nat → Int64} (ho : own o = (40, 0, 0)) (f1 : w o = some (.inl (dA tJ, 1, .inr (.inl fo)))) (p0 p1 p2 p3 : Int32) : CT l D dA y_LW_make (Cond.codeWith y_LW_make b_LW_make 7 (some .int) [(0, 14, 17, 13), (0, 14, 21, 15)] :: Ts) 7 190 4 4120 [.ref xo, .int p0, .int p1, .int p2, .int p3, .ref o] w (LWP dA w own xo o (sp_MAKE S p0 p1 p2 p3).1 (sL (sp_MAKE S p0 p1 p2 p3).2) kM) := by
  refine mw_methH (by decide) mk_tb (Nat.le_of_ble_eq_true rfl) ?_
  intro p e s m below meth c K hr hlk hce hP0 hSy ls hl
  have hl : lv_has ls 7 [(0, .ref xo), (1, .int p0), (2, .int p1), (3, .int p2), (4, .int p3), (5, .ref o)] := hl
  obtain ⟨hx, hb, hml, hown, hts, hK, hTb⟩ := id K
  have hI := mw_I.start hP0
  obtain ⟨bd, xd, ba, xa, ra, mp, gd, ga, hA⟩ := id hR
  obtain ⟨⟨o1, o2, o3, o4, f0, fd, fa, fr, hdk, har⟩, hM⟩ := id hA
  refine lv_aload hx hb d_LW_make_0 (lv_at hl 5 rfl) ?_
  refine lv_iconst (v := nI 0) hx hb d_LW_make_2 (by decide) ?_
  refine lv_aload_n hx hb d_LW_make_3 rfl (lv_at hl 0 rfl) ?_
  refine lv_iload_n hx hb d_LW_make_4 rfl (lv_at hl 1 rfl) ?_
  refine lv_iload_n hx hb d_LW_make_5 rfl (lv_at hl 2 rfl) ?_
  refine lv_iload_n hx hb d_LW_make_6 rfl (lv_at hl 3 rfl) ?_
  refine lv_iload hx hb d_LW_make_7 (lv_at hl 4 rfl) ?_
  refine mw_call (rest := [.int (nI 0), .ref o]) K hSy hP0 hI (c_MS_make l D dA hL hR hW p0 p1 p2 p3) (mx_invV hx hown (hts _ tw_175) (hts _ tw_176) (hts _ tw_177) (hts _ tw_178) (by decide) (b := xo) (mw_rc K hI f0 rfl) (g := F0 m 9 ls [.int p3, .int p2, .int p1, .int p0, .ref xo, .int (nI 0), .ref o]) rfl (argsL := [.int p0, .int p1, .int p2, .int p3]) (rest := [.int (nI 0), .ref o]) np_MS_make rfl (by rw [hb]; exact d_LW_make_9)) hl.1 d_LW_make_9 ⟨Nat.le_of_ble_eq_true rfl, Nat.le_of_ble_eq_true rfl⟩ (Or.inl ⟨_, _, List.mem_cons_self⟩) (mk_ws tw_178 hts) (fun a9 U9 h9 => Ts_warm hts _ tw_21 a9 U9 h9) ⟨Nat.le_of_ble_eq_true rfl, Nat.le_of_ble_eq_true rfl⟩ (fun v w' H locs hq hI => ?_) (fun k x w' H locs hq hI hX => ?_)
  · obtain ⟨hq1, own', hR', hF⟩ := hq
    obtain ⟨u, hu⟩ := rV_ret hq1
    subst hu
    have hsr := rV_inl hq1
    refine W.eq (g2 := F0 m 12 ls [.int u, .int (nI 0), .ref o]) rfl ?_
    have f2 := hF.att f1 (by rw [ho]; decide)
    have ho' := (hF _ _ f1).1.trans ho
    have f3 := f2
    refine lv_i2l hx hb d_LW_make_12 rfl ?_
    refine mw_last K hI tJ f2 rfl 0 rfl (by first | assumption | omega) (by omega) d_LW_make_13 (fun H locs hI => ?_)
    have hI : mw_I D mk_cl w s.heap (mw_up w' o (.inl (dA tJ, 1, .inr (.inl (vp_updL fo 0 (u.toInt64)))))) H _ := hI
    have f2 : (mw_up w' o (.inl (dA tJ, 1, .inr (.inl (vp_updL fo 0 (u.toInt64)))))) o = some (.inl (dA tJ, 1, .inr (.inl (vp_updL fo 0 (u.toInt64))))) := mw_up_s _ _ _
    refine lv_goto (tgt := 25) hx hb d_LW_make_14 (by decide) ?_
    refine lv_iconst (v := nI 0) hx hb d_LW_make_25 (by decide) ?_
    refine mw_iret K hI hr hlk ?_ d_LW_make_26
    exact LWP.ok hR' hF (by exact f3) ho' (congrArg sL hsr)
  · obtain ⟨hq1, own', hR', hF⟩ := hq
    have hsr := rV_inr hq1
    have f2 := hF.att f1 (by rw [ho]; decide)
    have hkk := k_MAKE hsr
    rcases hkk with hkk | hkk
    · subst hkk
      refine mw_catch (pc := 9) (rest := [.int (nI 0), .ref o]) K hce hX [] (0, 14, 17, 13) [(0, 14, 21, 15)] rfl (fun z hz => by cases hz) ⟨by decide, by decide⟩ (by decide) tw_173 (hts _ tw_193) ?_
      refine W.eq (g2 := F0 m 17 ls [.ref x]) rfl ?_
      refine lv_astore (lv' := [(6, .ref x), (0, .ref xo), (1, .int p0), (2, .int p1), (3, .int p2), (4, .int p3), (5, .ref o)]) hx hb d_LW_make_17 hl (by decide) rfl (fun ls hl => ?_)
      refine lv_iconst (v := nI 1) hx hb d_LW_make_19 (by decide) ?_
      exact mw_iret K hI hr hlk (LWP.bad hR' hF f2 (congrArg sL hsr) (by decide)) d_LW_make_20
    · subst hkk
      refine mw_catch (pc := 9) (rest := [.int (nI 0), .ref o]) K hce hX [(0, 14, 17, 13)] (0, 14, 21, 15) [] rfl (fun z hz => by
          rcases List.mem_cons.mp hz with h | h
          · subst h; exact ⟨by decide, _, tw_173, hSy.2.2.2.1⟩
          · cases h) ⟨by decide, by decide⟩ (by decide) tw_174 (hts _ tw_210) ?_
      refine W.eq (g2 := F0 m 21 ls [.ref x]) rfl ?_
      refine lv_astore (lv' := [(6, .ref x), (0, .ref xo), (1, .int p0), (2, .int p1), (3, .int p2), (4, .int p3), (5, .ref o)]) hx hb d_LW_make_21 hl (by decide) rfl (fun ls hl => ?_)
      refine lv_iconst (v := nI 2) hx hb d_LW_make_23 (by decide) ?_
      exact mw_iret K hI hr hlk (LWP.bad hR' hF f2 (congrArg sL hsr) (by decide)) d_LW_make_24
set_option maxRecDepth 100000 in
set_option maxHeartbeats 4000000 in
theorem c_LW_begins (l : Launch) (D : va_G) (dA : Nat → ClassId) (hL : mw_L l) {w : mw_W} {own : as_W} {xo t o : Nat} {S : as_S} (hR : RepC dA w own xo S) (hW : wf_S t S) (ht : t ≤ 512) {fo : Nat → Int64} (ho : own o = (40, 0, 0)) (f1 : w o = some (.inl (dA tJ, 1, .inr (.inl fo)))) (p0 : Int32) : CT l D dA y_LW_begins (Cond.codeWith y_LW_begins b_LW_begins 4 (some .int) [(0, 9, 12, 21)] :: Ts) 8 150 1 6 [.ref xo, .int p0, .ref o] w (LWP dA w own xo o (sp_BEG S p0).1 (sL (sp_BEG S p0).2) kO) := by
  refine mw_methH (by decide) mk_tb (Nat.le_of_ble_eq_true rfl) ?_
  intro p e s m below meth c K hr hlk hce hP0 hSy ls hl
  have hl : lv_has ls 4 [(0, .ref xo), (1, .int p0), (2, .ref o)] := hl
  obtain ⟨hx, hb, hml, hown, hts, hK, hTb⟩ := id K
  have hI := mw_I.start hP0
  obtain ⟨bd, xd, ba, xa, ra, mp, gd, ga, hA⟩ := id hR
  obtain ⟨⟨o1, o2, o3, o4, f0, fd, fa, fr, hdk, har⟩, hM⟩ := id hA
  refine lv_aload_n hx hb d_LW_begins_0 rfl (lv_at hl 2 rfl) ?_
  refine lv_iconst (v := nI 0) hx hb d_LW_begins_1 (by decide) ?_
  refine lv_aload_n hx hb d_LW_begins_2 rfl (lv_at hl 0 rfl) ?_
  refine lv_iload_n hx hb d_LW_begins_3 rfl (lv_at hl 1 rfl) ?_
  refine mw_call (rest := [.int (nI 0), .ref o]) K hSy hP0 hI (c_MS_begins_PR l D dA hL hR hW p0) (mx_invV hx hown (hts _ tw_342) (hts _ tw_343) (hts _ tw_344) (hts _ tw_345) (by decide) (b := xo) (mw_rc K hI f0 rfl) (g := F0 m 4 ls [.int p0, .ref xo, .int (nI 0), .ref o]) rfl (argsL := [.int p0]) (rest := [.int (nI 0), .ref o]) np_MS_begins rfl (by rw [hb]; exact d_LW_begins_4)) hl.1 d_LW_begins_4 ⟨Nat.le_of_ble_eq_true rfl, Nat.le_of_ble_eq_true rfl⟩ (Or.inl ⟨_, _, List.mem_cons_self⟩) (mk_ws tw_345 hts) (fun a9 U9 h9 => Ts_warm hts _ tw_21 a9 U9 h9) ⟨Nat.le_of_ble_eq_true rfl, Nat.le_of_ble_eq_true rfl⟩ (fun v w' H locs hq hI => ?_) (fun k x w' H locs hq hI hX => ?_)
  · obtain ⟨hq1, own', hR', hF⟩ := hq
    obtain ⟨u, hu⟩ := rV_ret hq1
    subst hu
    have hsr := rV_inl hq1
    refine W.eq (g2 := F0 m 7 ls [.int u, .int (nI 0), .ref o]) rfl ?_
    have f2 := hF.att f1 (by rw [ho]; decide)
    have ho' := (hF _ _ f1).1.trans ho
    have f3 := f2
    refine lv_i2l hx hb d_LW_begins_7 rfl ?_
    refine mw_last K hI tJ f2 rfl 0 rfl (by first | assumption | omega) (by omega) d_LW_begins_8 (fun H locs hI => ?_)
    have hI : mw_I D mk_cl w s.heap (mw_up w' o (.inl (dA tJ, 1, .inr (.inl (vp_updL fo 0 (u.toInt64)))))) H _ := hI
    have f2 : (mw_up w' o (.inl (dA tJ, 1, .inr (.inl (vp_updL fo 0 (u.toInt64)))))) o = some (.inl (dA tJ, 1, .inr (.inl (vp_updL fo 0 (u.toInt64))))) := mw_up_s _ _ _
    refine lv_goto (tgt := 15) hx hb d_LW_begins_9 (by decide) ?_
    refine lv_iconst (v := nI 0) hx hb d_LW_begins_15 (by decide) ?_
    refine mw_iret K hI hr hlk ?_ d_LW_begins_16
    exact LWP.ok hR' hF (by exact f3) ho' (congrArg sL hsr)
  · obtain ⟨hq1, own', hR', hF⟩ := hq
    have hsr := rV_inr hq1
    have f2 := hF.att f1 (by rw [ho]; decide)
    have hkk := k_BEG hsr
    subst hkk
    refine mw_catch (pc := 4) (rest := [.int (nI 0), .ref o]) K hce hX [] (0, 9, 12, 21) [] rfl (fun z hz => by cases hz) ⟨by decide, by decide⟩ (by decide) tw_341 (hts _ tw_95) ?_
    refine W.eq (g2 := F0 m 12 ls [.ref x]) rfl ?_
    refine lv_astore_n (lv' := [(3, .ref x), (0, .ref xo), (1, .int p0), (2, .ref o)]) hx hb d_LW_begins_12 rfl hl (by decide) rfl (fun ls hl => ?_)
    refine lv_iconst (v := nI 1) hx hb d_LW_begins_13 (by decide) ?_
    exact mw_iret K hI hr hlk (LWP.bad hR' hF f2 (congrArg sL hsr) (by decide)) d_LW_begins_14
set_option maxRecDepth 100000 in
set_option maxHeartbeats 4000000 in
theorem c_LW_used (l : Launch) (D : va_G) (dA : Nat → ClassId) (hL : mw_L l) {w : mw_W} {own : as_W} {xo t o : Nat} {S : as_S} (hR : RepC dA w own xo S) (hW : wf_S t S) (ht : t ≤ 512) {fo : Nat → Int64} (ho : own o = (40, 0, 0)) (f1 : w o = some (.inl (dA tJ, 1, .inr (.inl fo)))) (p0 : Int32) : CT l D dA y_LW_used (Cond.codeWith y_LW_used b_LW_used 4 (some .int) [(0, 9, 12, 21)] :: Ts) 9 240 6 40 [.ref xo, .int p0, .ref o] w (LWP dA w own xo o (sp_USED S p0).1 (sL (sp_USED S p0).2) kO) := by
  refine mw_methH (by decide) mk_tb (Nat.le_of_ble_eq_true rfl) ?_
  intro p e s m below meth c K hr hlk hce hP0 hSy ls hl
  have hl : lv_has ls 4 [(0, .ref xo), (1, .int p0), (2, .ref o)] := hl
  obtain ⟨hx, hb, hml, hown, hts, hK, hTb⟩ := id K
  have hI := mw_I.start hP0
  obtain ⟨bd, xd, ba, xa, ra, mp, gd, ga, hA⟩ := id hR
  obtain ⟨⟨o1, o2, o3, o4, f0, fd, fa, fr, hdk, har⟩, hM⟩ := id hA
  refine lv_aload_n hx hb d_LW_used_0 rfl (lv_at hl 2 rfl) ?_
  refine lv_iconst (v := nI 0) hx hb d_LW_used_1 (by decide) ?_
  refine lv_aload_n hx hb d_LW_used_2 rfl (lv_at hl 0 rfl) ?_
  refine lv_iload_n hx hb d_LW_used_3 rfl (lv_at hl 1 rfl) ?_
  refine mw_call (rest := [.int (nI 0), .ref o]) K hSy hP0 hI (c_MS_used l D dA hL hR hW ht p0) (mx_invV hx hown (hts _ tw_349) (hts _ tw_350) (hts _ tw_351) (hts _ tw_352) (by decide) (b := xo) (mw_rc K hI f0 rfl) (g := F0 m 4 ls [.int p0, .ref xo, .int (nI 0), .ref o]) rfl (argsL := [.int p0]) (rest := [.int (nI 0), .ref o]) np_MS_used rfl (by rw [hb]; exact d_LW_used_4)) hl.1 d_LW_used_4 ⟨Nat.le_of_ble_eq_true rfl, Nat.le_of_ble_eq_true rfl⟩ (Or.inl ⟨_, _, List.mem_cons_self⟩) (mk_ws tw_352 hts) (fun a9 U9 h9 => Ts_warm hts _ tw_21 a9 U9 h9) ⟨Nat.le_of_ble_eq_true rfl, Nat.le_of_ble_eq_true rfl⟩ (fun v w' H locs hq hI => ?_) (fun k x w' H locs hq hI hX => ?_)
  · obtain ⟨hq1, own', hR', hF⟩ := hq
    obtain ⟨u, hu⟩ := rV_ret hq1
    subst hu
    have hsr := rV_inl hq1
    refine W.eq (g2 := F0 m 7 ls [.int u, .int (nI 0), .ref o]) rfl ?_
    have f2 := hF.att f1 (by rw [ho]; decide)
    have ho' := (hF _ _ f1).1.trans ho
    have f3 := f2
    refine lv_i2l hx hb d_LW_used_7 rfl ?_
    refine mw_last K hI tJ f2 rfl 0 rfl (by first | assumption | omega) (by omega) d_LW_used_8 (fun H locs hI => ?_)
    have hI : mw_I D mk_cl w s.heap (mw_up w' o (.inl (dA tJ, 1, .inr (.inl (vp_updL fo 0 (u.toInt64)))))) H _ := hI
    have f2 : (mw_up w' o (.inl (dA tJ, 1, .inr (.inl (vp_updL fo 0 (u.toInt64)))))) o = some (.inl (dA tJ, 1, .inr (.inl (vp_updL fo 0 (u.toInt64))))) := mw_up_s _ _ _
    refine lv_goto (tgt := 15) hx hb d_LW_used_9 (by decide) ?_
    refine lv_iconst (v := nI 0) hx hb d_LW_used_15 (by decide) ?_
    refine mw_iret K hI hr hlk ?_ d_LW_used_16
    exact LWP.ok hR' hF (by exact f3) ho' (congrArg sL hsr)
  · obtain ⟨hq1, own', hR', hF⟩ := hq
    have hsr := rV_inr hq1
    have f2 := hF.att f1 (by rw [ho]; decide)
    have hkk := k_USED hsr
    subst hkk
    refine mw_catch (pc := 4) (rest := [.int (nI 0), .ref o]) K hce hX [] (0, 9, 12, 21) [] rfl (fun z hz => by cases hz) ⟨by decide, by decide⟩ (by decide) tw_341 (hts _ tw_95) ?_
    refine W.eq (g2 := F0 m 12 ls [.ref x]) rfl ?_
    refine lv_astore_n (lv' := [(3, .ref x), (0, .ref xo), (1, .int p0), (2, .ref o)]) hx hb d_LW_used_12 rfl hl (by decide) rfl (fun ls hl => ?_)
    refine lv_iconst (v := nI 1) hx hb d_LW_used_13 (by decide) ?_
    exact mw_iret K hI hr hlk (LWP.bad hR' hF f2 (congrArg sL hsr) (by decide)) d_LW_used_14
set_option maxRecDepth 100000 in
set_option maxHeartbeats 4000000 in
theorem c_LW_find (l : Launch) (D : va_G) (dA : Nat → ClassId) (hL : mw_L l) {w : mw_W} {own : as_W} {xo t o : Nat} {S : as_S} (hR : RepC dA w own xo S) (hW : wf_S t S) (ht : t ≤ 512) {fo : Nat → Int64} (ho : own o = (40, 0, 0)) (f1 : w o = some (.inl (dA tJ, 1, .inr (.inl fo)))) (p0 p1 : Int32) : CT l D dA y_LW_find (Cond.codeWith y_LW_find b_LW_find 5 (some .int) [(0, 10, 13, 21)] :: Ts) 9 240 6 40 [.ref xo, .int p0, .int p1, .ref o] w (LWP dA w own xo o (sp_FIND S p0 p1).1 (sL (sp_FIND S p0 p1).2) kO) := by
  refine mw_methH (by decide) mk_tb (Nat.le_of_ble_eq_true rfl) ?_
  intro p e s m below meth c K hr hlk hce hP0 hSy ls hl
  have hl : lv_has ls 5 [(0, .ref xo), (1, .int p0), (2, .int p1), (3, .ref o)] := hl
  obtain ⟨hx, hb, hml, hown, hts, hK, hTb⟩ := id K
  have hI := mw_I.start hP0
  obtain ⟨bd, xd, ba, xa, ra, mp, gd, ga, hA⟩ := id hR
  obtain ⟨⟨o1, o2, o3, o4, f0, fd, fa, fr, hdk, har⟩, hM⟩ := id hA
  refine lv_aload_n hx hb d_LW_find_0 rfl (lv_at hl 3 rfl) ?_
  refine lv_iconst (v := nI 0) hx hb d_LW_find_1 (by decide) ?_
  refine lv_aload_n hx hb d_LW_find_2 rfl (lv_at hl 0 rfl) ?_
  refine lv_iload_n hx hb d_LW_find_3 rfl (lv_at hl 1 rfl) ?_
  refine lv_iload_n hx hb d_LW_find_4 rfl (lv_at hl 2 rfl) ?_
  refine mw_call (rest := [.int (nI 0), .ref o]) K hSy hP0 hI (c_MS_find l D dA hL hR hW ht p0 p1) (mx_invV hx hown (hts _ tw_428) (hts _ tw_429) (hts _ tw_430) (hts _ tw_431) (by decide) (b := xo) (mw_rc K hI f0 rfl) (g := F0 m 5 ls [.int p1, .int p0, .ref xo, .int (nI 0), .ref o]) rfl (argsL := [.int p0, .int p1]) (rest := [.int (nI 0), .ref o]) np_MS_find rfl (by rw [hb]; exact d_LW_find_5)) hl.1 d_LW_find_5 ⟨Nat.le_of_ble_eq_true rfl, Nat.le_of_ble_eq_true rfl⟩ (Or.inl ⟨_, _, List.mem_cons_self⟩) (mk_ws tw_431 hts) (fun a9 U9 h9 => Ts_warm hts _ tw_21 a9 U9 h9) ⟨Nat.le_of_ble_eq_true rfl, Nat.le_of_ble_eq_true rfl⟩ (fun v w' H locs hq hI => ?_) (fun k x w' H locs hq hI hX => ?_)
  · obtain ⟨hq1, own', hR', hF⟩ := hq
    obtain ⟨u, hu⟩ := rV_ret hq1
    subst hu
    have hsr := rV_inl hq1
    refine W.eq (g2 := F0 m 8 ls [.int u, .int (nI 0), .ref o]) rfl ?_
    have f2 := hF.att f1 (by rw [ho]; decide)
    have ho' := (hF _ _ f1).1.trans ho
    have f3 := f2
    refine lv_i2l hx hb d_LW_find_8 rfl ?_
    refine mw_last K hI tJ f2 rfl 0 rfl (by first | assumption | omega) (by omega) d_LW_find_9 (fun H locs hI => ?_)
    have hI : mw_I D mk_cl w s.heap (mw_up w' o (.inl (dA tJ, 1, .inr (.inl (vp_updL fo 0 (u.toInt64)))))) H _ := hI
    have f2 : (mw_up w' o (.inl (dA tJ, 1, .inr (.inl (vp_updL fo 0 (u.toInt64)))))) o = some (.inl (dA tJ, 1, .inr (.inl (vp_updL fo 0 (u.toInt64))))) := mw_up_s _ _ _
    refine lv_goto (tgt := 17) hx hb d_LW_find_10 (by decide) ?_
    refine lv_iconst (v := nI 0) hx hb d_LW_find_17 (by decide) ?_
    refine mw_iret K hI hr hlk ?_ d_LW_find_18
    exact LWP.ok hR' hF (by exact f3) ho' (congrArg sL hsr)
  · obtain ⟨hq1, own', hR', hF⟩ := hq
    have hsr := rV_inr hq1
    have f2 := hF.att f1 (by rw [ho]; decide)
    have hkk := k_FIND hsr
    subst hkk
    refine mw_catch (pc := 5) (rest := [.int (nI 0), .ref o]) K hce hX [] (0, 10, 13, 21) [] rfl (fun z hz => by cases hz) ⟨by decide, by decide⟩ (by decide) tw_341 (hts _ tw_95) ?_
    refine W.eq (g2 := F0 m 13 ls [.ref x]) rfl ?_
    refine lv_astore (lv' := [(4, .ref x), (0, .ref xo), (1, .int p0), (2, .int p1), (3, .ref o)]) hx hb d_LW_find_13 hl (by decide) rfl (fun ls hl => ?_)
    refine lv_iconst (v := nI 1) hx hb d_LW_find_15 (by decide) ?_
    exact mw_iret K hI hr hlk (LWP.bad hR' hF f2 (congrArg sL hsr) (by decide)) d_LW_find_16
set_option maxRecDepth 100000 in
set_option maxHeartbeats 4000000 in
theorem c_LW_update (l : Launch) (D : va_G) (dA : Nat → ClassId) (hL : mw_L l) {w : mw_W} {own : as_W} {xo t o : Nat} {S : as_S} (hR : RepC dA w own xo S) (hW : wf_S t S) (ht : t ≤ 512) {fo : Nat → Int64} (ho : own o = (40, 0, 0)) (f1 : w o = some (.inl (dA tJ, 1, .inr (.inl fo)))) (p0 p1 p2 p3 : Int32) : CT l D dA y_LW_update (Cond.codeWith y_LW_update b_LW_update 7 (some .int) [(0, 14, 17, 21)] :: Ts) 9 240 6 40 [.ref xo, .int p0, .int p1, .int p2, .int p3, .ref o] w (LWP dA w own xo o (sp_UPD S p0 p1 p2 p3).1 (sL (sp_UPD S p0 p1 p2 p3).2) kO) := by
  refine mw_methH (by decide) mk_tb (Nat.le_of_ble_eq_true rfl) ?_
  intro p e s m below meth c K hr hlk hce hP0 hSy ls hl
  have hl : lv_has ls 7 [(0, .ref xo), (1, .int p0), (2, .int p1), (3, .int p2), (4, .int p3), (5, .ref o)] := hl
  obtain ⟨hx, hb, hml, hown, hts, hK, hTb⟩ := id K
  have hI := mw_I.start hP0
  obtain ⟨bd, xd, ba, xa, ra, mp, gd, ga, hA⟩ := id hR
  obtain ⟨⟨o1, o2, o3, o4, f0, fd, fa, fr, hdk, har⟩, hM⟩ := id hA
  refine lv_aload hx hb d_LW_update_0 (lv_at hl 5 rfl) ?_
  refine lv_iconst (v := nI 0) hx hb d_LW_update_2 (by decide) ?_
  refine lv_aload_n hx hb d_LW_update_3 rfl (lv_at hl 0 rfl) ?_
  refine lv_iload_n hx hb d_LW_update_4 rfl (lv_at hl 1 rfl) ?_
  refine lv_iload_n hx hb d_LW_update_5 rfl (lv_at hl 2 rfl) ?_
  refine lv_iload_n hx hb d_LW_update_6 rfl (lv_at hl 3 rfl) ?_
  refine lv_iload hx hb d_LW_update_7 (lv_at hl 4 rfl) ?_
  refine mw_call (rest := [.int (nI 0), .ref o]) K hSy hP0 hI (c_MS_update l D dA hL hR hW ht p0 p1 p2 p3) (mx_invV hx hown (hts _ tw_472) (hts _ tw_473) (hts _ tw_474) (hts _ tw_475) (by decide) (b := xo) (mw_rc K hI f0 rfl) (g := F0 m 9 ls [.int p3, .int p2, .int p1, .int p0, .ref xo, .int (nI 0), .ref o]) rfl (argsL := [.int p0, .int p1, .int p2, .int p3]) (rest := [.int (nI 0), .ref o]) np_MS_update rfl (by rw [hb]; exact d_LW_update_9)) hl.1 d_LW_update_9 ⟨Nat.le_of_ble_eq_true rfl, Nat.le_of_ble_eq_true rfl⟩ (Or.inl ⟨_, _, List.mem_cons_self⟩) (mk_ws tw_475 hts) (fun a9 U9 h9 => Ts_warm hts _ tw_21 a9 U9 h9) ⟨Nat.le_of_ble_eq_true rfl, Nat.le_of_ble_eq_true rfl⟩ (fun v w' H locs hq hI => ?_) (fun k x w' H locs hq hI hX => ?_)
  · obtain ⟨hq1, own', hR', hF⟩ := hq
    obtain ⟨u, hu⟩ := rV_ret hq1
    subst hu
    have hsr := rV_inl hq1
    refine W.eq (g2 := F0 m 12 ls [.int u, .int (nI 0), .ref o]) rfl ?_
    have f2 := hF.att f1 (by rw [ho]; decide)
    have ho' := (hF _ _ f1).1.trans ho
    have f3 := f2
    refine lv_i2l hx hb d_LW_update_12 rfl ?_
    refine mw_last K hI tJ f2 rfl 0 rfl (by first | assumption | omega) (by omega) d_LW_update_13 (fun H locs hI => ?_)
    have hI : mw_I D mk_cl w s.heap (mw_up w' o (.inl (dA tJ, 1, .inr (.inl (vp_updL fo 0 (u.toInt64)))))) H _ := hI
    have f2 : (mw_up w' o (.inl (dA tJ, 1, .inr (.inl (vp_updL fo 0 (u.toInt64)))))) o = some (.inl (dA tJ, 1, .inr (.inl (vp_updL fo 0 (u.toInt64))))) := mw_up_s _ _ _
    refine lv_goto (tgt := 21) hx hb d_LW_update_14 (by decide) ?_
    refine lv_iconst (v := nI 0) hx hb d_LW_update_21 (by decide) ?_
    refine mw_iret K hI hr hlk ?_ d_LW_update_22
    exact LWP.ok hR' hF (by exact f3) ho' (congrArg sL hsr)
  · obtain ⟨hq1, own', hR', hF⟩ := hq
    have hsr := rV_inr hq1
    have f2 := hF.att f1 (by rw [ho]; decide)
    have hkk := k_UPD hsr
    subst hkk
    refine mw_catch (pc := 9) (rest := [.int (nI 0), .ref o]) K hce hX [] (0, 14, 17, 21) [] rfl (fun z hz => by cases hz) ⟨by decide, by decide⟩ (by decide) tw_341 (hts _ tw_95) ?_
    refine W.eq (g2 := F0 m 17 ls [.ref x]) rfl ?_
    refine lv_astore (lv' := [(6, .ref x), (0, .ref xo), (1, .int p0), (2, .int p1), (3, .int p2), (4, .int p3), (5, .ref o)]) hx hb d_LW_update_17 hl (by decide) rfl (fun ls hl => ?_)
    refine lv_iconst (v := nI 1) hx hb d_LW_update_19 (by decide) ?_
    exact mw_iret K hI hr hlk (LWP.bad hR' hF f2 (congrArg sL hsr) (by decide)) d_LW_update_20
set_option maxRecDepth 100000 in
set_option maxHeartbeats 4000000 in
theorem c_LW_remove (l : Launch) (D : va_G) (dA : Nat → ClassId) (hL : mw_L l) {w : mw_W} {own : as_W} {xo t o : Nat} {S : as_S} (hR : RepC dA w own xo S) (hW : wf_S t S) (ht : t ≤ 512) {fo : Nat → Int64} (ho : own o = (40, 0, 0)) (f1 : w o = some (.inl (dA tJ, 1, .inr (.inl fo)))) (p0 p1 : Int32) : CT l D dA y_LW_remove (Cond.codeWith y_LW_remove b_LW_remove 5 (some .int) [(0, 10, 13, 21)] :: Ts) 9 240 6 40 [.ref xo, .int p0, .int p1, .ref o] w (LWP dA w own xo o (sp_REM S p0 p1).1 (sL (sp_REM S p0 p1).2) kO) := by
  refine mw_methH (by decide) mk_tb (Nat.le_of_ble_eq_true rfl) ?_
  intro p e s m below meth c K hr hlk hce hP0 hSy ls hl
  have hl : lv_has ls 5 [(0, .ref xo), (1, .int p0), (2, .int p1), (3, .ref o)] := hl
  obtain ⟨hx, hb, hml, hown, hts, hK, hTb⟩ := id K
  have hI := mw_I.start hP0
  obtain ⟨bd, xd, ba, xa, ra, mp, gd, ga, hA⟩ := id hR
  obtain ⟨⟨o1, o2, o3, o4, f0, fd, fa, fr, hdk, har⟩, hM⟩ := id hA
  refine lv_aload_n hx hb d_LW_remove_0 rfl (lv_at hl 3 rfl) ?_
  refine lv_iconst (v := nI 0) hx hb d_LW_remove_1 (by decide) ?_
  refine lv_aload_n hx hb d_LW_remove_2 rfl (lv_at hl 0 rfl) ?_
  refine lv_iload_n hx hb d_LW_remove_3 rfl (lv_at hl 1 rfl) ?_
  refine lv_iload_n hx hb d_LW_remove_4 rfl (lv_at hl 2 rfl) ?_
  refine mw_call (rest := [.int (nI 0), .ref o]) K hSy hP0 hI (c_MS_remove l D dA hL hR hW ht p0 p1) (mx_invV hx hown (hts _ tw_510) (hts _ tw_511) (hts _ tw_512) (hts _ tw_513) (by decide) (b := xo) (mw_rc K hI f0 rfl) (g := F0 m 5 ls [.int p1, .int p0, .ref xo, .int (nI 0), .ref o]) rfl (argsL := [.int p0, .int p1]) (rest := [.int (nI 0), .ref o]) np_MS_remove rfl (by rw [hb]; exact d_LW_remove_5)) hl.1 d_LW_remove_5 ⟨Nat.le_of_ble_eq_true rfl, Nat.le_of_ble_eq_true rfl⟩ (Or.inl ⟨_, _, List.mem_cons_self⟩) (mk_ws tw_513 hts) (fun a9 U9 h9 => Ts_warm hts _ tw_21 a9 U9 h9) ⟨Nat.le_of_ble_eq_true rfl, Nat.le_of_ble_eq_true rfl⟩ (fun v w' H locs hq hI => ?_) (fun k x w' H locs hq hI hX => ?_)
  · obtain ⟨hq1, own', hR', hF⟩ := hq
    obtain ⟨u, hu⟩ := rV_ret hq1
    subst hu
    have hsr := rV_inl hq1
    refine W.eq (g2 := F0 m 8 ls [.int u, .int (nI 0), .ref o]) rfl ?_
    have f2 := hF.att f1 (by rw [ho]; decide)
    have ho' := (hF _ _ f1).1.trans ho
    have f3 := f2
    refine lv_i2l hx hb d_LW_remove_8 rfl ?_
    refine mw_last K hI tJ f2 rfl 0 rfl (by first | assumption | omega) (by omega) d_LW_remove_9 (fun H locs hI => ?_)
    have hI : mw_I D mk_cl w s.heap (mw_up w' o (.inl (dA tJ, 1, .inr (.inl (vp_updL fo 0 (u.toInt64)))))) H _ := hI
    have f2 : (mw_up w' o (.inl (dA tJ, 1, .inr (.inl (vp_updL fo 0 (u.toInt64)))))) o = some (.inl (dA tJ, 1, .inr (.inl (vp_updL fo 0 (u.toInt64))))) := mw_up_s _ _ _
    refine lv_goto (tgt := 17) hx hb d_LW_remove_10 (by decide) ?_
    refine lv_iconst (v := nI 0) hx hb d_LW_remove_17 (by decide) ?_
    refine mw_iret K hI hr hlk ?_ d_LW_remove_18
    exact LWP.ok hR' hF (by exact f3) ho' (congrArg sL hsr)
  · obtain ⟨hq1, own', hR', hF⟩ := hq
    have hsr := rV_inr hq1
    have f2 := hF.att f1 (by rw [ho]; decide)
    have hkk := k_REM hsr
    subst hkk
    refine mw_catch (pc := 5) (rest := [.int (nI 0), .ref o]) K hce hX [] (0, 10, 13, 21) [] rfl (fun z hz => by cases hz) ⟨by decide, by decide⟩ (by decide) tw_341 (hts _ tw_95) ?_
    refine W.eq (g2 := F0 m 13 ls [.ref x]) rfl ?_
    refine lv_astore (lv' := [(4, .ref x), (0, .ref xo), (1, .int p0), (2, .int p1), (3, .ref o)]) hx hb d_LW_remove_13 hl (by decide) rfl (fun ls hl => ?_)
    refine lv_iconst (v := nI 1) hx hb d_LW_remove_15 (by decide) ?_
    exact mw_iret K hI hr hlk (LWP.bad hR' hF f2 (congrArg sL hsr) (by decide)) d_LW_remove_16
set_option maxRecDepth 100000 in
set_option maxHeartbeats 4000000 in
theorem c_LW_put (l : Launch) (D : va_G) (dA : Nat → ClassId) (hL : mw_L l) {w : mw_W} {own : as_W} {xo t o : Nat} {S : as_S} (hR : RepC dA w own xo S) (hW : wf_S t S) (ht : t ≤ 512) {fo : Nat → Int64} (ho : own o = (40, 0, 0)) (f1 : w o = some (.inl (dA tJ, 1, .inr (.inl fo)))) (p0 p1 p2 : Int32) : CT l D dA y_LW_put (Cond.codeWith y_LW_put b_LW_put 6 (some .int) [(0, 12, 15, 21)] :: Ts) 9 240 6 40 [.ref xo, .int p0, .int p1, .int p2, .ref o] w (LWP dA w own xo o (sp_PUT S p0 p1 p2).1 (sL (sp_PUT S p0 p1 p2).2) kO) := by
  refine mw_methH (by decide) mk_tb (Nat.le_of_ble_eq_true rfl) ?_
  intro p e s m below meth c K hr hlk hce hP0 hSy ls hl
  have hl : lv_has ls 6 [(0, .ref xo), (1, .int p0), (2, .int p1), (3, .int p2), (4, .ref o)] := hl
  obtain ⟨hx, hb, hml, hown, hts, hK, hTb⟩ := id K
  have hI := mw_I.start hP0
  obtain ⟨bd, xd, ba, xa, ra, mp, gd, ga, hA⟩ := id hR
  obtain ⟨⟨o1, o2, o3, o4, f0, fd, fa, fr, hdk, har⟩, hM⟩ := id hA
  refine lv_aload hx hb d_LW_put_0 (lv_at hl 4 rfl) ?_
  refine lv_iconst (v := nI 0) hx hb d_LW_put_2 (by decide) ?_
  refine lv_aload_n hx hb d_LW_put_3 rfl (lv_at hl 0 rfl) ?_
  refine lv_iload_n hx hb d_LW_put_4 rfl (lv_at hl 1 rfl) ?_
  refine lv_iload_n hx hb d_LW_put_5 rfl (lv_at hl 2 rfl) ?_
  refine lv_iload_n hx hb d_LW_put_6 rfl (lv_at hl 3 rfl) ?_
  refine mw_call (rest := [.int (nI 0), .ref o]) K hSy hP0 hI (c_MS_put l D dA hL hR hW ht p0 p1 p2) (mx_invV hx hown (hts _ tw_528) (hts _ tw_529) (hts _ tw_530) (hts _ tw_531) (by decide) (b := xo) (mw_rc K hI f0 rfl) (g := F0 m 7 ls [.int p2, .int p1, .int p0, .ref xo, .int (nI 0), .ref o]) rfl (argsL := [.int p0, .int p1, .int p2]) (rest := [.int (nI 0), .ref o]) np_MS_put rfl (by rw [hb]; exact d_LW_put_7)) hl.1 d_LW_put_7 ⟨Nat.le_of_ble_eq_true rfl, Nat.le_of_ble_eq_true rfl⟩ (Or.inl ⟨_, _, List.mem_cons_self⟩) (mk_ws tw_531 hts) (fun a9 U9 h9 => Ts_warm hts _ tw_21 a9 U9 h9) ⟨Nat.le_of_ble_eq_true rfl, Nat.le_of_ble_eq_true rfl⟩ (fun v w' H locs hq hI => ?_) (fun k x w' H locs hq hI hX => ?_)
  · obtain ⟨hq1, own', hR', hF⟩ := hq
    obtain ⟨u, hu⟩ := rV_ret hq1
    subst hu
    have hsr := rV_inl hq1
    refine W.eq (g2 := F0 m 10 ls [.int u, .int (nI 0), .ref o]) rfl ?_
    have f2 := hF.att f1 (by rw [ho]; decide)
    have ho' := (hF _ _ f1).1.trans ho
    have f3 := f2
    refine lv_i2l hx hb d_LW_put_10 rfl ?_
    refine mw_last K hI tJ f2 rfl 0 rfl (by first | assumption | omega) (by omega) d_LW_put_11 (fun H locs hI => ?_)
    have hI : mw_I D mk_cl w s.heap (mw_up w' o (.inl (dA tJ, 1, .inr (.inl (vp_updL fo 0 (u.toInt64)))))) H _ := hI
    have f2 : (mw_up w' o (.inl (dA tJ, 1, .inr (.inl (vp_updL fo 0 (u.toInt64)))))) o = some (.inl (dA tJ, 1, .inr (.inl (vp_updL fo 0 (u.toInt64))))) := mw_up_s _ _ _
    refine lv_goto (tgt := 19) hx hb d_LW_put_12 (by decide) ?_
    refine lv_iconst (v := nI 0) hx hb d_LW_put_19 (by decide) ?_
    refine mw_iret K hI hr hlk ?_ d_LW_put_20
    exact LWP.ok hR' hF (by exact f3) ho' (congrArg sL hsr)
  · obtain ⟨hq1, own', hR', hF⟩ := hq
    have hsr := rV_inr hq1
    have f2 := hF.att f1 (by rw [ho]; decide)
    have hkk := k_PUT hsr
    subst hkk
    refine mw_catch (pc := 7) (rest := [.int (nI 0), .ref o]) K hce hX [] (0, 12, 15, 21) [] rfl (fun z hz => by cases hz) ⟨by decide, by decide⟩ (by decide) tw_341 (hts _ tw_95) ?_
    refine W.eq (g2 := F0 m 15 ls [.ref x]) rfl ?_
    refine lv_astore (lv' := [(5, .ref x), (0, .ref xo), (1, .int p0), (2, .int p1), (3, .int p2), (4, .ref o)]) hx hb d_LW_put_15 hl (by decide) rfl (fun ls hl => ?_)
    refine lv_iconst (v := nI 1) hx hb d_LW_put_17 (by decide) ?_
    exact mw_iret K hI hr hlk (LWP.bad hR' hF f2 (congrArg sL hsr) (by decide)) d_LW_put_18
set_option maxRecDepth 100000 in
set_option maxHeartbeats 4000000 in
theorem c_LW_take (l : Launch) (D : va_G) (dA : Nat → ClassId) (hL : mw_L l) {w : mw_W} {own : as_W} {xo t o : Nat} {S : as_S} (hR : RepC dA w own xo S) (hW : wf_S t S) (ht : t ≤ 512) {fo : Nat → Int64} (ho : own o = (40, 0, 0)) (f1 : w o = some (.inl (dA tJ, 1, .inr (.inl fo)))) (p0 p1 : Int32) : CT l D dA y_LW_take (Cond.codeWith y_LW_take b_LW_take 5 (some .int) [(0, 10, 13, 21)] :: Ts) 9 240 6 40 [.ref xo, .int p0, .int p1, .ref o] w (LWP dA w own xo o (sp_TAKE S p0 p1).1 (sL (sp_TAKE S p0 p1).2) kO) := by
  refine mw_methH (by decide) mk_tb (Nat.le_of_ble_eq_true rfl) ?_
  intro p e s m below meth c K hr hlk hce hP0 hSy ls hl
  have hl : lv_has ls 5 [(0, .ref xo), (1, .int p0), (2, .int p1), (3, .ref o)] := hl
  obtain ⟨hx, hb, hml, hown, hts, hK, hTb⟩ := id K
  have hI := mw_I.start hP0
  obtain ⟨bd, xd, ba, xa, ra, mp, gd, ga, hA⟩ := id hR
  obtain ⟨⟨o1, o2, o3, o4, f0, fd, fa, fr, hdk, har⟩, hM⟩ := id hA
  refine lv_aload_n hx hb d_LW_take_0 rfl (lv_at hl 3 rfl) ?_
  refine lv_iconst (v := nI 0) hx hb d_LW_take_1 (by decide) ?_
  refine lv_aload_n hx hb d_LW_take_2 rfl (lv_at hl 0 rfl) ?_
  refine lv_iload_n hx hb d_LW_take_3 rfl (lv_at hl 1 rfl) ?_
  refine lv_iload_n hx hb d_LW_take_4 rfl (lv_at hl 2 rfl) ?_
  refine mw_call (rest := [.int (nI 0), .ref o]) K hSy hP0 hI (c_MS_take l D dA hL hR hW ht p0 p1) (mx_invV hx hown (hts _ tw_562) (hts _ tw_563) (hts _ tw_564) (hts _ tw_565) (by decide) (b := xo) (mw_rc K hI f0 rfl) (g := F0 m 5 ls [.int p1, .int p0, .ref xo, .int (nI 0), .ref o]) rfl (argsL := [.int p0, .int p1]) (rest := [.int (nI 0), .ref o]) np_MS_take rfl (by rw [hb]; exact d_LW_take_5)) hl.1 d_LW_take_5 ⟨Nat.le_of_ble_eq_true rfl, Nat.le_of_ble_eq_true rfl⟩ (Or.inl ⟨_, _, List.mem_cons_self⟩) (mk_ws tw_565 hts) (fun a9 U9 h9 => Ts_warm hts _ tw_21 a9 U9 h9) ⟨Nat.le_of_ble_eq_true rfl, Nat.le_of_ble_eq_true rfl⟩ (fun v w' H locs hq hI => ?_) (fun k x w' H locs hq hI hX => ?_)
  · obtain ⟨hq1, own', hR', hF⟩ := hq
    obtain ⟨u, hu⟩ := rV_ret hq1
    subst hu
    have hsr := rV_inl hq1
    refine W.eq (g2 := F0 m 8 ls [.int u, .int (nI 0), .ref o]) rfl ?_
    have f2 := hF.att f1 (by rw [ho]; decide)
    have ho' := (hF _ _ f1).1.trans ho
    have f3 := f2
    refine lv_i2l hx hb d_LW_take_8 rfl ?_
    refine mw_last K hI tJ f2 rfl 0 rfl (by first | assumption | omega) (by omega) d_LW_take_9 (fun H locs hI => ?_)
    have hI : mw_I D mk_cl w s.heap (mw_up w' o (.inl (dA tJ, 1, .inr (.inl (vp_updL fo 0 (u.toInt64)))))) H _ := hI
    have f2 : (mw_up w' o (.inl (dA tJ, 1, .inr (.inl (vp_updL fo 0 (u.toInt64)))))) o = some (.inl (dA tJ, 1, .inr (.inl (vp_updL fo 0 (u.toInt64))))) := mw_up_s _ _ _
    refine lv_goto (tgt := 17) hx hb d_LW_take_10 (by decide) ?_
    refine lv_iconst (v := nI 0) hx hb d_LW_take_17 (by decide) ?_
    refine mw_iret K hI hr hlk ?_ d_LW_take_18
    exact LWP.ok hR' hF (by exact f3) ho' (congrArg sL hsr)
  · obtain ⟨hq1, own', hR', hF⟩ := hq
    have hsr := rV_inr hq1
    have f2 := hF.att f1 (by rw [ho]; decide)
    have hkk := k_TAKE hsr
    subst hkk
    refine mw_catch (pc := 5) (rest := [.int (nI 0), .ref o]) K hce hX [] (0, 10, 13, 21) [] rfl (fun z hz => by cases hz) ⟨by decide, by decide⟩ (by decide) tw_341 (hts _ tw_95) ?_
    refine W.eq (g2 := F0 m 13 ls [.ref x]) rfl ?_
    refine lv_astore (lv' := [(4, .ref x), (0, .ref xo), (1, .int p0), (2, .int p1), (3, .ref o)]) hx hb d_LW_take_13 hl (by decide) rfl (fun ls hl => ?_)
    refine lv_iconst (v := nI 1) hx hb d_LW_take_15 (by decide) ?_
    exact mw_iret K hI hr hlk (LWP.bad hR' hF f2 (congrArg sL hsr) (by decide)) d_LW_take_16
set_option maxRecDepth 100000 in
set_option maxHeartbeats 4000000 in
theorem c_LW_next (l : Launch) (D : va_G) (dA : Nat → ClassId) (hL : mw_L l) {w : mw_W} {own : as_W} {xo t o : Nat} {S : as_S} (hR : RepC dA w own xo S) (hW : wf_S t S) (ht : t ≤ 512) {fo : Nat → Int64} (ho : own o = (40, 0, 0)) (f1 : w o = some (.inl (dA tJ, 1, .inr (.inl fo)))) (p0 p1 p2 : Int32) : CT l D dA y_LW_next (Cond.codeWith y_LW_next b_LW_next 6 (some .int) [(0, 12, 15, 21)] :: Ts) 9 240 6 40 [.ref xo, .int p0, .int p1, .int p2, .ref o] w (LWP dA w own xo o (sp_NEXT S p0 p1 p2).1 (sL (sp_NEXT S p0 p1 p2).2) kO) := by
  refine mw_methH (by decide) mk_tb (Nat.le_of_ble_eq_true rfl) ?_
  intro p e s m below meth c K hr hlk hce hP0 hSy ls hl
  have hl : lv_has ls 6 [(0, .ref xo), (1, .int p0), (2, .int p1), (3, .int p2), (4, .ref o)] := hl
  obtain ⟨hx, hb, hml, hown, hts, hK, hTb⟩ := id K
  have hI := mw_I.start hP0
  obtain ⟨bd, xd, ba, xa, ra, mp, gd, ga, hA⟩ := id hR
  obtain ⟨⟨o1, o2, o3, o4, f0, fd, fa, fr, hdk, har⟩, hM⟩ := id hA
  refine lv_aload hx hb d_LW_next_0 (lv_at hl 4 rfl) ?_
  refine lv_iconst (v := nI 0) hx hb d_LW_next_2 (by decide) ?_
  refine lv_aload_n hx hb d_LW_next_3 rfl (lv_at hl 0 rfl) ?_
  refine lv_iload_n hx hb d_LW_next_4 rfl (lv_at hl 1 rfl) ?_
  refine lv_iload_n hx hb d_LW_next_5 rfl (lv_at hl 2 rfl) ?_
  refine lv_iload_n hx hb d_LW_next_6 rfl (lv_at hl 3 rfl) ?_
  refine mw_call (rest := [.int (nI 0), .ref o]) K hSy hP0 hI (c_MS_next l D dA hL hR hW ht p0 p1 p2) (mx_invV hx hown (hts _ tw_579) (hts _ tw_580) (hts _ tw_581) (hts _ tw_582) (by decide) (b := xo) (mw_rc K hI f0 rfl) (g := F0 m 7 ls [.int p2, .int p1, .int p0, .ref xo, .int (nI 0), .ref o]) rfl (argsL := [.int p0, .int p1, .int p2]) (rest := [.int (nI 0), .ref o]) np_MS_next rfl (by rw [hb]; exact d_LW_next_7)) hl.1 d_LW_next_7 ⟨Nat.le_of_ble_eq_true rfl, Nat.le_of_ble_eq_true rfl⟩ (Or.inl ⟨_, _, List.mem_cons_self⟩) (mk_ws tw_582 hts) (fun a9 U9 h9 => Ts_warm hts _ tw_21 a9 U9 h9) ⟨Nat.le_of_ble_eq_true rfl, Nat.le_of_ble_eq_true rfl⟩ (fun v w' H locs hq hI => ?_) (fun k x w' H locs hq hI hX => ?_)
  · obtain ⟨hq1, own', hR', hF⟩ := hq
    obtain ⟨u, hu⟩ := rV_ret hq1
    subst hu
    have hsr := rV_inl hq1
    refine W.eq (g2 := F0 m 10 ls [.int u, .int (nI 0), .ref o]) rfl ?_
    have f2 := hF.att f1 (by rw [ho]; decide)
    have ho' := (hF _ _ f1).1.trans ho
    have f3 := f2
    refine lv_i2l hx hb d_LW_next_10 rfl ?_
    refine mw_last K hI tJ f2 rfl 0 rfl (by first | assumption | omega) (by omega) d_LW_next_11 (fun H locs hI => ?_)
    have hI : mw_I D mk_cl w s.heap (mw_up w' o (.inl (dA tJ, 1, .inr (.inl (vp_updL fo 0 (u.toInt64)))))) H _ := hI
    have f2 : (mw_up w' o (.inl (dA tJ, 1, .inr (.inl (vp_updL fo 0 (u.toInt64)))))) o = some (.inl (dA tJ, 1, .inr (.inl (vp_updL fo 0 (u.toInt64))))) := mw_up_s _ _ _
    refine lv_goto (tgt := 19) hx hb d_LW_next_12 (by decide) ?_
    refine lv_iconst (v := nI 0) hx hb d_LW_next_19 (by decide) ?_
    refine mw_iret K hI hr hlk ?_ d_LW_next_20
    exact LWP.ok hR' hF (by exact f3) ho' (congrArg sL hsr)
  · obtain ⟨hq1, own', hR', hF⟩ := hq
    have hsr := rV_inr hq1
    have f2 := hF.att f1 (by rw [ho]; decide)
    have hkk := k_NEXT hsr
    subst hkk
    refine mw_catch (pc := 7) (rest := [.int (nI 0), .ref o]) K hce hX [] (0, 12, 15, 21) [] rfl (fun z hz => by cases hz) ⟨by decide, by decide⟩ (by decide) tw_341 (hts _ tw_95) ?_
    refine W.eq (g2 := F0 m 15 ls [.ref x]) rfl ?_
    refine lv_astore (lv' := [(5, .ref x), (0, .ref xo), (1, .int p0), (2, .int p1), (3, .int p2), (4, .ref o)]) hx hb d_LW_next_15 hl (by decide) rfl (fun ls hl => ?_)
    refine lv_iconst (v := nI 1) hx hb d_LW_next_17 (by decide) ?_
    exact mw_iret K hI hr hlk (LWP.bad hR' hF f2 (congrArg sL hsr) (by decide)) d_LW_next_18
set_option maxRecDepth 100000 in
set_option maxHeartbeats 4000000 in
theorem c_LW_desk (l : Launch) (D : va_G) (dA : Nat → ClassId) (hL : mw_L l) {w : mw_W} {own : as_W} {xo t o : Nat} {S : as_S} (hR : RepC dA w own xo S) (hW : wf_S t S) (ht : t ≤ 512) {fo : Nat → Int64} (ho : own o = (40, 0, 0)) (f1 : w o = some (.inl (dA tJ, 1, .inr (.inl fo)))) (p0 : Int32) : CT l D dA y_LW_desk (Cond.codeWith y_LW_desk b_LW_desk 4 (some .int) [(0, 8, 11, 21)] :: Ts) 8 150 1 6 [.ref xo, .int p0, .ref o] w (LWP dA w own xo o S (sp_DESK S p0) kO) := by
  refine mw_methH (by decide) mk_tb (Nat.le_of_ble_eq_true rfl) ?_
  intro p e s m below meth c K hr hlk hce hP0 hSy ls hl
  have hl : lv_has ls 4 [(0, .ref xo), (1, .int p0), (2, .ref o)] := hl
  obtain ⟨hx, hb, hml, hown, hts, hK, hTb⟩ := id K
  have hI := mw_I.start hP0
  obtain ⟨bd, xd, ba, xa, ra, mp, gd, ga, hA⟩ := id hR
  obtain ⟨⟨o1, o2, o3, o4, f0, fd, fa, fr, hdk, har⟩, hM⟩ := id hA
  refine lv_aload_n hx hb d_LW_desk_0 rfl (lv_at hl 2 rfl) ?_
  refine lv_iconst (v := nI 0) hx hb d_LW_desk_1 (by decide) ?_
  refine lv_aload_n hx hb d_LW_desk_2 rfl (lv_at hl 0 rfl) ?_
  refine lv_iload_n hx hb d_LW_desk_3 rfl (lv_at hl 1 rfl) ?_
  refine mw_call (rest := [.int (nI 0), .ref o]) K hSy hP0 hI (c_MS_desk l D dA hL hR p0) (mx_invV hx hown (hts _ tw_368) (hts _ tw_369) (hts _ tw_370) (hts _ tw_371) (by decide) (b := xo) (mw_rc K hI f0 rfl) (g := F0 m 4 ls [.int p0, .ref xo, .int (nI 0), .ref o]) rfl (argsL := [.int p0]) (rest := [.int (nI 0), .ref o]) np_MS_desk rfl (by rw [hb]; exact d_LW_desk_4)) hl.1 d_LW_desk_4 ⟨Nat.le_of_ble_eq_true rfl, Nat.le_of_ble_eq_true rfl⟩ (Or.inl ⟨_, _, List.mem_cons_self⟩) (mk_ws tw_371 hts) (fun a9 U9 h9 => Ts_warm hts _ tw_21 a9 U9 h9) ⟨Nat.le_of_ble_eq_true rfl, Nat.le_of_ble_eq_true rfl⟩ (fun v w' H locs hq hI => ?_) (fun k x w' H locs hq hI hX => ?_)
  · obtain ⟨hw0, hq⟩ := hq
    rw [hw0] at hI
    have f3 := f1
    rcases hq with ⟨h2, h3⟩ | ⟨h2, h3⟩
    · cases h3
      have hsr : sp_DESK S p0 = .inl (lN (bw_n (dk S) p0.toNatClampNeg 8)) := if_pos h2
      refine W.eq (g2 := F0 m 7 ls [.long (lN (bw_n (dk S) p0.toNatClampNeg 8)), .int (nI 0), .ref o]) rfl ?_
      refine mw_last K hI tJ f1 rfl 0 rfl (by first | assumption | omega) (by omega) d_LW_desk_7 (fun H locs hI => ?_)
      have hI : mw_I D mk_cl w s.heap (mw_up w o (.inl (dA tJ, 1, .inr (.inl (vp_updL fo 0 (lN (bw_n (dk S) p0.toNatClampNeg 8))))))) H _ := hI
      have f1 : (mw_up w o (.inl (dA tJ, 1, .inr (.inl (vp_updL fo 0 (lN (bw_n (dk S) p0.toNatClampNeg 8))))))) o = some (.inl (dA tJ, 1, .inr (.inl (vp_updL fo 0 (lN (bw_n (dk S) p0.toNatClampNeg 8)))))) := mw_up_s _ _ _
      refine lv_goto (tgt := 14) hx hb d_LW_desk_8 (by decide) ?_
      refine lv_iconst (v := nI 0) hx hb d_LW_desk_14 (by decide) ?_
      refine mw_iret K hI hr hlk ?_ d_LW_desk_15
      exact LWP.ok hR (Fr.rf w own) (by exact f3) ho hsr
    · cases h3
  · obtain ⟨hw0, hq⟩ := hq
    rw [hw0] at hI
    rcases hq with ⟨h2, h3⟩ | ⟨h2, h3⟩
    · cases h3
    · cases h3
      have hsr : sp_DESK S p0 = .inr 2 := if_neg h2
      refine mw_catch (pc := 4) (rest := [.int (nI 0), .ref o]) K hce hX [] (0, 8, 11, 21) [] rfl (fun z hz => by cases hz) ⟨by decide, by decide⟩ (by decide) tw_341 (hts _ tw_95) ?_
      refine W.eq (g2 := F0 m 11 ls [.ref x]) rfl ?_
      refine lv_astore_n (lv' := [(3, .ref x), (0, .ref xo), (1, .int p0), (2, .ref o)]) hx hb d_LW_desk_11 rfl hl (by decide) rfl (fun ls hl => ?_)
      refine lv_iconst (v := nI 1) hx hb d_LW_desk_12 (by decide) ?_
      exact mw_iret K hI hr hlk (LWP.bad hR (Fr.rf w own) f1 hsr (by decide)) d_LW_desk_13
set_option maxRecDepth 100000 in
set_option maxHeartbeats 4000000 in
theorem c_LW_load (l : Launch) (D : va_G) (dA : Nat → ClassId) (hL : mw_L l) {w : mw_W} {own : as_W} {xo t o : Nat} {S : as_S} (hR : RepC dA w own xo S) (hW : wf_S t S) (ht : t ≤ 512) {fo : Nat → Int64} (ho : own o = (40, 0, 0)) (f1 : w o = some (.inl (dA tJ, 1, .inr (.inl fo)))) (p0 p1 : Int32) : CT l D dA y_LW_load (Cond.codeWith y_LW_load b_LW_load 5 (some .int) [(0, 9, 12, 21), (0, 9, 16, 13)] :: Ts) 8 150 2 12 [.ref xo, .int p0, .int p1, .ref o] w (LWP dA w own xo o S (sp_LOAD S p0 p1) kO) := by
  refine mw_methH (by decide) mk_tb (Nat.le_of_ble_eq_true rfl) ?_
  intro p e s m below meth c K hr hlk hce hP0 hSy ls hl
  have hl : lv_has ls 5 [(0, .ref xo), (1, .int p0), (2, .int p1), (3, .ref o)] := hl
  obtain ⟨hx, hb, hml, hown, hts, hK, hTb⟩ := id K
  have hI := mw_I.start hP0
  obtain ⟨bd, xd, ba, xa, ra, mp, gd, ga, hA⟩ := id hR
  obtain ⟨⟨o1, o2, o3, o4, f0, fd, fa, fr, hdk, har⟩, hM⟩ := id hA
  refine lv_aload_n hx hb d_LW_load_0 rfl (lv_at hl 3 rfl) ?_
  refine lv_iconst (v := nI 0) hx hb d_LW_load_1 (by decide) ?_
  refine lv_aload_n hx hb d_LW_load_2 rfl (lv_at hl 0 rfl) ?_
  refine lv_iload_n hx hb d_LW_load_3 rfl (lv_at hl 1 rfl) ?_
  refine lv_iload_n hx hb d_LW_load_4 rfl (lv_at hl 2 rfl) ?_
  refine mw_call (rest := [.int (nI 0), .ref o]) K hSy hP0 hI (c_MS_load l D dA hL hR p0 p1) (mx_invV hx hown (hts _ tw_410) (hts _ tw_411) (hts _ tw_412) (hts _ tw_413) (by decide) (b := xo) (mw_rc K hI f0 rfl) (g := F0 m 5 ls [.int p1, .int p0, .ref xo, .int (nI 0), .ref o]) rfl (argsL := [.int p0, .int p1]) (rest := [.int (nI 0), .ref o]) np_MS_load rfl (by rw [hb]; exact d_LW_load_5)) hl.1 d_LW_load_5 ⟨Nat.le_of_ble_eq_true rfl, Nat.le_of_ble_eq_true rfl⟩ (Or.inl ⟨_, _, List.mem_cons_self⟩) (mk_ws tw_413 hts) (fun a9 U9 h9 => Ts_warm hts _ tw_21 a9 U9 h9) ⟨Nat.le_of_ble_eq_true rfl, Nat.le_of_ble_eq_true rfl⟩ (fun v w' H locs hq hI => ?_) (fun k x w' H locs hq hI hX => ?_)
  · obtain ⟨hw0, hq⟩ := hq
    rw [hw0] at hI
    have f3 := f1
    rcases hq with ⟨h1, h3⟩ | ⟨h1, h2, h3⟩ | ⟨h1, h2, h3⟩
    · cases h3
    · cases h3
    · cases h3
      have hsr : sp_LOAD S p0 p1 = .inl (lN (bw_n (ar S) p0.toNatClampNeg p1.toNatClampNeg)) := (if_pos h1).trans (if_pos h2)
      refine W.eq (g2 := F0 m 8 ls [.long (lN (bw_n (ar S) p0.toNatClampNeg p1.toNatClampNeg)), .int (nI 0), .ref o]) rfl ?_
      refine mw_last K hI tJ f1 rfl 0 rfl (by first | assumption | omega) (by omega) d_LW_load_8 (fun H locs hI => ?_)
      have hI : mw_I D mk_cl w s.heap (mw_up w o (.inl (dA tJ, 1, .inr (.inl (vp_updL fo 0 (lN (bw_n (ar S) p0.toNatClampNeg p1.toNatClampNeg))))))) H _ := hI
      have f1 : (mw_up w o (.inl (dA tJ, 1, .inr (.inl (vp_updL fo 0 (lN (bw_n (ar S) p0.toNatClampNeg p1.toNatClampNeg))))))) o = some (.inl (dA tJ, 1, .inr (.inl (vp_updL fo 0 (lN (bw_n (ar S) p0.toNatClampNeg p1.toNatClampNeg)))))) := mw_up_s _ _ _
      refine lv_goto (tgt := 20) hx hb d_LW_load_9 (by decide) ?_
      refine lv_iconst (v := nI 0) hx hb d_LW_load_20 (by decide) ?_
      refine mw_iret K hI hr hlk ?_ d_LW_load_21
      exact LWP.ok hR (Fr.rf w own) (by exact f3) ho hsr
  · obtain ⟨hw0, hq⟩ := hq
    rw [hw0] at hI
    rcases hq with ⟨h1, h3⟩ | ⟨h1, h2, h3⟩ | ⟨h1, h2, h3⟩
    · cases h3
      have hsr : sp_LOAD S p0 p1 = .inr 0 := if_neg h1
      refine mw_catch (pc := 5) (rest := [.int (nI 0), .ref o]) K hce hX [(0, 9, 12, 21)] (0, 9, 16, 13) [] rfl (fun z hz => by
          rcases List.mem_cons.mp hz with h | h
          · subst h; exact ⟨by decide, _, tw_341, hSy.2.2.2.2⟩
          · cases h) ⟨by decide, by decide⟩ (by decide) tw_173 (hts _ tw_193) ?_
      refine W.eq (g2 := F0 m 16 ls [.ref x]) rfl ?_
      refine lv_astore (lv' := [(4, .ref x), (0, .ref xo), (1, .int p0), (2, .int p1), (3, .ref o)]) hx hb d_LW_load_16 hl (by decide) rfl (fun ls hl => ?_)
      refine lv_iconst (v := nI 2) hx hb d_LW_load_18 (by decide) ?_
      exact mw_iret K hI hr hlk (LWP.bad hR (Fr.rf w own) f1 hsr (by decide)) d_LW_load_19
    · cases h3
      have hsr : sp_LOAD S p0 p1 = .inr 2 := (if_pos h1).trans (if_neg h2)
      refine mw_catch (pc := 5) (rest := [.int (nI 0), .ref o]) K hce hX [] (0, 9, 12, 21) [(0, 9, 16, 13)] rfl (fun z hz => by cases hz) ⟨by decide, by decide⟩ (by decide) tw_341 (hts _ tw_95) ?_
      refine W.eq (g2 := F0 m 12 ls [.ref x]) rfl ?_
      refine lv_astore (lv' := [(4, .ref x), (0, .ref xo), (1, .int p0), (2, .int p1), (3, .ref o)]) hx hb d_LW_load_12 hl (by decide) rfl (fun ls hl => ?_)
      refine lv_iconst (v := nI 1) hx hb d_LW_load_14 (by decide) ?_
      exact mw_iret K hI hr hlk (LWP.bad hR (Fr.rf w own) f1 hsr (by decide)) d_LW_load_15
    · cases h3
set_option maxRecDepth 100000 in
set_option maxHeartbeats 4000000 in
theorem c_LW_lay (l : Launch) (D : va_G) (dA : Nat → ClassId) (hL : mw_L l) {w : mw_W} {own : as_W} {xo : Nat} {S : as_S} (hR : RepC dA w own xo S) (p0 : Int32) (v : Int64) : CT l D dA y_LW_lay (Cond.codeWith y_LW_lay b_LW_lay 5 (some .int) [(0, 6, 9, 21)] :: Ts) 8 150 1 6 [.ref xo, .int p0, .long v] w (LWQ dA w own xo (sp_LAY S p0 v)) := by
  refine mw_methH (by decide) mk_tb (Nat.le_of_ble_eq_true rfl) ?_
  intro p e s m below meth c K hr hlk hce hP0 hSy ls hl
  have hl : lv_has ls 5 [(0, .ref xo), (1, .int p0), (2, .long v)] := hl
  obtain ⟨hx, hb, hml, hown, hts, hK, hTb⟩ := id K
  have hI := mw_I.start hP0
  obtain ⟨bd, xd, ba, xa, ra, mp, gd, ga, hA⟩ := id hR
  obtain ⟨⟨o1, o2, o3, o4, f0, fd, fa, fr, hdk, har⟩, hM⟩ := id hA
  refine lv_aload_n hx hb d_LW_lay_0 rfl (lv_at hl 0 rfl) ?_
  refine lv_iload_n hx hb d_LW_lay_1 rfl (lv_at hl 1 rfl) ?_
  refine lv_lload_n hx hb d_LW_lay_2 rfl (lv_at hl 2 rfl) ?_
  refine mw_call (rest := []) K hSy hP0 hI (c_MS_lay l D dA hL hR p0 v) (mx_invV hx hown (hts _ tw_393) (hts _ tw_394) (hts _ tw_395) (hts _ tw_396) (by decide) (b := xo) (mw_rc K hI f0 rfl) (g := F0 m 3 ls [.long v, .int p0, .ref xo]) rfl (argsL := [.int p0, .long v]) (rest := []) np_MS_lay rfl (by rw [hb]; exact d_LW_lay_3)) hl.1 d_LW_lay_3 ⟨Nat.le_of_ble_eq_true rfl, Nat.le_of_ble_eq_true rfl⟩ (Or.inl ⟨_, _, List.mem_cons_self⟩) (mk_ws tw_396 hts) (fun a9 U9 h9 => Ts_warm hts _ tw_21 a9 U9 h9) ⟨Nat.le_of_ble_eq_true rfl, Nat.le_of_ble_eq_true rfl⟩ (fun v w' H locs hq hI => ?_) (fun k x w' H locs hq hI hX => ?_)
  · obtain ⟨hq, hF⟩ := hq
    rcases hq with ⟨h2, h3, h4⟩ | ⟨h2, h3, h4⟩
    · cases h3
      have hsr : sp_LAY S p0 v = _ := if_pos h2
      refine W.eq (g2 := F0 m 6 ls []) rfl ?_
      refine lv_goto (tgt := 13) hx hb d_LW_lay_6 (by decide) ?_
      refine lv_iconst (v := nI 0) hx hb d_LW_lay_13 (by decide) ?_
      refine mw_iret K hI hr hlk ?_ d_LW_lay_14
      rw [hsr]
      exact ⟨rfl, own, h4, hF⟩
    · cases h3
  · obtain ⟨hq, hF⟩ := hq
    rcases hq with ⟨h2, h3, h4⟩ | ⟨h2, h3, h4⟩
    · cases h3
    · cases h3
      rw [h4] at hI hF
      have hsr : sp_LAY S p0 v = _ := if_neg h2
      refine mw_catch (pc := 3) (rest := []) K hce hX [] (0, 6, 9, 21) [] rfl (fun z hz => by cases hz) ⟨by decide, by decide⟩ (by decide) tw_341 (hts _ tw_95) ?_
      refine W.eq (g2 := F0 m 9 ls [.ref x]) rfl ?_
      refine lv_astore (lv' := [(4, .ref x), (0, .ref xo), (1, .int p0), (2, .long v)]) hx hb d_LW_lay_9 hl (by decide) rfl (fun ls hl => ?_)
      refine lv_iconst (v := nI 1) hx hb d_LW_lay_11 (by decide) ?_
      exact mw_iret K hI hr hlk (by rw [hsr]; exact ⟨rfl, own, hR, hF⟩) d_LW_lay_12
set_option maxRecDepth 100000 in
set_option maxHeartbeats 4000000 in
theorem c_LW_store (l : Launch) (D : va_G) (dA : Nat → ClassId) (hL : mw_L l) {w : mw_W} {own : as_W} {xo : Nat} {S : as_S} (hR : RepC dA w own xo S) (p0 p1 : Int32) (v : Int64) : CT l D dA y_LW_store (Cond.codeWith y_LW_store b_LW_store 6 (some .int) [(0, 7, 10, 21), (0, 7, 14, 13)] :: Ts) 8 150 2 12 [.ref xo, .int p0, .int p1, .long v] w (LWQ dA w own xo (sp_STORE S p0 p1 v)) := by
  refine mw_methH (by decide) mk_tb (Nat.le_of_ble_eq_true rfl) ?_
  intro p e s m below meth c K hr hlk hce hP0 hSy ls hl
  have hl : lv_has ls 6 [(0, .ref xo), (1, .int p0), (2, .int p1), (3, .long v)] := hl
  obtain ⟨hx, hb, hml, hown, hts, hK, hTb⟩ := id K
  have hI := mw_I.start hP0
  obtain ⟨bd, xd, ba, xa, ra, mp, gd, ga, hA⟩ := id hR
  obtain ⟨⟨o1, o2, o3, o4, f0, fd, fa, fr, hdk, har⟩, hM⟩ := id hA
  refine lv_aload_n hx hb d_LW_store_0 rfl (lv_at hl 0 rfl) ?_
  refine lv_iload_n hx hb d_LW_store_1 rfl (lv_at hl 1 rfl) ?_
  refine lv_iload_n hx hb d_LW_store_2 rfl (lv_at hl 2 rfl) ?_
  refine lv_lload_n hx hb d_LW_store_3 rfl (lv_at hl 3 rfl) ?_
  refine mw_call (rest := []) K hSy hP0 hI (c_MS_store l D dA hL hR p0 p1 v) (mx_invV hx hown (hts _ tw_421) (hts _ tw_422) (hts _ tw_423) (hts _ tw_424) (by decide) (b := xo) (mw_rc K hI f0 rfl) (g := F0 m 4 ls [.long v, .int p1, .int p0, .ref xo]) rfl (argsL := [.int p0, .int p1, .long v]) (rest := []) np_MS_store rfl (by rw [hb]; exact d_LW_store_4)) hl.1 d_LW_store_4 ⟨Nat.le_of_ble_eq_true rfl, Nat.le_of_ble_eq_true rfl⟩ (Or.inl ⟨_, _, List.mem_cons_self⟩) (mk_ws tw_424 hts) (fun a9 U9 h9 => Ts_warm hts _ tw_21 a9 U9 h9) ⟨Nat.le_of_ble_eq_true rfl, Nat.le_of_ble_eq_true rfl⟩ (fun v w' H locs hq hI => ?_) (fun k x w' H locs hq hI hX => ?_)
  · obtain ⟨hq, hF⟩ := hq
    rcases hq with ⟨h1, h3, h4⟩ | ⟨h1, h2, h3, h4⟩ | ⟨h1, h2, h3, h4⟩
    · cases h3
    · cases h3
    · cases h3
      have hsr : sp_STORE S p0 p1 v = _ := (if_pos h1).trans (if_pos h2)
      refine W.eq (g2 := F0 m 7 ls []) rfl ?_
      refine lv_goto (tgt := 18) hx hb d_LW_store_7 (by decide) ?_
      refine lv_iconst (v := nI 0) hx hb d_LW_store_18 (by decide) ?_
      refine mw_iret K hI hr hlk ?_ d_LW_store_19
      rw [hsr]
      exact ⟨rfl, own, h4, hF⟩
  · obtain ⟨hq, hF⟩ := hq
    rcases hq with ⟨h1, h3, h4⟩ | ⟨h1, h2, h3, h4⟩ | ⟨h1, h2, h3, h4⟩
    · cases h3
      rw [h4] at hI hF
      have hsr : sp_STORE S p0 p1 v = _ := if_neg h1
      refine mw_catch (pc := 4) (rest := []) K hce hX [(0, 7, 10, 21)] (0, 7, 14, 13) [] rfl (fun z hz => by
          rcases List.mem_cons.mp hz with h | h
          · subst h; exact ⟨by decide, _, tw_341, hSy.2.2.2.2⟩
          · cases h) ⟨by decide, by decide⟩ (by decide) tw_173 (hts _ tw_193) ?_
      refine W.eq (g2 := F0 m 14 ls [.ref x]) rfl ?_
      refine lv_astore (lv' := [(5, .ref x), (0, .ref xo), (1, .int p0), (2, .int p1), (3, .long v)]) hx hb d_LW_store_14 hl (by decide) rfl (fun ls hl => ?_)
      refine lv_iconst (v := nI 2) hx hb d_LW_store_16 (by decide) ?_
      exact mw_iret K hI hr hlk (by rw [hsr]; exact ⟨rfl, own, hR, hF⟩) d_LW_store_17
    · cases h3
      rw [h4] at hI hF
      have hsr : sp_STORE S p0 p1 v = _ := (if_pos h1).trans (if_neg h2)
      refine mw_catch (pc := 4) (rest := []) K hce hX [] (0, 7, 10, 21) [(0, 7, 14, 13)] rfl (fun z hz => by cases hz) ⟨by decide, by decide⟩ (by decide) tw_341 (hts _ tw_95) ?_
      refine W.eq (g2 := F0 m 10 ls [.ref x]) rfl ?_
      refine lv_astore (lv' := [(5, .ref x), (0, .ref xo), (1, .int p0), (2, .int p1), (3, .long v)]) hx hb d_LW_store_10 hl (by decide) rfl (fun ls hl => ?_)
      refine lv_iconst (v := nI 1) hx hb d_LW_store_12 (by decide) ?_
      exact mw_iret K hI hr hlk (by rw [hsr]; exact ⟨rfl, own, hR, hF⟩) d_LW_store_13
    · cases h3
