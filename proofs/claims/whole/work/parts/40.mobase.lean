/-! ### the model: bytes with signs, its object and arrays -/
def sB (n : Nat) : Int32 := (nI n).toInt8.toInt32
theorem sB_tab : ∀ n, n < 256 → (sB n).toInt8.toInt32 = sB n ∧ (sB n &&& nI 255) = nI n := by decide +kernel
theorem sB_nar {n : Nat} (h : n < 256) : vp_nar .byte (sB n) = sB n := (sB_tab n h).1
theorem sB_and {n : Nat} (h : n < 256) : sB n &&& nI 255 = nI n := (sB_tab n h).2
theorem sB_inj {a b : Nat} (ha : a < 256) (hb : b < 256) : sB a = sB b ↔ a = b := by
  constructor
  · intro h
    have h2 : nI a = nI b := by rw [← sB_and ha, ← sB_and hb, h]
    exact (nI_eq (by omega) (by omega)).mp h2
  · intro h; rw [h]
theorem i8_ext {x y : Int32} (h : x.toBitVec.toNat % 256 = y.toBitVec.toNat % 256) : x.toInt8 = y.toInt8 := by
  apply Int8.toBitVec_inj.mp
  apply BitVec.eq_of_toNat_eq
  rw [Int32.toBitVec_toInt8, Int32.toBitVec_toInt8, BitVec.signExtend_eq_setWidth_of_le _ (by decide), BitVec.signExtend_eq_setWidth_of_le _ (by decide), BitVec.toNat_setWidth, BitVec.toNat_setWidth]
  exact h
theorem sB_i2b (x : Int32) : x.toInt8.toInt32 = sB (x.toBitVec.toNat % 256) := by
  unfold sB
  rw [i8_ext (y := nI (x.toBitVec.toNat % 256))]
  have : (nI (x.toBitVec.toNat % 256)).toBitVec.toNat = x.toBitVec.toNat % 256 := by
    show (BitVec.ofNat 32 _).toNat = _
    rw [BitVec.toNat_ofNat, Nat.mod_eq_of_lt]
    have := Nat.mod_lt x.toBitVec.toNat (show 0 < 256 by decide)
    omega
  rw [this, Nat.mod_mod]
theorem sB_l2b (y : Int64) : y.toInt32.toInt8.toInt32 = sB (uN y % 256) := by
  rw [sB_i2b, bw_l2i, Nat.mod_mod_of_dvd _ (by decide)]
theorem nI_bv {n : Nat} (h : n < 2 ^ 32) : (nI n).toBitVec.toNat = n := by
  show (BitVec.ofNat 32 _).toNat = _
  rw [BitVec.toNat_ofNat, Nat.mod_eq_of_lt h]
theorem sB_nI {n : Nat} (h : n < 2 ^ 32) : (nI n).toInt8.toInt32 = sB (n % 256) := by rw [sB_i2b, nI_bv h]
theorem uN_sshr (v : Int64) {k : Nat} (hk : k < 8) : uN (v >>> ((nI (8 * k)).toInt64 &&& 63)) % 256 = uN v / 2 ^ (8 * k) % 256 := by
  rw [wb_c (8 * k) (by omega)]
  apply Nat.eq_of_testBit_eq
  intro i
  have h0 : uN (v >>> lN (8 * k)) % 256 = uN (v >>> lN (8 * k)) / 2 ^ 0 % 256 := by rw [Nat.pow_zero, Nat.div_one]
  rw [h0, bw_tb, bw_tb]
  by_cases hi : i < 8
  · simp only [hi, decide_true, Bool.true_and, Nat.zero_add]
    rw [bw_uT, bw_uT]
    have hs : (v >>> lN (8 * k)).toBitVec = v.toBitVec.sshiftRight (8 * k) := by
      rw [Int64.toBitVec_shiftRight]
      have hm : (lN (8 * k)).toBitVec.smod 64 = BitVec.ofNat 64 (8 * k) := by
        rcases (by omega : k = 0 ∨ k = 1 ∨ k = 2 ∨ k = 3 ∨ k = 4 ∨ k = 5 ∨ k = 6 ∨ k = 7) with h | h | h | h | h | h | h | h <;> subst h <;> decide
      rw [hm]
      show v.toBitVec.sshiftRight (BitVec.ofNat 64 (8 * k)).toNat = _
      rw [BitVec.toNat_ofNat, Nat.mod_eq_of_lt (by omega)]
    rw [hs, BitVec.getLsbD_sshiftRight]
    have h1 : 8 * k + i < 64 := by omega
    simp [h1, show ¬ 64 ≤ i by omega]
  · simp [hi]
theorem sB_shr (v : Int64) {k : Nat} (hk : k < 8) : (v >>> ((nI (8 * k)).toInt64 &&& 63)).toInt32.toInt8.toInt32 = sB (uN v / 2 ^ (8 * k) % 256) := by rw [sB_l2b, uN_sshr v hk]
/-- the arrays of the model -/
def mo_E (dA : Nat → ClassId) (fi : Nat → Nat → Int32) (fl : Nat → Nat → Int64) (i : Nat) : va_E := match i with
  | 0 => .inl (dA tB, 512, .inl (fi 0))
  | 1 => .inl (dA tB, 65536, .inl (fi 1))
  | 2 => .inl (dA tI, 64, .inl (fi 2))
  | 3 => .inl (dA tI, 64, .inl (fi 3))
  | 4 => .inl (dA tI, 64, .inl (fi 4))
  | 5 => .inl (dA tI, 64, .inl (fi 5))
  | 6 => .inl (dA tI, 64, .inl (fi 6))
  | 7 => .inl (dA tI, 64, .inl (fi 7))
  | 8 => .inl (dA tI, 64, .inl (fi 8))
  | 9 => .inl (dA tZ, 8192, .inl (fi 9))
  | 10 => .inl (dA tB, 524288, .inl (fi 10))
  | 11 => .inl (dA tJ, 64, .inr (.inl (fl 11)))
  | 12 => .inl (dA tJ, 64, .inr (.inl (fl 12)))
  | 13 => .inl (dA tI, 64, .inl (fi 13))
  | _ => .inl (dA tZ, 64, .inl (fi 14))
abbrev mo_F (A : Nat → Nat) (cd g n ec kc br : Int32) : List Value := [.int cd, .ref (A 0), .ref (A 1), .int g, .int n, .ref (A 2), .ref (A 3), .ref (A 4), .ref (A 5), .ref (A 6), .ref (A 7), .ref (A 8), .int ec, .int kc, .ref (A 9), .ref (A 10), .ref (A 11), .ref (A 12), .ref (A 13), .ref (A 14), .int br]
def mo_W (dA : Nat → ClassId) (w : mw_W) (own : as_W) (y : Nat) (A : Nat → Nat) (cd g n ec kc br : Int32) (fi : Nat → Nat → Int32) (fl : Nat → Nat → Int64) : Prop :=
  w y = some (.inr (cMO, mo_F A cd g n ec kc br)) ∧ own y = (20, 0, 0) ∧ (∀ i, i < 15 → own (A i) = (21 + i, 0, 0)) ∧ ∀ i, i < 15 → w (A i) = some (mo_E dA fi fl i)
/-- what is not the model's stays -/
def FrM (w : mw_W) (own : as_W) (w' : mw_W) : Prop := ∀ (q : Nat) (y : va_E), w q = some y → ∃ y', w' q = some y' ∧ (((own q).1 < 20 ∨ 40 ≤ (own q).1 ∨ ∃ fs, y = .inr (cBY, fs)) → y' = y)
theorem FrM.rf (w : mw_W) (own : as_W) : FrM w own w := fun _ y h => ⟨y, h, fun _ => rfl⟩
theorem FrM.trans {w1 w2 w3 : mw_W} {own : as_W} (h1 : FrM w1 own w2) (h2 : FrM w2 own w3) : FrM w1 own w3 := fun q y h => by
  obtain ⟨y2, a1, b1⟩ := h1 q y h
  obtain ⟨y3, a2, b2⟩ := h2 q y2 a1
  exact ⟨y3, a2, fun z => (b2 (by rw [b1 z]; exact z)).trans (b1 z)⟩
theorem FrM.up {w : mw_W} {own : as_W} {a : Nat} {x y0 : va_E} (ha : w a = some y0) (ht : 20 ≤ (own a).1 ∧ (own a).1 < 40) (hn : ∀ fs, y0 ≠ .inr (cBY, fs)) : FrM w own (mw_up w a x) := fun q y h => by
  by_cases e : q = a
  · subst e
    refine ⟨x, mw_up_s _ _ _, fun z => ?_⟩
    rcases z with z | z | ⟨fs, z⟩
    · omega
    · omega
    · rw [z] at h; exact absurd (Option.some.inj (ha.symm.trans h)) (hn fs)
  · exact ⟨y, by rw [mw_up_n _ _ e]; exact h, fun _ => rfl⟩
theorem mo_E_congr {dA : Nat → ClassId} {fi fi' : Nat → Nat → Int32} {fl fl' : Nat → Nat → Int64} {i : Nat} (hi : i < 15) (h1 : fi' i = fi i) (h2 : fl' i = fl i) : mo_E dA fi' fl' i = mo_E dA fi fl i := by
  rcases (by omega : i = 0 ∨ i = 1 ∨ i = 2 ∨ i = 3 ∨ i = 4 ∨ i = 5 ∨ i = 6 ∨ i = 7 ∨ i = 8 ∨ i = 9 ∨ i = 10 ∨ i = 11 ∨ i = 12 ∨ i = 13 ∨ i = 14) with h | h | h | h | h | h | h | h | h | h | h | h | h | h | h <;> subst h <;> simp only [mo_E] <;> first | rw [h1] | rw [h2]
theorem mo_E_arr (dA : Nat → ClassId) (fi : Nat → Nat → Int32) (fl : Nat → Nat → Int64) (i : Nat) : ∀ fs, mo_E dA fi fl i ≠ .inr fs := by
  intro fs h
  unfold mo_E at h
  split at h <;> cases h
section
variable {dA : Nat → ClassId} {D : va_G} {cl : List vw_C} {w0 w : mw_W} {own : as_W} {y : Nat} {A : Nat → Nat} {cd g n ec kc br : Int32} {fi : Nat → Nat → Int32} {fl : Nat → Nat → Int64} {H0 H : Heap} {locs : List Loc}
theorem mo_W.o (h : mo_W dA w own y A cd g n ec kc br fi fl) : w y = some (.inr (cMO, mo_F A cd g n ec kc br)) := h.1
theorem mo_W.set {fi' : Nat → Nat → Int32} {fl' : Nat → Nat → Int64} (h : mo_W dA w own y A cd g n ec kc br fi fl) (k : Nat) (hk : k < 15) (hE : ∀ i, i < 15 → i ≠ k → mo_E dA fi' fl' i = mo_E dA fi fl i) : mo_W dA (mw_up w (A k) (mo_E dA fi' fl' k)) own y A cd g n ec kc br fi' fl' ∧ FrM w own (mw_up w (A k) (mo_E dA fi' fl' k)) := by
  obtain ⟨h1, h2, h3, h4⟩ := h
  refine ⟨⟨?_, h2, h3, fun i hi => ?_⟩, FrM.up (h4 k hk) (by rw [h3 k hk]; dsimp only; omega) (fun fs => mo_E_arr _ _ _ _ _)⟩
  · rw [mw_up_n _ _ (own_ne h2 (h3 k hk) (by intro z; injection z with z; omega))]; exact h1
  · by_cases e : i = k
    · subst e; exact mw_up_s _ _ _
    · rw [mw_up_n _ _ (own_ne (h3 i hi) (h3 k hk) (by intro z; injection z with z; omega)), h4 i hi, hE i hi e]
theorem mo_W.seti {X : va_E} {f : Nat → Int32} (h : mo_W dA w own y A cd g n ec kc br fi fl) (k : Nat) (hk : k < 15) (hI : mw_I D cl w0 H0 (mw_up w (A k) X) H locs) (hF : FrM w0 own w) (hX : X = mo_E dA (va_up fi k f) fl k) : ∃ w1 fi1, mw_I D cl w0 H0 w1 H locs ∧ FrM w0 own w1 ∧ mo_W dA w1 own y A cd g n ec kc br fi1 fl ∧ fi1 = va_up fi k f := by
  rw [hX] at hI
  obtain ⟨h1, h2⟩ := h.set k hk (fi' := va_up fi k f) (fl' := fl) (fun i hi e => mo_E_congr hi (va_up_ne _ _ e) rfl)
  exact ⟨_, _, hI, hF.trans h2, h1, rfl⟩
theorem mo_W.setl {X : va_E} {f : Nat → Int64} (h : mo_W dA w own y A cd g n ec kc br fi fl) (k : Nat) (hk : k < 15) (hI : mw_I D cl w0 H0 (mw_up w (A k) X) H locs) (hF : FrM w0 own w) (hX : X = mo_E dA fi (va_up fl k f) k) : ∃ w1 fl1, mw_I D cl w0 H0 w1 H locs ∧ FrM w0 own w1 ∧ mo_W dA w1 own y A cd g n ec kc br fi fl1 ∧ fl1 = va_up fl k f := by
  rw [hX] at hI
  obtain ⟨h1, h2⟩ := h.set k hk (fi' := fi) (fl' := va_up fl k f) (fun i hi e => mo_E_congr hi rfl (va_up_ne _ _ e))
  exact ⟨_, _, hI, hF.trans h2, h1, rfl⟩
theorem mo_W.seto {cd' g' n' ec' kc' br' : Int32} (h : mo_W dA w own y A cd g n ec kc br fi fl) (hI : mw_I D cl w0 H0 (mw_up w y (.inr (cMO, mo_F A cd' g' n' ec' kc' br'))) H locs) (hF : FrM w0 own w) : ∃ w1, mw_I D cl w0 H0 w1 H locs ∧ FrM w0 own w1 ∧ mo_W dA w1 own y A cd' g' n' ec' kc' br' fi fl := by
  obtain ⟨h1, h2, h3, h4⟩ := h
  refine ⟨_, hI, hF.trans (FrM.up h1 (by rw [h2]; decide) (fun fs z => by injection z with z; injection z with z; exact absurd z (by decide))), mw_up_s _ _ _, h2, h3, fun i hi => ?_⟩
  rw [mw_up_n _ _ (own_ne (h3 i hi) h2 (by intro z; injection z with z; omega))]; exact h4 i hi
theorem mo_W.a0 (h : mo_W dA w own y A cd g n ec kc br fi fl) : w (A 0) = some (.inl (dA tB, 512, .inl (fi 0))) := h.2.2.2 0 (by decide)
theorem mo_W.a1 (h : mo_W dA w own y A cd g n ec kc br fi fl) : w (A 1) = some (.inl (dA tB, 65536, .inl (fi 1))) := h.2.2.2 1 (by decide)
theorem mo_W.a2 (h : mo_W dA w own y A cd g n ec kc br fi fl) : w (A 2) = some (.inl (dA tI, 64, .inl (fi 2))) := h.2.2.2 2 (by decide)
theorem mo_W.a3 (h : mo_W dA w own y A cd g n ec kc br fi fl) : w (A 3) = some (.inl (dA tI, 64, .inl (fi 3))) := h.2.2.2 3 (by decide)
theorem mo_W.a4 (h : mo_W dA w own y A cd g n ec kc br fi fl) : w (A 4) = some (.inl (dA tI, 64, .inl (fi 4))) := h.2.2.2 4 (by decide)
theorem mo_W.a5 (h : mo_W dA w own y A cd g n ec kc br fi fl) : w (A 5) = some (.inl (dA tI, 64, .inl (fi 5))) := h.2.2.2 5 (by decide)
theorem mo_W.a6 (h : mo_W dA w own y A cd g n ec kc br fi fl) : w (A 6) = some (.inl (dA tI, 64, .inl (fi 6))) := h.2.2.2 6 (by decide)
theorem mo_W.a7 (h : mo_W dA w own y A cd g n ec kc br fi fl) : w (A 7) = some (.inl (dA tI, 64, .inl (fi 7))) := h.2.2.2 7 (by decide)
theorem mo_W.a8 (h : mo_W dA w own y A cd g n ec kc br fi fl) : w (A 8) = some (.inl (dA tI, 64, .inl (fi 8))) := h.2.2.2 8 (by decide)
theorem mo_W.a9 (h : mo_W dA w own y A cd g n ec kc br fi fl) : w (A 9) = some (.inl (dA tZ, 8192, .inl (fi 9))) := h.2.2.2 9 (by decide)
theorem mo_W.a10 (h : mo_W dA w own y A cd g n ec kc br fi fl) : w (A 10) = some (.inl (dA tB, 524288, .inl (fi 10))) := h.2.2.2 10 (by decide)
theorem mo_W.a11 (h : mo_W dA w own y A cd g n ec kc br fi fl) : w (A 11) = some (.inl (dA tJ, 64, .inr (.inl (fl 11)))) := h.2.2.2 11 (by decide)
theorem mo_W.a12 (h : mo_W dA w own y A cd g n ec kc br fi fl) : w (A 12) = some (.inl (dA tJ, 64, .inr (.inl (fl 12)))) := h.2.2.2 12 (by decide)
theorem mo_W.a13 (h : mo_W dA w own y A cd g n ec kc br fi fl) : w (A 13) = some (.inl (dA tI, 64, .inl (fi 13))) := h.2.2.2 13 (by decide)
theorem mo_W.a14 (h : mo_W dA w own y A cd g n ec kc br fi fl) : w (A 14) = some (.inl (dA tZ, 64, .inl (fi 14))) := h.2.2.2 14 (by decide)
end
/-- the model's arrays hold the state -/
def mo_R (fe fk : Nat → Nat) (ec kc : Nat) (fi : Nat → Nat → Int32) (fl : Nat → Nat → Int64) (S : as_S) : Prop :=
  (∀ j, j < 512 → fi 0 j = sB (dk S j)) ∧ (∀ j, j < 65536 → fi 1 j = sB (ar S j)) ∧
  (∀ i, i < nm S → (fi 2 i = nI (kd (mm S i)) ∧ fi 3 i = nI (ks (mm S i)) ∧ fi 4 i = nI (vs (mm S i)) ∧ fi 5 i = nI (en (mm S i)) ∧ fi 6 i = nI (bg (mm S i))) ∧ fl 11 i = lN (hd (mm S i)) ∧ fl 12 i = lN (tl (mm S i)) ∧ fi 13 i = nI (rc (mm S i)) ∧ fi 14 i = nI (if bk (mm S i) = true then 1 else 0)) ∧
  (∀ i, nm S ≤ i → i < 64 → fl 11 i = lN 0 ∧ fl 12 i = lN 0 ∧ fi 13 i = nI 0 ∧ fi 14 i = nI 0) ∧
  (∀ i, i < nm S → kd (mm S i) = 1 → fi 7 i = nI (fe i) ∧ fi 8 i = nI (fk i) ∧ fe i + en (mm S i) ≤ ec ∧ fk i + en (mm S i) * ks (mm S i) ≤ kc ∧ (∀ e, e < en (mm S i) → fi 9 (fe i + e) = nI (if (tb (mm S i) e).isSome then 1 else 0)) ∧ ∀ e k, e < en (mm S i) → tb (mm S i) e = some k → ∀ j, j < ks (mm S i) → fi 10 (fk i + e * ks (mm S i) + j) = sB (k.getD j 0) ∧ k.getD j 0 < 256) ∧
  (∀ i j, i < j → j < nm S → kd (mm S i) = 1 → kd (mm S j) = 1 → fe i + en (mm S i) ≤ fe j ∧ fk i + en (mm S i) * ks (mm S i) ≤ fk j) ∧
  (∀ p, ec ≤ p → p < 8192 → fi 9 p = nI 0) ∧ 8 * ec ≤ gv S ∧ kc ≤ 64 * ec
