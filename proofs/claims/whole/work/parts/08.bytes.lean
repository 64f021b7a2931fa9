/-! ### bytes in longs -/
def bw_b (g : Nat → Int64) (i : Nat) : Nat := uN (g (i / 8)) / 2 ^ (8 * (i % 8)) % 256
theorem bw_lt (g : Nat → Int64) (i : Nat) : bw_b g i < 256 := Nat.mod_lt _ (by decide)
theorem bw_l2i (y : Int64) : y.toInt32.toBitVec.toNat = uN y % 2 ^ 32 := by
  show (y.toBitVec.signExtend 32).toNat = _
  rw [BitVec.signExtend_eq_setWidth_of_le _ (by decide), BitVec.toNat_setWidth]
  rfl
theorem bw_get (x : Int64) {t : Nat} (ht : t < 8) : (x.toUInt64 >>> ((nI (t * 8)).toInt64.toUInt64 &&& Int64.toUInt64 63)).toInt64.toInt32 &&& nI 255 = nI (uN x / 2 ^ (8 * t) % 256) := by
  rw [pk_and _ (m := nI 255) 8 (by decide), bw_l2i, uN_sk x (by omega), Nat.mul_comm t 8, Nat.mod_mod_of_dvd _ (by decide)]
theorem bw_tb (n k i : Nat) : (n / 2 ^ k % 256).testBit i = (decide (i < 8) && n.testBit (k + i)) := by
  rw [show (256 : Nat) = 2 ^ 8 from rfl, Nat.testBit_mod_two_pow, Nat.testBit_div_two_pow, Nat.add_comm]
def bw_w (x b : Int64) (t : Nat) : Int64 := (x &&& ((lN 255 <<< ((nI (t * 8)).toInt64 &&& 63)) ^^^ (-1))) ||| ((b &&& lN 255) <<< ((nI (t * 8)).toInt64 &&& 63))
theorem bw_uT (x : Int64) (j : Nat) : (uN x).testBit j = x.toBitVec.getLsbD j := rfl
theorem bw_set (x b : Int64) {t t' : Nat} (ht : t < 8) (ht' : t' < 8) : uN (bw_w x b t) / 2 ^ (8 * t') % 256 = if t' = t then uN b % 256 else uN x / 2 ^ (8 * t') % 256 := by
  unfold bw_w
  rw [wb_c (t * 8) (by omega)]
  have hR : ∀ i, i < 8 → (uN ((x &&& ((lN 255 <<< lN (t * 8)) ^^^ (-1))) ||| ((b &&& lN 255) <<< lN (t * 8)))).testBit (8 * t' + i) = if t' = t then (uN b).testBit i else (uN x).testBit (8 * t' + i) := by
    intro i hi
    rw [bw_uT, bw_uT, bw_uT, Int64.toBitVec_or, Int64.toBitVec_and, Int64.toBitVec_xor, Int64.toBitVec_shiftLeft, Int64.toBitVec_shiftLeft, Int64.toBitVec_and, wb_tb, wb_tb, wb_sm (t * 8) (by omega)]
    have hm : (-1 : Int64).toBitVec = BitVec.allOnes 64 := by decide
    have h255 : ∀ j, (BitVec.ofNat 64 255).getLsbD j = decide (j < 8) := by
      intro j
      rw [BitVec.getLsbD_ofNat, show (255 : Nat) = 2 ^ 8 - 1 from rfl, Nat.testBit_two_pow_sub_one]
      by_cases h : j < 8
      · have : j < 64 := by omega
        simp [h, this]
      · simp [h]
    rw [hm]
    simp only [BitVec.getLsbD_or, BitVec.getLsbD_and, BitVec.getLsbD_xor, BitVec.shiftLeft_eq', BitVec.getLsbD_shiftLeft, BitVec.getLsbD_allOnes, h255, BitVec.toNat_ofNat]
    have h64 : t * 8 % 2 ^ 64 = t * 8 := Nat.mod_eq_of_lt (by omega)
    rw [h64]
    have hj : 8 * t' + i < 64 := by omega
    by_cases e : t' = t
    · subst e
      have h1 : ¬ 8 * t' + i < t' * 8 := by omega
      have h2 : 8 * t' + i - t' * 8 = i := by omega
      simp [hj, h1, h2, hi]
    · by_cases h1 : 8 * t' + i < t * 8
      · simp [hj, h1, e]
      · have h2 : ¬ 8 * t' + i - t * 8 < 8 := by omega
        simp [hj, h1, h2, e]
  apply Nat.eq_of_testBit_eq
  intro i
  by_cases hi : i < 8
  · have h := hR i hi
    by_cases e : t' = t
    · rw [if_pos e, bw_tb, h, if_pos e, show (256 : Nat) = 2 ^ 8 from rfl, Nat.testBit_mod_two_pow]
    · rw [if_neg e, bw_tb, h, if_neg e, bw_tb]
  · by_cases e : t' = t
    · rw [if_pos e, bw_tb, show (256 : Nat) = 2 ^ 8 from rfl, Nat.testBit_mod_two_pow]; simp [hi]
    · rw [if_neg e, bw_tb, bw_tb]; simp [hi]
/-- one byte set -/
def bw_s (g : Nat → Int64) (i : Nat) (b : Int64) : Nat → Int64 := vp_updL g (i / 8) (bw_w (g (i / 8)) b (i % 8))
theorem bw_sb (g : Nat → Int64) (i : Nat) (b : Int64) (j : Nat) : bw_b (bw_s g i b) j = if j = i then uN b % 256 else bw_b g j := by
  unfold bw_b bw_s vp_updL
  by_cases h : j / 8 = i / 8
  · rw [if_pos h, bw_set _ _ (Nat.mod_lt _ (by decide)) (Nat.mod_lt _ (by decide))]
    by_cases e : j = i
    · subst e; simp
    · have : ¬ j % 8 = i % 8 := by omega
      rw [if_neg this, if_neg e, h]
  · have e : ¬ j = i := fun q => h (by rw [q])
    rw [if_neg h, if_neg e]
/-- a number of k bytes, the lowest first -/
def bw_n (f : Nat → Nat) : Nat → Nat → Nat
  | _, 0 => 0
  | i, k + 1 => f i + 256 * bw_n f (i + 1) k
theorem bw_n_lt {f : Nat → Nat} (hf : ∀ i, f i < 256) : ∀ (k i : Nat), bw_n f i k < 256 ^ k
  | 0, _ => by simp [bw_n]
  | k + 1, i => by
    have h1 := bw_n_lt hf k (i + 1)
    have h2 := hf i
    rw [bw_n, Nat.pow_succ]
    omega
theorem bw_n_congr {f h : Nat → Nat} : ∀ (k i : Nat), (∀ j, i ≤ j → j < i + k → f j = h j) → bw_n f i k = bw_n h i k
  | 0, _, _ => rfl
  | k + 1, i, e => by
    rw [bw_n, bw_n, e i (Nat.le_refl _) (by omega), bw_n_congr k (i + 1) (fun j h1 h2 => e j (by omega) (by omega))]
