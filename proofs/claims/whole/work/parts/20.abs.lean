/-! ### the state of the store, and how the class holds it -/
/-- a map: (kind, key size, value size, entries, begin), its table of keys, (head, tail, records, broken), the key that was asked last -/
abbrev as_M : Type := (Nat × Nat × Nat × Nat × Nat) × (Nat → Option (List Nat)) × (Nat × Nat × Nat × Bool) × List Nat
abbrev kd (m : as_M) : Nat := m.1.1
abbrev ks (m : as_M) : Nat := m.1.2.1
abbrev vs (m : as_M) : Nat := m.1.2.2.1
abbrev en (m : as_M) : Nat := m.1.2.2.2.1
abbrev bg (m : as_M) : Nat := m.1.2.2.2.2
abbrev tb (m : as_M) : Nat → Option (List Nat) := m.2.1
abbrev hd (m : as_M) : Nat := m.2.2.1.1
abbrev tl (m : as_M) : Nat := m.2.2.1.2.1
abbrev rc (m : as_M) : Nat := m.2.2.1.2.2.1
abbrev bk (m : as_M) : Bool := m.2.2.1.2.2.2
abbrev aq (m : as_M) : List Nat := m.2.2.2
/-- desk, area, how many maps, how much area is given, the maps -/
abbrev as_S : Type := (Nat → Nat) × (Nat → Nat) × Nat × Nat × (Nat → as_M)
abbrev dk (S : as_S) : Nat → Nat := S.1
abbrev ar (S : as_S) : Nat → Nat := S.2.1
abbrev nm (S : as_S) : Nat := S.2.2.1
abbrev gv (S : as_S) : Nat := S.2.2.2.1
abbrev mm (S : as_S) : Nat → as_M := S.2.2.2.2
def S_dk (S : as_S) (f : Nat → Nat) : as_S := (f, S.2)
def S_ar (S : as_S) (f : Nat → Nat) : as_S := (S.1, f, S.2.2)
def S_mm (S : as_S) (i : Nat) (m : as_M) : as_S := (S.1, S.2.1, S.2.2.1, S.2.2.2.1, va_up S.2.2.2.2 i m)
def M_tb (m : as_M) (t : Nat → Option (List Nat)) : as_M := (m.1, t, m.2.2)
def M_rg (m : as_M) (h t r : Nat) (b : Bool) : as_M := (m.1, m.2.1, (h, t, r, b), m.2.2.2)
def M_aq (m : as_M) (k : List Nat) : as_M := (m.1, m.2.1, m.2.2.1, k)
/-- what fits of a map's sizes -/
def wf_M (t : Nat) (m : as_M) : Prop :=
  bg m % 8 = 0 ∧ ((kd m = 0 ∧ ks m = 4 ∧ 1 ≤ vs m ∧ vs m ≤ 256 ∧ 1 ≤ en m ∧ en m ≤ 4096 ∧ bg m + en m * up8 (vs m) ≤ 65536) ∨
  (kd m = 1 ∧ 1 ≤ ks m ∧ ks m ≤ 64 ∧ 1 ≤ vs m ∧ vs m ≤ 256 ∧ 1 ≤ en m ∧ en m ≤ 4096 ∧ bg m + en m * up8 (vs m) ≤ 65536 ∧ (aq m).length = ks m ∧
    (∀ e k, tb m e = some k → e < en m ∧ k.length = ks m) ∧ ∀ e e' k, tb m e = some k → tb m e' = some k → e = e') ∨
  (kd m = 2 ∧ ks m = 0 ∧ vs m = 0 ∧ (∃ p, 6 ≤ p ∧ p ≤ 14 ∧ en m = 2 ^ p) ∧ bg m + en m ≤ 65536 ∧ tl m ≤ hd m ∧ hd m - tl m ≤ en m ∧ hd m % 8 = 0 ∧ tl m % 8 = 0 ∧ hd m ≤ 264 * t ∧ rc m ≤ t))
def wf_S (t : Nat) (S : as_S) : Prop := nm S ≤ 64 ∧ gv S ≤ 65536 ∧ gv S % 8 = 0 ∧ (∀ j, dk S j < 256) ∧ (∀ j, ar S j < 256) ∧ ∀ i, i < nm S → wf_M t (mm S i)
abbrev as_W : Type := Nat → Nat × Nat × Nat
/-- the bytes of a Bytes of k are the list; what is behind them in the last long is 0 -/
def by_l (g : Nat → Int64) (k : Nat) (l : List Nat) : Prop := l.length = k ∧ (∀ j, j < k → bw_b g j = l.getD j 0) ∧ ∀ j, k ≤ j → j < (k + 7) / 8 * 8 → bw_b g j = 0
def tb_n (t : Nat → Option (List Nat)) : Nat → Nat
  | 0 => 0
  | n + 1 => tb_n t n + (if (t n).isSome then 1 else 0)
/-- map number i of the class, at a -/
def rc_M (dA : Nat → ClassId) (w : mw_W) (own : as_W) (bd ba i a : Nat) (m : as_M) : Prop := own a = (7, i, 0) ∧
  ((kd m = 0 ∧ w a = some (.inr (cAM, [.ref bd, .ref ba, .int (nI (bg m)), .int (nI 4), .int (nI (vs m)), .int (nI (en m))]))) ∨
   (kd m = 1 ∧ ∃ (ka ak ax rch : Nat) (gk : Nat → Int64) (f : Nat → Option Nat), w a = some (.inr (cTM, [.ref bd, .ref ba, .int (nI (bg m)), .int (nI (ks m)), .int (nI (vs m)), .int (nI (en m)), .ref ka, .ref ak, .int (nI rch), .int (nI (tb_n (tb m) (en m))), .int (nI 0)])) ∧
      own ka = (5, i, 0) ∧ own ax = (3, i, 0) ∧ by_ok dA w ak ax (ks m) gk ∧ by_l gk (ks m) (aq m) ∧ w ka = some (.inl (dA tBY, en m, .inr (.inr (.inr (.inr f))))) ∧ rch ≤ en m ∧
      (∀ e, e < en m → tb m e = none → f e = none) ∧ ∀ e k, tb m e = some k → e < rch ∧ ∃ (kb kx : Nat) (g : Nat → Int64), f e = some kb ∧ own kx = (4, i, e) ∧ by_ok dA w kb kx (ks m) g ∧ by_l g (ks m) k) ∨
   (kd m = 2 ∧ w a = some (.inr (cRM, [.ref bd, .ref ba, .int (nI (bg m)), .int (nI (en m)), .long (lN (hd m)), .long (lN (tl m)), .int (nI (rc m)), .int (nI (if bk m = true then 1 else 0))]))))
def rc_0 (dA : Nat → ClassId) (w : mw_W) (own : as_W) (x bd xd ba xa ra : Nat) (mp : Nat → Nat) (gd ga : Nat → Int64) (S : as_S) : Prop :=
  own x = (8, 0, 0) ∧ own xd = (1, 0, 0) ∧ own xa = (2, 0, 0) ∧ own ra = (6, 0, 0) ∧
  w x = some (.inr (cMS, [.ref bd, .ref ba, .ref ra, .int (nI (nm S)), .int (nI (gv S))])) ∧ by_ok dA w bd xd 512 gd ∧ by_ok dA w ba xa 65536 ga ∧
  w ra = some (.inl (dA tAN, 64, .inr (.inr (.inr (.inr (fun i => if i < nm S then some (mp i) else none)))))) ∧
  (∀ j, j < 512 → bw_b gd j = dk S j) ∧ ∀ j, j < 65536 → bw_b ga j = ar S j
def rc_A (dA : Nat → ClassId) (w : mw_W) (own : as_W) (x bd xd ba xa ra : Nat) (mp : Nat → Nat) (gd ga : Nat → Int64) (S : as_S) : Prop :=
  rc_0 dA w own x bd xd ba xa ra mp gd ga S ∧ ∀ i, i < nm S → rc_M dA w own bd ba i (mp i) (mm S i)
/-- the class holds the state S, its object at x -/
def RepC (dA : Nat → ClassId) (w : mw_W) (own : as_W) (x : Nat) (S : as_S) : Prop := ∃ (bd xd ba xa ra : Nat) (mp : Nat → Nat) (gd ga : Nat → Int64), rc_A dA w own x bd xd ba xa ra mp gd ga S
/-- the other side's cells stay -/
def Fr (w : mw_W) (own : as_W) (w' : mw_W) (own' : as_W) : Prop := ∀ (q : Nat) (y : va_E), w q = some y → own' q = own q ∧ ∃ y', w' q = some y' ∧ (20 ≤ (own q).1 → y' = y)
theorem Fr.rf (w : mw_W) (own : as_W) : Fr w own w own := fun _ y h => ⟨rfl, y, h, fun _ => rfl⟩
theorem Fr.trans {w1 w2 w3 : mw_W} {o1 o2 o3 : as_W} (h1 : Fr w1 o1 w2 o2) (h2 : Fr w2 o2 w3 o3) : Fr w1 o1 w3 o3 := fun q y h => by
  obtain ⟨a1, y2, b1, c1⟩ := h1 q y h
  obtain ⟨a2, y3, b2, c2⟩ := h2 q y2 b1
  exact ⟨a2.trans a1, y3, b2, fun z => (c2 (by rw [a1]; exact z)).trans (c1 z)⟩
theorem Fr.up {w : mw_W} {own : as_W} {a : Nat} {x y0 : va_E} (ha : w a = some y0) (ht : (own a).1 < 20) : Fr w own (mw_up w a x) own := fun q y h => by
  refine ⟨rfl, ?_⟩
  by_cases e : q = a
  · subst e; exact ⟨x, mw_up_s _ _ _, fun z => absurd ht (by omega)⟩
  · exact ⟨y, by rw [mw_up_n _ _ e]; exact h, fun _ => rfl⟩
theorem own_ne {own : as_W} {a b : Nat} {r1 r2 : Nat × Nat × Nat} (h1 : own a = r1) (h2 : own b = r2) (h : r1 ≠ r2) : a ≠ b := fun e => h (by rw [← h1, ← h2, e])
/-- a map's cells: what of the memory it rests on -/
theorem rc_M.keep {dA : Nat → ClassId} {w w' : mw_W} {own own' : as_W} {bd ba i a : Nat} {m : as_M} (h : rc_M dA w own bd ba i a m)
    (hk : ∀ (q : Nat) (y : va_E), w q = some y → ((own q = (7, i, 0) ∨ own q = (5, i, 0) ∨ own q = (3, i, 0) ∨ ∃ e, own q = (4, i, e)) ∨ ∃ fs, y = .inr (cBY, fs)) → w' q = some y)
    (ho : ∀ (q : Nat) (y : va_E), w q = some y → own' q = own q) : rc_M dA w' own' bd ba i a m := by
  obtain ⟨h0, h⟩ := h
  have kb : ∀ {b x n : Nat} {g : Nat → Int64}, by_ok dA w b x n g → (own x = (3, i, 0) ∨ ∃ e, own x = (4, i, e)) → by_ok dA w' b x n g := fun {b x n g} hb hx =>
    ⟨hk _ _ hb.1 (Or.inr ⟨_, rfl⟩), hk _ _ hb.2 (Or.inl (hx.elim (fun e => Or.inr (Or.inr (Or.inl e))) (fun e => Or.inr (Or.inr (Or.inr e)))))⟩
  rcases h with ⟨k0, h1⟩ | ⟨k0, ka, ak, ax, rch, gk, f, h1, h2, h3, h4, h5, h6, h7, h8, h9⟩ | ⟨k0, h1⟩
  · exact ⟨(ho _ _ h1).trans h0, Or.inl ⟨k0, hk _ _ h1 (Or.inl (Or.inl h0))⟩⟩
  · refine ⟨(ho _ _ h1).trans h0, Or.inr (Or.inl ⟨k0, ka, ak, ax, rch, gk, f, hk _ _ h1 (Or.inl (Or.inl h0)), (ho _ _ h6).trans h2, (ho _ _ h4.2).trans h3, kb h4 (Or.inl h3), h5, hk _ _ h6 (Or.inl (Or.inr (Or.inl h2))), h7, h8, fun e k he => ?_⟩)⟩
    obtain ⟨g1, kb1, kx, g, g2, g3, g4, g5⟩ := h9 e k he
    exact ⟨g1, kb1, kx, g, g2, (ho _ _ g4.2).trans g3, kb g4 (Or.inr ⟨e, g3⟩), g5⟩
  · exact ⟨(ho _ _ h1).trans h0, Or.inr (Or.inr ⟨k0, hk _ _ h1 (Or.inl (Or.inl h0))⟩)⟩
/-- one cell with another role was written -/
theorem rc_M.up {dA : Nat → ClassId} {w : mw_W} {own : as_W} {bd ba i a b : Nat} {m : as_M} {x y0 : va_E} (h : rc_M dA w own bd ba i a m) (hb : w b = some y0) (hn : ∀ fs, y0 ≠ .inr (cBY, fs)) (ht : (own b).1 ≠ 7 ∧ (own b).1 ≠ 5 ∧ (own b).1 ≠ 3 ∧ (own b).1 ≠ 4 ∨ (own b).2.1 ≠ i) : rc_M dA (mw_up w b x) own bd ba i a m := by
  refine h.keep (fun q y hq hr => ?_) (fun _ _ _ => rfl)
  rw [mw_up_n _ _ ?_]
  · exact hq
  · intro e
    subst e
    rcases hr with (e | e | e | ⟨e', e⟩) | ⟨fs, e⟩
    · rw [e] at ht; exact ht.elim (fun t => t.1 rfl) (fun t => t rfl)
    · rw [e] at ht; exact ht.elim (fun t => t.2.1 rfl) (fun t => t rfl)
    · rw [e] at ht; exact ht.elim (fun t => t.2.2.1 rfl) (fun t => t rfl)
    · rw [e] at ht; exact ht.elim (fun t => t.2.2.2 rfl) (fun t => t rfl)
    · exact hn fs (by rw [← e]; exact Option.some.inj (hb.symm.trans hq))
/-- the desk's bytes were written -/
theorem rc_A.desk {dA : Nat → ClassId} {w : mw_W} {own : as_W} {x bd xd ba xa ra : Nat} {mp : Nat → Nat} {gd ga : Nat → Int64} {S : as_S} (h : rc_A dA w own x bd xd ba xa ra mp gd ga S) (g' : Nat → Int64) (f : Nat → Nat) (hf : ∀ j, j < 512 → bw_b g' j = f j) : rc_A dA (mw_up w xd (by_a dA 512 g')) own x bd xd ba xa ra mp g' ga (S_dk S f) := by
  obtain ⟨⟨h1, h2, h3, h4, h5, h6, h7, h8, h9, h10⟩, hM⟩ := h
  refine ⟨⟨h1, h2, h3, h4, ?_, h6.up g', h7.keep (mw_neA h7.1 h6.2) (own_ne h3 h2 (by decide)), ?_, hf, h10⟩, fun i hi => (hM i hi).up h6.2 (fun fs e => by cases e) (Or.inl (by rw [h2]; decide))⟩
  · rw [mw_up_n _ _ (own_ne h1 h2 (by decide))]; exact h5
  · rw [mw_up_n _ _ (own_ne h4 h2 (by decide))]; exact h8
/-- the area's bytes were written -/
theorem rc_A.area {dA : Nat → ClassId} {w : mw_W} {own : as_W} {x bd xd ba xa ra : Nat} {mp : Nat → Nat} {gd ga : Nat → Int64} {S : as_S} (h : rc_A dA w own x bd xd ba xa ra mp gd ga S) (g' : Nat → Int64) (f : Nat → Nat) (hf : ∀ j, j < 65536 → bw_b g' j = f j) : rc_A dA (mw_up w xa (by_a dA 65536 g')) own x bd xd ba xa ra mp gd g' (S_ar S f) := by
  obtain ⟨⟨h1, h2, h3, h4, h5, h6, h7, h8, h9, h10⟩, hM⟩ := h
  refine ⟨⟨h1, h2, h3, h4, ?_, h6.keep (mw_neA h6.1 h7.2) (own_ne h2 h3 (by decide)), h7.up g', ?_, h9, hf⟩, fun i hi => (hM i hi).up h7.2 (fun fs e => by cases e) (Or.inl (by rw [h3]; decide))⟩
  · rw [mw_up_n _ _ (own_ne h1 h3 (by decide))]; exact h5
  · rw [mw_up_n _ _ (own_ne h4 h3 (by decide))]; exact h8
