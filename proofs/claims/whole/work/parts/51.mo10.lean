/-! ### the model: make -/
theorem d_MO_make_0 : decode b_MO_make 0 = .ok (.aload_n 0, 1) := by decide +kernel
theorem d_MO_make_1 : decode b_MO_make 1 = .ok (.iload_n 1, 1) := by decide +kernel
theorem d_MO_make_2 : decode b_MO_make 2 = .ok (.iload_n 2, 1) := by decide +kernel
theorem d_MO_make_3 : decode b_MO_make 3 = .ok (.iload_n 3, 1) := by decide +kernel
theorem d_MO_make_4 : decode b_MO_make 4 = .ok (.iload 4, 2) := by decide +kernel
theorem d_MO_make_6 : decode b_MO_make 6 = .ok (.invokestatic 72, 3) := by decide +kernel
theorem d_MO_make_9 : decode b_MO_make 9 = .ok (.ifCond .eq 7, 3) := by decide +kernel
theorem d_MO_make_12 : decode b_MO_make 12 = .ok (.iconst 0, 1) := by decide +kernel
theorem d_MO_make_13 : decode b_MO_make 13 = .ok (.goto 4, 3) := by decide +kernel
theorem d_MO_make_16 : decode b_MO_make 16 = .ok (.iconst 1, 1) := by decide +kernel
theorem d_MO_make_17 : decode b_MO_make 17 = .ok (.putfield 60, 3) := by decide +kernel
theorem d_MO_make_20 : decode b_MO_make 20 = .ok (.aload_n 0, 1) := by decide +kernel
theorem d_MO_make_21 : decode b_MO_make 21 = .ok (.getfield 60, 3) := by decide +kernel
theorem d_MO_make_24 : decode b_MO_make 24 = .ok (.ifCond .le 5, 3) := by decide +kernel
theorem d_MO_make_27 : decode b_MO_make 27 = .ok (.iconst 0, 1) := by decide +kernel
theorem d_MO_make_28 : decode b_MO_make 28 = .ok (.ireturn, 1) := by decide +kernel
theorem d_MO_make_29 : decode b_MO_make 29 = .ok (.iload_n 1, 1) := by decide +kernel
theorem d_MO_make_30 : decode b_MO_make 30 = .ok (.iconst 2, 1) := by decide +kernel
theorem d_MO_make_31 : decode b_MO_make 31 = .ok (.if_icmp .ne 8, 3) := by decide +kernel
theorem d_MO_make_34 : decode b_MO_make 34 = .ok (.iload 4, 2) := by decide +kernel
theorem d_MO_make_36 : decode b_MO_make 36 = .ok (.goto 10, 3) := by decide +kernel
theorem d_MO_make_39 : decode b_MO_make 39 = .ok (.iload 4, 2) := by decide +kernel
theorem d_MO_make_41 : decode b_MO_make 41 = .ok (.iload_n 3, 1) := by decide +kernel
theorem d_MO_make_42 : decode b_MO_make 42 = .ok (.invokestatic 76, 3) := by decide +kernel
theorem d_MO_make_45 : decode b_MO_make 45 = .ok (.imul, 1) := by decide +kernel
theorem d_MO_make_46 : decode b_MO_make 46 = .ok (.istore 5, 2) := by decide +kernel
theorem d_MO_make_48 : decode b_MO_make 48 = .ok (.aload_n 0, 1) := by decide +kernel
theorem d_MO_make_49 : decode b_MO_make 49 = .ok (.aload_n 0, 1) := by decide +kernel
theorem d_MO_make_50 : decode b_MO_make 50 = .ok (.getfield 80, 3) := by decide +kernel
theorem d_MO_make_53 : decode b_MO_make 53 = .ok (.bipush 64, 2) := by decide +kernel
theorem d_MO_make_55 : decode b_MO_make 55 = .ok (.if_icmp .eq 15, 3) := by decide +kernel
theorem d_MO_make_58 : decode b_MO_make 58 = .ok (.iload 5, 2) := by decide +kernel
theorem d_MO_make_60 : decode b_MO_make 60 = .ok (.ldc 13, 2) := by decide +kernel
theorem d_MO_make_62 : decode b_MO_make 62 = .ok (.aload_n 0, 1) := by decide +kernel
theorem d_MO_make_63 : decode b_MO_make 63 = .ok (.getfield 83, 3) := by decide +kernel
theorem d_MO_make_66 : decode b_MO_make 66 = .ok (.isub, 1) := by decide +kernel
theorem d_MO_make_67 : decode b_MO_make 67 = .ok (.if_icmp .le 7, 3) := by decide +kernel
theorem d_MO_make_70 : decode b_MO_make 70 = .ok (.iconst 2, 1) := by decide +kernel
theorem d_MO_make_71 : decode b_MO_make 71 = .ok (.goto 4, 3) := by decide +kernel
theorem d_MO_make_74 : decode b_MO_make 74 = .ok (.iconst 0, 1) := by decide +kernel
theorem d_MO_make_75 : decode b_MO_make 75 = .ok (.putfield 60, 3) := by decide +kernel
theorem d_MO_make_78 : decode b_MO_make 78 = .ok (.aload_n 0, 1) := by decide +kernel
theorem d_MO_make_79 : decode b_MO_make 79 = .ok (.getfield 60, 3) := by decide +kernel
theorem d_MO_make_82 : decode b_MO_make 82 = .ok (.ifCond .le 5, 3) := by decide +kernel
theorem d_MO_make_85 : decode b_MO_make 85 = .ok (.iconst 0, 1) := by decide +kernel
theorem d_MO_make_86 : decode b_MO_make 86 = .ok (.ireturn, 1) := by decide +kernel
theorem d_MO_make_87 : decode b_MO_make 87 = .ok (.aload_n 0, 1) := by decide +kernel
theorem d_MO_make_88 : decode b_MO_make 88 = .ok (.getfield 17, 3) := by decide +kernel
theorem d_MO_make_91 : decode b_MO_make 91 = .ok (.aload_n 0, 1) := by decide +kernel
theorem d_MO_make_92 : decode b_MO_make 92 = .ok (.getfield 80, 3) := by decide +kernel
theorem d_MO_make_95 : decode b_MO_make 95 = .ok (.iload_n 1, 1) := by decide +kernel
theorem d_MO_make_96 : decode b_MO_make 96 = .ok (.iastore, 1) := by decide +kernel
theorem d_MO_make_97 : decode b_MO_make 97 = .ok (.aload_n 0, 1) := by decide +kernel
theorem d_MO_make_98 : decode b_MO_make 98 = .ok (.getfield 21, 3) := by decide +kernel
theorem d_MO_make_101 : decode b_MO_make 101 = .ok (.aload_n 0, 1) := by decide +kernel
theorem d_MO_make_102 : decode b_MO_make 102 = .ok (.getfield 80, 3) := by decide +kernel
theorem d_MO_make_105 : decode b_MO_make 105 = .ok (.iload_n 2, 1) := by decide +kernel
theorem d_MO_make_106 : decode b_MO_make 106 = .ok (.iastore, 1) := by decide +kernel
theorem d_MO_make_107 : decode b_MO_make 107 = .ok (.aload_n 0, 1) := by decide +kernel
theorem d_MO_make_108 : decode b_MO_make 108 = .ok (.getfield 24, 3) := by decide +kernel
theorem d_MO_make_111 : decode b_MO_make 111 = .ok (.aload_n 0, 1) := by decide +kernel
theorem d_MO_make_112 : decode b_MO_make 112 = .ok (.getfield 80, 3) := by decide +kernel
theorem d_MO_make_115 : decode b_MO_make 115 = .ok (.iload_n 3, 1) := by decide +kernel
theorem d_MO_make_116 : decode b_MO_make 116 = .ok (.iastore, 1) := by decide +kernel
theorem d_MO_make_117 : decode b_MO_make 117 = .ok (.aload_n 0, 1) := by decide +kernel
theorem d_MO_make_118 : decode b_MO_make 118 = .ok (.getfield 27, 3) := by decide +kernel
theorem d_MO_make_121 : decode b_MO_make 121 = .ok (.aload_n 0, 1) := by decide +kernel
theorem d_MO_make_122 : decode b_MO_make 122 = .ok (.getfield 80, 3) := by decide +kernel
theorem d_MO_make_125 : decode b_MO_make 125 = .ok (.iload 4, 2) := by decide +kernel
theorem d_MO_make_127 : decode b_MO_make 127 = .ok (.iastore, 1) := by decide +kernel
theorem d_MO_make_128 : decode b_MO_make 128 = .ok (.aload_n 0, 1) := by decide +kernel
theorem d_MO_make_129 : decode b_MO_make 129 = .ok (.getfield 30, 3) := by decide +kernel
theorem d_MO_make_132 : decode b_MO_make 132 = .ok (.aload_n 0, 1) := by decide +kernel
theorem d_MO_make_133 : decode b_MO_make 133 = .ok (.getfield 80, 3) := by decide +kernel
theorem d_MO_make_136 : decode b_MO_make 136 = .ok (.aload_n 0, 1) := by decide +kernel
theorem d_MO_make_137 : decode b_MO_make 137 = .ok (.getfield 83, 3) := by decide +kernel
theorem d_MO_make_140 : decode b_MO_make 140 = .ok (.iastore, 1) := by decide +kernel
theorem d_MO_make_141 : decode b_MO_make 141 = .ok (.aload_n 0, 1) := by decide +kernel
theorem d_MO_make_142 : decode b_MO_make 142 = .ok (.dup, 1) := by decide +kernel
theorem d_MO_make_143 : decode b_MO_make 143 = .ok (.getfield 83, 3) := by decide +kernel
theorem d_MO_make_146 : decode b_MO_make 146 = .ok (.iload 5, 2) := by decide +kernel
theorem d_MO_make_148 : decode b_MO_make 148 = .ok (.iadd, 1) := by decide +kernel
theorem d_MO_make_149 : decode b_MO_make 149 = .ok (.putfield 83, 3) := by decide +kernel
theorem d_MO_make_152 : decode b_MO_make 152 = .ok (.iload_n 1, 1) := by decide +kernel
theorem d_MO_make_153 : decode b_MO_make 153 = .ok (.iconst 1, 1) := by decide +kernel
theorem d_MO_make_154 : decode b_MO_make 154 = .ok (.if_icmp .ne 53, 3) := by decide +kernel
theorem d_MO_make_157 : decode b_MO_make 157 = .ok (.aload_n 0, 1) := by decide +kernel
theorem d_MO_make_158 : decode b_MO_make 158 = .ok (.getfield 33, 3) := by decide +kernel
theorem d_MO_make_161 : decode b_MO_make 161 = .ok (.aload_n 0, 1) := by decide +kernel
theorem d_MO_make_162 : decode b_MO_make 162 = .ok (.getfield 80, 3) := by decide +kernel
theorem d_MO_make_165 : decode b_MO_make 165 = .ok (.aload_n 0, 1) := by decide +kernel
theorem d_MO_make_166 : decode b_MO_make 166 = .ok (.getfield 86, 3) := by decide +kernel
theorem d_MO_make_169 : decode b_MO_make 169 = .ok (.iastore, 1) := by decide +kernel
theorem d_MO_make_170 : decode b_MO_make 170 = .ok (.aload_n 0, 1) := by decide +kernel
theorem d_MO_make_171 : decode b_MO_make 171 = .ok (.getfield 36, 3) := by decide +kernel
theorem d_MO_make_174 : decode b_MO_make 174 = .ok (.aload_n 0, 1) := by decide +kernel
theorem d_MO_make_175 : decode b_MO_make 175 = .ok (.getfield 80, 3) := by decide +kernel
theorem d_MO_make_178 : decode b_MO_make 178 = .ok (.aload_n 0, 1) := by decide +kernel
theorem d_MO_make_179 : decode b_MO_make 179 = .ok (.getfield 89, 3) := by decide +kernel
theorem d_MO_make_182 : decode b_MO_make 182 = .ok (.iastore, 1) := by decide +kernel
theorem d_MO_make_183 : decode b_MO_make 183 = .ok (.aload_n 0, 1) := by decide +kernel
theorem d_MO_make_184 : decode b_MO_make 184 = .ok (.dup, 1) := by decide +kernel
theorem d_MO_make_185 : decode b_MO_make 185 = .ok (.getfield 86, 3) := by decide +kernel
theorem d_MO_make_188 : decode b_MO_make 188 = .ok (.iload 4, 2) := by decide +kernel
theorem d_MO_make_190 : decode b_MO_make 190 = .ok (.iadd, 1) := by decide +kernel
theorem d_MO_make_191 : decode b_MO_make 191 = .ok (.putfield 86, 3) := by decide +kernel
theorem d_MO_make_194 : decode b_MO_make 194 = .ok (.aload_n 0, 1) := by decide +kernel
theorem d_MO_make_195 : decode b_MO_make 195 = .ok (.dup, 1) := by decide +kernel
theorem d_MO_make_196 : decode b_MO_make 196 = .ok (.getfield 89, 3) := by decide +kernel
theorem d_MO_make_199 : decode b_MO_make 199 = .ok (.iload 4, 2) := by decide +kernel
theorem d_MO_make_201 : decode b_MO_make 201 = .ok (.iload_n 2, 1) := by decide +kernel
theorem d_MO_make_202 : decode b_MO_make 202 = .ok (.imul, 1) := by decide +kernel
theorem d_MO_make_203 : decode b_MO_make 203 = .ok (.iadd, 1) := by decide +kernel
theorem d_MO_make_204 : decode b_MO_make 204 = .ok (.putfield 89, 3) := by decide +kernel
theorem d_MO_make_207 : decode b_MO_make 207 = .ok (.aload_n 0, 1) := by decide +kernel
theorem d_MO_make_208 : decode b_MO_make 208 = .ok (.dup, 1) := by decide +kernel
theorem d_MO_make_209 : decode b_MO_make 209 = .ok (.getfield 80, 3) := by decide +kernel
theorem d_MO_make_212 : decode b_MO_make 212 = .ok (.iconst 1, 1) := by decide +kernel
theorem d_MO_make_213 : decode b_MO_make 213 = .ok (.iadd, 1) := by decide +kernel
theorem d_MO_make_214 : decode b_MO_make 214 = .ok (.putfield 80, 3) := by decide +kernel
theorem d_MO_make_217 : decode b_MO_make 217 = .ok (.aload_n 0, 1) := by decide +kernel
theorem d_MO_make_218 : decode b_MO_make 218 = .ok (.getfield 80, 3) := by decide +kernel
theorem d_MO_make_221 : decode b_MO_make 221 = .ok (.iconst 1, 1) := by decide +kernel
theorem d_MO_make_222 : decode b_MO_make 222 = .ok (.isub, 1) := by decide +kernel
theorem d_MO_make_223 : decode b_MO_make 223 = .ok (.ireturn, 1) := by decide +kernel
theorem va_cell {fi : Nat → Nat → Int32} {b k j p : Nat} {v : Int32} (h : b ≠ k ∨ p ≠ j) : va_up fi k (upd (fi k) j v) b p = fi b p := by
  by_cases e : b = k
  · subst e
    rw [va_up_self]
    exact if_neg (h.resolve_left (fun z => z rfl))
  · rw [va_up_ne _ _ e]
theorem va_cell_s {fi : Nat → Nat → Int32} {k j : Nat} {v : Int32} : va_up fi k (upd (fi k) j v) k j = v := by
  rw [va_up_self]
  exact if_pos rfl
theorem mo_R.mk {fe fk : Nat → Nat} {ec kc ec' kc' : Nat} {fi fi' : Nat → Nat → Int32} {fl : Nat → Nat → Int64} {S : as_S} (hR : mo_R fe fk ec kc fi fl S) {k a v n : Nat} (h64 : nm S < 64) (hok : okM k a v n) (hg : gv S + mkB k v n ≤ 65536)
    (h0 : ∀ b p, (b < 2 ∨ 8 < b ∨ p ≠ nm S) → fi' b p = fi b p) (h2 : fi' 2 (nm S) = nI k) (h3 : fi' 3 (nm S) = nI a) (h4 : fi' 4 (nm S) = nI v) (h5 : fi' 5 (nm S) = nI n) (h6 : fi' 6 (nm S) = nI (gv S))
    (h1 : k = 1 → fi' 7 (nm S) = nI ec ∧ fi' 8 (nm S) = nI kc ∧ ec' = ec + n ∧ kc' = kc + n * a) (hz : k ≠ 1 → ec' = ec ∧ kc' = kc) : mo_R (va_up fe (nm S) ec) (va_up fk (nm S) kc) ec' kc' fi' fl (S_mk S k a v n) := by
  obtain ⟨g0, g1, g2, g3, g4, g5, g6, g7, g8⟩ := hR
  have hle : ec ≤ ec' ∧ kc ≤ kc' := by
    by_cases e : k = 1
    · obtain ⟨-, -, z1, z2⟩ := h1 e
      omega
    · have := hz e
      omega
  have hlim : 8 * ec' ≤ gv S + mkB k v n ∧ kc' ≤ 64 * ec' := by
    by_cases e : k = 1
    · obtain ⟨-, -, z1, z2⟩ := h1 e
      have hb : mkB k v n = n * up8 v := if_neg (by omega)
      have hv : 1 ≤ v ∧ a ≤ 64 := by
        rcases hok with ⟨q, -⟩ | ⟨-, -, q1, q2, -⟩ | ⟨q, -⟩
        · omega
        · exact ⟨q2, q1⟩
        · omega
      have h8 : n * 8 ≤ n * up8 v := Nat.mul_le_mul_left n (by have := up8_ge v; omega)
      have h9 : n * a ≤ n * 64 := Nat.mul_le_mul_left n hv.2
      rw [hb, z1, z2]
      omega
    · have := hz e
      omega
  have ms : mm (S_mk S k a v n) (nm S) = newM k a v n (gv S) := va_up_self _ _ _
  have mo : ∀ i, i ≠ nm S → mm (S_mk S k a v n) i = mm S i := fun i h => va_up_ne _ _ h
  refine ⟨fun j hj => ?_, fun j hj => ?_, fun i hi => ?_, fun i hi hi2 => ?_, fun i hi hk => ?_, fun i j hij hj hk1 hk2 => ?_, fun p hp hp2 => ?_, hlim.1, hlim.2⟩
  · rw [h0 0 j (Or.inl (by decide))]; exact g0 j hj
  · rw [h0 1 j (Or.inl (by decide))]; exact g1 j hj
  · have hi : i < nm S + 1 := hi
    by_cases e : i = nm S
    · subst e
      rw [ms]
      obtain ⟨q1, q2, q3, q4⟩ := g3 (nm S) (Nat.le_refl _) h64
      refine ⟨⟨h2, h3, h4, h5, h6⟩, q1, q2, ?_, ?_⟩
      · rw [h0 13 _ (by omega)]; exact q3
      · rw [h0 14 _ (by omega)]; exact q4
    · rw [mo i e, h0 2 i (by omega), h0 3 i (by omega), h0 4 i (by omega), h0 5 i (by omega), h0 6 i (by omega), h0 13 i (by omega), h0 14 i (by omega)]
      exact g2 i (by omega)
  · have hi : nm S + 1 ≤ i := hi
    rw [h0 13 i (by omega), h0 14 i (by omega)]
    exact g3 i (by omega) hi2
  · have hi : i < nm S + 1 := hi
    by_cases e : i = nm S
    · subst e
      rw [ms] at hk ⊢
      have hk : k = 1 := hk
      obtain ⟨z1, z2, z3, z4⟩ := h1 hk
      rw [va_up_self, va_up_self]
      refine ⟨z1, z2, by show ec + n ≤ ec'; omega, by show kc + n * a ≤ kc'; omega, fun e he => ?_, fun e k he hk => by cases hk⟩
      have he : e < n := he
      rw [h0 9 _ (by omega)]
      exact g6 _ (by omega) (by omega)
    · rw [mo i e] at hk ⊢
      obtain ⟨q1, q2, q3, q4, q5, q6⟩ := g4 i (by omega) hk
      rw [va_up_ne _ _ e, va_up_ne _ _ e, h0 7 i (by omega), h0 8 i (by omega)]
      refine ⟨q1, q2, by omega, by omega, fun e he => ?_, fun e k he hk j hj => ?_⟩
      · rw [h0 9 _ (by omega)]; exact q5 e he
      · rw [h0 10 _ (by omega)]; exact q6 e k he hk j hj
  · have hj : j < nm S + 1 := hj
    have ei : i ≠ nm S := by omega
    rw [mo i ei] at hk1 ⊢
    rw [va_up_ne _ _ ei, va_up_ne _ _ ei]
    by_cases e : j = nm S
    · subst e
      rw [va_up_self, va_up_self]
      obtain ⟨-, -, q3, q4, -⟩ := g4 i hij hk1
      exact ⟨q3, q4⟩
    · rw [mo j e] at hk2
      rw [va_up_ne _ _ e, va_up_ne _ _ e]
      exact g5 i j hij (by omega) hk1 hk2
  · rw [h0 9 _ (by omega)]
    exact g6 p (by omega) hp2
set_option maxRecDepth 100000 in
set_option maxHeartbeats 4000000 in
theorem c_MO_make (l : Launch) (D : va_G) (dA : Nat → ClassId) {w : mw_W} {own : as_W} {y t : Nat} {cd : Int32} {S : as_S} (hM : RepM dA w own y cd S) (hW : wf_S t S) (k a v n : Int32) : CT l D dA y_MO_make (Cond.code y_MO_make b_MO_make 6 (some .int) :: Ts) 2 80 0 0 [.ref y, .int k, .int a, .int v, .int n] w (MM dA w own y kM (sp_MAKE S k a v n)) := by
  refine mw_meth (by decide) mk_tb (Nat.le_of_ble_eq_true rfl) ?_
  intro p e s m below meth c K hr hlk hce hnm hP0 hSy ls hl
  have hl : lv_has ls 6 [(0, .ref y), (1, .int k), (2, .int a), (3, .int v), (4, .int n)] := hl
  obtain ⟨hx, hb, hml, hown, hts, hK, hTb⟩ := id K
  have hI := mw_I.start hP0
  obtain ⟨A, fe, fk, ec, kc, fi, fl, hw, hR⟩ := hM
  have hF := FrM.rf w own
  have h64 := hW.1
  have hgv := hW.2.1
  refine lv_aload_n hx hb d_MO_make_0 rfl (lv_at hl 0 rfl) ?_
  refine lv_iload_n hx hb d_MO_make_1 rfl (lv_at hl 1 rfl) ?_
  refine lv_iload_n hx hb d_MO_make_2 rfl (lv_at hl 2 rfl) ?_
  refine lv_iload_n hx hb d_MO_make_3 rfl (lv_at hl 3 rfl) ?_
  refine lv_iload hx hb d_MO_make_4 (lv_at hl 4 rfl) ?_
  refine mp_call (rest := [.ref y]) hb hml (c_MO_isProper l k a v n) (mx_invS hx hown (hts _ tw_674) (hts _ tw_675) (hts _ tw_23) (hts _ tw_676) (by decide) (g := F0 m 6 ls [.int n, .int v, .int a, .int k, .ref y]) rfl (argsL := [.int k, .int a, .int v, .int n]) (rest := [.ref y]) np_MO_isProper rfl (by rw [hb]; exact d_MO_make_6)) hl.1 d_MO_make_6 ⟨Nat.le_of_ble_eq_true rfl, Nat.le_of_ble_eq_true rfl⟩ (Or.inl ⟨_, _, List.mem_cons_self⟩) (mk_ws tw_676 hts) (fun a9 U9 h9 => Ts_warm hts _ tw_23 a9 U9 h9) (by first | exact ⟨Nat.le_of_ble_eq_true rfl, Nat.le_of_ble_eq_true rfl⟩ | assumption) (fun v hv => ?_)
  obtain ⟨r9, hv, hr9⟩ := hv
  subst hv
  refine W.eq (g2 := F0 m 9 ls [.int r9, .ref y]) rfl ?_
  refine lv_if_eq (tgt := 16) hx hb d_MO_make_9 (by decide) (fun c9 => ?_) (fun c9 => ?_)
  ·
    have hfit : ¬ fitS k a v n := by
      rcases hr9 with ⟨h, -⟩ | ⟨-, h⟩
      · rw [h] at c9; exact absurd c9 (by decide)
      · exact h
    have hsp : sp_MAKE S k a v n = (S, .inr 0) := if_neg (fun z => hfit (fitB_iff.mp z))
    refine lv_iconst (v := nI 1) hx hb d_MO_make_16 (by decide) ?_
    refine mw_put K hI gp_MO_60_cMO (Or.inl ⟨_, rfl, rfl⟩) hw.o rfl rfl (by simp) d_MO_make_17 (fun H locs hI => ?_)
    obtain ⟨wn1, hI, hF, hw⟩ := mo_W.seto (cd' := (nI 1)) (g' := nI (gv S)) (n' := nI (nm S)) (ec' := nI ec) (kc' := nI kc) (br' := nI 0) hw hI hF
    refine lv_aload_n hx hb d_MO_make_20 rfl (lv_at hl 0 rfl) ?_
    refine mw_get K hI gf_MO_60_cMO hw.o rfl d_MO_make_21 ?_
    refine lv_if_le (tgt := 29) hx hb d_MO_make_24 (by decide) (fun c24 => ?_) (fun c24 => ?_)
    ·
      exact absurd c24 (by decide)
    ·
      refine lv_iconst (v := nI 0) hx hb d_MO_make_27 (by decide) ?_
      refine mw_iret K hI hr hlk ?_ d_MO_make_28
      rw [hsp]
      exact ⟨_, _, rfl, ⟨A, fe, fk, ec, kc, fi, fl, hw, hR⟩, hF, (fun u hu => by cases hu), fun k hk => by cases hk; rfl⟩
  ·
    have hfit : fitS k a v n := by
      rcases hr9 with ⟨-, h⟩ | ⟨h, -⟩
      · exact h
      · exact absurd h c9
    have hsp : sp_MAKE S k a v n = _ := if_pos (fitB_iff.mpr hfit)
    obtain ⟨e1, e2, e3, e4, hok⟩ := fit_ok hfit
    have hle := okM_le hok
    rw [e1, e2, e3, e4] at hl
    generalize k.toNatClampNeg = kn at *
    generalize a.toNatClampNeg = an at *
    generalize v.toNatClampNeg = vn at *
    generalize n.toNatClampNeg = nn at *
    have u8 := up8_ge vn
    have hmul : nn * up8 vn ≤ 16384 * 263 := Nat.mul_le_mul (by omega) (by omega)
    refine lv_iconst (v := nI 0) hx hb d_MO_make_12 (by decide) ?_
    refine lv_goto (tgt := 17) hx hb d_MO_make_13 (by decide) ?_
    refine mw_put K hI gp_MO_60_cMO (Or.inl ⟨_, rfl, rfl⟩) hw.o rfl rfl (by simp) d_MO_make_17 (fun H locs hI => ?_)
    obtain ⟨wn2, hI, hF, hw⟩ := mo_W.seto (cd' := (nI 0)) (g' := nI (gv S)) (n' := nI (nm S)) (ec' := nI ec) (kc' := nI kc) (br' := nI 0) hw hI hF
    have fin : ∀ (bn : Nat), bn = mkB kn vn nn → bn < 2 ^ 23 → ∀ ls : Array Slot, lv_has ls 6 [(0, .ref y), (1, .int (nI kn)), (2, .int (nI an)), (3, .int (nI vn)), (4, .int (nI nn))] → W p l e { frames := 2, cells := 0, slots := 0, locals := 80 } s m ([.ref y, .int k, .int a, .int v, .int n] : List Value).toArray below meth c H locs 0 0 (mx_Q below (mw_Qc D mk_cl w s.heap.size (MM dA w own y kM (sp_MAKE S k a v n))) ([.ref y, .int k, .int a, .int v, .int n] : List Value).toArray s 0 0 (mw_A w s.heap.size)) (F0 m 46 ls [.int (nI bn)]) := by
      intro bn hbn hb23 ls hl
      rw [← hbn] at hsp
      have full : ∀ ls : Array Slot, lv_has ls 6 [(0, .ref y)] → (64 ≤ nm S ∨ 65536 - gv S < bn) → W p l e { frames := 2, cells := 0, slots := 0, locals := 80 } s m ([.ref y, .int k, .int a, .int v, .int n] : List Value).toArray below meth c H locs 0 0 (mx_Q below (mw_Qc D mk_cl w s.heap.size (MM dA w own y kM (sp_MAKE S k a v n))) ([.ref y, .int k, .int a, .int v, .int n] : List Value).toArray s 0 0 (mw_A w s.heap.size)) (F0 m 70 ls [.ref y]) := by
        intro ls hl hfull
        have hsp := hsp.trans (if_pos hfull)
        refine lv_iconst (v := nI 2) hx hb d_MO_make_70 (by decide) ?_
        refine lv_goto (tgt := 75) hx hb d_MO_make_71 (by decide) ?_
        refine mw_put K hI gp_MO_60_cMO (Or.inl ⟨_, rfl, rfl⟩) hw.o rfl rfl (by simp) d_MO_make_75 (fun H locs hI => ?_)
        obtain ⟨wn3, hI, hF, hw⟩ := mo_W.seto (cd' := (nI 2)) (g' := nI (gv S)) (n' := nI (nm S)) (ec' := nI ec) (kc' := nI kc) (br' := nI 0) hw hI hF
        refine lv_aload_n hx hb d_MO_make_78 rfl (lv_at hl 0 rfl) ?_
        refine mw_get K hI gf_MO_60_cMO hw.o rfl d_MO_make_79 ?_
        refine lv_if_le (tgt := 87) hx hb d_MO_make_82 (by decide) (fun c82 => ?_) (fun c82 => ?_)
        ·
          exact absurd c82 (by decide)
        ·
          refine lv_iconst (v := nI 0) hx hb d_MO_make_85 (by decide) ?_
          refine mw_iret K hI hr hlk ?_ d_MO_make_86
          rw [hsp]
          exact ⟨_, _, rfl, ⟨A, fe, fk, ec, kc, fi, fl, hw, hR⟩, hF, (fun u hu => by cases hu), fun k hk => by cases hk; rfl⟩
      refine lv_istore (lv' := [(5, .int (nI bn)), (0, .ref y), (1, .int (nI kn)), (2, .int (nI an)), (3, .int (nI vn)), (4, .int (nI nn))]) hx hb d_MO_make_46 hl (by decide) rfl (fun ls hl => ?_)
      refine lv_aload_n hx hb d_MO_make_48 rfl (lv_at hl 1 rfl) ?_
      refine lv_aload_n hx hb d_MO_make_49 rfl (lv_at hl 1 rfl) ?_
      refine mw_get K hI gf_MO_80_cMO hw.o rfl d_MO_make_50 ?_
      refine lv_bipush (v := nI 64) hx hb d_MO_make_53 (by decide) ?_
      refine lv_icmp_eq (tgt := 70) hx hb d_MO_make_55 (by decide) (fun c55 => ?_) (fun c55 => ?_)
      ·
        exact full ls (lv_sub hl [1] rfl) (Or.inl (Nat.le_of_eq ((nI_eq (by omega) (by decide)).mp c55).symm))
      ·
        have h55 : nm S < 64 := Nat.lt_of_le_of_ne h64 (fun h => c55 (by rw [h]))
        refine lv_iload hx hb d_MO_make_58 (lv_at hl 0 rfl) ?_
        refine lv_ldc (v := nI 65536) hx hb hown (hts _ tw_598) d_MO_make_60 ?_
        refine lv_aload_n hx hb d_MO_make_62 rfl (lv_at hl 1 rfl) ?_
        refine mw_get K hI gf_MO_83_cMO hw.o rfl d_MO_make_63 ?_
        refine lv_isub hx hb d_MO_make_66 ?_
        refine mw_ti (pk_sub (by omega)) ?_
        refine lv_icmp_le (tgt := 74) hx hb d_MO_make_67 (by decide) (fun c67 => ?_) (fun c67 => ?_)
        ·
          have c67 : bn ≤ 65536 - gv S := (nI_leI (by omega) (by omega)).mp c67
          have hsp := hsp.trans (if_neg (by omega))
          refine lv_iconst (v := nI 0) hx hb d_MO_make_74 (by decide) ?_
          refine mw_put K hI gp_MO_60_cMO (Or.inl ⟨_, rfl, rfl⟩) hw.o rfl rfl (by simp) d_MO_make_75 (fun H locs hI => ?_)
          obtain ⟨wn4, hI, hF, hw⟩ := mo_W.seto (cd' := (nI 0)) (g' := nI (gv S)) (n' := nI (nm S)) (ec' := nI ec) (kc' := nI kc) (br' := nI 0) hw hI hF
          refine lv_aload_n hx hb d_MO_make_78 rfl (lv_at hl 1 rfl) ?_
          refine mw_get K hI gf_MO_60_cMO hw.o rfl d_MO_make_79 ?_
          refine lv_if_le (tgt := 87) hx hb d_MO_make_82 (by decide) (fun c82 => ?_) (fun c82 => ?_)
          ·
            refine lv_aload_n hx hb d_MO_make_87 rfl (lv_at hl 1 rfl) ?_
            refine mw_get K hI gf_MO_17_cMO hw.o rfl d_MO_make_88 ?_
            refine lv_aload_n hx hb d_MO_make_91 rfl (lv_at hl 1 rfl) ?_
            refine mw_get K hI gf_MO_80_cMO hw.o rfl d_MO_make_92 ?_
            refine lv_iload_n hx hb d_MO_make_95 rfl (lv_at hl 2 rfl) ?_
            refine mw_iast K hI tI hw.a2 rfl (nm S) rfl (by first | assumption | omega) (by omega) d_MO_make_96 (fun H locs hI => ?_)
            obtain ⟨wn5, fn5, hI, hF, hw, hfn5⟩ := hw.seti (f := upd (fi 2) (nm S) (nI kn)) 2 (by decide) hI hF rfl
            refine lv_aload_n hx hb d_MO_make_97 rfl (lv_at hl 1 rfl) ?_
            refine mw_get K hI gf_MO_21_cMO hw.o rfl d_MO_make_98 ?_
            refine lv_aload_n hx hb d_MO_make_101 rfl (lv_at hl 1 rfl) ?_
            refine mw_get K hI gf_MO_80_cMO hw.o rfl d_MO_make_102 ?_
            refine lv_iload_n hx hb d_MO_make_105 rfl (lv_at hl 3 rfl) ?_
            refine mw_iast K hI tI hw.a3 rfl (nm S) rfl (by first | assumption | omega) (by omega) d_MO_make_106 (fun H locs hI => ?_)
            obtain ⟨wn6, fn6, hI, hF, hw, hfn6⟩ := hw.seti (f := upd (fn5 3) (nm S) (nI an)) 3 (by decide) hI hF rfl
            refine lv_aload_n hx hb d_MO_make_107 rfl (lv_at hl 1 rfl) ?_
            refine mw_get K hI gf_MO_24_cMO hw.o rfl d_MO_make_108 ?_
            refine lv_aload_n hx hb d_MO_make_111 rfl (lv_at hl 1 rfl) ?_
            refine mw_get K hI gf_MO_80_cMO hw.o rfl d_MO_make_112 ?_
            refine lv_iload_n hx hb d_MO_make_115 rfl (lv_at hl 4 rfl) ?_
            refine mw_iast K hI tI hw.a4 rfl (nm S) rfl (by first | assumption | omega) (by omega) d_MO_make_116 (fun H locs hI => ?_)
            obtain ⟨wn7, fn7, hI, hF, hw, hfn7⟩ := hw.seti (f := upd (fn6 4) (nm S) (nI vn)) 4 (by decide) hI hF rfl
            refine lv_aload_n hx hb d_MO_make_117 rfl (lv_at hl 1 rfl) ?_
            refine mw_get K hI gf_MO_27_cMO hw.o rfl d_MO_make_118 ?_
            refine lv_aload_n hx hb d_MO_make_121 rfl (lv_at hl 1 rfl) ?_
            refine mw_get K hI gf_MO_80_cMO hw.o rfl d_MO_make_122 ?_
            refine lv_iload hx hb d_MO_make_125 (lv_at hl 5 rfl) ?_
            refine mw_iast K hI tI hw.a5 rfl (nm S) rfl (by first | assumption | omega) (by omega) d_MO_make_127 (fun H locs hI => ?_)
            obtain ⟨wn8, fn8, hI, hF, hw, hfn8⟩ := hw.seti (f := upd (fn7 5) (nm S) (nI nn)) 5 (by decide) hI hF rfl
            refine lv_aload_n hx hb d_MO_make_128 rfl (lv_at hl 1 rfl) ?_
            refine mw_get K hI gf_MO_30_cMO hw.o rfl d_MO_make_129 ?_
            refine lv_aload_n hx hb d_MO_make_132 rfl (lv_at hl 1 rfl) ?_
            refine mw_get K hI gf_MO_80_cMO hw.o rfl d_MO_make_133 ?_
            refine lv_aload_n hx hb d_MO_make_136 rfl (lv_at hl 1 rfl) ?_
            refine mw_get K hI gf_MO_83_cMO hw.o rfl d_MO_make_137 ?_
            refine mw_iast K hI tI hw.a6 rfl (nm S) rfl (by first | assumption | omega) (by omega) d_MO_make_140 (fun H locs hI => ?_)
            obtain ⟨wn9, fn9, hI, hF, hw, hfn9⟩ := hw.seti (f := upd (fn8 6) (nm S) (nI (gv S))) 6 (by decide) hI hF rfl
            refine lv_aload_n hx hb d_MO_make_141 rfl (lv_at hl 1 rfl) ?_
            refine lv_dup hx hb d_MO_make_142 rfl ?_
            refine mw_get K hI gf_MO_83_cMO hw.o rfl d_MO_make_143 ?_
            refine lv_iload hx hb d_MO_make_146 (lv_at hl 0 rfl) ?_
            refine lv_iadd hx hb d_MO_make_148 ?_
            refine mw_ti (nI_add _ _) ?_
            refine mw_put K hI gp_MO_83_cMO (Or.inl ⟨_, rfl, rfl⟩) hw.o rfl rfl (by simp) d_MO_make_149 (fun H locs hI => ?_)
            obtain ⟨wn10, hI, hF, hw⟩ := mo_W.seto (cd' := (nI 0)) (g' := (nI ((gv S) + bn))) (n' := nI (nm S)) (ec' := nI ec) (kc' := nI kc) (br' := nI 0) hw hI hF
            refine lv_iload_n hx hb d_MO_make_152 rfl (lv_at hl 2 rfl) ?_
            refine lv_iconst (v := nI 1) hx hb d_MO_make_153 (by decide) ?_
            refine lv_icmp_ne (tgt := 207) hx hb d_MO_make_154 (by decide) (fun c154 => ?_) (fun c154 => ?_)
            ·
              have hk1 : ¬ kn = 1 := fun z => c154 (by rw [z])
              refine lv_aload_n hx hb d_MO_make_207 rfl (lv_at hl 1 rfl) ?_
              refine lv_dup hx hb d_MO_make_208 rfl ?_
              refine mw_get K hI gf_MO_80_cMO hw.o rfl d_MO_make_209 ?_
              refine lv_iconst (v := nI 1) hx hb d_MO_make_212 (by decide) ?_
              refine lv_iadd hx hb d_MO_make_213 ?_
              refine mw_ti (nI_add _ _) ?_
              refine mw_put K hI gp_MO_80_cMO (Or.inl ⟨_, rfl, rfl⟩) hw.o rfl rfl (by simp) d_MO_make_214 (fun H locs hI => ?_)
              obtain ⟨wn11, hI, hF, hw⟩ := mo_W.seto (cd' := (nI 0)) (g' := (nI ((gv S) + bn))) (n' := (nI ((nm S) + 1))) (ec' := nI ec) (kc' := nI kc) (br' := nI 0) hw hI hF
              refine lv_aload_n hx hb d_MO_make_217 rfl (lv_at hl 1 rfl) ?_
              refine mw_get K hI gf_MO_80_cMO hw.o rfl d_MO_make_218 ?_
              refine lv_iconst (v := nI 1) hx hb d_MO_make_221 (by decide) ?_
              refine lv_isub hx hb d_MO_make_222 ?_
              refine mw_ti (pk_sub (by omega)) ?_
              refine mw_ti (y := nI (nm S)) ((by rw [Nat.add_sub_cancel])) ?_
              refine mw_iret K hI hr hlk ?_ d_MO_make_223
              rw [hsp]
              rw [hbn] at hw
              refine ⟨_, _, rfl, ⟨A, va_up fe (nm S) ec, va_up fk (nm S) kc, ec, kc, _, _, hw, ?_⟩, hF, fun u hu => by cases hu; exact ⟨rfl, rfl⟩, fun k hk => by cases hk⟩
              refine hR.mk h55 hok (by rw [← hbn]; omega) (fun b p h => by rw [hfn9, va_cell (by omega), hfn8, va_cell (by omega), hfn7, va_cell (by omega), hfn6, va_cell (by omega), hfn5, va_cell (by omega)]) (by rw [hfn9, va_cell (Or.inl (by decide)), hfn8, va_cell (Or.inl (by decide)), hfn7, va_cell (Or.inl (by decide)), hfn6, va_cell (Or.inl (by decide)), hfn5, va_cell_s]) (by rw [hfn9, va_cell (Or.inl (by decide)), hfn8, va_cell (Or.inl (by decide)), hfn7, va_cell (Or.inl (by decide)), hfn6, va_cell_s]) (by rw [hfn9, va_cell (Or.inl (by decide)), hfn8, va_cell (Or.inl (by decide)), hfn7, va_cell_s]) (by rw [hfn9, va_cell (Or.inl (by decide)), hfn8, va_cell_s]) (by rw [hfn9, va_cell_s]) ?_ ?_
              · exact fun z => absurd z hk1
              · exact fun _ => ⟨rfl, rfl⟩
            ·
              have hk1 : kn = 1 := (nI_eq (by omega) (by decide)).mp c154
              refine lv_aload_n hx hb d_MO_make_157 rfl (lv_at hl 1 rfl) ?_
              refine mw_get K hI gf_MO_33_cMO hw.o rfl d_MO_make_158 ?_
              refine lv_aload_n hx hb d_MO_make_161 rfl (lv_at hl 1 rfl) ?_
              refine mw_get K hI gf_MO_80_cMO hw.o rfl d_MO_make_162 ?_
              refine lv_aload_n hx hb d_MO_make_165 rfl (lv_at hl 1 rfl) ?_
              refine mw_get K hI gf_MO_86_cMO hw.o rfl d_MO_make_166 ?_
              refine mw_iast K hI tI hw.a7 rfl (nm S) rfl (by first | assumption | omega) (by omega) d_MO_make_169 (fun H locs hI => ?_)
              obtain ⟨wn12, fn12, hI, hF, hw, hfn12⟩ := hw.seti (f := upd (fn9 7) (nm S) (nI ec)) 7 (by decide) hI hF rfl
              refine lv_aload_n hx hb d_MO_make_170 rfl (lv_at hl 1 rfl) ?_
              refine mw_get K hI gf_MO_36_cMO hw.o rfl d_MO_make_171 ?_
              refine lv_aload_n hx hb d_MO_make_174 rfl (lv_at hl 1 rfl) ?_
              refine mw_get K hI gf_MO_80_cMO hw.o rfl d_MO_make_175 ?_
              refine lv_aload_n hx hb d_MO_make_178 rfl (lv_at hl 1 rfl) ?_
              refine mw_get K hI gf_MO_89_cMO hw.o rfl d_MO_make_179 ?_
              refine mw_iast K hI tI hw.a8 rfl (nm S) rfl (by first | assumption | omega) (by omega) d_MO_make_182 (fun H locs hI => ?_)
              obtain ⟨wn13, fn13, hI, hF, hw, hfn13⟩ := hw.seti (f := upd (fn12 8) (nm S) (nI kc)) 8 (by decide) hI hF rfl
              refine lv_aload_n hx hb d_MO_make_183 rfl (lv_at hl 1 rfl) ?_
              refine lv_dup hx hb d_MO_make_184 rfl ?_
              refine mw_get K hI gf_MO_86_cMO hw.o rfl d_MO_make_185 ?_
              refine lv_iload hx hb d_MO_make_188 (lv_at hl 5 rfl) ?_
              refine lv_iadd hx hb d_MO_make_190 ?_
              refine mw_ti (nI_add _ _) ?_
              refine mw_put K hI gp_MO_86_cMO (Or.inl ⟨_, rfl, rfl⟩) hw.o rfl rfl (by simp) d_MO_make_191 (fun H locs hI => ?_)
              obtain ⟨wn14, hI, hF, hw⟩ := mo_W.seto (cd' := nI 0) (g' := nI (gv S + bn)) (n' := nI (nm S)) (ec' := (nI (ec + nn))) (kc' := nI kc) (br' := nI 0) hw hI hF
              refine lv_aload_n hx hb d_MO_make_194 rfl (lv_at hl 1 rfl) ?_
              refine lv_dup hx hb d_MO_make_195 rfl ?_
              refine mw_get K hI gf_MO_89_cMO hw.o rfl d_MO_make_196 ?_
              refine lv_iload hx hb d_MO_make_199 (lv_at hl 5 rfl) ?_
              refine lv_iload_n hx hb d_MO_make_201 rfl (lv_at hl 3 rfl) ?_
              refine lv_imul hx hb d_MO_make_202 ?_
              refine mw_ti (pk_mul _ _) ?_
              refine lv_iadd hx hb d_MO_make_203 ?_
              refine mw_ti (nI_add _ _) ?_
              refine mw_put K hI gp_MO_89_cMO (Or.inl ⟨_, rfl, rfl⟩) hw.o rfl rfl (by simp) d_MO_make_204 (fun H locs hI => ?_)
              obtain ⟨wn15, hI, hF, hw⟩ := mo_W.seto (cd' := nI 0) (g' := nI (gv S + bn)) (n' := nI (nm S)) (ec' := (nI (ec + nn))) (kc' := (nI (kc + (nn * an)))) (br' := nI 0) hw hI hF
              refine lv_aload_n hx hb d_MO_make_207 rfl (lv_at hl 1 rfl) ?_
              refine lv_dup hx hb d_MO_make_208 rfl ?_
              refine mw_get K hI gf_MO_80_cMO hw.o rfl d_MO_make_209 ?_
              refine lv_iconst (v := nI 1) hx hb d_MO_make_212 (by decide) ?_
              refine lv_iadd hx hb d_MO_make_213 ?_
              refine mw_ti (nI_add _ _) ?_
              refine mw_put K hI gp_MO_80_cMO (Or.inl ⟨_, rfl, rfl⟩) hw.o rfl rfl (by simp) d_MO_make_214 (fun H locs hI => ?_)
              obtain ⟨wn16, hI, hF, hw⟩ := mo_W.seto (cd' := nI 0) (g' := nI (gv S + bn)) (n' := (nI ((nm S) + 1))) (ec' := (nI (ec + nn))) (kc' := (nI (kc + (nn * an)))) (br' := nI 0) hw hI hF
              refine lv_aload_n hx hb d_MO_make_217 rfl (lv_at hl 1 rfl) ?_
              refine mw_get K hI gf_MO_80_cMO hw.o rfl d_MO_make_218 ?_
              refine lv_iconst (v := nI 1) hx hb d_MO_make_221 (by decide) ?_
              refine lv_isub hx hb d_MO_make_222 ?_
              refine mw_ti (pk_sub (by omega)) ?_
              refine mw_ti (y := nI (nm S)) ((by rw [Nat.add_sub_cancel])) ?_
              refine mw_iret K hI hr hlk ?_ d_MO_make_223
              rw [hsp]
              rw [hbn] at hw
              refine ⟨_, _, rfl, ⟨A, va_up fe (nm S) ec, va_up fk (nm S) kc, ec + nn, kc + nn * an, _, _, hw, ?_⟩, hF, fun u hu => by cases hu; exact ⟨rfl, rfl⟩, fun k hk => by cases hk⟩
              refine hR.mk h55 hok (by rw [← hbn]; omega) (fun b p h => by rw [hfn13, va_cell (by omega), hfn12, va_cell (by omega), hfn9, va_cell (by omega), hfn8, va_cell (by omega), hfn7, va_cell (by omega), hfn6, va_cell (by omega), hfn5, va_cell (by omega)]) (by rw [hfn13, va_cell (Or.inl (by decide)), hfn12, va_cell (Or.inl (by decide)), hfn9, va_cell (Or.inl (by decide)), hfn8, va_cell (Or.inl (by decide)), hfn7, va_cell (Or.inl (by decide)), hfn6, va_cell (Or.inl (by decide)), hfn5, va_cell_s]) (by rw [hfn13, va_cell (Or.inl (by decide)), hfn12, va_cell (Or.inl (by decide)), hfn9, va_cell (Or.inl (by decide)), hfn8, va_cell (Or.inl (by decide)), hfn7, va_cell (Or.inl (by decide)), hfn6, va_cell_s]) (by rw [hfn13, va_cell (Or.inl (by decide)), hfn12, va_cell (Or.inl (by decide)), hfn9, va_cell (Or.inl (by decide)), hfn8, va_cell (Or.inl (by decide)), hfn7, va_cell_s]) (by rw [hfn13, va_cell (Or.inl (by decide)), hfn12, va_cell (Or.inl (by decide)), hfn9, va_cell (Or.inl (by decide)), hfn8, va_cell_s]) (by rw [hfn13, va_cell (Or.inl (by decide)), hfn12, va_cell (Or.inl (by decide)), hfn9, va_cell_s]) ?_ ?_
              · exact fun _ => ⟨by rw [hfn13, va_cell (Or.inl (by decide)), hfn12, va_cell_s], by rw [hfn13, va_cell_s], rfl, rfl⟩
              · exact fun z => absurd hk1 z
          ·
            exact absurd (by decide) c82
        ·
          have c67 : ¬ bn ≤ 65536 - gv S := fun h => c67 ((nI_leI (by omega) (by omega)).mpr h)
          exact full ls (lv_sub hl [1] rfl) (Or.inr (by omega))
    refine lv_aload_n hx hb d_MO_make_20 rfl (lv_at hl 0 rfl) ?_
    refine mw_get K hI gf_MO_60_cMO hw.o rfl d_MO_make_21 ?_
    refine lv_if_le (tgt := 29) hx hb d_MO_make_24 (by decide) (fun c24 => ?_) (fun c24 => ?_)
    ·
      refine lv_iload_n hx hb d_MO_make_29 rfl (lv_at hl 1 rfl) ?_
      refine lv_iconst (v := nI 2) hx hb d_MO_make_30 (by decide) ?_
      refine lv_icmp_ne (tgt := 39) hx hb d_MO_make_31 (by decide) (fun c31 => ?_) (fun c31 => ?_)
      ·
        have hk2 : kn ≠ 2 := fun z => c31 (by rw [z])
        have hmk : mkB kn vn nn = nn * up8 vn := if_neg hk2
        refine lv_iload hx hb d_MO_make_39 (lv_at hl 4 rfl) ?_
        refine lv_iload_n hx hb d_MO_make_41 rfl (lv_at hl 3 rfl) ?_
        refine mp_call (rest := [.int (nI nn)]) hb hml (c_MO_filled l (n := vn) (by omega)) (mx_invS hx hown (hts _ tw_683) (hts _ tw_684) (hts _ tw_23) (hts _ tw_685) (by decide) (g := F0 m 42 ls [.int (nI vn), .int (nI nn)]) rfl (argsL := [.int (nI vn)]) (rest := [.int (nI nn)]) np_MO_filled rfl (by rw [hb]; exact d_MO_make_42)) hl.1 d_MO_make_42 ⟨Nat.le_of_ble_eq_true rfl, Nat.le_of_ble_eq_true rfl⟩ (Or.inl ⟨_, _, List.mem_cons_self⟩) (mk_ws tw_685 hts) (fun a9 U9 h9 => Ts_warm hts _ tw_23 a9 U9 h9) (by first | exact ⟨Nat.le_of_ble_eq_true rfl, Nat.le_of_ble_eq_true rfl⟩ | assumption) (fun v hv => ?_)
        subst hv
        refine W.eq (g2 := F0 m 45 ls [.int (nI (up8 vn)), .int (nI nn)]) rfl ?_
        refine lv_imul hx hb d_MO_make_45 ?_
        refine mw_ti (pk_mul _ _) ?_
        exact fin (nn * up8 vn) hmk.symm (by omega) ls hl
      ·
        have hk2 : kn = 2 := (nI_eq (by omega) (by decide)).mp c31
        have hmk : mkB kn vn nn = nn := if_pos hk2
        refine lv_iload hx hb d_MO_make_34 (lv_at hl 4 rfl) ?_
        refine lv_goto (tgt := 46) hx hb d_MO_make_36 (by decide) ?_
        exact fin nn hmk.symm (by omega) ls hl
    ·
      exact absurd (by decide) c24
