/-! ### Integer.bitCount -/
theorem d_IN_bitCount_0 : decode b_IN_bitCount 0 = .ok (.iload_n 0, 1) := by decide +kernel
theorem d_IN_bitCount_1 : decode b_IN_bitCount 1 = .ok (.iload_n 0, 1) := by decide +kernel
theorem d_IN_bitCount_2 : decode b_IN_bitCount 2 = .ok (.iconst 1, 1) := by decide +kernel
theorem d_IN_bitCount_3 : decode b_IN_bitCount 3 = .ok (.iushr, 1) := by decide +kernel
theorem d_IN_bitCount_4 : decode b_IN_bitCount 4 = .ok (.ldc_w 265, 3) := by decide +kernel
theorem d_IN_bitCount_7 : decode b_IN_bitCount 7 = .ok (.iand, 1) := by decide +kernel
theorem d_IN_bitCount_8 : decode b_IN_bitCount 8 = .ok (.isub, 1) := by decide +kernel
theorem d_IN_bitCount_9 : decode b_IN_bitCount 9 = .ok (.istore_n 0, 1) := by decide +kernel
theorem d_IN_bitCount_10 : decode b_IN_bitCount 10 = .ok (.iload_n 0, 1) := by decide +kernel
theorem d_IN_bitCount_11 : decode b_IN_bitCount 11 = .ok (.ldc_w 266, 3) := by decide +kernel
theorem d_IN_bitCount_14 : decode b_IN_bitCount 14 = .ok (.iand, 1) := by decide +kernel
theorem d_IN_bitCount_15 : decode b_IN_bitCount 15 = .ok (.iload_n 0, 1) := by decide +kernel
theorem d_IN_bitCount_16 : decode b_IN_bitCount 16 = .ok (.iconst 2, 1) := by decide +kernel
theorem d_IN_bitCount_17 : decode b_IN_bitCount 17 = .ok (.iushr, 1) := by decide +kernel
theorem d_IN_bitCount_18 : decode b_IN_bitCount 18 = .ok (.ldc_w 266, 3) := by decide +kernel
theorem d_IN_bitCount_21 : decode b_IN_bitCount 21 = .ok (.iand, 1) := by decide +kernel
theorem d_IN_bitCount_22 : decode b_IN_bitCount 22 = .ok (.iadd, 1) := by decide +kernel
theorem d_IN_bitCount_23 : decode b_IN_bitCount 23 = .ok (.istore_n 0, 1) := by decide +kernel
theorem d_IN_bitCount_24 : decode b_IN_bitCount 24 = .ok (.iload_n 0, 1) := by decide +kernel
theorem d_IN_bitCount_25 : decode b_IN_bitCount 25 = .ok (.iload_n 0, 1) := by decide +kernel
theorem d_IN_bitCount_26 : decode b_IN_bitCount 26 = .ok (.iconst 4, 1) := by decide +kernel
theorem d_IN_bitCount_27 : decode b_IN_bitCount 27 = .ok (.iushr, 1) := by decide +kernel
theorem d_IN_bitCount_28 : decode b_IN_bitCount 28 = .ok (.iadd, 1) := by decide +kernel
theorem d_IN_bitCount_29 : decode b_IN_bitCount 29 = .ok (.ldc_w 267, 3) := by decide +kernel
theorem d_IN_bitCount_32 : decode b_IN_bitCount 32 = .ok (.iand, 1) := by decide +kernel
theorem d_IN_bitCount_33 : decode b_IN_bitCount 33 = .ok (.istore_n 0, 1) := by decide +kernel
theorem d_IN_bitCount_34 : decode b_IN_bitCount 34 = .ok (.iload_n 0, 1) := by decide +kernel
theorem d_IN_bitCount_35 : decode b_IN_bitCount 35 = .ok (.iload_n 0, 1) := by decide +kernel
theorem d_IN_bitCount_36 : decode b_IN_bitCount 36 = .ok (.bipush 8, 2) := by decide +kernel
theorem d_IN_bitCount_38 : decode b_IN_bitCount 38 = .ok (.iushr, 1) := by decide +kernel
theorem d_IN_bitCount_39 : decode b_IN_bitCount 39 = .ok (.iadd, 1) := by decide +kernel
theorem d_IN_bitCount_40 : decode b_IN_bitCount 40 = .ok (.istore_n 0, 1) := by decide +kernel
theorem d_IN_bitCount_41 : decode b_IN_bitCount 41 = .ok (.iload_n 0, 1) := by decide +kernel
theorem d_IN_bitCount_42 : decode b_IN_bitCount 42 = .ok (.iload_n 0, 1) := by decide +kernel
theorem d_IN_bitCount_43 : decode b_IN_bitCount 43 = .ok (.bipush 16, 2) := by decide +kernel
theorem d_IN_bitCount_45 : decode b_IN_bitCount 45 = .ok (.iushr, 1) := by decide +kernel
theorem d_IN_bitCount_46 : decode b_IN_bitCount 46 = .ok (.iadd, 1) := by decide +kernel
theorem d_IN_bitCount_47 : decode b_IN_bitCount 47 = .ok (.istore_n 0, 1) := by decide +kernel
theorem d_IN_bitCount_48 : decode b_IN_bitCount 48 = .ok (.iload_n 0, 1) := by decide +kernel
theorem d_IN_bitCount_49 : decode b_IN_bitCount 49 = .ok (.bipush 63, 2) := by decide +kernel
theorem d_IN_bitCount_51 : decode b_IN_bitCount 51 = .ok (.iand, 1) := by decide +kernel
theorem d_IN_bitCount_52 : decode b_IN_bitCount 52 = .ok (.ireturn, 1) := by decide +kernel
def bcU (x : Int32) (k : Nat) : Int32 := (x.toUInt32 >>> ((nI k).toUInt32 &&& Int32.toUInt32 31)).toInt32
def bc1 (x : Int32) : Int32 := x - (bcU x 1 &&& 1431655765)
def bc2 (x : Int32) : Int32 := (bc1 x &&& 858993459) + (bcU (bc1 x) 2 &&& 858993459)
def bc3 (x : Int32) : Int32 := (bc2 x + bcU (bc2 x) 4) &&& 252645135
def bc4 (x : Int32) : Int32 := bc3 x + bcU (bc3 x) 8
def bc5 (x : Int32) : Int32 := bc4 x + bcU (bc4 x) 16
def bcA (x : Int32) : Int32 := bc5 x &&& nI 63
set_option maxRecDepth 100000 in
theorem c_IN_bitCount (l : Launch) (x : Int32) : mp_Ct l y_IN_bitCount (Cond.code y_IN_bitCount b_IN_bitCount 1 (some .int) :: Ts) 0 0 [.int x] (fun v => v = some (.int (bcA x))) := by
  refine mp_meth (by decide) (Nat.le_of_ble_eq_true rfl) ?_
  intro p e s m below meth c hx hb hml hown hts hr hlk ls hl
  have hl : lv_has ls 1 [(0, .int x)] := hl
  refine lv_iload_n hx hb d_IN_bitCount_0 rfl (lv_at hl 0 rfl) ?_
  refine lv_iload_n hx hb d_IN_bitCount_1 rfl (lv_at hl 0 rfl) ?_
  refine lv_iconst (v := nI 1) hx hb d_IN_bitCount_2 (by decide) ?_
  refine lv_iushr hx hb d_IN_bitCount_3 rfl ?_
  refine lv_ldcw (v := 1431655765) hx hb hown (hts _ tw_188) d_IN_bitCount_4 ?_
  refine lv_iand hx hb d_IN_bitCount_7 ?_
  refine lv_isub hx hb d_IN_bitCount_8 ?_
  refine lv_istore_n (lv' := [(0, .int (bc1 x))]) hx hb d_IN_bitCount_9 rfl hl (by decide) rfl (fun ls hl => ?_)
  refine lv_iload_n hx hb d_IN_bitCount_10 rfl (lv_at hl 0 rfl) ?_
  refine lv_ldcw (v := 858993459) hx hb hown (hts _ tw_189) d_IN_bitCount_11 ?_
  refine lv_iand hx hb d_IN_bitCount_14 ?_
  refine lv_iload_n hx hb d_IN_bitCount_15 rfl (lv_at hl 0 rfl) ?_
  refine lv_iconst (v := nI 2) hx hb d_IN_bitCount_16 (by decide) ?_
  refine lv_iushr hx hb d_IN_bitCount_17 rfl ?_
  refine lv_ldcw (v := 858993459) hx hb hown (hts _ tw_189) d_IN_bitCount_18 ?_
  refine lv_iand hx hb d_IN_bitCount_21 ?_
  refine lv_iadd hx hb d_IN_bitCount_22 ?_
  refine lv_istore_n (lv' := [(0, .int (bc2 x))]) hx hb d_IN_bitCount_23 rfl hl (by decide) rfl (fun ls hl => ?_)
  refine lv_iload_n hx hb d_IN_bitCount_24 rfl (lv_at hl 0 rfl) ?_
  refine lv_iload_n hx hb d_IN_bitCount_25 rfl (lv_at hl 0 rfl) ?_
  refine lv_iconst (v := nI 4) hx hb d_IN_bitCount_26 (by decide) ?_
  refine lv_iushr hx hb d_IN_bitCount_27 rfl ?_
  refine lv_iadd hx hb d_IN_bitCount_28 ?_
  refine lv_ldcw (v := 252645135) hx hb hown (hts _ tw_190) d_IN_bitCount_29 ?_
  refine lv_iand hx hb d_IN_bitCount_32 ?_
  refine lv_istore_n (lv' := [(0, .int (bc3 x))]) hx hb d_IN_bitCount_33 rfl hl (by decide) rfl (fun ls hl => ?_)
  refine lv_iload_n hx hb d_IN_bitCount_34 rfl (lv_at hl 0 rfl) ?_
  refine lv_iload_n hx hb d_IN_bitCount_35 rfl (lv_at hl 0 rfl) ?_
  refine lv_bipush (v := nI 8) hx hb d_IN_bitCount_36 (by decide) ?_
  refine lv_iushr hx hb d_IN_bitCount_38 rfl ?_
  refine lv_iadd hx hb d_IN_bitCount_39 ?_
  refine lv_istore_n (lv' := [(0, .int (bc4 x))]) hx hb d_IN_bitCount_40 rfl hl (by decide) rfl (fun ls hl => ?_)
  refine lv_iload_n hx hb d_IN_bitCount_41 rfl (lv_at hl 0 rfl) ?_
  refine lv_iload_n hx hb d_IN_bitCount_42 rfl (lv_at hl 0 rfl) ?_
  refine lv_bipush (v := nI 16) hx hb d_IN_bitCount_43 (by decide) ?_
  refine lv_iushr hx hb d_IN_bitCount_45 rfl ?_
  refine lv_iadd hx hb d_IN_bitCount_46 ?_
  refine lv_istore_n (lv' := [(0, .int (bc5 x))]) hx hb d_IN_bitCount_47 rfl hl (by decide) rfl (fun ls hl => ?_)
  refine lv_iload_n hx hb d_IN_bitCount_48 rfl (lv_at hl 0 rfl) ?_
  refine lv_bipush (v := nI 63) hx hb d_IN_bitCount_49 (by decide) ?_
  refine lv_iand hx hb d_IN_bitCount_51 ?_
  exact mp_iret hx hb hr hlk rfl d_IN_bitCount_52
def bcOk (n : Nat) : Bool := (bcA (nI n) == nI 1) == (n == 64 || n == 128 || n == 256 || n == 512 || n == 1024 || n == 2048 || n == 4096 || n == 8192 || n == 16384)
def bcAll : Nat → Nat → Bool
  | 0, _ => true
  | k + 1, n => bcOk n && bcAll k (n + 1)
theorem bcK0 : bcAll 1021 64 = true := by decide +kernel
theorem bcK1 : bcAll 1021 1085 = true := by decide +kernel
theorem bcK2 : bcAll 1021 2106 = true := by decide +kernel
theorem bcK3 : bcAll 1021 3127 = true := by decide +kernel
theorem bcK4 : bcAll 1021 4148 = true := by decide +kernel
theorem bcK5 : bcAll 1021 5169 = true := by decide +kernel
theorem bcK6 : bcAll 1021 6190 = true := by decide +kernel
theorem bcK7 : bcAll 1021 7211 = true := by decide +kernel
theorem bcK8 : bcAll 1021 8232 = true := by decide +kernel
theorem bcK9 : bcAll 1021 9253 = true := by decide +kernel
theorem bcK10 : bcAll 1021 10274 = true := by decide +kernel
theorem bcK11 : bcAll 1021 11295 = true := by decide +kernel
theorem bcK12 : bcAll 1021 12316 = true := by decide +kernel
theorem bcK13 : bcAll 1021 13337 = true := by decide +kernel
theorem bcK14 : bcAll 1021 14358 = true := by decide +kernel
theorem bcK15 : bcAll 1021 15379 = true := by decide +kernel
