/-! ### the model: thrown, maps, noMap, number, put, desk, lay -/
theorem d_MO_thrown_0 : decode b_MO_thrown 0 = .ok (.aload_n 0, 1) := by decide +kernel
theorem d_MO_thrown_1 : decode b_MO_thrown 1 = .ok (.getfield 60, 3) := by decide +kernel
theorem d_MO_thrown_4 : decode b_MO_thrown 4 = .ok (.ireturn, 1) := by decide +kernel
theorem d_MO_maps_0 : decode b_MO_maps 0 = .ok (.aload_n 0, 1) := by decide +kernel
theorem d_MO_maps_1 : decode b_MO_maps 1 = .ok (.iconst 0, 1) := by decide +kernel
theorem d_MO_maps_2 : decode b_MO_maps 2 = .ok (.putfield 60, 3) := by decide +kernel
theorem d_MO_maps_5 : decode b_MO_maps 5 = .ok (.aload_n 0, 1) := by decide +kernel
theorem d_MO_maps_6 : decode b_MO_maps 6 = .ok (.getfield 80, 3) := by decide +kernel
theorem d_MO_maps_9 : decode b_MO_maps 9 = .ok (.ireturn, 1) := by decide +kernel
theorem d_MO_noMap_0 : decode b_MO_noMap 0 = .ok (.aload_n 0, 1) := by decide +kernel
theorem d_MO_noMap_1 : decode b_MO_noMap 1 = .ok (.iload_n 1, 1) := by decide +kernel
theorem d_MO_noMap_2 : decode b_MO_noMap 2 = .ok (.ifCond .lt 11, 3) := by decide +kernel
theorem d_MO_noMap_5 : decode b_MO_noMap 5 = .ok (.iload_n 1, 1) := by decide +kernel
theorem d_MO_noMap_6 : decode b_MO_noMap 6 = .ok (.aload_n 0, 1) := by decide +kernel
theorem d_MO_noMap_7 : decode b_MO_noMap 7 = .ok (.getfield 80, 3) := by decide +kernel
theorem d_MO_noMap_10 : decode b_MO_noMap 10 = .ok (.if_icmp .lt 7, 3) := by decide +kernel
theorem d_MO_noMap_13 : decode b_MO_noMap 13 = .ok (.iconst 1, 1) := by decide +kernel
theorem d_MO_noMap_14 : decode b_MO_noMap 14 = .ok (.goto 4, 3) := by decide +kernel
theorem d_MO_noMap_17 : decode b_MO_noMap 17 = .ok (.iconst 0, 1) := by decide +kernel
theorem d_MO_noMap_18 : decode b_MO_noMap 18 = .ok (.putfield 60, 3) := by decide +kernel
theorem d_MO_noMap_21 : decode b_MO_noMap 21 = .ok (.aload_n 0, 1) := by decide +kernel
theorem d_MO_noMap_22 : decode b_MO_noMap 22 = .ok (.getfield 60, 3) := by decide +kernel
theorem d_MO_noMap_25 : decode b_MO_noMap 25 = .ok (.ifCond .le 7, 3) := by decide +kernel
theorem d_MO_noMap_28 : decode b_MO_noMap 28 = .ok (.iconst 1, 1) := by decide +kernel
theorem d_MO_noMap_29 : decode b_MO_noMap 29 = .ok (.goto 4, 3) := by decide +kernel
theorem d_MO_noMap_32 : decode b_MO_noMap 32 = .ok (.iconst 0, 1) := by decide +kernel
theorem d_MO_noMap_33 : decode b_MO_noMap 33 = .ok (.ireturn, 1) := by decide +kernel
theorem d_MO_number_0 : decode b_MO_number 0 = .ok (.lconst 0, 1) := by decide +kernel
theorem d_MO_number_1 : decode b_MO_number 1 = .ok (.lstore_n 3, 1) := by decide +kernel
theorem d_MO_number_2 : decode b_MO_number 2 = .ok (.iload_n 2, 1) := by decide +kernel
theorem d_MO_number_3 : decode b_MO_number 3 = .ok (.iconst 1, 1) := by decide +kernel
theorem d_MO_number_4 : decode b_MO_number 4 = .ok (.isub, 1) := by decide +kernel
theorem d_MO_number_5 : decode b_MO_number 5 = .ok (.istore 5, 2) := by decide +kernel
theorem d_MO_number_7 : decode b_MO_number 7 = .ok (.iload 5, 2) := by decide +kernel
theorem d_MO_number_9 : decode b_MO_number 9 = .ok (.ifCond .lt 27, 3) := by decide +kernel
theorem d_MO_number_12 : decode b_MO_number 12 = .ok (.ldc2_w 95, 3) := by decide +kernel
theorem d_MO_number_15 : decode b_MO_number 15 = .ok (.lload_n 3, 1) := by decide +kernel
theorem d_MO_number_16 : decode b_MO_number 16 = .ok (.lmul, 1) := by decide +kernel
theorem d_MO_number_17 : decode b_MO_number 17 = .ok (.aload_n 0, 1) := by decide +kernel
theorem d_MO_number_18 : decode b_MO_number 18 = .ok (.iload_n 1, 1) := by decide +kernel
theorem d_MO_number_19 : decode b_MO_number 19 = .ok (.iload 5, 2) := by decide +kernel
theorem d_MO_number_21 : decode b_MO_number 21 = .ok (.iadd, 1) := by decide +kernel
theorem d_MO_number_22 : decode b_MO_number 22 = .ok (.baload, 1) := by decide +kernel
theorem d_MO_number_23 : decode b_MO_number 23 = .ok (.sipush 255, 3) := by decide +kernel
theorem d_MO_number_26 : decode b_MO_number 26 = .ok (.iand, 1) := by decide +kernel
theorem d_MO_number_27 : decode b_MO_number 27 = .ok (.i2l, 1) := by decide +kernel
theorem d_MO_number_28 : decode b_MO_number 28 = .ok (.ladd, 1) := by decide +kernel
theorem d_MO_number_29 : decode b_MO_number 29 = .ok (.lstore_n 3, 1) := by decide +kernel
theorem d_MO_number_30 : decode b_MO_number 30 = .ok (.iinc 5 (-1), 3) := by decide +kernel
theorem d_MO_number_33 : decode b_MO_number 33 = .ok (.goto (-26), 3) := by decide +kernel
theorem d_MO_number_36 : decode b_MO_number 36 = .ok (.lload_n 3, 1) := by decide +kernel
theorem d_MO_number_37 : decode b_MO_number 37 = .ok (.lreturn, 1) := by decide +kernel
theorem d_MO_putB_0 : decode b_MO_putB 0 = .ok (.iconst 0, 1) := by decide +kernel
theorem d_MO_putB_1 : decode b_MO_putB 1 = .ok (.istore 5, 2) := by decide +kernel
theorem d_MO_putB_3 : decode b_MO_putB 3 = .ok (.iload 5, 2) := by decide +kernel
theorem d_MO_putB_5 : decode b_MO_putB 5 = .ok (.iload_n 2, 1) := by decide +kernel
theorem d_MO_putB_6 : decode b_MO_putB 6 = .ok (.if_icmp .ge 24, 3) := by decide +kernel
theorem d_MO_putB_9 : decode b_MO_putB 9 = .ok (.aload_n 0, 1) := by decide +kernel
theorem d_MO_putB_10 : decode b_MO_putB 10 = .ok (.iload_n 1, 1) := by decide +kernel
theorem d_MO_putB_11 : decode b_MO_putB 11 = .ok (.iload 5, 2) := by decide +kernel
theorem d_MO_putB_13 : decode b_MO_putB 13 = .ok (.iadd, 1) := by decide +kernel
theorem d_MO_putB_14 : decode b_MO_putB 14 = .ok (.lload_n 3, 1) := by decide +kernel
theorem d_MO_putB_15 : decode b_MO_putB 15 = .ok (.bipush 8, 2) := by decide +kernel
theorem d_MO_putB_17 : decode b_MO_putB 17 = .ok (.iload 5, 2) := by decide +kernel
theorem d_MO_putB_19 : decode b_MO_putB 19 = .ok (.imul, 1) := by decide +kernel
theorem d_MO_putB_20 : decode b_MO_putB 20 = .ok (.lshr, 1) := by decide +kernel
theorem d_MO_putB_21 : decode b_MO_putB 21 = .ok (.l2i, 1) := by decide +kernel
theorem d_MO_putB_22 : decode b_MO_putB 22 = .ok (.i2b, 1) := by decide +kernel
theorem d_MO_putB_23 : decode b_MO_putB 23 = .ok (.bastore, 1) := by decide +kernel
theorem d_MO_putB_24 : decode b_MO_putB 24 = .ok (.iinc 5 1, 3) := by decide +kernel
theorem d_MO_putB_27 : decode b_MO_putB 27 = .ok (.goto (-24), 3) := by decide +kernel
theorem d_MO_putB_30 : decode b_MO_putB 30 = .ok (.return_, 1) := by decide +kernel
theorem d_MO_desk_0 : decode b_MO_desk 0 = .ok (.aload_n 0, 1) := by decide +kernel
theorem d_MO_desk_1 : decode b_MO_desk 1 = .ok (.iload_n 1, 1) := by decide +kernel
theorem d_MO_desk_2 : decode b_MO_desk 2 = .ok (.bipush 8, 2) := by decide +kernel
theorem d_MO_desk_4 : decode b_MO_desk 4 = .ok (.invokestatic 97, 3) := by decide +kernel
theorem d_MO_desk_7 : decode b_MO_desk 7 = .ok (.ifCond .eq 7, 3) := by decide +kernel
theorem d_MO_desk_10 : decode b_MO_desk 10 = .ok (.iconst 0, 1) := by decide +kernel
theorem d_MO_desk_11 : decode b_MO_desk 11 = .ok (.goto 4, 3) := by decide +kernel
theorem d_MO_desk_14 : decode b_MO_desk 14 = .ok (.iconst 1, 1) := by decide +kernel
theorem d_MO_desk_15 : decode b_MO_desk 15 = .ok (.putfield 60, 3) := by decide +kernel
theorem d_MO_desk_18 : decode b_MO_desk 18 = .ok (.aload_n 0, 1) := by decide +kernel
theorem d_MO_desk_19 : decode b_MO_desk 19 = .ok (.getfield 60, 3) := by decide +kernel
theorem d_MO_desk_22 : decode b_MO_desk 22 = .ok (.ifCond .le 7, 3) := by decide +kernel
theorem d_MO_desk_25 : decode b_MO_desk 25 = .ok (.lconst 0, 1) := by decide +kernel
theorem d_MO_desk_26 : decode b_MO_desk 26 = .ok (.goto 13, 3) := by decide +kernel
theorem d_MO_desk_29 : decode b_MO_desk 29 = .ok (.aload_n 0, 1) := by decide +kernel
theorem d_MO_desk_30 : decode b_MO_desk 30 = .ok (.getfield 7, 3) := by decide +kernel
theorem d_MO_desk_33 : decode b_MO_desk 33 = .ok (.iload_n 1, 1) := by decide +kernel
theorem d_MO_desk_34 : decode b_MO_desk 34 = .ok (.bipush 8, 2) := by decide +kernel
theorem d_MO_desk_36 : decode b_MO_desk 36 = .ok (.invokestatic 101, 3) := by decide +kernel
theorem d_MO_desk_39 : decode b_MO_desk 39 = .ok (.lreturn, 1) := by decide +kernel
theorem d_MO_lay_0 : decode b_MO_lay 0 = .ok (.aload_n 0, 1) := by decide +kernel
theorem d_MO_lay_1 : decode b_MO_lay 1 = .ok (.iload_n 1, 1) := by decide +kernel
theorem d_MO_lay_2 : decode b_MO_lay 2 = .ok (.bipush 8, 2) := by decide +kernel
theorem d_MO_lay_4 : decode b_MO_lay 4 = .ok (.invokestatic 97, 3) := by decide +kernel
theorem d_MO_lay_7 : decode b_MO_lay 7 = .ok (.ifCond .eq 7, 3) := by decide +kernel
theorem d_MO_lay_10 : decode b_MO_lay 10 = .ok (.iconst 0, 1) := by decide +kernel
theorem d_MO_lay_11 : decode b_MO_lay 11 = .ok (.goto 4, 3) := by decide +kernel
theorem d_MO_lay_14 : decode b_MO_lay 14 = .ok (.iconst 1, 1) := by decide +kernel
theorem d_MO_lay_15 : decode b_MO_lay 15 = .ok (.putfield 60, 3) := by decide +kernel
theorem d_MO_lay_18 : decode b_MO_lay 18 = .ok (.aload_n 0, 1) := by decide +kernel
theorem d_MO_lay_19 : decode b_MO_lay 19 = .ok (.getfield 60, 3) := by decide +kernel
theorem d_MO_lay_22 : decode b_MO_lay 22 = .ok (.ifCond .ne 14, 3) := by decide +kernel
theorem d_MO_lay_25 : decode b_MO_lay 25 = .ok (.aload_n 0, 1) := by decide +kernel
theorem d_MO_lay_26 : decode b_MO_lay 26 = .ok (.getfield 7, 3) := by decide +kernel
theorem d_MO_lay_29 : decode b_MO_lay 29 = .ok (.iload_n 1, 1) := by decide +kernel
theorem d_MO_lay_30 : decode b_MO_lay 30 = .ok (.bipush 8, 2) := by decide +kernel
theorem d_MO_lay_32 : decode b_MO_lay 32 = .ok (.lload_n 2, 1) := by decide +kernel
theorem d_MO_lay_33 : decode b_MO_lay 33 = .ok (.invokestatic 105, 3) := by decide +kernel
theorem d_MO_lay_36 : decode b_MO_lay 36 = .ok (.return_, 1) := by decide +kernel
theorem d_MO_noArea_0 : decode b_MO_noArea 0 = .ok (.iload_n 2, 1) := by decide +kernel
theorem d_MO_noArea_1 : decode b_MO_noArea 1 = .ok (.iconst 1, 1) := by decide +kernel
theorem d_MO_noArea_2 : decode b_MO_noArea 2 = .ok (.if_icmp .eq 19, 3) := by decide +kernel
theorem d_MO_noArea_5 : decode b_MO_noArea 5 = .ok (.iload_n 2, 1) := by decide +kernel
theorem d_MO_noArea_6 : decode b_MO_noArea 6 = .ok (.iconst 2, 1) := by decide +kernel
theorem d_MO_noArea_7 : decode b_MO_noArea 7 = .ok (.if_icmp .eq 14, 3) := by decide +kernel
theorem d_MO_noArea_10 : decode b_MO_noArea 10 = .ok (.iload_n 2, 1) := by decide +kernel
theorem d_MO_noArea_11 : decode b_MO_noArea 11 = .ok (.iconst 4, 1) := by decide +kernel
theorem d_MO_noArea_12 : decode b_MO_noArea 12 = .ok (.if_icmp .eq 9, 3) := by decide +kernel
theorem d_MO_noArea_15 : decode b_MO_noArea 15 = .ok (.iload_n 2, 1) := by decide +kernel
theorem d_MO_noArea_16 : decode b_MO_noArea 16 = .ok (.bipush 8, 2) := by decide +kernel
theorem d_MO_noArea_18 : decode b_MO_noArea 18 = .ok (.if_icmp .ne 7, 3) := by decide +kernel
theorem d_MO_noArea_21 : decode b_MO_noArea 21 = .ok (.iconst 1, 1) := by decide +kernel
theorem d_MO_noArea_22 : decode b_MO_noArea 22 = .ok (.goto 4, 3) := by decide +kernel
theorem d_MO_noArea_25 : decode b_MO_noArea 25 = .ok (.iconst 0, 1) := by decide +kernel
theorem d_MO_noArea_26 : decode b_MO_noArea 26 = .ok (.istore_n 3, 1) := by decide +kernel
theorem d_MO_noArea_27 : decode b_MO_noArea 27 = .ok (.aload_n 0, 1) := by decide +kernel
theorem d_MO_noArea_28 : decode b_MO_noArea 28 = .ok (.iload_n 3, 1) := by decide +kernel
theorem d_MO_noArea_29 : decode b_MO_noArea 29 = .ok (.ifCond .ne 7, 3) := by decide +kernel
theorem d_MO_noArea_32 : decode b_MO_noArea 32 = .ok (.iconst 2, 1) := by decide +kernel
theorem d_MO_noArea_33 : decode b_MO_noArea 33 = .ok (.goto 20, 3) := by decide +kernel
theorem d_MO_noArea_36 : decode b_MO_noArea 36 = .ok (.iload_n 1, 1) := by decide +kernel
theorem d_MO_noArea_37 : decode b_MO_noArea 37 = .ok (.ifCond .lt 11, 3) := by decide +kernel
theorem d_MO_noArea_40 : decode b_MO_noArea 40 = .ok (.iload_n 1, 1) := by decide +kernel
theorem d_MO_noArea_41 : decode b_MO_noArea 41 = .ok (.ldc 13, 2) := by decide +kernel
theorem d_MO_noArea_43 : decode b_MO_noArea 43 = .ok (.iload_n 2, 1) := by decide +kernel
theorem d_MO_noArea_44 : decode b_MO_noArea 44 = .ok (.isub, 1) := by decide +kernel
theorem d_MO_noArea_45 : decode b_MO_noArea 45 = .ok (.if_icmp .le 7, 3) := by decide +kernel
theorem d_MO_noArea_48 : decode b_MO_noArea 48 = .ok (.iconst 1, 1) := by decide +kernel
theorem d_MO_noArea_49 : decode b_MO_noArea 49 = .ok (.goto 4, 3) := by decide +kernel
theorem d_MO_noArea_52 : decode b_MO_noArea 52 = .ok (.iconst 0, 1) := by decide +kernel
theorem d_MO_noArea_53 : decode b_MO_noArea 53 = .ok (.putfield 60, 3) := by decide +kernel
theorem d_MO_noArea_56 : decode b_MO_noArea 56 = .ok (.aload_n 0, 1) := by decide +kernel
theorem d_MO_noArea_57 : decode b_MO_noArea 57 = .ok (.getfield 60, 3) := by decide +kernel
theorem d_MO_noArea_60 : decode b_MO_noArea 60 = .ok (.ifCond .le 7, 3) := by decide +kernel
theorem d_MO_noArea_63 : decode b_MO_noArea 63 = .ok (.iconst 1, 1) := by decide +kernel
theorem d_MO_noArea_64 : decode b_MO_noArea 64 = .ok (.goto 4, 3) := by decide +kernel
theorem d_MO_noArea_67 : decode b_MO_noArea 67 = .ok (.iconst 0, 1) := by decide +kernel
theorem d_MO_noArea_68 : decode b_MO_noArea 68 = .ok (.ireturn, 1) := by decide +kernel
theorem d_MO_load_0 : decode b_MO_load 0 = .ok (.aload_n 0, 1) := by decide +kernel
theorem d_MO_load_1 : decode b_MO_load 1 = .ok (.iload_n 1, 1) := by decide +kernel
theorem d_MO_load_2 : decode b_MO_load 2 = .ok (.iload_n 2, 1) := by decide +kernel
theorem d_MO_load_3 : decode b_MO_load 3 = .ok (.invokevirtual 109, 3) := by decide +kernel
theorem d_MO_load_6 : decode b_MO_load 6 = .ok (.ifCond .eq 7, 3) := by decide +kernel
theorem d_MO_load_9 : decode b_MO_load 9 = .ok (.lconst 0, 1) := by decide +kernel
theorem d_MO_load_10 : decode b_MO_load 10 = .ok (.goto 12, 3) := by decide +kernel
theorem d_MO_load_13 : decode b_MO_load 13 = .ok (.aload_n 0, 1) := by decide +kernel
theorem d_MO_load_14 : decode b_MO_load 14 = .ok (.getfield 14, 3) := by decide +kernel
theorem d_MO_load_17 : decode b_MO_load 17 = .ok (.iload_n 1, 1) := by decide +kernel
theorem d_MO_load_18 : decode b_MO_load 18 = .ok (.iload_n 2, 1) := by decide +kernel
theorem d_MO_load_19 : decode b_MO_load 19 = .ok (.invokestatic 101, 3) := by decide +kernel
theorem d_MO_load_22 : decode b_MO_load 22 = .ok (.lreturn, 1) := by decide +kernel
theorem d_MO_store_0 : decode b_MO_store 0 = .ok (.aload_n 0, 1) := by decide +kernel
theorem d_MO_store_1 : decode b_MO_store 1 = .ok (.iload_n 1, 1) := by decide +kernel
theorem d_MO_store_2 : decode b_MO_store 2 = .ok (.iload_n 2, 1) := by decide +kernel
theorem d_MO_store_3 : decode b_MO_store 3 = .ok (.invokevirtual 109, 3) := by decide +kernel
theorem d_MO_store_6 : decode b_MO_store 6 = .ok (.ifCond .ne 13, 3) := by decide +kernel
theorem d_MO_store_9 : decode b_MO_store 9 = .ok (.aload_n 0, 1) := by decide +kernel
theorem d_MO_store_10 : decode b_MO_store 10 = .ok (.getfield 14, 3) := by decide +kernel
theorem d_MO_store_13 : decode b_MO_store 13 = .ok (.iload_n 1, 1) := by decide +kernel
theorem d_MO_store_14 : decode b_MO_store 14 = .ok (.iload_n 2, 1) := by decide +kernel
theorem d_MO_store_15 : decode b_MO_store 15 = .ok (.lload_n 3, 1) := by decide +kernel
theorem d_MO_store_16 : decode b_MO_store 16 = .ok (.invokestatic 105, 3) := by decide +kernel
theorem d_MO_store_19 : decode b_MO_store 19 = .ok (.return_, 1) := by decide +kernel
theorem d_MO_begins_0 : decode b_MO_begins 0 = .ok (.aload_n 0, 1) := by decide +kernel
theorem d_MO_begins_1 : decode b_MO_begins 1 = .ok (.iload_n 1, 1) := by decide +kernel
theorem d_MO_begins_2 : decode b_MO_begins 2 = .ok (.invokevirtual 92, 3) := by decide +kernel
theorem d_MO_begins_5 : decode b_MO_begins 5 = .ok (.ifCond .eq 7, 3) := by decide +kernel
theorem d_MO_begins_8 : decode b_MO_begins 8 = .ok (.iconst 0, 1) := by decide +kernel
theorem d_MO_begins_9 : decode b_MO_begins 9 = .ok (.goto 9, 3) := by decide +kernel
theorem d_MO_begins_12 : decode b_MO_begins 12 = .ok (.aload_n 0, 1) := by decide +kernel
theorem d_MO_begins_13 : decode b_MO_begins 13 = .ok (.getfield 30, 3) := by decide +kernel
theorem d_MO_begins_16 : decode b_MO_begins 16 = .ok (.iload_n 1, 1) := by decide +kernel
theorem d_MO_begins_17 : decode b_MO_begins 17 = .ok (.iaload, 1) := by decide +kernel
theorem d_MO_begins_18 : decode b_MO_begins 18 = .ok (.ireturn, 1) := by decide +kernel
theorem d_MO_breaches_0 : decode b_MO_breaches 0 = .ok (.aload_n 0, 1) := by decide +kernel
theorem d_MO_breaches_1 : decode b_MO_breaches 1 = .ok (.iconst 0, 1) := by decide +kernel
theorem d_MO_breaches_2 : decode b_MO_breaches 2 = .ok (.putfield 60, 3) := by decide +kernel
theorem d_MO_breaches_5 : decode b_MO_breaches 5 = .ok (.aload_n 0, 1) := by decide +kernel
theorem d_MO_breaches_6 : decode b_MO_breaches 6 = .ok (.getfield 115, 3) := by decide +kernel
theorem d_MO_breaches_9 : decode b_MO_breaches 9 = .ok (.ireturn, 1) := by decide +kernel
def RepM (dA : Nat → ClassId) (w : mw_W) (own : as_W) (y : Nat) (cd : Int32) (S : as_S) : Prop := ∃ (A : Nat → Nat) (fe fk : Nat → Nat) (ec kc : Nat) (fi : Nat → Nat → Int32) (fl : Nat → Nat → Int64), mo_W dA w own y A cd (nI (gv S)) (nI (nm S)) (nI ec) (nI kc) (nI 0) fi fl ∧ mo_R fe fk ec kc fi fl S
/-- an answer of the model, its code, and its state afterwards -/
def MM (dA : Nat → ClassId) (w : mw_W) (own : as_W) (y : Nat) (ka : Nat → Nat) (sr : as_S × (Int32 ⊕ Nat)) : mw_R → mw_W → Prop := fun r w' => ∃ v cd' : Int32, r = .inl (some (.int v)) ∧ RepM dA w' own y cd' sr.1 ∧ FrM w own w' ∧ (∀ u, sr.2 = .inl u → v = u ∧ cd' = nI 0) ∧ ∀ k, sr.2 = .inr k → cd' = nI (ka k)
def kM : Nat → Nat := fun k => if k = 0 then 1 else 2
def kO : Nat → Nat := fun k => if k = 2 then 1 else 2
set_option maxRecDepth 100000 in
set_option maxHeartbeats 4000000 in
theorem c_MO_thrown (l : Launch) (D : va_G) (dA : Nat → ClassId) {w : mw_W} {own : as_W} {y : Nat} {A : Nat → Nat} {cd g n ec kc br : Int32} {fi : Nat → Nat → Int32} {fl : Nat → Nat → Int64} (hw : mo_W dA w own y A cd g n ec kc br fi fl) : CT l D dA y_MO_thrown (Cond.code y_MO_thrown b_MO_thrown 1 (some .int) :: Ts) 0 0 0 0 [.ref y] w (fun r w' => r = .inl (some (.int cd)) ∧ w' = w) := by
  refine mw_meth (by decide) mk_tb (Nat.le_of_ble_eq_true rfl) ?_
  intro p e s m below meth c K hr hlk hce hnm hP0 hSy ls hl
  have hl : lv_has ls 1 [(0, .ref y)] := hl
  obtain ⟨hx, hb, hml, hown, hts, hK, hTb⟩ := id K
  have hI := mw_I.start hP0
  refine lv_aload_n hx hb d_MO_thrown_0 rfl (lv_at hl 0 rfl) ?_
  refine mw_get K hI gf_MO_60_cMO hw.o rfl d_MO_thrown_1 ?_
  exact mw_iret K hI hr hlk ⟨rfl, rfl⟩ d_MO_thrown_4
set_option maxRecDepth 100000 in
set_option maxHeartbeats 4000000 in
theorem c_MO_maps (l : Launch) (D : va_G) (dA : Nat → ClassId) {w : mw_W} {own : as_W} {y : Nat} {A : Nat → Nat} {cd g n ec kc br : Int32} {fi : Nat → Nat → Int32} {fl : Nat → Nat → Int64} (hw : mo_W dA w own y A cd g n ec kc br fi fl) : CT l D dA y_MO_maps (Cond.code y_MO_maps b_MO_maps 1 (some .int) :: Ts) 0 0 0 0 [.ref y] w (fun r w' => r = .inl (some (.int n)) ∧ FrM w own w' ∧ mo_W dA w' own y A (nI 0) g n ec kc br fi fl) := by
  refine mw_meth (by decide) mk_tb (Nat.le_of_ble_eq_true rfl) ?_
  intro p e s m below meth c K hr hlk hce hnm hP0 hSy ls hl
  have hl : lv_has ls 1 [(0, .ref y)] := hl
  obtain ⟨hx, hb, hml, hown, hts, hK, hTb⟩ := id K
  have hI := mw_I.start hP0
  have hF := FrM.rf w own
  refine lv_aload_n hx hb d_MO_maps_0 rfl (lv_at hl 0 rfl) ?_
  refine lv_iconst (v := nI 0) hx hb d_MO_maps_1 (by decide) ?_
  refine mw_put K hI gp_MO_60_cMO (Or.inl ⟨_, rfl, rfl⟩) hw.o rfl rfl (by simp) d_MO_maps_2 (fun H locs hI => ?_)
  obtain ⟨wn1, hI, hF, hw⟩ := mo_W.seto (cd' := (nI 0)) (g' := g) (n' := n) (ec' := ec) (kc' := kc) (br' := br) hw hI hF
  refine lv_aload_n hx hb d_MO_maps_5 rfl (lv_at hl 0 rfl) ?_
  refine mw_get K hI gf_MO_80_cMO hw.o rfl d_MO_maps_6 ?_
  exact mw_iret K hI hr hlk ⟨rfl, hF, hw⟩ d_MO_maps_9
set_option maxRecDepth 100000 in
set_option maxHeartbeats 4000000 in
theorem c_MO_breaches (l : Launch) (D : va_G) (dA : Nat → ClassId) {w : mw_W} {own : as_W} {y : Nat} {A : Nat → Nat} {cd g n ec kc br : Int32} {fi : Nat → Nat → Int32} {fl : Nat → Nat → Int64} (hw : mo_W dA w own y A cd g n ec kc br fi fl) : CT l D dA y_MO_breaches (Cond.code y_MO_breaches b_MO_breaches 1 (some .int) :: Ts) 0 0 0 0 [.ref y] w (fun r w' => r = .inl (some (.int br)) ∧ FrM w own w' ∧ mo_W dA w' own y A (nI 0) g n ec kc br fi fl) := by
  refine mw_meth (by decide) mk_tb (Nat.le_of_ble_eq_true rfl) ?_
  intro p e s m below meth c K hr hlk hce hnm hP0 hSy ls hl
  have hl : lv_has ls 1 [(0, .ref y)] := hl
  obtain ⟨hx, hb, hml, hown, hts, hK, hTb⟩ := id K
  have hI := mw_I.start hP0
  have hF := FrM.rf w own
  refine lv_aload_n hx hb d_MO_breaches_0 rfl (lv_at hl 0 rfl) ?_
  refine lv_iconst (v := nI 0) hx hb d_MO_breaches_1 (by decide) ?_
  refine mw_put K hI gp_MO_60_cMO (Or.inl ⟨_, rfl, rfl⟩) hw.o rfl rfl (by simp) d_MO_breaches_2 (fun H locs hI => ?_)
  obtain ⟨wn2, hI, hF, hw⟩ := mo_W.seto (cd' := (nI 0)) (g' := g) (n' := n) (ec' := ec) (kc' := kc) (br' := br) hw hI hF
  refine lv_aload_n hx hb d_MO_breaches_5 rfl (lv_at hl 0 rfl) ?_
  refine mw_get K hI gf_MO_115_cMO hw.o rfl d_MO_breaches_6 ?_
  exact mw_iret K hI hr hlk ⟨rfl, hF, hw⟩ d_MO_breaches_9
set_option maxRecDepth 100000 in
set_option maxHeartbeats 4000000 in
theorem c_MO_noMap (l : Launch) (D : va_G) (dA : Nat → ClassId) {w : mw_W} {own : as_W} {y n : Nat} {A : Nat → Nat} {cd g ec kc br : Int32} {fi : Nat → Nat → Int32} {fl : Nat → Nat → Int64} (hw : mo_W dA w own y A cd g (nI n) ec kc br fi fl) (hn : n ≤ 64) (q : Int32) : CT l D dA y_MO_noMap (Cond.code y_MO_noMap b_MO_noMap 2 (some .boolean) :: Ts) 0 0 0 0 [.ref y, .int q] w (fun r w' => FrM w own w' ∧ ((0 ≤ q.toInt ∧ q.toInt < n ∧ r = .inl (some (.int (nI 0))) ∧ mo_W dA w' own y A (nI 0) g (nI n) ec kc br fi fl) ∨ (¬ (0 ≤ q.toInt ∧ q.toInt < n) ∧ r = .inl (some (.int (nI 1))) ∧ mo_W dA w' own y A (nI 1) g (nI n) ec kc br fi fl))) := by
  refine mw_meth (by decide) mk_tb (Nat.le_of_ble_eq_true rfl) ?_
  intro p e s m below meth c K hr hlk hce hnm hP0 hSy ls hl
  have hl : lv_has ls 2 [(0, .ref y), (1, .int q)] := hl
  obtain ⟨hx, hb, hml, hown, hts, hK, hTb⟩ := id K
  have hI := mw_I.start hP0
  have hF := FrM.rf w own
  refine lv_aload_n hx hb d_MO_noMap_0 rfl (lv_at hl 0 rfl) ?_
  refine lv_iload_n hx hb d_MO_noMap_1 rfl (lv_at hl 1 rfl) ?_
  refine lv_if_lt (tgt := 13) hx hb d_MO_noMap_2 (by decide) (fun c2 => ?_) (fun c2 => ?_)
  ·
    rw [Int32.lt_iff_toInt_lt, Int32.toInt_zero] at c2
    refine lv_iconst (v := nI 1) hx hb d_MO_noMap_13 (by decide) ?_
    refine lv_goto (tgt := 18) hx hb d_MO_noMap_14 (by decide) ?_
    refine mw_put K hI gp_MO_60_cMO (Or.inl ⟨_, rfl, rfl⟩) hw.o rfl rfl (by simp) d_MO_noMap_18 (fun H locs hI => ?_)
    obtain ⟨wn3, hI, hF, hw⟩ := mo_W.seto (cd' := (nI 1)) (g' := g) (n' := nI n) (ec' := ec) (kc' := kc) (br' := br) hw hI hF
    refine lv_aload_n hx hb d_MO_noMap_21 rfl (lv_at hl 0 rfl) ?_
    refine mw_get K hI gf_MO_60_cMO hw.o rfl d_MO_noMap_22 ?_
    refine lv_if_le (tgt := 32) hx hb d_MO_noMap_25 (by decide) (fun c25 => ?_) (fun c25 => ?_)
    ·
      exact absurd c25 (by decide)
    ·
      refine lv_iconst (v := nI 1) hx hb d_MO_noMap_28 (by decide) ?_
      refine lv_goto (tgt := 33) hx hb d_MO_noMap_29 (by decide) ?_
      exact mw_zret K hI hr hlk (Or.inr rfl) ⟨hF, Or.inr ⟨by omega, rfl, hw⟩⟩ d_MO_noMap_33
  ·
    rw [Int32.lt_iff_toInt_lt, Int32.toInt_zero] at c2
    refine lv_iload_n hx hb d_MO_noMap_5 rfl (lv_at hl 1 rfl) ?_
    refine lv_aload_n hx hb d_MO_noMap_6 rfl (lv_at hl 0 rfl) ?_
    refine mw_get K hI gf_MO_80_cMO hw.o rfl d_MO_noMap_7 ?_
    refine lv_icmp_lt (tgt := 17) hx hb d_MO_noMap_10 (by decide) (fun c10 => ?_) (fun c10 => ?_)
    ·
      rw [Int32.lt_iff_toInt_lt, nI_toInt (by omega)] at c10
      refine lv_iconst (v := nI 0) hx hb d_MO_noMap_17 (by decide) ?_
      refine mw_put K hI gp_MO_60_cMO (Or.inl ⟨_, rfl, rfl⟩) hw.o rfl rfl (by simp) d_MO_noMap_18 (fun H locs hI => ?_)
      obtain ⟨wn4, hI, hF, hw⟩ := mo_W.seto (cd' := (nI 0)) (g' := g) (n' := nI n) (ec' := ec) (kc' := kc) (br' := br) hw hI hF
      refine lv_aload_n hx hb d_MO_noMap_21 rfl (lv_at hl 0 rfl) ?_
      refine mw_get K hI gf_MO_60_cMO hw.o rfl d_MO_noMap_22 ?_
      refine lv_if_le (tgt := 32) hx hb d_MO_noMap_25 (by decide) (fun c25 => ?_) (fun c25 => ?_)
      ·
        refine lv_iconst (v := nI 0) hx hb d_MO_noMap_32 (by decide) ?_
        exact mw_zret K hI hr hlk (Or.inl rfl) ⟨hF, Or.inl ⟨by omega, by omega, rfl, hw⟩⟩ d_MO_noMap_33
      ·
        exact absurd (by decide) c25
    ·
      rw [Int32.lt_iff_toInt_lt, nI_toInt (by omega)] at c10
      refine lv_iconst (v := nI 1) hx hb d_MO_noMap_13 (by decide) ?_
      refine lv_goto (tgt := 18) hx hb d_MO_noMap_14 (by decide) ?_
      refine mw_put K hI gp_MO_60_cMO (Or.inl ⟨_, rfl, rfl⟩) hw.o rfl rfl (by simp) d_MO_noMap_18 (fun H locs hI => ?_)
      obtain ⟨wn5, hI, hF, hw⟩ := mo_W.seto (cd' := (nI 1)) (g' := g) (n' := nI n) (ec' := ec) (kc' := kc) (br' := br) hw hI hF
      refine lv_aload_n hx hb d_MO_noMap_21 rfl (lv_at hl 0 rfl) ?_
      refine mw_get K hI gf_MO_60_cMO hw.o rfl d_MO_noMap_22 ?_
      refine lv_if_le (tgt := 32) hx hb d_MO_noMap_25 (by decide) (fun c25 => ?_) (fun c25 => ?_)
      ·
        exact absurd c25 (by decide)
      ·
        refine lv_iconst (v := nI 1) hx hb d_MO_noMap_28 (by decide) ?_
        refine lv_goto (tgt := 33) hx hb d_MO_noMap_29 (by decide) ?_
        exact mw_zret K hI hr hlk (Or.inr rfl) ⟨hF, Or.inr ⟨by omega, rfl, hw⟩⟩ d_MO_noMap_33
set_option maxRecDepth 100000 in
set_option maxHeartbeats 4000000 in
theorem c_MO_number (l : Launch) (D : va_G) (dA : Nat → ClassId) {w : mw_W} {a N : Nat} {f : Nat → Int32} {d : Nat → Nat} (f0 : w a = some (.inl (dA tB, N, .inl f))) (hN : N ≤ 65536) (hf : ∀ j, j < N → f j = sB (d j)) (hd : ∀ j, d j < 256) {i k : Nat} (hk : k ≤ 8) (hi : i + k ≤ N) : CT l D dA y_MO_number (Cond.code y_MO_number b_MO_number 6 (some .long) :: Ts) 0 0 0 0 [.ref a, .int (nI i), .int (nI k)] w (fun r w' => r = .inl (some (.long (lN (bw_n d i k)))) ∧ w' = w) := by
  refine mw_meth (by decide) mk_tb (Nat.le_of_ble_eq_true rfl) ?_
  intro p e s m below meth c K hr hlk hce hnm hP0 hSy ls hl
  have hl : lv_has ls 6 [(0, .ref a), (1, .int (nI i)), (2, .int (nI k))] := hl
  obtain ⟨hx, hb, hml, hown, hts, hK, hTb⟩ := id K
  have hI := mw_I.start hP0
  have hneg : nI 0 - 1 < 0 := by decide
  have hloop : ∀ (j : Nat), j ≤ k → ∀ (H : Heap) (locs : List Loc), mw_I D mk_cl w s.heap w H locs → ∀ (v5 : Int32), v5 = nI j - 1 → ∀ ls : Array Slot, lv_has ls 6 [(5, .int v5), (3, .long (lN (bw_n d (i + j) (k - j)))), (0, .ref a), (1, .int (nI i))] → W p l e { frames := 0, cells := 0, slots := 0, locals := 0 } s m ([.ref a, .int (nI i), .int (nI k)] : List Value).toArray below meth c H locs 0 0 (mx_Q below (mw_Qc D mk_cl w s.heap.size (fun r w' => r = .inl (some (.long (lN (bw_n d i k)))) ∧ w' = w)) ([.ref a, .int (nI i), .int (nI k)] : List Value).toArray s 0 0 (mw_A w s.heap.size)) (F0 m 7 ls []) := by
    intro j
    induction j with
    | zero =>
      intro hj H locs hI v5 hv ls hl
      subst hv
      refine lv_iload hx hb d_MO_number_7 (lv_at hl 0 rfl) ?_
      refine lv_if_lt (tgt := 36) hx hb d_MO_number_9 (by decide) (fun c9 => ?_) (fun c9 => ?_)
      ·
        refine lv_lload_n hx hb d_MO_number_36 rfl (lv_at hl 1 rfl) ?_
        exact mw_lret K hI hr hlk ⟨rfl, rfl⟩ d_MO_number_37
      · exact absurd hneg c9
    | succ j ih =>
      intro hj H locs hI v5 hv ls hl
      rw [nI_pred] at hv
      subst hv
      refine lv_iload hx hb d_MO_number_7 (lv_at hl 0 rfl) ?_
      refine lv_if_lt (tgt := 36) hx hb d_MO_number_9 (by decide) (fun c9 => ?_) (fun c9 => ?_)
      · exact absurd c9 (nI_pos (by omega))
      ·
        have hdj := hd (i + j)
        have hfj := hf (i + j) (by omega)
        refine lv_ldc2 (v := lN 256) hx hb hown (hts _ tw_712) d_MO_number_12 ?_
        refine lv_lload_n hx hb d_MO_number_15 rfl (lv_at hl 1 rfl) ?_
        refine lv_lmul hx hb d_MO_number_16 ?_
        refine mw_tl (lN_mul _ _) ?_
        refine lv_aload_n hx hb d_MO_number_17 rfl (lv_at hl 2 rfl) ?_
        refine lv_iload_n hx hb d_MO_number_18 rfl (lv_at hl 3 rfl) ?_
        refine lv_iload hx hb d_MO_number_19 (lv_at hl 0 rfl) ?_
        refine lv_iadd hx hb d_MO_number_21 ?_
        refine mw_ti (nI_add _ _) ?_
        refine mw_bald K hI tB f0 rfl (i + j) rfl (by first | assumption | omega) (by omega) d_MO_number_22 ?_
        refine lv_sipush (v := nI 255) hx hb d_MO_number_23 (by decide) ?_
        refine lv_iand hx hb d_MO_number_26 ?_
        refine mw_ti (y := nI (d (i + j))) ((by rw [hfj, sB_and hdj])) ?_
        refine lv_i2l hx hb d_MO_number_27 rfl ?_
        refine mw_tl (nI_l (by omega)) ?_
        refine lv_ladd hx hb d_MO_number_28 ?_
        refine mw_tl (lN_add _ _) ?_
        refine mw_tl (y := lN (bw_n d (i + j) (k - j))) ((by congr 1; rw [show k - j = (k - (j + 1)) + 1 by omega, bw_n, Nat.add_assoc i j 1]; omega)) ?_
        refine lv_lstore_n (lv' := [(3, .long (lN (bw_n d (i + j) (k - j)))), (5, .int (nI j)), (0, .ref a), (1, .int (nI i))]) hx hb d_MO_number_29 rfl hl (by decide) rfl (fun ls hl => ?_)
        refine lv_iinc (v := nI j - 1) (lv' := [(5, .int (nI j - 1)), (3, .long (lN (bw_n d (i + j) (k - j)))), (0, .ref a), (1, .int (nI i))]) hx hb d_MO_number_30 hl (k := 1) rfl ((by rw [Int32.sub_eq_add_neg]; rfl)) (by decide) rfl (fun ls hl => ?_)
        refine lv_goto (tgt := 7) hx hb d_MO_number_33 (by decide) ?_
        exact ih (by omega) H locs hI _ rfl ls (lv_sub hl [0, 1, 2, 3] rfl)
  refine lv_lconst (v := lN 0) hx hb d_MO_number_0 (by decide) ?_
  refine lv_lstore_n (lv' := [(3, .long (lN 0)), (0, .ref a), (1, .int (nI i)), (2, .int (nI k))]) hx hb d_MO_number_1 rfl hl (by decide) rfl (fun ls hl => ?_)
  refine lv_iload_n hx hb d_MO_number_2 rfl (lv_at hl 3 rfl) ?_
  refine lv_iconst (v := nI 1) hx hb d_MO_number_3 (by decide) ?_
  refine lv_isub hx hb d_MO_number_4 ?_
  refine lv_istore (lv' := [(5, .int (nI k - nI 1)), (3, .long (lN 0)), (0, .ref a), (1, .int (nI i)), (2, .int (nI k))]) hx hb d_MO_number_5 hl (by decide) rfl (fun ls hl => ?_)
  exact hloop k (Nat.le_refl k) _ _ hI _ rfl ls (lv_sub hl [0, 1, 2, 3] (by rw [Nat.sub_self]; rfl))
set_option maxRecDepth 100000 in
set_option maxHeartbeats 4000000 in
theorem c_MO_putB (l : Launch) (D : va_G) (dA : Nat → ClassId) {w : mw_W} {a N : Nat} {f : Nat → Int32} (f0 : w a = some (.inl (dA tB, N, .inl f))) (hN : N ≤ 65536) {i k : Nat} (hk : k ≤ 8) (hi : i + k ≤ N) (v : Int64) : CT l D dA y_MO_putB (Cond.code y_MO_putB b_MO_putB 6 none :: Ts) 0 0 0 0 [.ref a, .int (nI i), .int (nI k), .long v] w (fun r w' => r = .inl none ∧ ∃ f', w' = mw_up w a (.inl (dA tB, N, .inl f')) ∧ ∀ j, f' j = if i ≤ j ∧ j < i + k then sB (uN v / 2 ^ (8 * (j - i)) % 256) else f j) := by
  refine mw_meth (by decide) mk_tb (Nat.le_of_ble_eq_true rfl) ?_
  intro p e s m below meth c K hr hlk hce hnm hP0 hSy ls hl
  have hl : lv_has ls 6 [(0, .ref a), (1, .int (nI i)), (2, .int (nI k)), (3, .long v)] := hl
  obtain ⟨hx, hb, hml, hown, hts, hK, hTb⟩ := id K
  have hI := mw_I.start hP0
  have hloop : ∀ (q j : Nat), j + q = k → ∀ (f1 : Nat → Int32), (∀ z, f1 z = if i ≤ z ∧ z < i + j then sB (uN v / 2 ^ (8 * (z - i)) % 256) else f z) → ∀ (H : Heap) (locs : List Loc), mw_I D mk_cl w s.heap (mw_up w a (.inl (dA tB, N, .inl f1))) H locs → ∀ ls : Array Slot, lv_has ls 6 [(5, .int (nI j)), (0, .ref a), (1, .int (nI i)), (2, .int (nI k)), (3, .long v)] → W p l e { frames := 0, cells := 0, slots := 0, locals := 0 } s m ([.ref a, .int (nI i), .int (nI k), .long v] : List Value).toArray below meth c H locs 0 0 (mx_Q below (mw_Qc D mk_cl w s.heap.size (fun r w' => r = .inl none ∧ ∃ f', w' = mw_up w a (.inl (dA tB, N, .inl f')) ∧ ∀ j, f' j = if i ≤ j ∧ j < i + k then sB (uN v / 2 ^ (8 * (j - i)) % 256) else f j)) ([.ref a, .int (nI i), .int (nI k), .long v] : List Value).toArray s 0 0 (mw_A w s.heap.size)) (F0 m 3 ls []) := by
    intro q
    induction q with
    | zero =>
      intro j hj f1 hf1 H locs hI ls hl
      refine lv_iload hx hb d_MO_putB_3 (lv_at hl 0 rfl) ?_
      refine lv_iload_n hx hb d_MO_putB_5 rfl (lv_at hl 3 rfl) ?_
      refine lv_icmp_ge (tgt := 30) hx hb d_MO_putB_6 (by decide) (fun c6 => ?_) (fun c6 => ?_)
      ·
        have e : j = k := by omega
        subst e
        exact mw_vret K hI hr hlk ⟨rfl, f1, rfl, hf1⟩ d_MO_putB_30
      ·
        exact absurd (nI_le (by omega) (by omega)) c6
    | succ q ih =>
      intro j hj f1 hf1 H locs hI ls hl
      have fa := mw_up_s w a (.inl (dA tB, N, .inl f1))
      refine lv_iload hx hb d_MO_putB_3 (lv_at hl 0 rfl) ?_
      refine lv_iload_n hx hb d_MO_putB_5 rfl (lv_at hl 3 rfl) ?_
      refine lv_icmp_ge (tgt := 30) hx hb d_MO_putB_6 (by decide) (fun c6 => ?_) (fun c6 => ?_)
      ·
        exact absurd c6 (nI_ge (by omega) (by omega))
      ·
        refine lv_aload_n hx hb d_MO_putB_9 rfl (lv_at hl 1 rfl) ?_
        refine lv_iload_n hx hb d_MO_putB_10 rfl (lv_at hl 2 rfl) ?_
        refine lv_iload hx hb d_MO_putB_11 (lv_at hl 0 rfl) ?_
        refine lv_iadd hx hb d_MO_putB_13 ?_
        refine mw_ti (nI_add _ _) ?_
        refine lv_lload_n hx hb d_MO_putB_14 rfl (lv_at hl 4 rfl) ?_
        refine lv_bipush (v := nI 8) hx hb d_MO_putB_15 (by decide) ?_
        refine lv_iload hx hb d_MO_putB_17 (lv_at hl 0 rfl) ?_
        refine lv_imul hx hb d_MO_putB_19 ?_
        refine mw_ti (pk_mul _ _) ?_
        refine lv_lshr hx hb d_MO_putB_20 rfl ?_
        refine lv_l2i hx hb d_MO_putB_21 rfl ?_
        refine lv_i2b hx hb d_MO_putB_22 rfl ?_
        refine mw_ti (y := sB (uN v / 2 ^ (8 * j) % 256)) (sB_shr v (by omega)) ?_
        refine mw_bast K hI tB fa rfl (i + j) rfl (by omega) (by omega) d_MO_putB_23 (fun H locs hI => ?_)
        rw [mw_uu, sB_nar (Nat.mod_lt _ (by decide))] at hI
        refine lv_iinc (v := nI (j + 1)) (lv' := [(5, .int (nI (j + 1))), (0, .ref a), (1, .int (nI i)), (2, .int (nI k)), (3, .long v)]) hx hb d_MO_putB_24 hl (k := 0) rfl (nI_add _ _) (by decide) rfl (fun ls hl => ?_)
        refine lv_goto (tgt := 3) hx hb d_MO_putB_27 (by decide) ?_
        refine ih (j + 1) (by omega) _ (fun z => ?_) H locs hI ls (lv_sub hl [0, 1, 2, 3, 4] rfl)
        show (if z = i + j then sB (uN v / 2 ^ (8 * j) % 256) else f1 z) = _
        by_cases e : z = i + j
        · rw [if_pos e, if_pos (by omega), e, Nat.add_sub_cancel_left]
        · rw [if_neg e, hf1 z]
          by_cases e2 : i ≤ z ∧ z < i + j
          · rw [if_pos e2, if_pos (by omega)]
          · rw [if_neg e2, if_neg (by omega)]
  refine lv_iconst (v := nI 0) hx hb d_MO_putB_0 (by decide) ?_
  refine lv_istore (lv' := [(5, .int (nI 0)), (0, .ref a), (1, .int (nI i)), (2, .int (nI k)), (3, .long v)]) hx hb d_MO_putB_1 hl (by decide) rfl (fun ls hl => ?_)
  have hI : mw_I D mk_cl w s.heap (mw_up w a (.inl (dA tB, N, .inl f))) s.heap [] := by rw [← mw_self f0]; exact hI
  exact hloop k 0 (by omega) f (fun z => by rw [if_neg (by omega)]) _ _ hI ls (lv_sub hl [0, 1, 2, 3, 4] rfl)
