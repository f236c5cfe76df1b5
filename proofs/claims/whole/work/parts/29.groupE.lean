def rm_J6_bitCount_0f7a4 : Room := { frames := 0, cells := 0, slots := 0, locals := 0 }
set_option maxHeartbeats 4000000 in
set_option maxRecDepth 100000 in
theorem c_J6_bitCount_0f7a4 {l : Launch} {D : va_G} {G : gT} (y : Nat) (hy : y < 16) : CtI (σ := Unit) l yJ6_bitCount_0f7a4 wsJ6_bitCount_0f7a4 rm_J6_bitCount_0f7a4 D G [.int (nI y)] [] (fun r _ => r = nI (oneN y 4)) (fun _ => []) := by
  refine openI (maxL := 1) (by decide) rfl (Nat.le_of_ble_eq_true rfl) ?_
  intro pg ev sg mm ags bl me cd A Q F hmn rt
  refine v_lv (lz := [(0, .int (nI y))]) rfl ?_
  refine v_iload_n (pc' := 1) F dJ6_bitCount_0f7a4_0 rfl 0 rfl rfl ?_
  refine v_iload_n (pc' := 2) F dJ6_bitCount_0f7a4_1 rfl 0 rfl rfl ?_
  refine v_iconst (pc' := 3) (v := nI 1) F dJ6_bitCount_0f7a4_2 (by decide) rfl ?_
  refine v_iushr (pc' := 4) (z := ((nI y).toUInt32 >>> ((nI 1).toUInt32 &&& Int32.toUInt32 31)).toInt32) F dJ6_bitCount_0f7a4_3 rfl rfl ?_
  refine v_ldcw (pc' := 7) (v := nI 1431655765) F dJ6_bitCount_0f7a4_4 (List.mem_of_getElem? (i := 1) rfl) rfl ?_
  refine v_iand (pc' := 8) (z := (((nI y).toUInt32 >>> ((nI 1).toUInt32 &&& Int32.toUInt32 31)).toInt32) &&& (nI 1431655765)) F dJ6_bitCount_0f7a4_7 rfl rfl ?_
  refine v_isub (pc' := 9) (z := (nI y) - ((((nI y).toUInt32 >>> ((nI 1).toUInt32 &&& Int32.toUInt32 31)).toInt32) &&& (nI 1431655765))) F dJ6_bitCount_0f7a4_8 rfl rfl ?_
  refine v_istore_n (pc' := 10) (lv' := [(0, .int ((nI y) - ((((nI y).toUInt32 >>> ((nI 1).toUInt32 &&& Int32.toUInt32 31)).toInt32) &&& (nI 1431655765))))]) F dJ6_bitCount_0f7a4_9 rfl (by decide) rfl rfl ?_
  refine v_iload_n (pc' := 11) F dJ6_bitCount_0f7a4_10 rfl 0 rfl rfl ?_
  refine v_ldcw (pc' := 14) (v := nI 858993459) F dJ6_bitCount_0f7a4_11 (List.mem_of_getElem? (i := 2) rfl) rfl ?_
  refine v_iand (pc' := 15) (z := ((nI y) - ((((nI y).toUInt32 >>> ((nI 1).toUInt32 &&& Int32.toUInt32 31)).toInt32) &&& (nI 1431655765))) &&& (nI 858993459)) F dJ6_bitCount_0f7a4_14 rfl rfl ?_
  refine v_iload_n (pc' := 16) F dJ6_bitCount_0f7a4_15 rfl 0 rfl rfl ?_
  refine v_iconst (pc' := 17) (v := nI 2) F dJ6_bitCount_0f7a4_16 (by decide) rfl ?_
  refine v_iushr (pc' := 18) (z := (((nI y) - ((((nI y).toUInt32 >>> ((nI 1).toUInt32 &&& Int32.toUInt32 31)).toInt32) &&& (nI 1431655765))).toUInt32 >>> ((nI 2).toUInt32 &&& Int32.toUInt32 31)).toInt32) F dJ6_bitCount_0f7a4_17 rfl rfl ?_
  refine v_ldcw (pc' := 21) (v := nI 858993459) F dJ6_bitCount_0f7a4_18 (List.mem_of_getElem? (i := 2) rfl) rfl ?_
  refine v_iand (pc' := 22) (z := ((((nI y) - ((((nI y).toUInt32 >>> ((nI 1).toUInt32 &&& Int32.toUInt32 31)).toInt32) &&& (nI 1431655765))).toUInt32 >>> ((nI 2).toUInt32 &&& Int32.toUInt32 31)).toInt32) &&& (nI 858993459)) F dJ6_bitCount_0f7a4_21 rfl rfl ?_
  refine v_iadd (pc' := 23) (z := (((nI y) - ((((nI y).toUInt32 >>> ((nI 1).toUInt32 &&& Int32.toUInt32 31)).toInt32) &&& (nI 1431655765))) &&& (nI 858993459)) + (((((nI y) - ((((nI y).toUInt32 >>> ((nI 1).toUInt32 &&& Int32.toUInt32 31)).toInt32) &&& (nI 1431655765))).toUInt32 >>> ((nI 2).toUInt32 &&& Int32.toUInt32 31)).toInt32) &&& (nI 858993459))) F dJ6_bitCount_0f7a4_22 rfl rfl ?_
  refine v_istore_n (pc' := 24) (lv' := [(0, .int ((((nI y) - ((((nI y).toUInt32 >>> ((nI 1).toUInt32 &&& Int32.toUInt32 31)).toInt32) &&& (nI 1431655765))) &&& (nI 858993459)) + (((((nI y) - ((((nI y).toUInt32 >>> ((nI 1).toUInt32 &&& Int32.toUInt32 31)).toInt32) &&& (nI 1431655765))).toUInt32 >>> ((nI 2).toUInt32 &&& Int32.toUInt32 31)).toInt32) &&& (nI 858993459))))]) F dJ6_bitCount_0f7a4_23 rfl (by decide) rfl rfl ?_
  refine v_iload_n (pc' := 25) F dJ6_bitCount_0f7a4_24 rfl 0 rfl rfl ?_
  refine v_iload_n (pc' := 26) F dJ6_bitCount_0f7a4_25 rfl 0 rfl rfl ?_
  refine v_iconst (pc' := 27) (v := nI 4) F dJ6_bitCount_0f7a4_26 (by decide) rfl ?_
  refine v_iushr (pc' := 28) (z := (((((nI y) - ((((nI y).toUInt32 >>> ((nI 1).toUInt32 &&& Int32.toUInt32 31)).toInt32) &&& (nI 1431655765))) &&& (nI 858993459)) + (((((nI y) - ((((nI y).toUInt32 >>> ((nI 1).toUInt32 &&& Int32.toUInt32 31)).toInt32) &&& (nI 1431655765))).toUInt32 >>> ((nI 2).toUInt32 &&& Int32.toUInt32 31)).toInt32) &&& (nI 858993459))).toUInt32 >>> ((nI 4).toUInt32 &&& Int32.toUInt32 31)).toInt32) F dJ6_bitCount_0f7a4_27 rfl rfl ?_
  refine v_iadd (pc' := 29) (z := ((((nI y) - ((((nI y).toUInt32 >>> ((nI 1).toUInt32 &&& Int32.toUInt32 31)).toInt32) &&& (nI 1431655765))) &&& (nI 858993459)) + (((((nI y) - ((((nI y).toUInt32 >>> ((nI 1).toUInt32 &&& Int32.toUInt32 31)).toInt32) &&& (nI 1431655765))).toUInt32 >>> ((nI 2).toUInt32 &&& Int32.toUInt32 31)).toInt32) &&& (nI 858993459))) + ((((((nI y) - ((((nI y).toUInt32 >>> ((nI 1).toUInt32 &&& Int32.toUInt32 31)).toInt32) &&& (nI 1431655765))) &&& (nI 858993459)) + (((((nI y) - ((((nI y).toUInt32 >>> ((nI 1).toUInt32 &&& Int32.toUInt32 31)).toInt32) &&& (nI 1431655765))).toUInt32 >>> ((nI 2).toUInt32 &&& Int32.toUInt32 31)).toInt32) &&& (nI 858993459))).toUInt32 >>> ((nI 4).toUInt32 &&& Int32.toUInt32 31)).toInt32)) F dJ6_bitCount_0f7a4_28 rfl rfl ?_
  refine v_ldcw (pc' := 32) (v := nI 252645135) F dJ6_bitCount_0f7a4_29 (List.mem_of_getElem? (i := 3) rfl) rfl ?_
  refine v_iand (pc' := 33) (z := (((((nI y) - ((((nI y).toUInt32 >>> ((nI 1).toUInt32 &&& Int32.toUInt32 31)).toInt32) &&& (nI 1431655765))) &&& (nI 858993459)) + (((((nI y) - ((((nI y).toUInt32 >>> ((nI 1).toUInt32 &&& Int32.toUInt32 31)).toInt32) &&& (nI 1431655765))).toUInt32 >>> ((nI 2).toUInt32 &&& Int32.toUInt32 31)).toInt32) &&& (nI 858993459))) + ((((((nI y) - ((((nI y).toUInt32 >>> ((nI 1).toUInt32 &&& Int32.toUInt32 31)).toInt32) &&& (nI 1431655765))) &&& (nI 858993459)) + (((((nI y) - ((((nI y).toUInt32 >>> ((nI 1).toUInt32 &&& Int32.toUInt32 31)).toInt32) &&& (nI 1431655765))).toUInt32 >>> ((nI 2).toUInt32 &&& Int32.toUInt32 31)).toInt32) &&& (nI 858993459))).toUInt32 >>> ((nI 4).toUInt32 &&& Int32.toUInt32 31)).toInt32)) &&& (nI 252645135)) F dJ6_bitCount_0f7a4_32 rfl rfl ?_
  refine v_istore_n (pc' := 34) (lv' := [(0, .int ((((((nI y) - ((((nI y).toUInt32 >>> ((nI 1).toUInt32 &&& Int32.toUInt32 31)).toInt32) &&& (nI 1431655765))) &&& (nI 858993459)) + (((((nI y) - ((((nI y).toUInt32 >>> ((nI 1).toUInt32 &&& Int32.toUInt32 31)).toInt32) &&& (nI 1431655765))).toUInt32 >>> ((nI 2).toUInt32 &&& Int32.toUInt32 31)).toInt32) &&& (nI 858993459))) + ((((((nI y) - ((((nI y).toUInt32 >>> ((nI 1).toUInt32 &&& Int32.toUInt32 31)).toInt32) &&& (nI 1431655765))) &&& (nI 858993459)) + (((((nI y) - ((((nI y).toUInt32 >>> ((nI 1).toUInt32 &&& Int32.toUInt32 31)).toInt32) &&& (nI 1431655765))).toUInt32 >>> ((nI 2).toUInt32 &&& Int32.toUInt32 31)).toInt32) &&& (nI 858993459))).toUInt32 >>> ((nI 4).toUInt32 &&& Int32.toUInt32 31)).toInt32)) &&& (nI 252645135)))]) F dJ6_bitCount_0f7a4_33 rfl (by decide) rfl rfl ?_
  refine v_iload_n (pc' := 35) F dJ6_bitCount_0f7a4_34 rfl 0 rfl rfl ?_
  refine v_iload_n (pc' := 36) F dJ6_bitCount_0f7a4_35 rfl 0 rfl rfl ?_
  refine v_bipush (pc' := 38) (v := nI 8) F dJ6_bitCount_0f7a4_36 (by decide) rfl ?_
  refine v_iushr (pc' := 39) (z := (((((((nI y) - ((((nI y).toUInt32 >>> ((nI 1).toUInt32 &&& Int32.toUInt32 31)).toInt32) &&& (nI 1431655765))) &&& (nI 858993459)) + (((((nI y) - ((((nI y).toUInt32 >>> ((nI 1).toUInt32 &&& Int32.toUInt32 31)).toInt32) &&& (nI 1431655765))).toUInt32 >>> ((nI 2).toUInt32 &&& Int32.toUInt32 31)).toInt32) &&& (nI 858993459))) + ((((((nI y) - ((((nI y).toUInt32 >>> ((nI 1).toUInt32 &&& Int32.toUInt32 31)).toInt32) &&& (nI 1431655765))) &&& (nI 858993459)) + (((((nI y) - ((((nI y).toUInt32 >>> ((nI 1).toUInt32 &&& Int32.toUInt32 31)).toInt32) &&& (nI 1431655765))).toUInt32 >>> ((nI 2).toUInt32 &&& Int32.toUInt32 31)).toInt32) &&& (nI 858993459))).toUInt32 >>> ((nI 4).toUInt32 &&& Int32.toUInt32 31)).toInt32)) &&& (nI 252645135)).toUInt32 >>> ((nI 8).toUInt32 &&& Int32.toUInt32 31)).toInt32) F dJ6_bitCount_0f7a4_38 rfl rfl ?_
  refine v_iadd (pc' := 40) (z := ((((((nI y) - ((((nI y).toUInt32 >>> ((nI 1).toUInt32 &&& Int32.toUInt32 31)).toInt32) &&& (nI 1431655765))) &&& (nI 858993459)) + (((((nI y) - ((((nI y).toUInt32 >>> ((nI 1).toUInt32 &&& Int32.toUInt32 31)).toInt32) &&& (nI 1431655765))).toUInt32 >>> ((nI 2).toUInt32 &&& Int32.toUInt32 31)).toInt32) &&& (nI 858993459))) + ((((((nI y) - ((((nI y).toUInt32 >>> ((nI 1).toUInt32 &&& Int32.toUInt32 31)).toInt32) &&& (nI 1431655765))) &&& (nI 858993459)) + (((((nI y) - ((((nI y).toUInt32 >>> ((nI 1).toUInt32 &&& Int32.toUInt32 31)).toInt32) &&& (nI 1431655765))).toUInt32 >>> ((nI 2).toUInt32 &&& Int32.toUInt32 31)).toInt32) &&& (nI 858993459))).toUInt32 >>> ((nI 4).toUInt32 &&& Int32.toUInt32 31)).toInt32)) &&& (nI 252645135)) + ((((((((nI y) - ((((nI y).toUInt32 >>> ((nI 1).toUInt32 &&& Int32.toUInt32 31)).toInt32) &&& (nI 1431655765))) &&& (nI 858993459)) + (((((nI y) - ((((nI y).toUInt32 >>> ((nI 1).toUInt32 &&& Int32.toUInt32 31)).toInt32) &&& (nI 1431655765))).toUInt32 >>> ((nI 2).toUInt32 &&& Int32.toUInt32 31)).toInt32) &&& (nI 858993459))) + ((((((nI y) - ((((nI y).toUInt32 >>> ((nI 1).toUInt32 &&& Int32.toUInt32 31)).toInt32) &&& (nI 1431655765))) &&& (nI 858993459)) + (((((nI y) - ((((nI y).toUInt32 >>> ((nI 1).toUInt32 &&& Int32.toUInt32 31)).toInt32) &&& (nI 1431655765))).toUInt32 >>> ((nI 2).toUInt32 &&& Int32.toUInt32 31)).toInt32) &&& (nI 858993459))).toUInt32 >>> ((nI 4).toUInt32 &&& Int32.toUInt32 31)).toInt32)) &&& (nI 252645135)).toUInt32 >>> ((nI 8).toUInt32 &&& Int32.toUInt32 31)).toInt32)) F dJ6_bitCount_0f7a4_39 rfl rfl ?_
  refine v_istore_n (pc' := 41) (lv' := [(0, .int (((((((nI y) - ((((nI y).toUInt32 >>> ((nI 1).toUInt32 &&& Int32.toUInt32 31)).toInt32) &&& (nI 1431655765))) &&& (nI 858993459)) + (((((nI y) - ((((nI y).toUInt32 >>> ((nI 1).toUInt32 &&& Int32.toUInt32 31)).toInt32) &&& (nI 1431655765))).toUInt32 >>> ((nI 2).toUInt32 &&& Int32.toUInt32 31)).toInt32) &&& (nI 858993459))) + ((((((nI y) - ((((nI y).toUInt32 >>> ((nI 1).toUInt32 &&& Int32.toUInt32 31)).toInt32) &&& (nI 1431655765))) &&& (nI 858993459)) + (((((nI y) - ((((nI y).toUInt32 >>> ((nI 1).toUInt32 &&& Int32.toUInt32 31)).toInt32) &&& (nI 1431655765))).toUInt32 >>> ((nI 2).toUInt32 &&& Int32.toUInt32 31)).toInt32) &&& (nI 858993459))).toUInt32 >>> ((nI 4).toUInt32 &&& Int32.toUInt32 31)).toInt32)) &&& (nI 252645135)) + ((((((((nI y) - ((((nI y).toUInt32 >>> ((nI 1).toUInt32 &&& Int32.toUInt32 31)).toInt32) &&& (nI 1431655765))) &&& (nI 858993459)) + (((((nI y) - ((((nI y).toUInt32 >>> ((nI 1).toUInt32 &&& Int32.toUInt32 31)).toInt32) &&& (nI 1431655765))).toUInt32 >>> ((nI 2).toUInt32 &&& Int32.toUInt32 31)).toInt32) &&& (nI 858993459))) + ((((((nI y) - ((((nI y).toUInt32 >>> ((nI 1).toUInt32 &&& Int32.toUInt32 31)).toInt32) &&& (nI 1431655765))) &&& (nI 858993459)) + (((((nI y) - ((((nI y).toUInt32 >>> ((nI 1).toUInt32 &&& Int32.toUInt32 31)).toInt32) &&& (nI 1431655765))).toUInt32 >>> ((nI 2).toUInt32 &&& Int32.toUInt32 31)).toInt32) &&& (nI 858993459))).toUInt32 >>> ((nI 4).toUInt32 &&& Int32.toUInt32 31)).toInt32)) &&& (nI 252645135)).toUInt32 >>> ((nI 8).toUInt32 &&& Int32.toUInt32 31)).toInt32)))]) F dJ6_bitCount_0f7a4_40 rfl (by decide) rfl rfl ?_
  refine v_iload_n (pc' := 42) F dJ6_bitCount_0f7a4_41 rfl 0 rfl rfl ?_
  refine v_iload_n (pc' := 43) F dJ6_bitCount_0f7a4_42 rfl 0 rfl rfl ?_
  refine v_bipush (pc' := 45) (v := nI 16) F dJ6_bitCount_0f7a4_43 (by decide) rfl ?_
  refine v_iushr (pc' := 46) (z := ((((((((nI y) - ((((nI y).toUInt32 >>> ((nI 1).toUInt32 &&& Int32.toUInt32 31)).toInt32) &&& (nI 1431655765))) &&& (nI 858993459)) + (((((nI y) - ((((nI y).toUInt32 >>> ((nI 1).toUInt32 &&& Int32.toUInt32 31)).toInt32) &&& (nI 1431655765))).toUInt32 >>> ((nI 2).toUInt32 &&& Int32.toUInt32 31)).toInt32) &&& (nI 858993459))) + ((((((nI y) - ((((nI y).toUInt32 >>> ((nI 1).toUInt32 &&& Int32.toUInt32 31)).toInt32) &&& (nI 1431655765))) &&& (nI 858993459)) + (((((nI y) - ((((nI y).toUInt32 >>> ((nI 1).toUInt32 &&& Int32.toUInt32 31)).toInt32) &&& (nI 1431655765))).toUInt32 >>> ((nI 2).toUInt32 &&& Int32.toUInt32 31)).toInt32) &&& (nI 858993459))).toUInt32 >>> ((nI 4).toUInt32 &&& Int32.toUInt32 31)).toInt32)) &&& (nI 252645135)) + ((((((((nI y) - ((((nI y).toUInt32 >>> ((nI 1).toUInt32 &&& Int32.toUInt32 31)).toInt32) &&& (nI 1431655765))) &&& (nI 858993459)) + (((((nI y) - ((((nI y).toUInt32 >>> ((nI 1).toUInt32 &&& Int32.toUInt32 31)).toInt32) &&& (nI 1431655765))).toUInt32 >>> ((nI 2).toUInt32 &&& Int32.toUInt32 31)).toInt32) &&& (nI 858993459))) + ((((((nI y) - ((((nI y).toUInt32 >>> ((nI 1).toUInt32 &&& Int32.toUInt32 31)).toInt32) &&& (nI 1431655765))) &&& (nI 858993459)) + (((((nI y) - ((((nI y).toUInt32 >>> ((nI 1).toUInt32 &&& Int32.toUInt32 31)).toInt32) &&& (nI 1431655765))).toUInt32 >>> ((nI 2).toUInt32 &&& Int32.toUInt32 31)).toInt32) &&& (nI 858993459))).toUInt32 >>> ((nI 4).toUInt32 &&& Int32.toUInt32 31)).toInt32)) &&& (nI 252645135)).toUInt32 >>> ((nI 8).toUInt32 &&& Int32.toUInt32 31)).toInt32)).toUInt32 >>> ((nI 16).toUInt32 &&& Int32.toUInt32 31)).toInt32) F dJ6_bitCount_0f7a4_45 rfl rfl ?_
  refine v_iadd (pc' := 47) (z := (((((((nI y) - ((((nI y).toUInt32 >>> ((nI 1).toUInt32 &&& Int32.toUInt32 31)).toInt32) &&& (nI 1431655765))) &&& (nI 858993459)) + (((((nI y) - ((((nI y).toUInt32 >>> ((nI 1).toUInt32 &&& Int32.toUInt32 31)).toInt32) &&& (nI 1431655765))).toUInt32 >>> ((nI 2).toUInt32 &&& Int32.toUInt32 31)).toInt32) &&& (nI 858993459))) + ((((((nI y) - ((((nI y).toUInt32 >>> ((nI 1).toUInt32 &&& Int32.toUInt32 31)).toInt32) &&& (nI 1431655765))) &&& (nI 858993459)) + (((((nI y) - ((((nI y).toUInt32 >>> ((nI 1).toUInt32 &&& Int32.toUInt32 31)).toInt32) &&& (nI 1431655765))).toUInt32 >>> ((nI 2).toUInt32 &&& Int32.toUInt32 31)).toInt32) &&& (nI 858993459))).toUInt32 >>> ((nI 4).toUInt32 &&& Int32.toUInt32 31)).toInt32)) &&& (nI 252645135)) + ((((((((nI y) - ((((nI y).toUInt32 >>> ((nI 1).toUInt32 &&& Int32.toUInt32 31)).toInt32) &&& (nI 1431655765))) &&& (nI 858993459)) + (((((nI y) - ((((nI y).toUInt32 >>> ((nI 1).toUInt32 &&& Int32.toUInt32 31)).toInt32) &&& (nI 1431655765))).toUInt32 >>> ((nI 2).toUInt32 &&& Int32.toUInt32 31)).toInt32) &&& (nI 858993459))) + ((((((nI y) - ((((nI y).toUInt32 >>> ((nI 1).toUInt32 &&& Int32.toUInt32 31)).toInt32) &&& (nI 1431655765))) &&& (nI 858993459)) + (((((nI y) - ((((nI y).toUInt32 >>> ((nI 1).toUInt32 &&& Int32.toUInt32 31)).toInt32) &&& (nI 1431655765))).toUInt32 >>> ((nI 2).toUInt32 &&& Int32.toUInt32 31)).toInt32) &&& (nI 858993459))).toUInt32 >>> ((nI 4).toUInt32 &&& Int32.toUInt32 31)).toInt32)) &&& (nI 252645135)).toUInt32 >>> ((nI 8).toUInt32 &&& Int32.toUInt32 31)).toInt32)) + (((((((((nI y) - ((((nI y).toUInt32 >>> ((nI 1).toUInt32 &&& Int32.toUInt32 31)).toInt32) &&& (nI 1431655765))) &&& (nI 858993459)) + (((((nI y) - ((((nI y).toUInt32 >>> ((nI 1).toUInt32 &&& Int32.toUInt32 31)).toInt32) &&& (nI 1431655765))).toUInt32 >>> ((nI 2).toUInt32 &&& Int32.toUInt32 31)).toInt32) &&& (nI 858993459))) + ((((((nI y) - ((((nI y).toUInt32 >>> ((nI 1).toUInt32 &&& Int32.toUInt32 31)).toInt32) &&& (nI 1431655765))) &&& (nI 858993459)) + (((((nI y) - ((((nI y).toUInt32 >>> ((nI 1).toUInt32 &&& Int32.toUInt32 31)).toInt32) &&& (nI 1431655765))).toUInt32 >>> ((nI 2).toUInt32 &&& Int32.toUInt32 31)).toInt32) &&& (nI 858993459))).toUInt32 >>> ((nI 4).toUInt32 &&& Int32.toUInt32 31)).toInt32)) &&& (nI 252645135)) + ((((((((nI y) - ((((nI y).toUInt32 >>> ((nI 1).toUInt32 &&& Int32.toUInt32 31)).toInt32) &&& (nI 1431655765))) &&& (nI 858993459)) + (((((nI y) - ((((nI y).toUInt32 >>> ((nI 1).toUInt32 &&& Int32.toUInt32 31)).toInt32) &&& (nI 1431655765))).toUInt32 >>> ((nI 2).toUInt32 &&& Int32.toUInt32 31)).toInt32) &&& (nI 858993459))) + ((((((nI y) - ((((nI y).toUInt32 >>> ((nI 1).toUInt32 &&& Int32.toUInt32 31)).toInt32) &&& (nI 1431655765))) &&& (nI 858993459)) + (((((nI y) - ((((nI y).toUInt32 >>> ((nI 1).toUInt32 &&& Int32.toUInt32 31)).toInt32) &&& (nI 1431655765))).toUInt32 >>> ((nI 2).toUInt32 &&& Int32.toUInt32 31)).toInt32) &&& (nI 858993459))).toUInt32 >>> ((nI 4).toUInt32 &&& Int32.toUInt32 31)).toInt32)) &&& (nI 252645135)).toUInt32 >>> ((nI 8).toUInt32 &&& Int32.toUInt32 31)).toInt32)).toUInt32 >>> ((nI 16).toUInt32 &&& Int32.toUInt32 31)).toInt32)) F dJ6_bitCount_0f7a4_46 rfl rfl ?_
  refine v_istore_n (pc' := 48) (lv' := [(0, .int ((((((((nI y) - ((((nI y).toUInt32 >>> ((nI 1).toUInt32 &&& Int32.toUInt32 31)).toInt32) &&& (nI 1431655765))) &&& (nI 858993459)) + (((((nI y) - ((((nI y).toUInt32 >>> ((nI 1).toUInt32 &&& Int32.toUInt32 31)).toInt32) &&& (nI 1431655765))).toUInt32 >>> ((nI 2).toUInt32 &&& Int32.toUInt32 31)).toInt32) &&& (nI 858993459))) + ((((((nI y) - ((((nI y).toUInt32 >>> ((nI 1).toUInt32 &&& Int32.toUInt32 31)).toInt32) &&& (nI 1431655765))) &&& (nI 858993459)) + (((((nI y) - ((((nI y).toUInt32 >>> ((nI 1).toUInt32 &&& Int32.toUInt32 31)).toInt32) &&& (nI 1431655765))).toUInt32 >>> ((nI 2).toUInt32 &&& Int32.toUInt32 31)).toInt32) &&& (nI 858993459))).toUInt32 >>> ((nI 4).toUInt32 &&& Int32.toUInt32 31)).toInt32)) &&& (nI 252645135)) + ((((((((nI y) - ((((nI y).toUInt32 >>> ((nI 1).toUInt32 &&& Int32.toUInt32 31)).toInt32) &&& (nI 1431655765))) &&& (nI 858993459)) + (((((nI y) - ((((nI y).toUInt32 >>> ((nI 1).toUInt32 &&& Int32.toUInt32 31)).toInt32) &&& (nI 1431655765))).toUInt32 >>> ((nI 2).toUInt32 &&& Int32.toUInt32 31)).toInt32) &&& (nI 858993459))) + ((((((nI y) - ((((nI y).toUInt32 >>> ((nI 1).toUInt32 &&& Int32.toUInt32 31)).toInt32) &&& (nI 1431655765))) &&& (nI 858993459)) + (((((nI y) - ((((nI y).toUInt32 >>> ((nI 1).toUInt32 &&& Int32.toUInt32 31)).toInt32) &&& (nI 1431655765))).toUInt32 >>> ((nI 2).toUInt32 &&& Int32.toUInt32 31)).toInt32) &&& (nI 858993459))).toUInt32 >>> ((nI 4).toUInt32 &&& Int32.toUInt32 31)).toInt32)) &&& (nI 252645135)).toUInt32 >>> ((nI 8).toUInt32 &&& Int32.toUInt32 31)).toInt32)) + (((((((((nI y) - ((((nI y).toUInt32 >>> ((nI 1).toUInt32 &&& Int32.toUInt32 31)).toInt32) &&& (nI 1431655765))) &&& (nI 858993459)) + (((((nI y) - ((((nI y).toUInt32 >>> ((nI 1).toUInt32 &&& Int32.toUInt32 31)).toInt32) &&& (nI 1431655765))).toUInt32 >>> ((nI 2).toUInt32 &&& Int32.toUInt32 31)).toInt32) &&& (nI 858993459))) + ((((((nI y) - ((((nI y).toUInt32 >>> ((nI 1).toUInt32 &&& Int32.toUInt32 31)).toInt32) &&& (nI 1431655765))) &&& (nI 858993459)) + (((((nI y) - ((((nI y).toUInt32 >>> ((nI 1).toUInt32 &&& Int32.toUInt32 31)).toInt32) &&& (nI 1431655765))).toUInt32 >>> ((nI 2).toUInt32 &&& Int32.toUInt32 31)).toInt32) &&& (nI 858993459))).toUInt32 >>> ((nI 4).toUInt32 &&& Int32.toUInt32 31)).toInt32)) &&& (nI 252645135)) + ((((((((nI y) - ((((nI y).toUInt32 >>> ((nI 1).toUInt32 &&& Int32.toUInt32 31)).toInt32) &&& (nI 1431655765))) &&& (nI 858993459)) + (((((nI y) - ((((nI y).toUInt32 >>> ((nI 1).toUInt32 &&& Int32.toUInt32 31)).toInt32) &&& (nI 1431655765))).toUInt32 >>> ((nI 2).toUInt32 &&& Int32.toUInt32 31)).toInt32) &&& (nI 858993459))) + ((((((nI y) - ((((nI y).toUInt32 >>> ((nI 1).toUInt32 &&& Int32.toUInt32 31)).toInt32) &&& (nI 1431655765))) &&& (nI 858993459)) + (((((nI y) - ((((nI y).toUInt32 >>> ((nI 1).toUInt32 &&& Int32.toUInt32 31)).toInt32) &&& (nI 1431655765))).toUInt32 >>> ((nI 2).toUInt32 &&& Int32.toUInt32 31)).toInt32) &&& (nI 858993459))).toUInt32 >>> ((nI 4).toUInt32 &&& Int32.toUInt32 31)).toInt32)) &&& (nI 252645135)).toUInt32 >>> ((nI 8).toUInt32 &&& Int32.toUInt32 31)).toInt32)).toUInt32 >>> ((nI 16).toUInt32 &&& Int32.toUInt32 31)).toInt32)))]) F dJ6_bitCount_0f7a4_47 rfl (by decide) rfl rfl ?_
  refine v_iload_n (pc' := 49) F dJ6_bitCount_0f7a4_48 rfl 0 rfl rfl ?_
  refine v_bipush (pc' := 51) (v := nI 63) F dJ6_bitCount_0f7a4_49 (by decide) rfl ?_
  refine v_iand (pc' := 52) (z := ((((((((nI y) - ((((nI y).toUInt32 >>> ((nI 1).toUInt32 &&& Int32.toUInt32 31)).toInt32) &&& (nI 1431655765))) &&& (nI 858993459)) + (((((nI y) - ((((nI y).toUInt32 >>> ((nI 1).toUInt32 &&& Int32.toUInt32 31)).toInt32) &&& (nI 1431655765))).toUInt32 >>> ((nI 2).toUInt32 &&& Int32.toUInt32 31)).toInt32) &&& (nI 858993459))) + ((((((nI y) - ((((nI y).toUInt32 >>> ((nI 1).toUInt32 &&& Int32.toUInt32 31)).toInt32) &&& (nI 1431655765))) &&& (nI 858993459)) + (((((nI y) - ((((nI y).toUInt32 >>> ((nI 1).toUInt32 &&& Int32.toUInt32 31)).toInt32) &&& (nI 1431655765))).toUInt32 >>> ((nI 2).toUInt32 &&& Int32.toUInt32 31)).toInt32) &&& (nI 858993459))).toUInt32 >>> ((nI 4).toUInt32 &&& Int32.toUInt32 31)).toInt32)) &&& (nI 252645135)) + ((((((((nI y) - ((((nI y).toUInt32 >>> ((nI 1).toUInt32 &&& Int32.toUInt32 31)).toInt32) &&& (nI 1431655765))) &&& (nI 858993459)) + (((((nI y) - ((((nI y).toUInt32 >>> ((nI 1).toUInt32 &&& Int32.toUInt32 31)).toInt32) &&& (nI 1431655765))).toUInt32 >>> ((nI 2).toUInt32 &&& Int32.toUInt32 31)).toInt32) &&& (nI 858993459))) + ((((((nI y) - ((((nI y).toUInt32 >>> ((nI 1).toUInt32 &&& Int32.toUInt32 31)).toInt32) &&& (nI 1431655765))) &&& (nI 858993459)) + (((((nI y) - ((((nI y).toUInt32 >>> ((nI 1).toUInt32 &&& Int32.toUInt32 31)).toInt32) &&& (nI 1431655765))).toUInt32 >>> ((nI 2).toUInt32 &&& Int32.toUInt32 31)).toInt32) &&& (nI 858993459))).toUInt32 >>> ((nI 4).toUInt32 &&& Int32.toUInt32 31)).toInt32)) &&& (nI 252645135)).toUInt32 >>> ((nI 8).toUInt32 &&& Int32.toUInt32 31)).toInt32)) + (((((((((nI y) - ((((nI y).toUInt32 >>> ((nI 1).toUInt32 &&& Int32.toUInt32 31)).toInt32) &&& (nI 1431655765))) &&& (nI 858993459)) + (((((nI y) - ((((nI y).toUInt32 >>> ((nI 1).toUInt32 &&& Int32.toUInt32 31)).toInt32) &&& (nI 1431655765))).toUInt32 >>> ((nI 2).toUInt32 &&& Int32.toUInt32 31)).toInt32) &&& (nI 858993459))) + ((((((nI y) - ((((nI y).toUInt32 >>> ((nI 1).toUInt32 &&& Int32.toUInt32 31)).toInt32) &&& (nI 1431655765))) &&& (nI 858993459)) + (((((nI y) - ((((nI y).toUInt32 >>> ((nI 1).toUInt32 &&& Int32.toUInt32 31)).toInt32) &&& (nI 1431655765))).toUInt32 >>> ((nI 2).toUInt32 &&& Int32.toUInt32 31)).toInt32) &&& (nI 858993459))).toUInt32 >>> ((nI 4).toUInt32 &&& Int32.toUInt32 31)).toInt32)) &&& (nI 252645135)) + ((((((((nI y) - ((((nI y).toUInt32 >>> ((nI 1).toUInt32 &&& Int32.toUInt32 31)).toInt32) &&& (nI 1431655765))) &&& (nI 858993459)) + (((((nI y) - ((((nI y).toUInt32 >>> ((nI 1).toUInt32 &&& Int32.toUInt32 31)).toInt32) &&& (nI 1431655765))).toUInt32 >>> ((nI 2).toUInt32 &&& Int32.toUInt32 31)).toInt32) &&& (nI 858993459))) + ((((((nI y) - ((((nI y).toUInt32 >>> ((nI 1).toUInt32 &&& Int32.toUInt32 31)).toInt32) &&& (nI 1431655765))) &&& (nI 858993459)) + (((((nI y) - ((((nI y).toUInt32 >>> ((nI 1).toUInt32 &&& Int32.toUInt32 31)).toInt32) &&& (nI 1431655765))).toUInt32 >>> ((nI 2).toUInt32 &&& Int32.toUInt32 31)).toInt32) &&& (nI 858993459))).toUInt32 >>> ((nI 4).toUInt32 &&& Int32.toUInt32 31)).toInt32)) &&& (nI 252645135)).toUInt32 >>> ((nI 8).toUInt32 &&& Int32.toUInt32 31)).toInt32)).toUInt32 >>> ((nI 16).toUInt32 &&& Int32.toUInt32 31)).toInt32)) &&& (nI 63)) F dJ6_bitCount_0f7a4_51 rfl rfl ?_
  exact rt dJ6_bitCount_0f7a4_52 () ((by decide +kernel : ∀ y, y < 16 → ((((((((nI y) - ((((nI y).toUInt32 >>> ((nI 1).toUInt32 &&& Int32.toUInt32 31)).toInt32) &&& (nI 1431655765))) &&& (nI 858993459)) + (((((nI y) - ((((nI y).toUInt32 >>> ((nI 1).toUInt32 &&& Int32.toUInt32 31)).toInt32) &&& (nI 1431655765))).toUInt32 >>> ((nI 2).toUInt32 &&& Int32.toUInt32 31)).toInt32) &&& (nI 858993459))) + ((((((nI y) - ((((nI y).toUInt32 >>> ((nI 1).toUInt32 &&& Int32.toUInt32 31)).toInt32) &&& (nI 1431655765))) &&& (nI 858993459)) + (((((nI y) - ((((nI y).toUInt32 >>> ((nI 1).toUInt32 &&& Int32.toUInt32 31)).toInt32) &&& (nI 1431655765))).toUInt32 >>> ((nI 2).toUInt32 &&& Int32.toUInt32 31)).toInt32) &&& (nI 858993459))).toUInt32 >>> ((nI 4).toUInt32 &&& Int32.toUInt32 31)).toInt32)) &&& (nI 252645135)) + ((((((((nI y) - ((((nI y).toUInt32 >>> ((nI 1).toUInt32 &&& Int32.toUInt32 31)).toInt32) &&& (nI 1431655765))) &&& (nI 858993459)) + (((((nI y) - ((((nI y).toUInt32 >>> ((nI 1).toUInt32 &&& Int32.toUInt32 31)).toInt32) &&& (nI 1431655765))).toUInt32 >>> ((nI 2).toUInt32 &&& Int32.toUInt32 31)).toInt32) &&& (nI 858993459))) + ((((((nI y) - ((((nI y).toUInt32 >>> ((nI 1).toUInt32 &&& Int32.toUInt32 31)).toInt32) &&& (nI 1431655765))) &&& (nI 858993459)) + (((((nI y) - ((((nI y).toUInt32 >>> ((nI 1).toUInt32 &&& Int32.toUInt32 31)).toInt32) &&& (nI 1431655765))).toUInt32 >>> ((nI 2).toUInt32 &&& Int32.toUInt32 31)).toInt32) &&& (nI 858993459))).toUInt32 >>> ((nI 4).toUInt32 &&& Int32.toUInt32 31)).toInt32)) &&& (nI 252645135)).toUInt32 >>> ((nI 8).toUInt32 &&& Int32.toUInt32 31)).toInt32)) + (((((((((nI y) - ((((nI y).toUInt32 >>> ((nI 1).toUInt32 &&& Int32.toUInt32 31)).toInt32) &&& (nI 1431655765))) &&& (nI 858993459)) + (((((nI y) - ((((nI y).toUInt32 >>> ((nI 1).toUInt32 &&& Int32.toUInt32 31)).toInt32) &&& (nI 1431655765))).toUInt32 >>> ((nI 2).toUInt32 &&& Int32.toUInt32 31)).toInt32) &&& (nI 858993459))) + ((((((nI y) - ((((nI y).toUInt32 >>> ((nI 1).toUInt32 &&& Int32.toUInt32 31)).toInt32) &&& (nI 1431655765))) &&& (nI 858993459)) + (((((nI y) - ((((nI y).toUInt32 >>> ((nI 1).toUInt32 &&& Int32.toUInt32 31)).toInt32) &&& (nI 1431655765))).toUInt32 >>> ((nI 2).toUInt32 &&& Int32.toUInt32 31)).toInt32) &&& (nI 858993459))).toUInt32 >>> ((nI 4).toUInt32 &&& Int32.toUInt32 31)).toInt32)) &&& (nI 252645135)) + ((((((((nI y) - ((((nI y).toUInt32 >>> ((nI 1).toUInt32 &&& Int32.toUInt32 31)).toInt32) &&& (nI 1431655765))) &&& (nI 858993459)) + (((((nI y) - ((((nI y).toUInt32 >>> ((nI 1).toUInt32 &&& Int32.toUInt32 31)).toInt32) &&& (nI 1431655765))).toUInt32 >>> ((nI 2).toUInt32 &&& Int32.toUInt32 31)).toInt32) &&& (nI 858993459))) + ((((((nI y) - ((((nI y).toUInt32 >>> ((nI 1).toUInt32 &&& Int32.toUInt32 31)).toInt32) &&& (nI 1431655765))) &&& (nI 858993459)) + (((((nI y) - ((((nI y).toUInt32 >>> ((nI 1).toUInt32 &&& Int32.toUInt32 31)).toInt32) &&& (nI 1431655765))).toUInt32 >>> ((nI 2).toUInt32 &&& Int32.toUInt32 31)).toInt32) &&& (nI 858993459))).toUInt32 >>> ((nI 4).toUInt32 &&& Int32.toUInt32 31)).toInt32)) &&& (nI 252645135)).toUInt32 >>> ((nI 8).toUInt32 &&& Int32.toUInt32 31)).toInt32)).toUInt32 >>> ((nI 16).toUInt32 &&& Int32.toUInt32 31)).toInt32)) &&& (nI 63) = nI (oneN y 4)) y hy) rfl
def rm_X9_coinsOfAll : Room := { frames := 2, cells := 0, slots := 0, locals := 41 }
theorem in_X9_coinsOfAll_X5 : ∀ w ∈ u_ws RX5 TX5 2, w ∈ wsX9_coinsOfAll := fun w h => List.mem_cons_of_mem _ (List.mem_append_right _ (h))
theorem in_X9_coinsOfAll_X9 : ∀ w ∈ u_ws RX9 TX9 12, w ∈ wsX9_coinsOfAll := fun w h => List.mem_cons_of_mem _ (List.mem_append_left _ (List.mem_append_right _ (h)))
set_option maxHeartbeats 4000000 in
set_option maxRecDepth 100000 in
theorem c_X9_coinsOfAll {l : Launch} {D : va_G} {G : gT} (x pgo ppa dl se tr im la dr pe ac lr sd : Nat) (pq ks sx : Nat → Nat) (h5 : pe ≤ 5) (hs5 : ∀ j, j < 5 → sx j < 40000) : CtI (σ := Unit) l yX9_coinsOfAll wsX9_coinsOfAll rm_X9_coinsOfAll D G [.ref x] ((x, .inr (7, [.ref pgo, .ref ppa, .ref dl, .ref se, .ref tr, .ref im, .ref la, .ref dr, .int (nI pe), .int (nI ac), .int (nI lr), .int (nI sd)])) :: (ppa, aP G 5 pq) :: pX G pq ks sx) (fun r _ => r = nI (sumC sx pe)) (fun _ => ((x, .inr (7, [.ref pgo, .ref ppa, .ref dl, .ref se, .ref tr, .ref im, .ref la, .ref dr, .int (nI pe), .int (nI ac), .int (nI lr), .int (nI sd)])) :: (ppa, aP G 5 pq) :: pX G pq ks sx)) := by
  refine openI (maxL := 3) (by decide) rfl (Nat.le_of_ble_eq_true rfl) ?_
  intro pg ev sg mm ags bl me cd A Q F hmn rt
  refine v_lv (lz := [(0, .ref x)]) rfl ?_
  refine v_iconst (pc' := 1) (v := nI 0) F dX9_coinsOfAll_0 (by decide) rfl ?_
  refine v_istore_n (pc' := 2) (lv' := [(1, .int (nI 0)), (0, .ref x)]) F dX9_coinsOfAll_1 rfl (by decide) rfl rfl ?_
  refine v_iconst (pc' := 3) (v := nI 0) F dX9_coinsOfAll_2 (by decide) rfl ?_
  refine v_istore_n (pc' := 4) (lv' := [(2, .int (nI 0)), (1, .int (nI 0)), (0, .ref x)]) F dX9_coinsOfAll_3 rfl (by decide) rfl rfl ?_
  have L4 : ∀ (fu : Nat) (j : Nat) (ct : Nat), (j ≤ pe) → (ct = sumC sx j) → pe < j + fu → V pg l ev rm_X9_coinsOfAll sg mm ags bl me cd 0 0 Q D A 3 4 [(2, .int (nI j)), (1, .int (nI ct)), (0, .ref x)] [] ((x, .inr (7, [.ref pgo, .ref ppa, .ref dl, .ref se, .ref tr, .ref im, .ref la, .ref dr, .int (nI pe), .int (nI ac), .int (nI lr), .int (nI sd)])) :: (ppa, aP G 5 pq) :: pX G pq ks sx) := by
    intro fu
    induction fu with
    | zero => intro j ct hj hct hfu; exact absurd hfu (by omega)
    | succ fu ih4 =>
      intro j ct hj hct hfu
      have h8 := sumC_le sx j
      refine v_iload_n (pc' := 5) F dX9_coinsOfAll_4 rfl 0 rfl rfl ?_
      refine v_aload_n (pc' := 6) F dX9_coinsOfAll_5 rfl 2 rfl rfl ?_
      refine v_get (pc' := 9) (C := RX9) (T := TX9) (N := 12) F dX9_coinsOfAll_6 in_X9_coinsOfAll_X9 0 rfl rfl 8 (by decide) (List.mem_of_getElem? (i := 1) rfl) rfl rfl ?_
      refine v_ncmp_ge (tgt := 33) (pc' := 12) F dX9_coinsOfAll_9 (by omega) (by omega) (by decide) rfl (fun c2 => ?_) (fun c2 => ?_)
      · refine v_iload_n (pc' := 34) F dX9_coinsOfAll_33 rfl 1 rfl rfl ?_
        exact rt dX9_coinsOfAll_34 () (by rw [hct, show j = pe by omega]) rfl
      · refine v_iload_n (pc' := 13) F dX9_coinsOfAll_12 rfl 1 rfl rfl ?_
        refine v_aload_n (pc' := 14) F dX9_coinsOfAll_13 rfl 2 rfl rfl ?_
        refine v_get (pc' := 17) (C := RX9) (T := TX9) (N := 12) F dX9_coinsOfAll_14 in_X9_coinsOfAll_X9 0 rfl rfl 1 (by decide) (List.mem_of_getElem? (i := 2) rfl) rfl rfl ?_
        refine v_iload_n (pc' := 18) F dX9_coinsOfAll_17 rfl 0 rfl rfl ?_
        refine v_pald (pc' := 19) (z := pq j) F dX9_coinsOfAll_18 1 rfl (by omega) (by decide) rfl rfl ?_
        refine v_get (pc' := 22) (C := RX5) (T := TX5) (N := 2) F dX9_coinsOfAll_19 in_X9_coinsOfAll_X5 (j + 2) (pX_at (by omega)) rfl 1 (by decide) (List.mem_of_getElem? (i := 3) rfl) rfl rfl ?_
        have h7 := hs5 j (by omega)
        have h6 := dT_lt (sx j)
        refine cSI0 (pc' := 25) (As := [.int (nI (eS (sx j)))]) (rest := [.int (nI ct)]) F (c_X7_coinsTogether (sx j) (by omega)) (va_cwS 1 F.2.2.2.2.1 gX9_coinsOfAll_X7_coinsTogether rfl rfl rfl (by decide +kernel) ⟨Nat.le_of_ble_eq_true rfl, Nat.le_of_ble_eq_true rfl⟩) rfl rfl (Nat.le_of_ble_eq_true rfl) dX9_coinsOfAll_22 ⟨Nat.zero_le _, Nat.zero_le _⟩ rfl (fun r u q3 => ?_)
        obtain rfl := q3
        refine v_iadd (pc' := 26) (z := nI (ct + (dT (sx j)))) F dX9_coinsOfAll_25 (nI_add _ _) rfl ?_
        refine v_istore_n (pc' := 27) (lv' := [(1, .int (nI (ct + (dT (sx j))))), (2, .int (nI j)), (0, .ref x)]) F dX9_coinsOfAll_26 rfl (by decide) rfl rfl ?_
        refine v_iinc (pc' := 30) (v := nI (j + 1)) (lv' := [(2, .int (nI (j + 1))), (1, .int (nI (ct + (dT (sx j))))), (0, .ref x)]) F dX9_coinsOfAll_27 1 rfl (nI_add _ _) (by decide) rfl rfl ?_
        refine v_goto (tgt := 4) F dX9_coinsOfAll_30 (by decide) ?_
        exact ih4 (j + 1) (ct + (dT (sx j))) (by omega) (by rw [hct]; rfl) (by omega)
  exact L4 (pe + 1) 0 0 (by omega) (rfl) (by omega)
def rm_X9_goodsOfAll : Room := { frames := 1, cells := 0, slots := 0, locals := 20 }
theorem in_X9_goodsOfAll_X5 : ∀ w ∈ u_ws RX5 TX5 2, w ∈ wsX9_goodsOfAll := fun w h => List.mem_cons_of_mem _ (List.mem_append_right _ (h))
theorem in_X9_goodsOfAll_X9 : ∀ w ∈ u_ws RX9 TX9 12, w ∈ wsX9_goodsOfAll := fun w h => List.mem_cons_of_mem _ (List.mem_append_left _ (List.mem_append_right _ (h)))
set_option maxHeartbeats 4000000 in
set_option maxRecDepth 100000 in
theorem c_X9_goodsOfAll {l : Launch} {D : va_G} {G : gT} (x pgo ppa dl se tr im la dr pe ac lr sd : Nat) (pq ks sx : Nat → Nat) (h5 : pe ≤ 5) (hs5 : ∀ j, j < 5 → sx j < 40000) : CtI (σ := Unit) l yX9_goodsOfAll wsX9_goodsOfAll rm_X9_goodsOfAll D G [.ref x] ((x, .inr (7, [.ref pgo, .ref ppa, .ref dl, .ref se, .ref tr, .ref im, .ref la, .ref dr, .int (nI pe), .int (nI ac), .int (nI lr), .int (nI sd)])) :: (ppa, aP G 5 pq) :: pX G pq ks sx) (fun r _ => r = nI (sumG sx pe)) (fun _ => ((x, .inr (7, [.ref pgo, .ref ppa, .ref dl, .ref se, .ref tr, .ref im, .ref la, .ref dr, .int (nI pe), .int (nI ac), .int (nI lr), .int (nI sd)])) :: (ppa, aP G 5 pq) :: pX G pq ks sx)) := by
  refine openI (maxL := 3) (by decide) rfl (Nat.le_of_ble_eq_true rfl) ?_
  intro pg ev sg mm ags bl me cd A Q F hmn rt
  refine v_lv (lz := [(0, .ref x)]) rfl ?_
  refine v_iconst (pc' := 1) (v := nI 0) F dX9_goodsOfAll_0 (by decide) rfl ?_
  refine v_istore_n (pc' := 2) (lv' := [(1, .int (nI 0)), (0, .ref x)]) F dX9_goodsOfAll_1 rfl (by decide) rfl rfl ?_
  refine v_iconst (pc' := 3) (v := nI 0) F dX9_goodsOfAll_2 (by decide) rfl ?_
  refine v_istore_n (pc' := 4) (lv' := [(2, .int (nI 0)), (1, .int (nI 0)), (0, .ref x)]) F dX9_goodsOfAll_3 rfl (by decide) rfl rfl ?_
  have L4 : ∀ (fu : Nat) (j : Nat) (ct : Nat), (j ≤ pe) → (ct = sumG sx j) → pe < j + fu → V pg l ev rm_X9_goodsOfAll sg mm ags bl me cd 0 0 Q D A 3 4 [(2, .int (nI j)), (1, .int (nI ct)), (0, .ref x)] [] ((x, .inr (7, [.ref pgo, .ref ppa, .ref dl, .ref se, .ref tr, .ref im, .ref la, .ref dr, .int (nI pe), .int (nI ac), .int (nI lr), .int (nI sd)])) :: (ppa, aP G 5 pq) :: pX G pq ks sx) := by
    intro fu
    induction fu with
    | zero => intro j ct hj hct hfu; exact absurd hfu (by omega)
    | succ fu ih4 =>
      intro j ct hj hct hfu
      have h8 := sumG_le sx j
      refine v_iload_n (pc' := 5) F dX9_goodsOfAll_4 rfl 0 rfl rfl ?_
      refine v_aload_n (pc' := 6) F dX9_goodsOfAll_5 rfl 2 rfl rfl ?_
      refine v_get (pc' := 9) (C := RX9) (T := TX9) (N := 12) F dX9_goodsOfAll_6 in_X9_goodsOfAll_X9 0 rfl rfl 8 (by decide) (List.mem_of_getElem? (i := 1) rfl) rfl rfl ?_
      refine v_ncmp_ge (tgt := 36) (pc' := 12) F dX9_goodsOfAll_9 (by omega) (by omega) (by decide) rfl (fun c2 => ?_) (fun c2 => ?_)
      · refine v_iload_n (pc' := 37) F dX9_goodsOfAll_36 rfl 1 rfl rfl ?_
        exact rt dX9_goodsOfAll_37 () (by rw [hct, show j = pe by omega]) rfl
      · refine v_iload_n (pc' := 13) F dX9_goodsOfAll_12 rfl 1 rfl rfl ?_
        refine v_aload_n (pc' := 14) F dX9_goodsOfAll_13 rfl 2 rfl rfl ?_
        refine v_get (pc' := 17) (C := RX9) (T := TX9) (N := 12) F dX9_goodsOfAll_14 in_X9_goodsOfAll_X9 0 rfl rfl 1 (by decide) (List.mem_of_getElem? (i := 2) rfl) rfl rfl ?_
        refine v_iload_n (pc' := 18) F dX9_goodsOfAll_17 rfl 0 rfl rfl ?_
        refine v_pald (pc' := 19) (z := pq j) F dX9_goodsOfAll_18 1 rfl (by omega) (by decide) rfl rfl ?_
        refine v_get (pc' := 22) (C := RX5) (T := TX5) (N := 2) F dX9_goodsOfAll_19 in_X9_goodsOfAll_X5 (j + 2) (pX_at (by omega)) rfl 1 (by decide) (List.mem_of_getElem? (i := 3) rfl) rfl rfl ?_
        have h7 := hs5 j (by omega)
        have h6 := oneN_le (sx j / 2500) 4
        refine cSI0 (pc' := 25) (As := [.int (nI (eS (sx j)))]) (rest := [.int (nI ct)]) F (c_X7_goodsOf (sx j) (by omega)) (va_cwS 1 F.2.2.2.2.1 gX9_goodsOfAll_X7_goodsOf rfl rfl rfl (by decide +kernel) ⟨Nat.le_of_ble_eq_true rfl, Nat.le_of_ble_eq_true rfl⟩) rfl rfl (Nat.le_of_ble_eq_true rfl) dX9_goodsOfAll_22 ⟨Nat.zero_le _, Nat.zero_le _⟩ rfl (fun r u q3 => ?_)
        obtain rfl := q3
        refine cSI0 (pc' := 28) (As := [.int (nI ((sx j) / 2500))]) (rest := [.int (nI ct)]) F (c_J6_bitCount_0f7a4 ((sx j) / 2500) (by omega)) (va_cwS 1 F.2.2.2.2.1 gX9_goodsOfAll_J6_bitCount_0f7a4 rfl rfl rfl (by decide +kernel) ⟨Nat.le_of_ble_eq_true rfl, Nat.le_of_ble_eq_true rfl⟩) rfl rfl (Nat.le_of_ble_eq_true rfl) dX9_goodsOfAll_25 ⟨Nat.zero_le _, Nat.zero_le _⟩ rfl (fun r u q4 => ?_)
        obtain rfl := q4
        refine v_iadd (pc' := 29) (z := nI (ct + (oneN ((sx j) / 2500) 4))) F dX9_goodsOfAll_28 (nI_add _ _) rfl ?_
        refine v_istore_n (pc' := 30) (lv' := [(1, .int (nI (ct + (oneN ((sx j) / 2500) 4)))), (2, .int (nI j)), (0, .ref x)]) F dX9_goodsOfAll_29 rfl (by decide) rfl rfl ?_
        refine v_iinc (pc' := 33) (v := nI (j + 1)) (lv' := [(2, .int (nI (j + 1))), (1, .int (nI (ct + (oneN ((sx j) / 2500) 4)))), (0, .ref x)]) F dX9_goodsOfAll_30 1 rfl (nI_add _ _) (by decide) rfl rfl ?_
        refine v_goto (tgt := 4) F dX9_goodsOfAll_33 (by decide) ?_
        exact ih4 (j + 1) (ct + (oneN ((sx j) / 2500) 4)) (by omega) (by rw [hct]; rfl) (by omega)
  exact L4 (pe + 1) 0 0 (by omega) (rfl) (by omega)
def rm_X9_count : Room := { frames := 3, cells := 0, slots := 0, locals := 63 }
theorem in_X9_count_X4 : ∀ w ∈ u_ws RX4 TX4 2, w ∈ wsX9_count := fun w h => List.mem_cons_of_mem _ (List.mem_append_left _ (List.mem_append_left _ (List.mem_append_right _ (h))))
theorem in_X9_count_X9 : ∀ w ∈ u_ws RX9 TX9 12, w ∈ wsX9_count := fun w h => List.mem_cons_of_mem _ (List.mem_append_left _ (List.mem_append_left _ (List.mem_append_left _ (List.mem_append_right _ (h)))))
set_option maxHeartbeats 4000000 in
set_option maxRecDepth 100000 in
theorem c_X9_count {l : Launch} {D : va_G} {G : gT} (x pgo ppa dl se tr im la dr pe ac lr sd : Nat) (tpu tro trb tg kd sf sz : Nat) (pgc pl9 : Nat) (pq ks sx : Nat → Nat) (y : Int32) (hlr : lr < 2 ^ 31) (h5 : pe ≤ 5) (hs5 : ∀ j, j < 5 → sx j < 40000) (hsz : sz ≤ 5) (htg : tg < 2) : CtI (σ := Unit) l yX9_count wsX9_count rm_X9_count D G [.ref x, .int y] ((x, .inr (7, [.ref pgo, .ref ppa, .ref dl, .ref se, .ref tr, .ref im, .ref la, .ref dr, .int (nI pe), .int (nI ac), .int (nI lr), .int (nI sd)])) :: (pgo, .inr (3, [.ref pgc, .int (nI pl9)])) :: (tr, .inr (6, [.ref tpu, .ref tro, .ref trb, .int (nI tg), .ref (gAd G kd), .int (nI (eS sf)), .int (nI sz)])) :: (ppa, aP G 5 pq) :: pX G pq ks sx) (fun r _ => r = A_count pe sx ac (if tg = 0 then 0 else sz) pl9 lr sd y) (fun _ => ((x, .inr (7, [.ref pgo, .ref ppa, .ref dl, .ref se, .ref tr, .ref im, .ref la, .ref dr, .int (nI pe), .int (nI ac), .int (nI lr), .int (nI sd)])) :: (pgo, .inr (3, [.ref pgc, .int (nI pl9)])) :: (tr, .inr (6, [.ref tpu, .ref tro, .ref trb, .int (nI tg), .ref (gAd G kd), .int (nI (eS sf)), .int (nI sz)])) :: (ppa, aP G 5 pq) :: pX G pq ks sx)) := by
  refine openI (maxL := 2) (by decide) rfl (Nat.le_of_ble_eq_true rfl) ?_
  intro pg ev sg mm ags bl me cd A Q F hmn rt
  refine v_lv (lz := [(0, .ref x), (1, .int y)]) rfl ?_
  refine v_iload_n (pc' := 1) F dX9_count_0 rfl 1 rfl rfl ?_
  refine inR_split (lo := nI 0) (x := y) (mid := nI 7) (fun cq => ?_) (fun cq => ?_)
  · obtain ⟨w, hw, rfl⟩ := inR_of (by decide) cq
    rcases (show w = 0 ∨ w = 1 ∨ w = 2 ∨ w = 3 ∨ w = 4 ∨ w = 5 ∨ w = 6 ∨ w = 7 ∨ 7 < w by omega) with h1 | h1 | h1 | h1 | h1 | h1 | h1 | h1 | h1
    · refine v_nswI (k := 0) (off := 47) (tgt := 48) F dX9_count_1 h1 (by decide) (by decide) (by decide) (by decide) (by decide) ?_
      refine v_aload_n (pc' := 49) F dX9_count_48 rfl 0 rfl rfl ?_
      refine cVI (pc' := 52) (As := []) (rest := []) (wr := [(pgo, .inr (3, [.ref pgc, .int (nI pl9)])), (tr, .inr (6, [.ref tpu, .ref tro, .ref trb, .int (nI tg), .ref (gAd G kd), .int (nI (eS sf)), .int (nI sz)]))]) F (c_X9_coinsOfAll x pgo ppa dl se tr im la dr pe ac lr sd pq ks sx h5 hs5) (cwV 0 F.2.2.2.2.1 gX9_count_X9_coinsOfAll rfl rfl rfl (by decide +kernel) ⟨Nat.le_of_ble_eq_true rfl, Nat.le_of_ble_eq_true rfl⟩) (v_rcvW F 7 0 rfl rfl) rfl rfl (Nat.le_of_ble_eq_true rfl) dX9_count_49 [0, 3, 4, 5, 6, 7, 8] [1, 2] (by decide) rfl rfl (by decide) (by decide) ⟨Nat.zero_le _, Nat.zero_le _⟩ rfl (fun r u q2 => ?_)
      obtain rfl := q2
      refine v_ws (wz := ((pgo, .inr (3, [.ref pgc, .int (nI pl9)])) :: (tr, .inr (6, [.ref tpu, .ref tro, .ref trb, .int (nI tg), .ref (gAd G kd), .int (nI (eS sf)), .int (nI sz)])) :: (x, .inr (7, [.ref pgo, .ref ppa, .ref dl, .ref se, .ref tr, .ref im, .ref la, .ref dr, .int (nI pe), .int (nI ac), .int (nI lr), .int (nI sd)])) :: (ppa, aP G 5 pq) :: pX G pq ks sx)) rfl ?_
      refine v_perm (wz := ((x, .inr (7, [.ref pgo, .ref ppa, .ref dl, .ref se, .ref tr, .ref im, .ref la, .ref dr, .int (nI pe), .int (nI ac), .int (nI lr), .int (nI sd)])) :: (pgo, .inr (3, [.ref pgc, .int (nI pl9)])) :: (tr, .inr (6, [.ref tpu, .ref tro, .ref trb, .int (nI tg), .ref (gAd G kd), .int (nI (eS sf)), .int (nI sz)])) :: (ppa, aP G 5 pq) :: pX G pq ks sx)) [2, 0, 1, 3, 4, 5, 6, 7, 8] (by decide) rfl ?_
      exact rt dX9_count_52 () (by unfold A_count; rw [if_pos cq, tN_nI (t := w) (by omega)]; unfold countV; rw [if_pos (show w = 0 by assumption)]) rfl
    · refine v_nswI (k := 1) (off := 52) (tgt := 53) F dX9_count_1 h1 (by decide) (by decide) (by decide) (by decide) (by decide) ?_
      refine v_aload_n (pc' := 54) F dX9_count_53 rfl 0 rfl rfl ?_
      refine v_get (pc' := 57) (C := RX9) (T := TX9) (N := 12) F dX9_count_54 in_X9_count_X9 0 rfl rfl 8 (by decide) (List.mem_of_getElem? (i := 1) rfl) rfl rfl ?_
      exact rt dX9_count_57 () (by unfold A_count; rw [if_pos cq, tN_nI (t := w) (by omega)]; unfold countV; rw [if_neg (show ¬ w = 0 by omega), if_pos (show w = 1 by assumption)]) rfl
    · refine v_nswI (k := 2) (off := 57) (tgt := 58) F dX9_count_1 h1 (by decide) (by decide) (by decide) (by decide) (by decide) ?_
      refine v_aload_n (pc' := 59) F dX9_count_58 rfl 0 rfl rfl ?_
      refine cVI (pc' := 62) (As := []) (rest := []) (wr := [(pgo, .inr (3, [.ref pgc, .int (nI pl9)])), (tr, .inr (6, [.ref tpu, .ref tro, .ref trb, .int (nI tg), .ref (gAd G kd), .int (nI (eS sf)), .int (nI sz)]))]) F (c_X9_goodsOfAll x pgo ppa dl se tr im la dr pe ac lr sd pq ks sx h5 hs5) (cwV 0 F.2.2.2.2.1 gX9_count_X9_goodsOfAll rfl rfl rfl (by decide +kernel) ⟨Nat.le_of_ble_eq_true rfl, Nat.le_of_ble_eq_true rfl⟩) (v_rcvW F 7 0 rfl rfl) rfl rfl (Nat.le_of_ble_eq_true rfl) dX9_count_59 [0, 3, 4, 5, 6, 7, 8] [1, 2] (by decide) rfl rfl (by decide) (by decide) ⟨Nat.zero_le _, Nat.zero_le _⟩ rfl (fun r u q3 => ?_)
      obtain rfl := q3
      refine v_ws (wz := ((pgo, .inr (3, [.ref pgc, .int (nI pl9)])) :: (tr, .inr (6, [.ref tpu, .ref tro, .ref trb, .int (nI tg), .ref (gAd G kd), .int (nI (eS sf)), .int (nI sz)])) :: (x, .inr (7, [.ref pgo, .ref ppa, .ref dl, .ref se, .ref tr, .ref im, .ref la, .ref dr, .int (nI pe), .int (nI ac), .int (nI lr), .int (nI sd)])) :: (ppa, aP G 5 pq) :: pX G pq ks sx)) rfl ?_
      refine v_perm (wz := ((x, .inr (7, [.ref pgo, .ref ppa, .ref dl, .ref se, .ref tr, .ref im, .ref la, .ref dr, .int (nI pe), .int (nI ac), .int (nI lr), .int (nI sd)])) :: (pgo, .inr (3, [.ref pgc, .int (nI pl9)])) :: (tr, .inr (6, [.ref tpu, .ref tro, .ref trb, .int (nI tg), .ref (gAd G kd), .int (nI (eS sf)), .int (nI sz)])) :: (ppa, aP G 5 pq) :: pX G pq ks sx)) [2, 0, 1, 3, 4, 5, 6, 7, 8] (by decide) rfl ?_
      exact rt dX9_count_62 () (by unfold A_count; rw [if_pos cq, tN_nI (t := w) (by omega)]; unfold countV; rw [if_neg (show ¬ w = 0 by omega), if_neg (show ¬ w = 1 by omega), if_pos (show w = 2 by assumption)]) rfl
    · refine v_nswI (k := 3) (off := 62) (tgt := 63) F dX9_count_1 h1 (by decide) (by decide) (by decide) (by decide) (by decide) ?_
      refine v_aload_n (pc' := 64) F dX9_count_63 rfl 0 rfl rfl ?_
      refine v_get (pc' := 67) (C := RX9) (T := TX9) (N := 12) F dX9_count_64 in_X9_count_X9 0 rfl rfl 9 (by decide) (List.mem_of_getElem? (i := 2) rfl) rfl rfl ?_
      exact rt dX9_count_67 () (by unfold A_count; rw [if_pos cq, tN_nI (t := w) (by omega)]; unfold countV; rw [if_neg (show ¬ w = 0 by omega), if_neg (show ¬ w = 1 by omega), if_neg (show ¬ w = 2 by omega), if_pos (show w = 3 by assumption)]) rfl
    · refine v_nswI (k := 4) (off := 67) (tgt := 68) F dX9_count_1 h1 (by decide) (by decide) (by decide) (by decide) (by decide) ?_
      refine v_aload_n (pc' := 69) F dX9_count_68 rfl 0 rfl rfl ?_
      refine v_get (pc' := 72) (C := RX9) (T := TX9) (N := 12) F dX9_count_69 in_X9_count_X9 0 rfl rfl 4 (by decide) (List.mem_of_getElem? (i := 3) rfl) rfl rfl ?_
      refine cVI (pc' := 75) (As := []) (rest := []) (wr := ((x, .inr (7, [.ref pgo, .ref ppa, .ref dl, .ref se, .ref tr, .ref im, .ref la, .ref dr, .int (nI pe), .int (nI ac), .int (nI lr), .int (nI sd)])) :: (pgo, .inr (3, [.ref pgc, .int (nI pl9)])) :: (ppa, aP G 5 pq) :: pX G pq ks sx)) F (c_X8_pursesTold tr tpu tro trb tg kd sf sz hsz htg) (cwV 0 F.2.2.2.2.1 gX9_count_X8_pursesTold rfl rfl rfl (by decide +kernel) ⟨Nat.le_of_ble_eq_true rfl, Nat.le_of_ble_eq_true rfl⟩) (v_rcvW F 6 2 rfl rfl) rfl rfl (Nat.le_of_ble_eq_true rfl) dX9_count_72 [2] [0, 1, 3, 4, 5, 6, 7, 8] (by decide) rfl rfl (by decide) (by decide) ⟨Nat.zero_le _, Nat.zero_le _⟩ rfl (fun r u q4 => ?_)
      obtain rfl := q4
      refine v_perm (wz := ((x, .inr (7, [.ref pgo, .ref ppa, .ref dl, .ref se, .ref tr, .ref im, .ref la, .ref dr, .int (nI pe), .int (nI ac), .int (nI lr), .int (nI sd)])) :: (pgo, .inr (3, [.ref pgc, .int (nI pl9)])) :: (ppa, aP G 5 pq) :: (tr, .inr (6, [.ref tpu, .ref tro, .ref trb, .int (nI tg), .ref (gAd G kd), .int (nI (eS sf)), .int (nI sz)])) :: pX G pq ks sx)) [0, 1, 2, 8, 3, 4, 5, 6, 7] (by decide) rfl ?_
      refine v_perm (wz := ((x, .inr (7, [.ref pgo, .ref ppa, .ref dl, .ref se, .ref tr, .ref im, .ref la, .ref dr, .int (nI pe), .int (nI ac), .int (nI lr), .int (nI sd)])) :: (pgo, .inr (3, [.ref pgc, .int (nI pl9)])) :: (tr, .inr (6, [.ref tpu, .ref tro, .ref trb, .int (nI tg), .ref (gAd G kd), .int (nI (eS sf)), .int (nI sz)])) :: (ppa, aP G 5 pq) :: pX G pq ks sx)) [0, 1, 3, 2, 4, 5, 6, 7, 8] (by decide) rfl ?_
      exact rt dX9_count_75 () (by unfold A_count; rw [if_pos cq, tN_nI (t := w) (by omega)]; unfold countV; rw [if_neg (show ¬ w = 0 by omega), if_neg (show ¬ w = 1 by omega), if_neg (show ¬ w = 2 by omega), if_neg (show ¬ w = 3 by omega), if_pos (show w = 4 by assumption)]) rfl
    · refine v_nswI (k := 5) (off := 75) (tgt := 76) F dX9_count_1 h1 (by decide) (by decide) (by decide) (by decide) (by decide) ?_
      refine v_aload_n (pc' := 77) F dX9_count_76 rfl 0 rfl rfl ?_
      refine v_get (pc' := 80) (C := RX9) (T := TX9) (N := 12) F dX9_count_77 in_X9_count_X9 0 rfl rfl 0 (by decide) (List.mem_of_getElem? (i := 4) rfl) rfl rfl ?_
      refine v_get (pc' := 83) (C := RX4) (T := TX4) (N := 2) F dX9_count_80 in_X9_count_X4 1 rfl rfl 1 (by decide) (List.mem_of_getElem? (i := 5) rfl) rfl rfl ?_
      exact rt dX9_count_83 () (by unfold A_count; rw [if_pos cq, tN_nI (t := w) (by omega)]; unfold countV; rw [if_neg (show ¬ w = 0 by omega), if_neg (show ¬ w = 1 by omega), if_neg (show ¬ w = 2 by omega), if_neg (show ¬ w = 3 by omega), if_neg (show ¬ w = 4 by omega), if_pos (show w = 5 by assumption)]) rfl
    · refine v_nswI (k := 6) (off := 83) (tgt := 84) F dX9_count_1 h1 (by decide) (by decide) (by decide) (by decide) (by decide) ?_
      refine v_aload_n (pc' := 85) F dX9_count_84 rfl 0 rfl rfl ?_
      refine v_get (pc' := 88) (C := RX9) (T := TX9) (N := 12) F dX9_count_85 in_X9_count_X9 0 rfl rfl 10 (by decide) (List.mem_of_getElem? (i := 6) rfl) rfl rfl ?_
      exact rt dX9_count_88 () (by unfold A_count; rw [if_pos cq, tN_nI (t := w) (by omega)]; unfold countV; rw [if_neg (show ¬ w = 0 by omega), if_neg (show ¬ w = 1 by omega), if_neg (show ¬ w = 2 by omega), if_neg (show ¬ w = 3 by omega), if_neg (show ¬ w = 4 by omega), if_neg (show ¬ w = 5 by omega), if_pos (show w = 6 by assumption)]) rfl
    · refine v_nswI (k := 7) (off := 88) (tgt := 89) F dX9_count_1 h1 (by decide) (by decide) (by decide) (by decide) (by decide) ?_
      refine v_aload_n (pc' := 90) F dX9_count_89 rfl 0 rfl rfl ?_
      refine v_get (pc' := 93) (C := RX9) (T := TX9) (N := 12) F dX9_count_90 in_X9_count_X9 0 rfl rfl 11 (by decide) (List.mem_of_getElem? (i := 7) rfl) rfl rfl ?_
      exact rt dX9_count_93 () (by unfold A_count; rw [if_pos cq, tN_nI (t := w) (by omega)]; unfold countV; rw [if_neg (show ¬ w = 0 by omega), if_neg (show ¬ w = 1 by omega), if_neg (show ¬ w = 2 by omega), if_neg (show ¬ w = 3 by omega), if_neg (show ¬ w = 4 by omega), if_neg (show ¬ w = 5 by omega), if_neg (show ¬ w = 6 by omega)]) rfl
    · exact absurd h1 (by omega)
  · refine v_rswO (hi := 7) (tgt := 94) F dX9_count_1 (by decide) cq (by decide) ?_
    refine v_bipush (pc' := 96) (v := (-102)) F dX9_count_94 (by decide) rfl ?_
    exact rt dX9_count_96 () (by unfold A_count; rw [if_neg (by assumption)]) rfl
def rm_X10_howMany : Room := { frames := 3, cells := 0, slots := 0, locals := 61 }
theorem in_X10_howMany_X10 : ∀ w ∈ u_ws RX10 TX10 38, w ∈ wsX10_howMany := fun w h => List.mem_cons_of_mem _ (List.mem_append_right _ (h))
set_option maxHeartbeats 4000000 in
set_option maxRecDepth 100000 in
theorem c_X10_howMany {l : Launch} {D : va_G} {G : gT} (o : Nat) (ma : Nat → Nat) (fi : Nat → Int32) (fl : Nat → Int64) (sx : Nat → Nat) (lr pe ac sd tm pl9 : Nat) (x : Int32) (hlw : fi 1 = nI lr) (hpe : fi 6 = nI pe) (hac : fi 9 = nI ac) (hsd : fi 10 = nI sd) (htm : fi 13 = nI tm) (hpl : fi 15 = nI pl9) (h5 : pe ≤ 5) (hs5 : ∀ j, j < 5 → sx j < 40000) : CtI (σ := Unit) l yX10_howMany wsX10_howMany rm_X10_howMany D G [.ref o, .int x] [(o, mO ma fi fl), (ma 8, aI G 5 sx)] (fun r _ => r = A_count pe sx ac tm pl9 lr sd x) (fun _ => [(o, mO ma fi fl), (ma 8, aI G 5 sx)]) := by
  refine openI (maxL := 4) (by decide) rfl (Nat.le_of_ble_eq_true rfl) ?_
  intro pg ev sg mm ags bl me cd A Q F hmn rt
  refine v_lv (lz := [(0, .ref o), (1, .int x)]) rfl ?_
  refine v_iconst (pc' := 1) (v := nI 0) F dX10_howMany_0 (by decide) rfl ?_
  refine v_istore_n (pc' := 2) (lv' := [(2, .int (nI 0)), (0, .ref o), (1, .int x)]) F dX10_howMany_1 rfl (by decide) rfl rfl ?_
  refine v_iload_n (pc' := 3) F dX10_howMany_2 rfl 2 rfl rfl ?_
  refine inR_split (lo := nI 0) (x := x) (mid := nI 7) (fun cq => ?_) (fun cq => ?_)
  · obtain ⟨w, hw, rfl⟩ := inR_of (by decide) cq
    rcases (show w = 0 ∨ w = 1 ∨ w = 2 ∨ w = 3 ∨ w = 4 ∨ w = 5 ∨ w = 6 ∨ w = 7 ∨ 7 < w by omega) with h1 | h1 | h1 | h1 | h1 | h1 | h1 | h1 | h1
    · refine v_nswI (k := 0) (off := 45) (tgt := 48) F dX10_howMany_3 h1 (by decide) (by decide) (by decide) (by decide) (by decide) ?_
      refine v_iconst (pc' := 49) (v := nI 0) F dX10_howMany_48 (by decide) rfl ?_
      refine v_istore_n (pc' := 50) (lv' := [(3, .int (nI 0)), (2, .int (nI 0)), (0, .ref o), (1, .int (nI w))]) F dX10_howMany_49 rfl (by decide) rfl rfl ?_
      have L50 : ∀ (fu : Nat) (j : Nat) (ct : Nat), (j ≤ pe) → (ct = sumC sx j) → pe < j + fu → V pg l ev rm_X10_howMany sg mm ags bl me cd 0 0 Q D A 4 50 [(3, .int (nI j)), (2, .int (nI ct)), (0, .ref o), (1, .int (nI w))] [] [(o, mO ma fi fl), (ma 8, aI G 5 sx)] := by
        intro fu
        induction fu with
        | zero => intro j ct hj hct hfu; exact absurd hfu (by omega)
        | succ fu ih50 =>
          intro j ct hj hct hfu
          have h8 := sumC_le sx j
          refine v_iload_n (pc' := 51) F dX10_howMany_50 rfl 0 rfl rfl ?_
          refine v_aload_n (pc' := 52) F dX10_howMany_51 rfl 2 rfl rfl ?_
          refine v_get (pc' := 55) (v := .int (nI pe)) (C := RX10) (T := TX10) (N := 38) F dX10_howMany_52 in_X10_howMany_X10 0 rfl rfl 6 (by decide) (List.mem_of_getElem? (i := 1) rfl) (congrArg (fun z => some (Value.int z)) hpe) rfl ?_
          refine v_ncmp_ge (tgt := 76) (pc' := 58) F dX10_howMany_55 (by omega) (by omega) (by decide) rfl (fun c3 => ?_) (fun c3 => ?_)
          · refine v_iload_n (pc' := 77) F dX10_howMany_76 rfl 1 rfl rfl ?_
            exact rt dX10_howMany_77 () (by unfold A_count; rw [if_pos cq, tN_nI (t := w) (by omega)]; unfold countV; rw [if_pos (show w = 0 by assumption)]; rw [hct, show j = pe by omega]) rfl
          · refine v_iload_n (pc' := 59) F dX10_howMany_58 rfl 1 rfl rfl ?_
            refine v_aload_n (pc' := 60) F dX10_howMany_59 rfl 2 rfl rfl ?_
            refine v_get (pc' := 63) (v := .ref (ma 8)) (C := RX10) (T := TX10) (N := 38) F dX10_howMany_60 in_X10_howMany_X10 0 rfl rfl 8 (by decide) (List.mem_of_getElem? (i := 2) rfl) rfl rfl ?_
            refine v_iload_n (pc' := 64) F dX10_howMany_63 rfl 0 rfl rfl ?_
            refine v_iald (pc' := 65) (z := sx j) F dX10_howMany_64 1 rfl (by omega) (by decide) rfl rfl ?_
            have h7 := hs5 j (by omega)
            have h6 := dT_lt (sx j)
            refine cSI0 (pc' := 68) (As := [.int (nI (sx j))]) (rest := [.int (nI ct)]) F (c_X10_coinsAll (sx j) (by omega)) (va_cwS 1 F.2.2.2.2.1 gX10_howMany_X10_coinsAll rfl rfl rfl (by decide +kernel) ⟨Nat.le_of_ble_eq_true rfl, Nat.le_of_ble_eq_true rfl⟩) rfl rfl (Nat.le_of_ble_eq_true rfl) dX10_howMany_65 ⟨Nat.zero_le _, Nat.zero_le _⟩ rfl (fun r u q4 => ?_)
            obtain rfl := q4
            refine v_iadd (pc' := 69) (z := nI (ct + (dT (sx j)))) F dX10_howMany_68 (nI_add _ _) rfl ?_
            refine v_istore_n (pc' := 70) (lv' := [(2, .int (nI (ct + (dT (sx j))))), (3, .int (nI j)), (0, .ref o), (1, .int (nI w))]) F dX10_howMany_69 rfl (by decide) rfl rfl ?_
            refine v_iinc (pc' := 73) (v := nI (j + 1)) (lv' := [(3, .int (nI (j + 1))), (2, .int (nI (ct + (dT (sx j))))), (0, .ref o), (1, .int (nI w))]) F dX10_howMany_70 1 rfl (nI_add _ _) (by decide) rfl rfl ?_
            refine v_goto (tgt := 50) F dX10_howMany_73 (by decide) ?_
            exact ih50 (j + 1) (ct + (dT (sx j))) (by omega) (by rw [hct]; rfl) (by omega)
      exact L50 (pe + 1) 0 0 (by omega) (rfl) (by omega)
    · refine v_nswI (k := 1) (off := 75) (tgt := 78) F dX10_howMany_3 h1 (by decide) (by decide) (by decide) (by decide) (by decide) ?_
      refine v_aload_n (pc' := 79) F dX10_howMany_78 rfl 1 rfl rfl ?_
      refine v_get (pc' := 82) (v := .int (nI pe)) (C := RX10) (T := TX10) (N := 38) F dX10_howMany_79 in_X10_howMany_X10 0 rfl rfl 6 (by decide) (List.mem_of_getElem? (i := 1) rfl) (congrArg (fun z => some (Value.int z)) hpe) rfl ?_
      exact rt dX10_howMany_82 () (by unfold A_count; rw [if_pos cq, tN_nI (t := w) (by omega)]; unfold countV; rw [if_neg (show ¬ w = 0 by omega), if_pos (show w = 1 by assumption)]) rfl
    · refine v_nswI (k := 2) (off := 80) (tgt := 83) F dX10_howMany_3 h1 (by decide) (by decide) (by decide) (by decide) (by decide) ?_
      refine v_iconst (pc' := 84) (v := nI 0) F dX10_howMany_83 (by decide) rfl ?_
      refine v_istore_n (pc' := 85) (lv' := [(3, .int (nI 0)), (2, .int (nI 0)), (0, .ref o), (1, .int (nI w))]) F dX10_howMany_84 rfl (by decide) rfl rfl ?_
      have L85 : ∀ (fu : Nat) (j : Nat) (ct : Nat), (j ≤ pe) → (ct = sumG sx j) → pe < j + fu → V pg l ev rm_X10_howMany sg mm ags bl me cd 0 0 Q D A 4 85 [(3, .int (nI j)), (2, .int (nI ct)), (0, .ref o), (1, .int (nI w))] [] [(o, mO ma fi fl), (ma 8, aI G 5 sx)] := by
        intro fu
        induction fu with
        | zero => intro j ct hj hct hfu; exact absurd hfu (by omega)
        | succ fu ih85 =>
          intro j ct hj hct hfu
          have h8 := sumG_le sx j
          refine v_iload_n (pc' := 86) F dX10_howMany_85 rfl 0 rfl rfl ?_
          refine v_aload_n (pc' := 87) F dX10_howMany_86 rfl 2 rfl rfl ?_
          refine v_get (pc' := 90) (v := .int (nI pe)) (C := RX10) (T := TX10) (N := 38) F dX10_howMany_87 in_X10_howMany_X10 0 rfl rfl 6 (by decide) (List.mem_of_getElem? (i := 1) rfl) (congrArg (fun z => some (Value.int z)) hpe) rfl ?_
          refine v_ncmp_ge (tgt := 114) (pc' := 93) F dX10_howMany_90 (by omega) (by omega) (by decide) rfl (fun c6 => ?_) (fun c6 => ?_)
          · refine v_iload_n (pc' := 115) F dX10_howMany_114 rfl 1 rfl rfl ?_
            exact rt dX10_howMany_115 () (by unfold A_count; rw [if_pos cq, tN_nI (t := w) (by omega)]; unfold countV; rw [if_neg (show ¬ w = 0 by omega), if_neg (show ¬ w = 1 by omega), if_pos (show w = 2 by assumption)]; rw [hct, show j = pe by omega]) rfl
          · refine v_iload_n (pc' := 94) F dX10_howMany_93 rfl 1 rfl rfl ?_
            refine v_aload_n (pc' := 95) F dX10_howMany_94 rfl 2 rfl rfl ?_
            refine v_get (pc' := 98) (v := .ref (ma 8)) (C := RX10) (T := TX10) (N := 38) F dX10_howMany_95 in_X10_howMany_X10 0 rfl rfl 8 (by decide) (List.mem_of_getElem? (i := 2) rfl) rfl rfl ?_
            refine v_iload_n (pc' := 99) F dX10_howMany_98 rfl 0 rfl rfl ?_
            refine v_iald (pc' := 100) (z := sx j) F dX10_howMany_99 1 rfl (by omega) (by decide) rfl rfl ?_
            have h7 := hs5 j (by omega)
            have h6 := oneN_le (sx j / 2500) 4
            refine cSI0 (pc' := 103) (As := [.int (nI (sx j))]) (rest := [.int (nI ct)]) F (c_X10_goodsIn (sx j) (by omega)) (va_cwS 1 F.2.2.2.2.1 gX10_howMany_X10_goodsIn rfl rfl rfl (by decide +kernel) ⟨Nat.le_of_ble_eq_true rfl, Nat.le_of_ble_eq_true rfl⟩) rfl rfl (Nat.le_of_ble_eq_true rfl) dX10_howMany_100 ⟨Nat.zero_le _, Nat.zero_le _⟩ rfl (fun r u q7 => ?_)
            obtain rfl := q7
            refine cSI0 (pc' := 106) (As := [.int (nI ((sx j) / 2500))]) (rest := [.int (nI ct)]) F (c_X10_size ((sx j) / 2500) (by omega)) (va_cwS 1 F.2.2.2.2.1 gX10_howMany_X10_size rfl rfl rfl (by decide +kernel) ⟨Nat.le_of_ble_eq_true rfl, Nat.le_of_ble_eq_true rfl⟩) rfl rfl (Nat.le_of_ble_eq_true rfl) dX10_howMany_103 ⟨Nat.zero_le _, Nat.zero_le _⟩ rfl (fun r u q8 => ?_)
            obtain rfl := q8
            refine v_iadd (pc' := 107) (z := nI (ct + (oneN ((sx j) / 2500) 4))) F dX10_howMany_106 (nI_add _ _) rfl ?_
            refine v_istore_n (pc' := 108) (lv' := [(2, .int (nI (ct + (oneN ((sx j) / 2500) 4)))), (3, .int (nI j)), (0, .ref o), (1, .int (nI w))]) F dX10_howMany_107 rfl (by decide) rfl rfl ?_
            refine v_iinc (pc' := 111) (v := nI (j + 1)) (lv' := [(3, .int (nI (j + 1))), (2, .int (nI (ct + (oneN ((sx j) / 2500) 4)))), (0, .ref o), (1, .int (nI w))]) F dX10_howMany_108 1 rfl (nI_add _ _) (by decide) rfl rfl ?_
            refine v_goto (tgt := 85) F dX10_howMany_111 (by decide) ?_
            exact ih85 (j + 1) (ct + (oneN ((sx j) / 2500) 4)) (by omega) (by rw [hct]; rfl) (by omega)
      exact L85 (pe + 1) 0 0 (by omega) (rfl) (by omega)
    · refine v_nswI (k := 3) (off := 113) (tgt := 116) F dX10_howMany_3 h1 (by decide) (by decide) (by decide) (by decide) (by decide) ?_
      refine v_aload_n (pc' := 117) F dX10_howMany_116 rfl 1 rfl rfl ?_
      refine v_get (pc' := 120) (v := .int (nI ac)) (C := RX10) (T := TX10) (N := 38) F dX10_howMany_117 in_X10_howMany_X10 0 rfl rfl 9 (by decide) (List.mem_of_getElem? (i := 3) rfl) (congrArg (fun z => some (Value.int z)) hac) rfl ?_
      exact rt dX10_howMany_120 () (by unfold A_count; rw [if_pos cq, tN_nI (t := w) (by omega)]; unfold countV; rw [if_neg (show ¬ w = 0 by omega), if_neg (show ¬ w = 1 by omega), if_neg (show ¬ w = 2 by omega), if_pos (show w = 3 by assumption)]) rfl
    · refine v_nswI (k := 4) (off := 118) (tgt := 121) F dX10_howMany_3 h1 (by decide) (by decide) (by decide) (by decide) (by decide) ?_
      refine v_aload_n (pc' := 122) F dX10_howMany_121 rfl 1 rfl rfl ?_
      refine v_get (pc' := 125) (v := .int (nI tm)) (C := RX10) (T := TX10) (N := 38) F dX10_howMany_122 in_X10_howMany_X10 0 rfl rfl 13 (by decide) (List.mem_of_getElem? (i := 4) rfl) (congrArg (fun z => some (Value.int z)) htm) rfl ?_
      exact rt dX10_howMany_125 () (by unfold A_count; rw [if_pos cq, tN_nI (t := w) (by omega)]; unfold countV; rw [if_neg (show ¬ w = 0 by omega), if_neg (show ¬ w = 1 by omega), if_neg (show ¬ w = 2 by omega), if_neg (show ¬ w = 3 by omega), if_pos (show w = 4 by assumption)]) rfl
    · refine v_nswI (k := 5) (off := 123) (tgt := 126) F dX10_howMany_3 h1 (by decide) (by decide) (by decide) (by decide) (by decide) ?_
      refine v_aload_n (pc' := 127) F dX10_howMany_126 rfl 1 rfl rfl ?_
      refine v_get (pc' := 130) (v := .int (nI pl9)) (C := RX10) (T := TX10) (N := 38) F dX10_howMany_127 in_X10_howMany_X10 0 rfl rfl 15 (by decide) (List.mem_of_getElem? (i := 5) rfl) (congrArg (fun z => some (Value.int z)) hpl) rfl ?_
      exact rt dX10_howMany_130 () (by unfold A_count; rw [if_pos cq, tN_nI (t := w) (by omega)]; unfold countV; rw [if_neg (show ¬ w = 0 by omega), if_neg (show ¬ w = 1 by omega), if_neg (show ¬ w = 2 by omega), if_neg (show ¬ w = 3 by omega), if_neg (show ¬ w = 4 by omega), if_pos (show w = 5 by assumption)]) rfl
    · refine v_nswI (k := 6) (off := 128) (tgt := 131) F dX10_howMany_3 h1 (by decide) (by decide) (by decide) (by decide) (by decide) ?_
      refine v_aload_n (pc' := 132) F dX10_howMany_131 rfl 1 rfl rfl ?_
      refine v_get (pc' := 135) (v := .int (nI lr)) (C := RX10) (T := TX10) (N := 38) F dX10_howMany_132 in_X10_howMany_X10 0 rfl rfl 1 (by decide) (List.mem_of_getElem? (i := 6) rfl) (congrArg (fun z => some (Value.int z)) hlw) rfl ?_
      exact rt dX10_howMany_135 () (by unfold A_count; rw [if_pos cq, tN_nI (t := w) (by omega)]; unfold countV; rw [if_neg (show ¬ w = 0 by omega), if_neg (show ¬ w = 1 by omega), if_neg (show ¬ w = 2 by omega), if_neg (show ¬ w = 3 by omega), if_neg (show ¬ w = 4 by omega), if_neg (show ¬ w = 5 by omega), if_pos (show w = 6 by assumption)]) rfl
    · refine v_nswI (k := 7) (off := 133) (tgt := 136) F dX10_howMany_3 h1 (by decide) (by decide) (by decide) (by decide) (by decide) ?_
      refine v_aload_n (pc' := 137) F dX10_howMany_136 rfl 1 rfl rfl ?_
      refine v_get (pc' := 140) (v := .int (nI sd)) (C := RX10) (T := TX10) (N := 38) F dX10_howMany_137 in_X10_howMany_X10 0 rfl rfl 10 (by decide) (List.mem_of_getElem? (i := 7) rfl) (congrArg (fun z => some (Value.int z)) hsd) rfl ?_
      exact rt dX10_howMany_140 () (by unfold A_count; rw [if_pos cq, tN_nI (t := w) (by omega)]; unfold countV; rw [if_neg (show ¬ w = 0 by omega), if_neg (show ¬ w = 1 by omega), if_neg (show ¬ w = 2 by omega), if_neg (show ¬ w = 3 by omega), if_neg (show ¬ w = 4 by omega), if_neg (show ¬ w = 5 by omega), if_neg (show ¬ w = 6 by omega)]) rfl
    · exact absurd h1 (by omega)
  · refine v_rswO (hi := 7) (tgt := 141) F dX10_howMany_3 (by decide) cq (by decide) ?_
    refine v_bipush (pc' := 143) (v := (-102)) F dX10_howMany_141 (by decide) rfl ?_
    exact rt dX10_howMany_143 () (by unfold A_count; rw [if_neg (by assumption)]) rfl
def rm_X10_count : Room := { frames := 4, cells := 0, slots := 0, locals := 84 }
set_option maxHeartbeats 4000000 in
set_option maxRecDepth 100000 in
theorem c_X10_count {l : Launch} {D : va_G} {G : gT} (o : Nat) (ma : Nat → Nat) (fi : Nat → Int32) (fl : Nat → Int64) (sx : Nat → Nat) (lr pe ac sd tm pl9 : Nat) (x : Int32) (hlw : fi 1 = nI lr) (hpe : fi 6 = nI pe) (hac : fi 9 = nI ac) (hsd : fi 10 = nI sd) (htm : fi 13 = nI tm) (hpl : fi 15 = nI pl9) (h5 : pe ≤ 5) (hs5 : ∀ j, j < 5 → sx j < 40000) : CtI (σ := Unit) l yX10_count wsX10_count rm_X10_count D G [.ref o, .int x] [(o, mO ma fi fl), (ma 8, aI G 5 sx)] (fun r _ => r = A_count pe sx ac tm pl9 lr sd x) (fun _ => [(o, mO ma fi fl), (ma 8, aI G 5 sx)]) := by
  refine openI (maxL := 2) (by decide) rfl (Nat.le_of_ble_eq_true rfl) ?_
  intro pg ev sg mm ags bl me cd A Q F hmn rt
  refine v_lv (lz := [(0, .ref o), (1, .int x)]) rfl ?_
  refine v_aload_n (pc' := 1) F dX10_count_0 rfl 0 rfl rfl ?_
  refine v_iload_n (pc' := 2) F dX10_count_1 rfl 1 rfl rfl ?_
  refine cVI (pc' := 5) (As := [.int x]) (rest := []) (wr := []) F (c_X10_howMany o ma fi fl sx lr pe ac sd tm pl9 x hlw hpe hac hsd htm hpl h5 hs5) (cwV 1 F.2.2.2.2.1 gX10_count_X10_howMany rfl rfl rfl (by decide +kernel) ⟨Nat.le_of_ble_eq_true rfl, Nat.le_of_ble_eq_true rfl⟩) (v_rcvW F 8 0 rfl rfl) rfl rfl (Nat.le_of_ble_eq_true rfl) dX10_count_2 [0, 1] [] (by decide) rfl rfl (by decide) (by decide) ⟨Nat.zero_le _, Nat.zero_le _⟩ rfl (fun r u q1 => ?_)
  obtain rfl := q1
  refine v_ws (wz := [(o, mO ma fi fl), (ma 8, aI G 5 sx)]) rfl ?_
  exact rt dX10_count_5 () rfl rfl
def rm_X9_seedBehind : Room := { frames := 0, cells := 0, slots := 0, locals := 0 }
set_option maxHeartbeats 4000000 in
set_option maxRecDepth 100000 in
theorem c_X9_seedBehind {l : Launch} {D : va_G} {G : gT} (s9 : Nat) (hs : s9 < 2 ^ 31) : CtI (σ := Unit) l yX9_seedBehind wsX9_seedBehind rm_X9_seedBehind D G [.int (nI s9)] [] (fun r _ => r = nI (sdN s9)) (fun _ => []) := by
  refine openI (maxL := 1) (by decide) rfl (Nat.le_of_ble_eq_true rfl) ?_
  intro pg ev sg mm ags bl me cd A Q F hmn rt
  refine v_lv (lz := [(0, .int (nI s9))]) rfl ?_
  refine v_ldc2 (pc' := 3) (v := lN 1103515245) F dX9_seedBehind_0 (List.mem_of_getElem? (i := 1) rfl) rfl ?_
  refine v_iload_n (pc' := 4) F dX9_seedBehind_3 rfl 0 rfl rfl ?_
  refine v_i2l (pc' := 5) (z := lN s9) F dX9_seedBehind_4 (nI_l (by omega)) rfl ?_
  refine v_lmul (pc' := 6) (z := lN (1103515245 * s9)) F dX9_seedBehind_5 (lN_mul _ _) rfl ?_
  refine v_ldc2 (pc' := 9) (v := lN 12345) F dX9_seedBehind_6 (List.mem_of_getElem? (i := 2) rfl) rfl ?_
  refine v_ladd (pc' := 10) (z := lN ((1103515245 * s9) + 12345)) F dX9_seedBehind_9 (lN_add _ _) rfl ?_
  refine v_ldc2 (pc' := 13) (v := lN 2147483648) F dX9_seedBehind_10 (List.mem_of_getElem? (i := 3) rfl) rfl ?_
  refine v_lrem (pc' := 14) (z := lN (((1103515245 * s9) + 12345) % 2147483648)) F dX9_seedBehind_13 (lN_ne0 (by omega) (by omega)) (pk_lRem (by omega) (by omega) (by omega)) rfl ?_
  refine v_l2i (pc' := 15) (z := nI (((1103515245 * s9) + 12345) % 2147483648)) F dX9_seedBehind_14 (lN_i _) rfl ?_
  exact rt dX9_seedBehind_15 () rfl rfl
def rm_X9_walk : Room := { frames := 5, cells := 0, slots := 0, locals := 124 }
theorem in_X9_walk_X5 : ∀ w ∈ u_ws RX5 TX5 2, w ∈ wsX9_walk := fun w h => List.mem_cons_of_mem _ (List.mem_append_left _ (List.mem_append_left _ (List.mem_append_right _ (h))))
theorem in_X9_walk_X9 : ∀ w ∈ u_ws RX9 TX9 12, w ∈ wsX9_walk := fun w h => List.mem_cons_of_mem _ (List.mem_append_left _ (List.mem_append_left _ (List.mem_append_left _ (List.mem_append_right _ (h)))))
set_option maxHeartbeats 4000000 in
set_option maxRecDepth 100000 in
theorem c_X9_walk {l : Launch} {D : va_G} {G : gT} (x pgo ppa dl se tr im la dr pe ac lr sd : Nat) (a0 a1 a2 a3 : Nat) (co ge gi pa : Nat → Nat) (b0 b1 b2 b3 lp ld : Nat) (tk gv pr py : Nat → Nat) (pq ks sx : Nat → Nat) (y z v w : Int32) (h5 : pe ≤ 5) (hwp : WPe ks sx) (hl : 0 < pe → WL tk gv pr py) : CtI (σ := (Nat → Nat) × (Nat → Nat) × (Nat → Nat) × (Nat → Nat)) l yX9_walk wsX9_walk rm_X9_walk D G [.ref x, .int y, .int z, .int v, .int w] ((x, .inr (7, [.ref pgo, .ref ppa, .ref dl, .ref se, .ref tr, .ref im, .ref la, .ref dr, .int (nI pe), .int (nI ac), .int (nI lr), .int (nI sd)])) :: (dl, .inr (0, [.ref a0, .ref a1, .ref a2, .ref a3])) :: (a0, aI G 4 co) :: (a1, aI G 4 ge) :: (a2, aI G 4 gi) :: (a3, aI G 4 pa) :: (la, .inr (2, [.ref b0, .ref b1, .ref b2, .ref b3, .int (nI lp), .int (nI ld)])) :: (b0, aI G 4 tk) :: (b1, aI G 4 gv) :: (b2, aI G 4 pr) :: (b3, aI G 4 py) :: (ppa, aP G 5 pq) :: pX G pq ks sx) (fun r u => r = A_walk pe tk gv pr py ks sx y z v w) (fun u => ((x, .inr (7, [.ref pgo, .ref ppa, .ref dl, .ref se, .ref tr, .ref im, .ref la, .ref dr, .int (nI pe), .int (nI ac), .int (nI lr), .int (nI sd)])) :: (dl, .inr (0, [.ref a0, .ref a1, .ref a2, .ref a3])) :: (a0, aI G 4 (u.1)) :: (a1, aI G 4 (u.2.1)) :: (a2, aI G 4 (u.2.2.1)) :: (a3, aI G 4 (u.2.2.2)) :: (la, .inr (2, [.ref b0, .ref b1, .ref b2, .ref b3, .int (nI lp), .int (nI ld)])) :: (b0, aI G 4 tk) :: (b1, aI G 4 gv) :: (b2, aI G 4 pr) :: (b3, aI G 4 py) :: (ppa, aP G 5 pq) :: pX G pq ks sx)) := by
  refine openI (maxL := 9) (by decide) rfl (Nat.le_of_ble_eq_true rfl) ?_
  intro pg ev sg mm ags bl me cd A Q F hmn rt
  refine v_lv (lz := [(0, .ref x), (1, .int y), (2, .int z), (3, .int v), (4, .int w)]) rfl ?_
  refine v_aload_n (pc' := 1) F dX9_walk_0 rfl 0 rfl rfl ?_
  refine v_iload_n (pc' := 2) F dX9_walk_1 rfl 1 rfl rfl ?_
  refine cVI (pc' := 5) (As := [.int y]) (rest := []) (wr := ((dl, .inr (0, [.ref a0, .ref a1, .ref a2, .ref a3])) :: (a0, aI G 4 co) :: (a1, aI G 4 ge) :: (a2, aI G 4 gi) :: (a3, aI G 4 pa) :: (la, .inr (2, [.ref b0, .ref b1, .ref b2, .ref b3, .int (nI lp), .int (nI ld)])) :: (b0, aI G 4 tk) :: (b1, aI G 4 gv) :: (b2, aI G 4 pr) :: (b3, aI G 4 py) :: (ppa, aP G 5 pq) :: pX G pq ks sx)) F (c_X9_isPerson x pgo ppa dl se tr im la dr pe ac lr sd y) (cwV 1 F.2.2.2.2.1 gX9_walk_X9_isPerson rfl rfl rfl (by decide +kernel) ⟨Nat.le_of_ble_eq_true rfl, Nat.le_of_ble_eq_true rfl⟩) (v_rcvW F 7 0 rfl rfl) rfl rfl (Nat.le_of_ble_eq_true rfl) dX9_walk_2 [0] [1, 2, 3, 4, 5, 6, 7, 8, 9, 10, 11, 12, 13, 14, 15, 16] (by decide) rfl rfl (by decide) (by decide) ⟨Nat.zero_le _, Nat.zero_le _⟩ rfl (fun r u q1 => ?_)
  obtain rfl := q1
  refine v_perm (wz := ((dl, .inr (0, [.ref a0, .ref a1, .ref a2, .ref a3])) :: (a0, aI G 4 co) :: (a1, aI G 4 ge) :: (a2, aI G 4 gi) :: (a3, aI G 4 pa) :: (la, .inr (2, [.ref b0, .ref b1, .ref b2, .ref b3, .int (nI lp), .int (nI ld)])) :: (b0, aI G 4 tk) :: (b1, aI G 4 gv) :: (b2, aI G 4 pr) :: (b3, aI G 4 py) :: (ppa, aP G 5 pq) :: (x, .inr (7, [.ref pgo, .ref ppa, .ref dl, .ref se, .ref tr, .ref im, .ref la, .ref dr, .int (nI pe), .int (nI ac), .int (nI lr), .int (nI sd)])) :: pX G pq ks sx)) [0, 1, 2, 3, 4, 5, 6, 7, 8, 9, 10, 16, 11, 12, 13, 14, 15] (by decide) rfl ?_
  refine v_bif_ne (tgt := 11) (pc' := 8) F dX9_walk_5 (by decide) rfl (fun c2 => ?_) (fun c2 => ?_)
  · obtain ⟨t, ht, rfl⟩ := isP_of (by omega) c2
    have hw9 := hwp t (by omega)
    have hl9 := hl (by omega)
    refine v_iload_n (pc' := 12) F dX9_walk_11 rfl 2 rfl rfl ?_
    refine v_iconst (pc' := 13) (v := nI 1) F dX9_walk_12 (by decide) rfl ?_
    refine v_icmp_lt (tgt := 37) (pc' := 16) F dX9_walk_13 (by decide) rfl (fun c3 => ?_) (fun c3 => ?_)
    · refine v_bipush (pc' := 39) (v := (-102)) F dX9_walk_37 (by decide) rfl ?_
      refine v_perm (wz := ((x, .inr (7, [.ref pgo, .ref ppa, .ref dl, .ref se, .ref tr, .ref im, .ref la, .ref dr, .int (nI pe), .int (nI ac), .int (nI lr), .int (nI sd)])) :: (dl, .inr (0, [.ref a0, .ref a1, .ref a2, .ref a3])) :: (a0, aI G 4 co) :: (a1, aI G 4 ge) :: (a2, aI G 4 gi) :: (a3, aI G 4 pa) :: (la, .inr (2, [.ref b0, .ref b1, .ref b2, .ref b3, .int (nI lp), .int (nI ld)])) :: (b0, aI G 4 tk) :: (b1, aI G 4 gv) :: (b2, aI G 4 pr) :: (b3, aI G 4 py) :: (ppa, aP G 5 pq) :: pX G pq ks sx)) [11, 0, 1, 2, 3, 4, 5, 6, 7, 8, 9, 10, 12, 13, 14, 15, 16] (by decide) rfl ?_
      exact rt dX9_walk_39 (co, ge, gi, pa) (by unfold A_walk; rw [if_pos (show isP pe (nI t) by assumption)]; first | rw [if_neg (inR_no1 (by assumption))] | rw [if_neg (inR_no2 (by assumption))] | (rw [if_pos ⟨nlt_le (by assumption), nlt_le (by assumption)⟩]; first | rw [if_pos (by assumption)] | (rw [if_neg (show ¬ v < 0 by assumption)]; first | rw [if_neg (inR_no0 (by assumption))] | rw [if_neg (inR_no2 (nle9 (by assumption)))]))) rfl
    · refine v_iload_n (pc' := 17) F dX9_walk_16 rfl 2 rfl rfl ?_
      refine v_bipush (pc' := 19) (v := nI 60) F dX9_walk_17 (by decide) rfl ?_
      refine v_icmp_gt (tgt := 37) (pc' := 22) F dX9_walk_19 (by decide) rfl (fun c4 => ?_) (fun c4 => ?_)
      · refine v_bipush (pc' := 39) (v := (-102)) F dX9_walk_37 (by decide) rfl ?_
        refine v_perm (wz := ((x, .inr (7, [.ref pgo, .ref ppa, .ref dl, .ref se, .ref tr, .ref im, .ref la, .ref dr, .int (nI pe), .int (nI ac), .int (nI lr), .int (nI sd)])) :: (dl, .inr (0, [.ref a0, .ref a1, .ref a2, .ref a3])) :: (a0, aI G 4 co) :: (a1, aI G 4 ge) :: (a2, aI G 4 gi) :: (a3, aI G 4 pa) :: (la, .inr (2, [.ref b0, .ref b1, .ref b2, .ref b3, .int (nI lp), .int (nI ld)])) :: (b0, aI G 4 tk) :: (b1, aI G 4 gv) :: (b2, aI G 4 pr) :: (b3, aI G 4 py) :: (ppa, aP G 5 pq) :: pX G pq ks sx)) [11, 0, 1, 2, 3, 4, 5, 6, 7, 8, 9, 10, 12, 13, 14, 15, 16] (by decide) rfl ?_
        exact rt dX9_walk_39 (co, ge, gi, pa) (by unfold A_walk; rw [if_pos (show isP pe (nI t) by assumption)]; first | rw [if_neg (inR_no1 (by assumption))] | rw [if_neg (inR_no2 (by assumption))] | (rw [if_pos ⟨nlt_le (by assumption), nlt_le (by assumption)⟩]; first | rw [if_pos (by assumption)] | (rw [if_neg (show ¬ v < 0 by assumption)]; first | rw [if_neg (inR_no0 (by assumption))] | rw [if_neg (inR_no2 (nle9 (by assumption)))]))) rfl
      · refine v_iload_n (pc' := 23) F dX9_walk_22 rfl 3 rfl rfl ?_
        refine v_if_lt (tgt := 37) (pc' := 26) F dX9_walk_23 (by decide) rfl (fun c5 => ?_) (fun c5 => ?_)
        · refine v_bipush (pc' := 39) (v := (-102)) F dX9_walk_37 (by decide) rfl ?_
          refine v_perm (wz := ((x, .inr (7, [.ref pgo, .ref ppa, .ref dl, .ref se, .ref tr, .ref im, .ref la, .ref dr, .int (nI pe), .int (nI ac), .int (nI lr), .int (nI sd)])) :: (dl, .inr (0, [.ref a0, .ref a1, .ref a2, .ref a3])) :: (a0, aI G 4 co) :: (a1, aI G 4 ge) :: (a2, aI G 4 gi) :: (a3, aI G 4 pa) :: (la, .inr (2, [.ref b0, .ref b1, .ref b2, .ref b3, .int (nI lp), .int (nI ld)])) :: (b0, aI G 4 tk) :: (b1, aI G 4 gv) :: (b2, aI G 4 pr) :: (b3, aI G 4 py) :: (ppa, aP G 5 pq) :: pX G pq ks sx)) [11, 0, 1, 2, 3, 4, 5, 6, 7, 8, 9, 10, 12, 13, 14, 15, 16] (by decide) rfl ?_
          exact rt dX9_walk_39 (co, ge, gi, pa) (by unfold A_walk; rw [if_pos (show isP pe (nI t) by assumption)]; first | rw [if_neg (inR_no1 (by assumption))] | rw [if_neg (inR_no2 (by assumption))] | (rw [if_pos ⟨nlt_le (by assumption), nlt_le (by assumption)⟩]; first | rw [if_pos (by assumption)] | (rw [if_neg (show ¬ v < 0 by assumption)]; first | rw [if_neg (inR_no0 (by assumption))] | rw [if_neg (inR_no2 (nle9 (by assumption)))]))) rfl
        · refine v_iload (pc' := 28) F dX9_walk_26 4 rfl rfl ?_
          refine v_if_lt (tgt := 37) (pc' := 31) F dX9_walk_28 (by decide) rfl (fun c6 => ?_) (fun c6 => ?_)
          · refine v_bipush (pc' := 39) (v := (-102)) F dX9_walk_37 (by decide) rfl ?_
            refine v_perm (wz := ((x, .inr (7, [.ref pgo, .ref ppa, .ref dl, .ref se, .ref tr, .ref im, .ref la, .ref dr, .int (nI pe), .int (nI ac), .int (nI lr), .int (nI sd)])) :: (dl, .inr (0, [.ref a0, .ref a1, .ref a2, .ref a3])) :: (a0, aI G 4 co) :: (a1, aI G 4 ge) :: (a2, aI G 4 gi) :: (a3, aI G 4 pa) :: (la, .inr (2, [.ref b0, .ref b1, .ref b2, .ref b3, .int (nI lp), .int (nI ld)])) :: (b0, aI G 4 tk) :: (b1, aI G 4 gv) :: (b2, aI G 4 pr) :: (b3, aI G 4 py) :: (ppa, aP G 5 pq) :: pX G pq ks sx)) [11, 0, 1, 2, 3, 4, 5, 6, 7, 8, 9, 10, 12, 13, 14, 15, 16] (by decide) rfl ?_
            exact rt dX9_walk_39 (co, ge, gi, pa) (by unfold A_walk; rw [if_pos (show isP pe (nI t) by assumption)]; first | rw [if_neg (inR_no1 (by assumption))] | rw [if_neg (inR_no2 (by assumption))] | (rw [if_pos ⟨nlt_le (by assumption), nlt_le (by assumption)⟩]; first | rw [if_pos (by assumption)] | (rw [if_neg (show ¬ v < 0 by assumption)]; first | rw [if_neg (inR_no0 (by assumption))] | rw [if_neg (inR_no2 (nle9 (by assumption)))]))) rfl
          · refine v_iload (pc' := 33) F dX9_walk_31 4 rfl rfl ?_
            refine v_iconst (pc' := 34) (v := nI 3) F dX9_walk_33 (by decide) rfl ?_
            refine v_icmp_le (tgt := 40) (pc' := 37) F dX9_walk_34 (by decide) rfl (fun c7 => ?_) (fun c7 => ?_)
            · have hz9 : inR (nI 1) z (nI 60) := ⟨nlt_le (by assumption), nlt_le (by assumption)⟩
              obtain ⟨tz, htz, rfl⟩ := inR_of2 (by decide) (by decide) hz9
              have hv9 : ¬ v < 0 := by assumption
              obtain ⟨sv, hsv, rfl⟩ := nI_of hv9
              have hw8 := inR_mk2 (k := 3) (x := w) (by assumption) (by assumption)
              obtain ⟨wv, hwv, rfl⟩ := inR_of (by decide) hw8
              refine v_aload_n (pc' := 41) F dX9_walk_40 rfl 0 rfl rfl ?_
              refine v_iload_n (pc' := 42) F dX9_walk_41 rfl 1 rfl rfl ?_
              refine cVR (pc' := 45) (As := [.int (nI t)]) (rest := []) (wr := []) F (c_X9_dealFor x pgo ppa dl se tr im la dr pe ac lr sd a0 a1 a2 a3 co ge gi pa b0 b1 b2 b3 lp ld tk gv pr py pq ks sx t (by omega) (by omega) (by assumption)) (cwV 1 F.2.2.2.2.1 gX9_walk_X9_dealFor rfl rfl rfl (by decide +kernel) ⟨Nat.le_of_ble_eq_true rfl, Nat.le_of_ble_eq_true rfl⟩) (v_rcvW F 7 11 rfl rfl) rfl rfl (Nat.le_of_ble_eq_true rfl) dX9_walk_42 [11, 0, 1, 2, 3, 4, 5, 6, 7, 8, 9, 10, 12, 13, 14, 15, 16] [] (by decide) rfl rfl (by decide) (by decide) ⟨Nat.zero_le _, Nat.zero_le _⟩ rfl (fun u q13 => ?_)
              obtain ⟨co2_8, ge2_9, gi2_10, pa2_11⟩ := u
              have hD_12 := q13
              have hwd := DLo_WD hl9 hD_12
              have hbe := DLo_bh hD_12
              refine v_ws (wz := ((x, .inr (7, [.ref pgo, .ref ppa, .ref dl, .ref se, .ref tr, .ref im, .ref la, .ref dr, .int (nI pe), .int (nI ac), .int (nI lr), .int (nI sd)])) :: (dl, .inr (0, [.ref a0, .ref a1, .ref a2, .ref a3])) :: (a0, aI G 4 co2_8) :: (a1, aI G 4 ge2_9) :: (a2, aI G 4 gi2_10) :: (a3, aI G 4 pa2_11) :: (la, .inr (2, [.ref b0, .ref b1, .ref b2, .ref b3, .int (nI lp), .int (nI ld)])) :: (b0, aI G 4 tk) :: (b1, aI G 4 gv) :: (b2, aI G 4 pr) :: (b3, aI G 4 py) :: (ppa, aP G 5 pq) :: pX G pq ks sx)) rfl ?_
              refine v_astore (pc' := 47) (lv' := [(5, .ref dl), (0, .ref x), (1, .int (nI t)), (2, .int (nI tz)), (3, .int (nI sv)), (4, .int (nI wv))]) F dX9_walk_45 (by decide) rfl rfl ?_
              refine v_aload_n (pc' := 48) F dX9_walk_47 rfl 1 rfl rfl ?_
              refine v_get (pc' := 51) (C := RX9) (T := TX9) (N := 12) F dX9_walk_48 in_X9_walk_X9 0 rfl rfl 1 (by decide) (List.mem_of_getElem? (i := 1) rfl) rfl rfl ?_
              refine v_iload_n (pc' := 52) F dX9_walk_51 rfl 2 rfl rfl ?_
              refine v_pald (pc' := 53) (z := pq t) F dX9_walk_52 11 rfl (by omega) (by decide) rfl rfl ?_
              refine v_get (pc' := 56) (C := RX5) (T := TX5) (N := 2) F dX9_walk_53 in_X9_walk_X5 (t + 12) (pX_at (by omega)) rfl 1 (by decide) (List.mem_of_getElem? (i := 2) rfl) rfl rfl ?_
              refine v_istore (pc' := 58) (lv' := [(6, .int (nI (eS (sx t)))), (5, .ref dl), (0, .ref x), (1, .int (nI t)), (2, .int (nI tz)), (3, .int (nI sv)), (4, .int (nI wv))]) F dX9_walk_56 (by decide) rfl rfl ?_
              refine v_iload_n (pc' := 59) F dX9_walk_58 rfl 5 rfl rfl ?_
              refine v_istore (pc' := 61) (lv' := [(7, .int (nI sv)), (6, .int (nI (eS (sx t)))), (5, .ref dl), (0, .ref x), (1, .int (nI t)), (2, .int (nI tz)), (3, .int (nI sv)), (4, .int (nI wv))]) F dX9_walk_59 (by decide) rfl rfl ?_
              refine v_iconst (pc' := 62) (v := nI 0) F dX9_walk_61 (by decide) rfl ?_
              refine v_istore (pc' := 64) (lv' := [(8, .int (nI 0)), (7, .int (nI sv)), (6, .int (nI (eS (sx t)))), (5, .ref dl), (0, .ref x), (1, .int (nI t)), (2, .int (nI tz)), (3, .int (nI sv)), (4, .int (nI wv))]) F dX9_walk_62 (by decide) rfl rfl ?_
              have L64 : ∀ (fu : Nat) (j : Nat) (sn : Nat) (la9 : Nat), (j ≤ tz) → (sn < 40000) → (la9 < 2 ^ 31) → (wkN (mB (ks t) tk gv pr py) j (sx t, sv) = (sn, la9)) → tz < j + fu → V pg l ev rm_X9_walk sg mm ags bl me cd 0 0 Q D A 9 64 [(8, .int (nI j)), (7, .int (nI la9)), (6, .int (nI (eS sn))), (5, .ref dl), (0, .ref x), (1, .int (nI t)), (2, .int (nI tz)), (3, .int (nI sv)), (4, .int (nI wv))] [] ((x, .inr (7, [.ref pgo, .ref ppa, .ref dl, .ref se, .ref tr, .ref im, .ref la, .ref dr, .int (nI pe), .int (nI ac), .int (nI lr), .int (nI sd)])) :: (dl, .inr (0, [.ref a0, .ref a1, .ref a2, .ref a3])) :: (a0, aI G 4 co2_8) :: (a1, aI G 4 ge2_9) :: (a2, aI G 4 gi2_10) :: (a3, aI G 4 pa2_11) :: (la, .inr (2, [.ref b0, .ref b1, .ref b2, .ref b3, .int (nI lp), .int (nI ld)])) :: (b0, aI G 4 tk) :: (b1, aI G 4 gv) :: (b2, aI G 4 pr) :: (b3, aI G 4 py) :: (ppa, aP G 5 pq) :: pX G pq ks sx) := by
                intro fu
                induction fu with
                | zero => intro j sn la9 hj hsn hla hwk hfu; exact absurd hfu (by omega)
                | succ fu ih64 =>
                  intro j sn la9 hj hsn hla hwk hfu
                  refine v_iload (pc' := 66) F dX9_walk_64 0 rfl rfl ?_
                  refine v_iload_n (pc' := 67) F dX9_walk_66 rfl 6 rfl rfl ?_
                  refine v_ncmp_ge (tgt := 97) (pc' := 70) F dX9_walk_67 (by omega) (by omega) (by decide) rfl (fun c15 => ?_) (fun c15 => ?_)
                  · refine v_iload (pc' := 99) F dX9_walk_97 8 rfl rfl ?_
                    rcases (show wv = 0 ∨ wv = 1 ∨ wv = 2 ∨ 2 < wv by omega) with h16 | h16 | h16 | h16
                    · refine v_nswI (k := 0) (off := 25) (tgt := 124) F dX9_walk_99 h16 (by decide) (by decide) (by decide) (by decide) (by decide) ?_
                      refine v_iload (pc' := 126) F dX9_walk_124 2 rfl rfl ?_
                      refine cSI0 (pc' := 129) (As := [.int (nI (eS sn))]) (rest := []) F (c_X7_townOf sn (by omega)) (va_cwS 1 F.2.2.2.2.1 gX9_walk_X7_townOf rfl rfl rfl (by decide +kernel) ⟨Nat.le_of_ble_eq_true rfl, Nat.le_of_ble_eq_true rfl⟩) rfl rfl (Nat.le_of_ble_eq_true rfl) dX9_walk_126 ⟨Nat.zero_le _, Nat.zero_le _⟩ rfl (fun r u q17 => ?_)
                      obtain rfl := q17
                      exact rt dX9_walk_129 (co2_8, ge2_9, gi2_10, pa2_11) (by unfold A_walk; rw [if_pos (show isP pe (nI t) by assumption), if_pos hz9, if_neg hv9, if_pos hw8, tN_nI (t := t) (by omega), tN_nI (t := tz) (by omega), tN_nI (t := sv) (by omega), tN_nI (t := wv) (by omega), show tz = j by omega, hwk]; unfold walkV; rw [if_pos (by assumption)]) rfl
                    · refine v_nswI (k := 1) (off := 31) (tgt := 130) F dX9_walk_99 h16 (by decide) (by decide) (by decide) (by decide) (by decide) ?_
                      refine v_iload (pc' := 132) F dX9_walk_130 2 rfl rfl ?_
                      refine cSI0 (pc' := 135) (As := [.int (nI (eS sn))]) (rest := []) F (c_X7_coinsTogether sn (by omega)) (va_cwS 1 F.2.2.2.2.1 gX9_walk_X7_coinsTogether rfl rfl rfl (by decide +kernel) ⟨Nat.le_of_ble_eq_true rfl, Nat.le_of_ble_eq_true rfl⟩) rfl rfl (Nat.le_of_ble_eq_true rfl) dX9_walk_132 ⟨Nat.zero_le _, Nat.zero_le _⟩ rfl (fun r u q18 => ?_)
                      obtain rfl := q18
                      exact rt dX9_walk_135 (co2_8, ge2_9, gi2_10, pa2_11) (by unfold A_walk; rw [if_pos (show isP pe (nI t) by assumption), if_pos hz9, if_neg hv9, if_pos hw8, tN_nI (t := t) (by omega), tN_nI (t := tz) (by omega), tN_nI (t := sv) (by omega), tN_nI (t := wv) (by omega), show tz = j by omega, hwk]; unfold walkV; rw [if_neg (by omega), if_pos (by assumption)]) rfl
                    · refine v_nswI (k := 2) (off := 37) (tgt := 136) F dX9_walk_99 h16 (by decide) (by decide) (by decide) (by decide) (by decide) ?_
                      refine v_iload (pc' := 138) F dX9_walk_136 2 rfl rfl ?_
                      refine cSI0 (pc' := 141) (As := [.int (nI (eS sn))]) (rest := []) F (c_X7_goodsOf sn (by omega)) (va_cwS 1 F.2.2.2.2.1 gX9_walk_X7_goodsOf rfl rfl rfl (by decide +kernel) ⟨Nat.le_of_ble_eq_true rfl, Nat.le_of_ble_eq_true rfl⟩) rfl rfl (Nat.le_of_ble_eq_true rfl) dX9_walk_138 ⟨Nat.zero_le _, Nat.zero_le _⟩ rfl (fun r u q19 => ?_)
                      obtain rfl := q19
                      exact rt dX9_walk_141 (co2_8, ge2_9, gi2_10, pa2_11) (by unfold A_walk; rw [if_pos (show isP pe (nI t) by assumption), if_pos hz9, if_neg hv9, if_pos hw8, tN_nI (t := t) (by omega), tN_nI (t := tz) (by omega), tN_nI (t := sv) (by omega), tN_nI (t := wv) (by omega), show tz = j by omega, hwk]; unfold walkV; rw [if_neg (by omega), if_neg (by omega), if_pos (by assumption)]) rfl
                    · refine v_nswO (tgt := 142) F dX9_walk_99 (by omega) (by omega) (by decide) ?_
                      refine v_iload (pc' := 144) F dX9_walk_142 1 rfl rfl ?_
                      exact rt dX9_walk_144 (co2_8, ge2_9, gi2_10, pa2_11) (by unfold A_walk; rw [if_pos (show isP pe (nI t) by assumption), if_pos hz9, if_neg hv9, if_pos hw8, tN_nI (t := t) (by omega), tN_nI (t := tz) (by omega), tN_nI (t := sv) (by omega), tN_nI (t := wv) (by omega), show tz = j by omega, hwk]; unfold walkV; rw [if_neg (by omega), if_neg (by omega), if_neg (by omega)]) rfl
                  · refine v_iload (pc' := 72) F dX9_walk_70 1 rfl rfl ?_
                    have hsl := sdN_lt la9
                    refine cSI0 (pc' := 75) (As := [.int (nI la9)]) (rest := []) F (c_X9_seedBehind la9 (by omega)) (va_cwS 1 F.2.2.2.2.1 gX9_walk_X9_seedBehind rfl rfl rfl (by decide +kernel) ⟨Nat.le_of_ble_eq_true rfl, Nat.le_of_ble_eq_true rfl⟩) rfl rfl (Nat.le_of_ble_eq_true rfl) dX9_walk_72 ⟨Nat.zero_le _, Nat.zero_le _⟩ rfl (fun r u q20 => ?_)
                    obtain rfl := q20
                    refine v_istore (pc' := 77) (lv' := [(7, .int (nI (sdN la9))), (8, .int (nI j)), (6, .int (nI (eS sn))), (5, .ref dl), (0, .ref x), (1, .int (nI t)), (2, .int (nI tz)), (3, .int (nI sv)), (4, .int (nI wv))]) F dX9_walk_75 (by decide) rfl rfl ?_
                    refine v_aload (pc' := 79) F dX9_walk_77 3 rfl rfl ?_
                    refine v_iload (pc' := 81) F dX9_walk_79 2 rfl rfl ?_
                    refine v_iload (pc' := 83) F dX9_walk_81 0 rfl rfl ?_
                    refine v_ldc (pc' := 85) (v := nI 65536) F dX9_walk_83 (List.mem_of_getElem? (i := 3) rfl) rfl ?_
                    refine v_idiv (pc' := 86) (z := nI ((sdN la9) / 65536)) F dX9_walk_85 (nI_ne0 (by omega) (by omega)) (pk_div (by omega) (by omega) (by omega)) rfl ?_
                    refine cVI (pc' := 89) (As := [.int (nI (eS sn)), .int (nI ((sdN la9) / 65536))]) (rest := []) (wr := ((x, .inr (7, [.ref pgo, .ref ppa, .ref dl, .ref se, .ref tr, .ref im, .ref la, .ref dr, .int (nI pe), .int (nI ac), .int (nI lr), .int (nI sd)])) :: (la, .inr (2, [.ref b0, .ref b1, .ref b2, .ref b3, .int (nI lp), .int (nI ld)])) :: (b0, aI G 4 tk) :: (b1, aI G 4 gv) :: (b2, aI G 4 pr) :: (b3, aI G 4 py) :: (ppa, aP G 5 pq) :: pX G pq ks sx)) F (c_X0_afterDraw dl a0 a1 a2 a3 co2_8 ge2_9 gi2_10 pa2_11 sn ((sdN la9) / 65536) hwd (by omega) (by omega)) (cwV 2 F.2.2.2.2.1 gX9_walk_X0_afterDraw rfl rfl rfl (by decide +kernel) ⟨Nat.le_of_ble_eq_true rfl, Nat.le_of_ble_eq_true rfl⟩) (v_rcvW F 0 1 rfl rfl) rfl rfl (Nat.le_of_ble_eq_true rfl) dX9_walk_86 [1, 2, 3, 4, 5] [0, 6, 7, 8, 9, 10, 11, 12, 13, 14, 15, 16] (by decide) rfl rfl (by decide) (by decide) ⟨Nat.zero_le _, Nat.zero_le _⟩ rfl (fun r u q22 => ?_)
                    obtain ⟨k21, hkk21, hlk21, rfl⟩ := q22
                    rw [show bh co2_8 ge2_9 gi2_10 pa2_11 sn = mB (ks t) tk gv pr py sn from funext (hbe sn)] at hkk21
                    refine v_perm (wz := ((x, .inr (7, [.ref pgo, .ref ppa, .ref dl, .ref se, .ref tr, .ref im, .ref la, .ref dr, .int (nI pe), .int (nI ac), .int (nI lr), .int (nI sd)])) :: (la, .inr (2, [.ref b0, .ref b1, .ref b2, .ref b3, .int (nI lp), .int (nI ld)])) :: (b0, aI G 4 tk) :: (b1, aI G 4 gv) :: (b2, aI G 4 pr) :: (b3, aI G 4 py) :: (ppa, aP G 5 pq) :: (dl, .inr (0, [.ref a0, .ref a1, .ref a2, .ref a3])) :: (a0, aI G 4 co2_8) :: (a1, aI G 4 ge2_9) :: (a2, aI G 4 gi2_10) :: (a3, aI G 4 pa2_11) :: pX G pq ks sx)) [0, 1, 2, 3, 4, 5, 6, 12, 13, 14, 15, 16, 7, 8, 9, 10, 11] (by decide) rfl ?_
                    refine v_istore (pc' := 91) (lv' := [(6, .int (nI (eS k21))), (7, .int (nI (sdN la9))), (8, .int (nI j)), (5, .ref dl), (0, .ref x), (1, .int (nI t)), (2, .int (nI tz)), (3, .int (nI sv)), (4, .int (nI wv))]) F dX9_walk_89 (by decide) rfl rfl ?_
                    refine v_iinc (pc' := 94) (v := nI (j + 1)) (lv' := [(8, .int (nI (j + 1))), (6, .int (nI (eS k21))), (7, .int (nI (sdN la9))), (5, .ref dl), (0, .ref x), (1, .int (nI t)), (2, .int (nI tz)), (3, .int (nI sv)), (4, .int (nI wv))]) F dX9_walk_91 2 rfl (nI_add _ _) (by decide) rfl rfl ?_
                    refine v_goto (tgt := 64) F dX9_walk_94 (by decide) ?_
                    refine v_perm (wz := ((x, .inr (7, [.ref pgo, .ref ppa, .ref dl, .ref se, .ref tr, .ref im, .ref la, .ref dr, .int (nI pe), .int (nI ac), .int (nI lr), .int (nI sd)])) :: (dl, .inr (0, [.ref a0, .ref a1, .ref a2, .ref a3])) :: (a0, aI G 4 co2_8) :: (a1, aI G 4 ge2_9) :: (a2, aI G 4 gi2_10) :: (a3, aI G 4 pa2_11) :: (la, .inr (2, [.ref b0, .ref b1, .ref b2, .ref b3, .int (nI lp), .int (nI ld)])) :: (b0, aI G 4 tk) :: (b1, aI G 4 gv) :: (b2, aI G 4 pr) :: (b3, aI G 4 py) :: (ppa, aP G 5 pq) :: pX G pq ks sx)) [0, 7, 8, 9, 10, 11, 1, 2, 3, 4, 5, 6, 12, 13, 14, 15, 16] (by decide) rfl ?_
                    refine v_lpick (lz := [(8, .int (nI (j + 1))), (7, .int (nI (sdN la9))), (6, .int (nI (eS k21))), (5, .ref dl), (0, .ref x), (1, .int (nI t)), (2, .int (nI tz)), (3, .int (nI sv)), (4, .int (nI wv))]) [0, 2, 1, 3, 4, 5, 6, 7, 8] rfl ?_
                    exact ih64 (j + 1) k21 (sdN la9) (by omega) (hlk21) (by have := sdN_lt la9; omega) (wkN_s hwk hkk21) (by omega)
              exact L64 (tz + 1) 0 (sx t) sv (by omega) (by omega) (by omega) (rfl) (by omega)
            · refine v_bipush (pc' := 39) (v := (-102)) F dX9_walk_37 (by decide) rfl ?_
              refine v_perm (wz := ((x, .inr (7, [.ref pgo, .ref ppa, .ref dl, .ref se, .ref tr, .ref im, .ref la, .ref dr, .int (nI pe), .int (nI ac), .int (nI lr), .int (nI sd)])) :: (dl, .inr (0, [.ref a0, .ref a1, .ref a2, .ref a3])) :: (a0, aI G 4 co) :: (a1, aI G 4 ge) :: (a2, aI G 4 gi) :: (a3, aI G 4 pa) :: (la, .inr (2, [.ref b0, .ref b1, .ref b2, .ref b3, .int (nI lp), .int (nI ld)])) :: (b0, aI G 4 tk) :: (b1, aI G 4 gv) :: (b2, aI G 4 pr) :: (b3, aI G 4 py) :: (ppa, aP G 5 pq) :: pX G pq ks sx)) [11, 0, 1, 2, 3, 4, 5, 6, 7, 8, 9, 10, 12, 13, 14, 15, 16] (by decide) rfl ?_
              exact rt dX9_walk_39 (co, ge, gi, pa) (by unfold A_walk; rw [if_pos (show isP pe (nI t) by assumption)]; first | rw [if_neg (inR_no1 (by assumption))] | rw [if_neg (inR_no2 (by assumption))] | (rw [if_pos ⟨nlt_le (by assumption), nlt_le (by assumption)⟩]; first | rw [if_pos (by assumption)] | (rw [if_neg (show ¬ v < 0 by assumption)]; first | rw [if_neg (inR_no0 (by assumption))] | rw [if_neg (inR_no2 (nle9 (by assumption)))]))) rfl
  · refine v_bipush (pc' := 10) (v := (-101)) F dX9_walk_8 (by decide) rfl ?_
    refine v_perm (wz := ((x, .inr (7, [.ref pgo, .ref ppa, .ref dl, .ref se, .ref tr, .ref im, .ref la, .ref dr, .int (nI pe), .int (nI ac), .int (nI lr), .int (nI sd)])) :: (dl, .inr (0, [.ref a0, .ref a1, .ref a2, .ref a3])) :: (a0, aI G 4 co) :: (a1, aI G 4 ge) :: (a2, aI G 4 gi) :: (a3, aI G 4 pa) :: (la, .inr (2, [.ref b0, .ref b1, .ref b2, .ref b3, .int (nI lp), .int (nI ld)])) :: (b0, aI G 4 tk) :: (b1, aI G 4 gv) :: (b2, aI G 4 pr) :: (b3, aI G 4 py) :: (ppa, aP G 5 pq) :: pX G pq ks sx)) [11, 0, 1, 2, 3, 4, 5, 6, 7, 8, 9, 10, 12, 13, 14, 15, 16] (by decide) rfl ?_
    exact rt dX9_walk_10 (co, ge, gi, pa) (by unfold A_walk; rw [if_neg (by first | assumption | exact inR_no0 (by assumption) | exact inR_no1 (by assumption) | exact inR_no2 (by assumption) | exact inR_no2 (nle9 (by assumption)) | exact inR_noL (by decide) (by assumption))]) rfl
def rm_X10_mayMany : Room := { frames := 3, cells := 0, slots := 0, locals := 70 }
set_option maxHeartbeats 4000000 in
set_option maxRecDepth 100000 in
theorem c_X10_mayMany {l : Launch} {D : va_G} {G : gT} (o : Nat) (ma : Nat → Nat) (fi : Nat → Int32) (fl : Nat → Int64) (tk gv pr py : Nat → Nat) (k n9 : Nat) (hw : WL tk gv pr py) (hk : k < 5) (hn : n9 < 40000) : CtI (σ := Unit) l yX10_mayMany wsX10_mayMany rm_X10_mayMany D G [.ref o, .int (nI k), .int (nI n9)] [(o, mO ma fi fl), (ma 2, aI G 4 tk), (ma 3, aI G 4 gv), (ma 4, aI G 4 pr), (ma 5, aI G 4 py)] (fun r _ => r = nI (opL (mB k tk gv pr py n9)).length) (fun _ => [(o, mO ma fi fl), (ma 2, aI G 4 tk), (ma 3, aI G 4 gv), (ma 4, aI G 4 pr), (ma 5, aI G 4 py)]) := by
  refine openI (maxL := 5) (by decide) rfl (Nat.le_of_ble_eq_true rfl) ?_
  intro pg ev sg mm ags bl me cd A Q F hmn rt
  refine v_lv (lz := [(0, .ref o), (1, .int (nI k)), (2, .int (nI n9))]) rfl ?_
  refine v_iconst (pc' := 1) (v := nI 0) F dX10_mayMany_0 (by decide) rfl ?_
  refine v_istore_n (pc' := 2) (lv' := [(3, .int (nI 0)), (0, .ref o), (1, .int (nI k)), (2, .int (nI n9))]) F dX10_mayMany_1 rfl (by decide) rfl rfl ?_
  refine v_iconst (pc' := 3) (v := nI 0) F dX10_mayMany_2 (by decide) rfl ?_
  refine v_istore (pc' := 5) (lv' := [(4, .int (nI 0)), (3, .int (nI 0)), (0, .ref o), (1, .int (nI k)), (2, .int (nI n9))]) F dX10_mayMany_3 (by decide) rfl rfl ?_
  have L5 : ∀ (fu : Nat) (j : Nat) (ct : Nat), (j ≤ 24) → (ct = (opM (mB k tk gv pr py n9) j).length) → 24 < j + fu → V pg l ev rm_X10_mayMany sg mm ags bl me cd 0 0 Q D A 5 5 [(4, .int (nI j)), (3, .int (nI ct)), (0, .ref o), (1, .int (nI k)), (2, .int (nI n9))] [] [(o, mO ma fi fl), (ma 2, aI G 4 tk), (ma 3, aI G 4 gv), (ma 4, aI G 4 pr), (ma 5, aI G 4 py)] := by
    intro fu
    induction fu with
    | zero => intro j ct hj hct hfu; exact absurd hfu (by omega)
    | succ fu ih5 =>
      intro j ct hj hct hfu
      have h8 := opM_le (mB k tk gv pr py n9) j
      refine v_iload (pc' := 7) F dX10_mayMany_5 0 rfl rfl ?_
      refine v_bipush (pc' := 9) (v := nI 24) F dX10_mayMany_7 (by decide) rfl ?_
      refine v_ncmp_ge (tgt := 46) (pc' := 12) F dX10_mayMany_9 (by omega) (by omega) (by decide) rfl (fun c2 => ?_) (fun c2 => ?_)
      · refine v_iload_n (pc' := 47) F dX10_mayMany_46 rfl 1 rfl rfl ?_
        exact rt dX10_mayMany_47 () (by rw [hct, show j = 24 by omega, opM_24]) rfl
      · refine v_iload_n (pc' := 13) F dX10_mayMany_12 rfl 1 rfl rfl ?_
        refine v_iload (pc' := 15) F dX10_mayMany_13 0 rfl rfl ?_
        refine cSI0 (pc' := 18) (As := [.int (nI j)]) (rest := [.int (nI ct)]) F (c_X10_isAct (nI j)) (va_cwS 1 F.2.2.2.2.1 gX10_mayMany_X10_isAct rfl rfl rfl (by decide +kernel) ⟨Nat.le_of_ble_eq_true rfl, Nat.le_of_ble_eq_true rfl⟩) rfl rfl (Nat.le_of_ble_eq_true rfl) dX10_mayMany_15 ⟨Nat.zero_le _, Nat.zero_le _⟩ rfl (fun r u q3 => ?_)
        obtain rfl := q3
        refine v_bif_eq (tgt := 37) (pc' := 21) F dX10_mayMany_18 (by decide) rfl (fun c4 => ?_) (fun c4 => ?_)
        · have hna := aOkI_nj hj c4
          refine v_iconst (pc' := 38) (v := nI 0) F dX10_mayMany_37 (by decide) rfl ?_
          refine v_iadd (pc' := 39) (z := nI (ct + 0)) F dX10_mayMany_38 (nI_add _ _) rfl ?_
          refine v_istore_n (pc' := 40) (lv' := [(3, .int (nI (ct + 0))), (4, .int (nI j)), (0, .ref o), (1, .int (nI k)), (2, .int (nI n9))]) F dX10_mayMany_39 rfl (by decide) rfl rfl ?_
          refine v_iinc (pc' := 43) (v := nI (j + 1)) (lv' := [(4, .int (nI (j + 1))), (3, .int (nI (ct + 0))), (0, .ref o), (1, .int (nI k)), (2, .int (nI n9))]) F dX10_mayMany_40 1 rfl (nI_add _ _) (by decide) rfl rfl ?_
          refine v_goto (tgt := 5) F dX10_mayMany_43 (by decide) ?_
          exact ih5 (j + 1) (ct + 0) (by omega) (by rw [hct]; first | rw [opM_no hna, Nat.add_zero] | rw [opM_none (by assumption), Nat.add_zero]) (by omega)
        · have haj := aOkI_j hj c4
          refine v_aload_n (pc' := 22) F dX10_mayMany_21 rfl 2 rfl rfl ?_
          refine v_iload_n (pc' := 23) F dX10_mayMany_22 rfl 3 rfl rfl ?_
          refine v_iload_n (pc' := 24) F dX10_mayMany_23 rfl 4 rfl rfl ?_
          refine v_iload (pc' := 26) F dX10_mayMany_24 0 rfl rfl ?_
          refine cVI (pc' := 29) (As := [.int (nI k), .int (nI n9), .int (nI j)]) (rest := [.int (nI ct)]) (wr := []) F (c_X10_behind o ma fi fl tk gv pr py k n9 j hw hk hn haj) (cwV 3 F.2.2.2.2.1 gX10_mayMany_X10_behind rfl rfl rfl (by decide +kernel) ⟨Nat.le_of_ble_eq_true rfl, Nat.le_of_ble_eq_true rfl⟩) (v_rcvW F 8 0 rfl rfl) rfl rfl (Nat.le_of_ble_eq_true rfl) dX10_mayMany_26 [0, 1, 2, 3, 4] [] (by decide) rfl rfl (by decide) (by decide) ⟨Nat.zero_le _, Nat.zero_le _⟩ rfl (fun r u q5 => ?_)
          obtain rfl := q5
          refine v_ws (wz := [(o, mO ma fi fl), (ma 2, aI G 4 tk), (ma 3, aI G 4 gv), (ma 4, aI G 4 pr), (ma 5, aI G 4 py)]) rfl ?_
          cases hb7 : mB k tk gv pr py n9 j with
          | none =>
            refine v_top (oM_none rfl) ?_
            refine v_iconst (pc' := 30) (v := (-1)) F dX10_mayMany_29 (by decide) rfl ?_
            refine v_icmp_eq (tgt := 37) (pc' := 33) F dX10_mayMany_30 (by decide) rfl (fun c8 => ?_) (fun c8 => ?_)
            · refine v_iconst (pc' := 38) (v := nI 0) F dX10_mayMany_37 (by decide) rfl ?_
              refine v_iadd (pc' := 39) (z := nI (ct + 0)) F dX10_mayMany_38 (nI_add _ _) rfl ?_
              refine v_istore_n (pc' := 40) (lv' := [(3, .int (nI (ct + 0))), (4, .int (nI j)), (0, .ref o), (1, .int (nI k)), (2, .int (nI n9))]) F dX10_mayMany_39 rfl (by decide) rfl rfl ?_
              refine v_iinc (pc' := 43) (v := nI (j + 1)) (lv' := [(4, .int (nI (j + 1))), (3, .int (nI (ct + 0))), (0, .ref o), (1, .int (nI k)), (2, .int (nI n9))]) F dX10_mayMany_40 1 rfl (nI_add _ _) (by decide) rfl rfl ?_
              refine v_goto (tgt := 5) F dX10_mayMany_43 (by decide) ?_
              exact ih5 (j + 1) (ct + 0) (by omega) (by rw [hct]; first | rw [opM_no hna, Nat.add_zero] | rw [opM_none (by assumption), Nat.add_zero]) (by omega)
            · exact absurd rfl c8
          | some k6 =>
            refine v_top (oM_some rfl) ?_
            have hk9 := bh_lt (WL_WD k hw) hn haj hb7
            refine v_iconst (pc' := 30) (v := (-1)) F dX10_mayMany_29 (by decide) rfl ?_
            refine v_icmp_eq (tgt := 37) (pc' := 33) F dX10_mayMany_30 (by decide) rfl (fun c9 => ?_) (fun c9 => ?_)
            · exact absurd c9 (ni_m1 (by omega))
            · refine v_iconst (pc' := 34) (v := nI 1) F dX10_mayMany_33 (by decide) rfl ?_
              refine v_goto (tgt := 38) F dX10_mayMany_34 (by decide) ?_
              refine v_iadd (pc' := 39) (z := nI (ct + 1)) F dX10_mayMany_38 (nI_add _ _) rfl ?_
              refine v_istore_n (pc' := 40) (lv' := [(3, .int (nI (ct + 1))), (4, .int (nI j)), (0, .ref o), (1, .int (nI k)), (2, .int (nI n9))]) F dX10_mayMany_39 rfl (by decide) rfl rfl ?_
              refine v_iinc (pc' := 43) (v := nI (j + 1)) (lv' := [(4, .int (nI (j + 1))), (3, .int (nI (ct + 1))), (0, .ref o), (1, .int (nI k)), (2, .int (nI n9))]) F dX10_mayMany_40 1 rfl (nI_add _ _) (by decide) rfl rfl ?_
              refine v_goto (tgt := 5) F dX10_mayMany_43 (by decide) ?_
              exact ih5 (j + 1) (ct + 1) (by omega) (by rw [hct, opM_some haj hb7, List.length_append]; rfl) (by omega)
  exact L5 (24 + 1) 0 0 (by omega) (rfl) (by omega)
def rm_X10_actBy : Room := { frames := 3, cells := 0, slots := 0, locals := 70 }
set_option maxHeartbeats 4000000 in
set_option maxRecDepth 100000 in
theorem c_X10_actBy {l : Launch} {D : va_G} {G : gT} (o : Nat) (ma : Nat → Nat) (fi : Nat → Int32) (fl : Nat → Int64) (tk gv pr py : Nat → Nat) (k n9 : Nat) (hw : WL tk gv pr py) (hk : k < 5) (hn : n9 < 40000) (p9 : Nat) (hp : p9 < (opL (mB k tk gv pr py n9)).length) : CtI (σ := Nat) l yX10_actBy wsX10_actBy rm_X10_actBy D G [.ref o, .int (nI k), .int (nI n9), .int (nI p9)] [(o, mO ma fi fl), (ma 2, aI G 4 tk), (ma 3, aI G 4 gv), (ma 4, aI G 4 pr), (ma 5, aI G 4 py)] (fun r u => r = nI u ∧ (opL (mB k tk gv pr py n9))[p9]? = some u) (fun u => [(o, mO ma fi fl), (ma 2, aI G 4 tk), (ma 3, aI G 4 gv), (ma 4, aI G 4 pr), (ma 5, aI G 4 py)]) := by
  refine openI (maxL := 8) (by decide) rfl (Nat.le_of_ble_eq_true rfl) ?_
  intro pg ev sg mm ags bl me cd A Q F hmn rt
  refine v_lv (lz := [(0, .ref o), (1, .int (nI k)), (2, .int (nI n9)), (3, .int (nI p9))]) rfl ?_
  refine v_iload_n (pc' := 1) F dX10_actBy_0 rfl 3 rfl rfl ?_
  refine v_istore (pc' := 3) (lv' := [(4, .int (nI p9)), (0, .ref o), (1, .int (nI k)), (2, .int (nI n9)), (3, .int (nI p9))]) F dX10_actBy_1 (by decide) rfl rfl ?_
  refine v_iload_n (pc' := 4) F dX10_actBy_3 rfl 3 rfl rfl ?_
  refine v_istore (pc' := 6) (lv' := [(5, .int (nI n9)), (4, .int (nI p9)), (0, .ref o), (1, .int (nI k)), (2, .int (nI n9)), (3, .int (nI p9))]) F dX10_actBy_4 (by decide) rfl rfl ?_
  refine v_iconst (pc' := 7) (v := nI 0) F dX10_actBy_6 (by decide) rfl ?_
  refine v_istore (pc' := 9) (lv' := [(6, .int (nI 0)), (5, .int (nI n9)), (4, .int (nI p9)), (0, .ref o), (1, .int (nI k)), (2, .int (nI n9)), (3, .int (nI p9))]) F dX10_actBy_7 (by decide) rfl rfl ?_
  have L9 : ∀ (fu : Nat) (j : Nat) (le9 : Int32) (fo : Nat), (j ≤ 24) → (le9 = nI p9 - nI (opM (mB k tk gv pr py n9) j).length) → (fo = ((opM (mB k tk gv pr py n9) j)[p9]?).getD n9) → 24 < j + fu → V pg l ev rm_X10_actBy sg mm ags bl me cd 0 0 Q D A 8 9 [(6, .int (nI j)), (5, .int (nI fo)), (4, .int le9), (0, .ref o), (1, .int (nI k)), (2, .int (nI n9)), (3, .int (nI p9))] [] [(o, mO ma fi fl), (ma 2, aI G 4 tk), (ma 3, aI G 4 gv), (ma 4, aI G 4 pr), (ma 5, aI G 4 py)] := by
    intro fu
    induction fu with
    | zero => intro j le9 fo hj hle hfo hfu; exact absurd hfu (by omega)
    | succ fu ih9 =>
      intro j le9 fo hj hle hfo hfu
      have h8 := opM_le (mB k tk gv pr py n9) j
      have hpl := opL_len (mB k tk gv pr py n9)
      subst hle
      refine v_iload (pc' := 11) F dX10_actBy_9 0 rfl rfl ?_
      refine v_bipush (pc' := 13) (v := nI 24) F dX10_actBy_11 (by decide) rfl ?_
      refine v_ncmp_ge (tgt := 80) (pc' := 16) F dX10_actBy_13 (by omega) (by omega) (by decide) rfl (fun c2 => ?_) (fun c2 => ?_)
      · refine v_iload (pc' := 82) F dX10_actBy_80 1 rfl rfl ?_
        exact rt dX10_actBy_82 fo ⟨rfl, act_end (by rw [show (24 : Nat) = j by omega]; exact hfo) hp⟩ rfl
      · refine v_iload (pc' := 18) F dX10_actBy_16 0 rfl rfl ?_
        refine cSI0 (pc' := 21) (As := [.int (nI j)]) (rest := []) F (c_X10_isAct (nI j)) (va_cwS 1 F.2.2.2.2.1 gX10_actBy_X10_isAct rfl rfl rfl (by decide +kernel) ⟨Nat.le_of_ble_eq_true rfl, Nat.le_of_ble_eq_true rfl⟩) rfl rfl (Nat.le_of_ble_eq_true rfl) dX10_actBy_18 ⟨Nat.zero_le _, Nat.zero_le _⟩ rfl (fun r u q3 => ?_)
        obtain rfl := q3
        refine v_bif_eq (tgt := 35) (pc' := 24) F dX10_actBy_21 (by decide) rfl (fun c4 => ?_) (fun c4 => ?_)
        · have hna := aOkI_nj hj c4
          refine v_iconst (pc' := 36) (v := (-1)) F dX10_actBy_35 (by decide) rfl ?_
          refine v_istore (pc' := 38) (lv' := [(7, .int (-1)), (6, .int (nI j)), (5, .int (nI fo)), (4, .int (nI p9 - nI (opM (mB k tk gv pr py n9) j).length)), (0, .ref o), (1, .int (nI k)), (2, .int (nI n9)), (3, .int (nI p9))]) F dX10_actBy_36 (by decide) rfl rfl ?_
          refine v_iload (pc' := 40) F dX10_actBy_38 0 rfl rfl ?_
          refine v_iconst (pc' := 41) (v := (-1)) F dX10_actBy_40 (by decide) rfl ?_
          refine v_icmp_eq (tgt := 54) (pc' := 44) F dX10_actBy_41 (by decide) rfl (fun c5 => ?_) (fun c5 => ?_)
          · refine v_iload (pc' := 56) F dX10_actBy_54 2 rfl rfl ?_
            refine v_istore (pc' := 58) (lv' := [(5, .int (nI fo)), (7, .int (-1)), (6, .int (nI j)), (4, .int (nI p9 - nI (opM (mB k tk gv pr py n9) j).length)), (0, .ref o), (1, .int (nI k)), (2, .int (nI n9)), (3, .int (nI p9))]) F dX10_actBy_56 (by decide) rfl rfl ?_
            refine v_iload (pc' := 60) F dX10_actBy_58 3 rfl rfl ?_
            refine v_iload (pc' := 62) F dX10_actBy_60 1 rfl rfl ?_
            refine v_iconst (pc' := 63) (v := (-1)) F dX10_actBy_62 (by decide) rfl ?_
            refine v_icmp_ne (tgt := 70) (pc' := 66) F dX10_actBy_63 (by decide) rfl (fun c6 => ?_) (fun c6 => ?_)
            · exact absurd rfl c6
            · refine v_iconst (pc' := 67) (v := nI 0) F dX10_actBy_66 (by decide) rfl ?_
              refine v_goto (tgt := 71) F dX10_actBy_67 (by decide) ?_
              refine v_isub (pc' := 72) (z := (nI p9 - nI (opM (mB k tk gv pr py n9) j).length) - (nI 0)) F dX10_actBy_71 rfl rfl ?_
              refine v_istore (pc' := 74) (lv' := [(4, .int ((nI p9 - nI (opM (mB k tk gv pr py n9) j).length) - (nI 0))), (5, .int (nI fo)), (7, .int (-1)), (6, .int (nI j)), (0, .ref o), (1, .int (nI k)), (2, .int (nI n9)), (3, .int (nI p9))]) F dX10_actBy_72 (by decide) rfl rfl ?_
              refine v_iinc (pc' := 77) (v := nI (j + 1)) (lv' := [(6, .int (nI (j + 1))), (4, .int ((nI p9 - nI (opM (mB k tk gv pr py n9) j).length) - (nI 0))), (5, .int (nI fo)), (7, .int (-1)), (0, .ref o), (1, .int (nI k)), (2, .int (nI n9)), (3, .int (nI p9))]) F dX10_actBy_74 3 rfl (nI_add _ _) (by decide) rfl rfl ?_
              refine v_goto (tgt := 9) F dX10_actBy_77 (by decide) ?_
              refine v_lpick (lz := [(6, .int (nI (j + 1))), (5, .int (nI fo)), (4, .int ((nI p9 - nI (opM (mB k tk gv pr py n9) j).length) - (nI 0))), (0, .ref o), (1, .int (nI k)), (2, .int (nI n9)), (3, .int (nI p9))]) [0, 2, 1, 4, 5, 6, 7] rfl ?_
              exact ih9 (j + 1) ((nI p9 - nI (opM (mB k tk gv pr py n9) j).length) - (nI 0)) fo (by omega) (by rw [lef_0]; first | rw [opM_none (by assumption)] | rw [opM_no hna]) (act_keep hfo (by first | exact opM_none (by assumption) | exact opM_no hna)) (by omega)
          · exact absurd rfl c5
        · have haj := aOkI_j hj c4
          refine v_aload_n (pc' := 25) F dX10_actBy_24 rfl 3 rfl rfl ?_
          refine v_iload_n (pc' := 26) F dX10_actBy_25 rfl 4 rfl rfl ?_
          refine v_iload_n (pc' := 27) F dX10_actBy_26 rfl 5 rfl rfl ?_
          refine v_iload (pc' := 29) F dX10_actBy_27 0 rfl rfl ?_
          refine cVI (pc' := 32) (As := [.int (nI k), .int (nI n9), .int (nI j)]) (rest := []) (wr := []) F (c_X10_behind o ma fi fl tk gv pr py k n9 j hw hk hn haj) (cwV 3 F.2.2.2.2.1 gX10_actBy_X10_behind rfl rfl rfl (by decide +kernel) ⟨Nat.le_of_ble_eq_true rfl, Nat.le_of_ble_eq_true rfl⟩) (v_rcvW F 8 0 rfl rfl) rfl rfl (Nat.le_of_ble_eq_true rfl) dX10_actBy_29 [0, 1, 2, 3, 4] [] (by decide) rfl rfl (by decide) (by decide) ⟨Nat.zero_le _, Nat.zero_le _⟩ rfl (fun r u q7 => ?_)
          obtain rfl := q7
          refine v_ws (wz := [(o, mO ma fi fl), (ma 2, aI G 4 tk), (ma 3, aI G 4 gv), (ma 4, aI G 4 pr), (ma 5, aI G 4 py)]) rfl ?_
          cases hb9 : mB k tk gv pr py n9 j with
          | none =>
            refine v_top (oM_none rfl) ?_
            refine v_goto (tgt := 36) F dX10_actBy_32 (by decide) ?_
            refine v_istore (pc' := 38) (lv' := [(7, .int (-1)), (6, .int (nI j)), (5, .int (nI fo)), (4, .int (nI p9 - nI (opM (mB k tk gv pr py n9) j).length)), (0, .ref o), (1, .int (nI k)), (2, .int (nI n9)), (3, .int (nI p9))]) F dX10_actBy_36 (by decide) rfl rfl ?_
            refine v_iload (pc' := 40) F dX10_actBy_38 0 rfl rfl ?_
            refine v_iconst (pc' := 41) (v := (-1)) F dX10_actBy_40 (by decide) rfl ?_
            refine v_icmp_eq (tgt := 54) (pc' := 44) F dX10_actBy_41 (by decide) rfl (fun c10 => ?_) (fun c10 => ?_)
            · refine v_iload (pc' := 56) F dX10_actBy_54 2 rfl rfl ?_
              refine v_istore (pc' := 58) (lv' := [(5, .int (nI fo)), (7, .int (-1)), (6, .int (nI j)), (4, .int (nI p9 - nI (opM (mB k tk gv pr py n9) j).length)), (0, .ref o), (1, .int (nI k)), (2, .int (nI n9)), (3, .int (nI p9))]) F dX10_actBy_56 (by decide) rfl rfl ?_
              refine v_iload (pc' := 60) F dX10_actBy_58 3 rfl rfl ?_
              refine v_iload (pc' := 62) F dX10_actBy_60 1 rfl rfl ?_
              refine v_iconst (pc' := 63) (v := (-1)) F dX10_actBy_62 (by decide) rfl ?_
              refine v_icmp_ne (tgt := 70) (pc' := 66) F dX10_actBy_63 (by decide) rfl (fun c11 => ?_) (fun c11 => ?_)
              · exact absurd rfl c11
              · refine v_iconst (pc' := 67) (v := nI 0) F dX10_actBy_66 (by decide) rfl ?_
                refine v_goto (tgt := 71) F dX10_actBy_67 (by decide) ?_
                refine v_isub (pc' := 72) (z := (nI p9 - nI (opM (mB k tk gv pr py n9) j).length) - (nI 0)) F dX10_actBy_71 rfl rfl ?_
                refine v_istore (pc' := 74) (lv' := [(4, .int ((nI p9 - nI (opM (mB k tk gv pr py n9) j).length) - (nI 0))), (5, .int (nI fo)), (7, .int (-1)), (6, .int (nI j)), (0, .ref o), (1, .int (nI k)), (2, .int (nI n9)), (3, .int (nI p9))]) F dX10_actBy_72 (by decide) rfl rfl ?_
                refine v_iinc (pc' := 77) (v := nI (j + 1)) (lv' := [(6, .int (nI (j + 1))), (4, .int ((nI p9 - nI (opM (mB k tk gv pr py n9) j).length) - (nI 0))), (5, .int (nI fo)), (7, .int (-1)), (0, .ref o), (1, .int (nI k)), (2, .int (nI n9)), (3, .int (nI p9))]) F dX10_actBy_74 3 rfl (nI_add _ _) (by decide) rfl rfl ?_
                refine v_goto (tgt := 9) F dX10_actBy_77 (by decide) ?_
                refine v_lpick (lz := [(6, .int (nI (j + 1))), (5, .int (nI fo)), (4, .int ((nI p9 - nI (opM (mB k tk gv pr py n9) j).length) - (nI 0))), (0, .ref o), (1, .int (nI k)), (2, .int (nI n9)), (3, .int (nI p9))]) [0, 2, 1, 4, 5, 6, 7] rfl ?_
                exact ih9 (j + 1) ((nI p9 - nI (opM (mB k tk gv pr py n9) j).length) - (nI 0)) fo (by omega) (by rw [lef_0]; first | rw [opM_none (by assumption)] | rw [opM_no hna]) (act_keep hfo (by first | exact opM_none (by assumption) | exact opM_no hna)) (by omega)
            · exact absurd rfl c10
          | some k8 =>
            refine v_top (oM_some rfl) ?_
            have hk9 := bh_lt (WL_WD k hw) hn haj hb9
            refine v_goto (tgt := 36) F dX10_actBy_32 (by decide) ?_
            refine v_istore (pc' := 38) (lv' := [(7, .int (nI k8)), (6, .int (nI j)), (5, .int (nI fo)), (4, .int (nI p9 - nI (opM (mB k tk gv pr py n9) j).length)), (0, .ref o), (1, .int (nI k)), (2, .int (nI n9)), (3, .int (nI p9))]) F dX10_actBy_36 (by decide) rfl rfl ?_
            refine v_iload (pc' := 40) F dX10_actBy_38 0 rfl rfl ?_
            refine v_iconst (pc' := 41) (v := (-1)) F dX10_actBy_40 (by decide) rfl ?_
            refine v_icmp_eq (tgt := 54) (pc' := 44) F dX10_actBy_41 (by decide) rfl (fun c12 => ?_) (fun c12 => ?_)
            · exact absurd c12 (ni_m1 (by omega))
            · refine v_iload (pc' := 46) F dX10_actBy_44 3 rfl rfl ?_
              refine v_if_ne (tgt := 54) (pc' := 49) F dX10_actBy_46 (by decide) rfl (fun c13 => ?_) (fun c13 => ?_)
              · refine v_iload (pc' := 56) F dX10_actBy_54 2 rfl rfl ?_
                refine v_istore (pc' := 58) (lv' := [(5, .int (nI fo)), (7, .int (nI k8)), (6, .int (nI j)), (4, .int (nI p9 - nI (opM (mB k tk gv pr py n9) j).length)), (0, .ref o), (1, .int (nI k)), (2, .int (nI n9)), (3, .int (nI p9))]) F dX10_actBy_56 (by decide) rfl rfl ?_
                refine v_iload (pc' := 60) F dX10_actBy_58 3 rfl rfl ?_
                refine v_iload (pc' := 62) F dX10_actBy_60 1 rfl rfl ?_
                refine v_iconst (pc' := 63) (v := (-1)) F dX10_actBy_62 (by decide) rfl ?_
                refine v_icmp_ne (tgt := 70) (pc' := 66) F dX10_actBy_63 (by decide) rfl (fun c14 => ?_) (fun c14 => ?_)
                · refine v_iconst (pc' := 71) (v := nI 1) F dX10_actBy_70 (by decide) rfl ?_
                  refine v_isub (pc' := 72) (z := (nI p9 - nI (opM (mB k tk gv pr py n9) j).length) - (nI 1)) F dX10_actBy_71 rfl rfl ?_
                  refine v_istore (pc' := 74) (lv' := [(4, .int ((nI p9 - nI (opM (mB k tk gv pr py n9) j).length) - (nI 1))), (5, .int (nI fo)), (7, .int (nI k8)), (6, .int (nI j)), (0, .ref o), (1, .int (nI k)), (2, .int (nI n9)), (3, .int (nI p9))]) F dX10_actBy_72 (by decide) rfl rfl ?_
                  refine v_iinc (pc' := 77) (v := nI (j + 1)) (lv' := [(6, .int (nI (j + 1))), (4, .int ((nI p9 - nI (opM (mB k tk gv pr py n9) j).length) - (nI 1))), (5, .int (nI fo)), (7, .int (nI k8)), (0, .ref o), (1, .int (nI k)), (2, .int (nI n9)), (3, .int (nI p9))]) F dX10_actBy_74 3 rfl (nI_add _ _) (by decide) rfl rfl ?_
                  refine v_goto (tgt := 9) F dX10_actBy_77 (by decide) ?_
                  refine v_lpick (lz := [(6, .int (nI (j + 1))), (5, .int (nI fo)), (4, .int ((nI p9 - nI (opM (mB k tk gv pr py n9) j).length) - (nI 1))), (0, .ref o), (1, .int (nI k)), (2, .int (nI n9)), (3, .int (nI p9))]) [0, 2, 1, 4, 5, 6, 7] rfl ?_
                  exact ih9 (j + 1) ((nI p9 - nI (opM (mB k tk gv pr py n9) j).length) - (nI 1)) fo (by omega) (by rw [lef_1, opM_some haj hb9, List.length_append]; rfl) (act_miss hfo haj hb9 (fun q => absurd ((lef_z (by omega) (by omega)).mpr q) (by assumption))) (by omega)
                · exact absurd c14 (ni_m1 (by omega))
              · refine v_iload (pc' := 51) F dX10_actBy_49 0 rfl rfl ?_
                refine v_goto (tgt := 56) F dX10_actBy_51 (by decide) ?_
                refine v_istore (pc' := 58) (lv' := [(5, .int (nI k8)), (7, .int (nI k8)), (6, .int (nI j)), (4, .int (nI p9 - nI (opM (mB k tk gv pr py n9) j).length)), (0, .ref o), (1, .int (nI k)), (2, .int (nI n9)), (3, .int (nI p9))]) F dX10_actBy_56 (by decide) rfl rfl ?_
                refine v_iload (pc' := 60) F dX10_actBy_58 3 rfl rfl ?_
                refine v_iload (pc' := 62) F dX10_actBy_60 1 rfl rfl ?_
                refine v_iconst (pc' := 63) (v := (-1)) F dX10_actBy_62 (by decide) rfl ?_
                refine v_icmp_ne (tgt := 70) (pc' := 66) F dX10_actBy_63 (by decide) rfl (fun c15 => ?_) (fun c15 => ?_)
                · refine v_iconst (pc' := 71) (v := nI 1) F dX10_actBy_70 (by decide) rfl ?_
                  refine v_isub (pc' := 72) (z := (nI p9 - nI (opM (mB k tk gv pr py n9) j).length) - (nI 1)) F dX10_actBy_71 rfl rfl ?_
                  refine v_istore (pc' := 74) (lv' := [(4, .int ((nI p9 - nI (opM (mB k tk gv pr py n9) j).length) - (nI 1))), (5, .int (nI k8)), (7, .int (nI k8)), (6, .int (nI j)), (0, .ref o), (1, .int (nI k)), (2, .int (nI n9)), (3, .int (nI p9))]) F dX10_actBy_72 (by decide) rfl rfl ?_
                  refine v_iinc (pc' := 77) (v := nI (j + 1)) (lv' := [(6, .int (nI (j + 1))), (4, .int ((nI p9 - nI (opM (mB k tk gv pr py n9) j).length) - (nI 1))), (5, .int (nI k8)), (7, .int (nI k8)), (0, .ref o), (1, .int (nI k)), (2, .int (nI n9)), (3, .int (nI p9))]) F dX10_actBy_74 3 rfl (nI_add _ _) (by decide) rfl rfl ?_
                  refine v_goto (tgt := 9) F dX10_actBy_77 (by decide) ?_
                  refine v_lpick (lz := [(6, .int (nI (j + 1))), (5, .int (nI k8)), (4, .int ((nI p9 - nI (opM (mB k tk gv pr py n9) j).length) - (nI 1))), (0, .ref o), (1, .int (nI k)), (2, .int (nI n9)), (3, .int (nI p9))]) [0, 2, 1, 4, 5, 6, 7] rfl ?_
                  exact ih9 (j + 1) ((nI p9 - nI (opM (mB k tk gv pr py n9) j).length) - (nI 1)) k8 (by omega) (by rw [lef_1, opM_some haj hb9, List.length_append]; rfl) (act_hit haj hb9 ((lef_z (by omega) (by omega)).mp (by assumption))) (by omega)
                · exact absurd c15 (ni_m1 (by omega))
  exact L9 (24 + 1) 0 (nI p9) n9 (by omega) (by rw [opM_0]; exact (ni_sub0 _).symm) (rfl) (by omega)
def rm_X10_draw : Room := { frames := 0, cells := 0, slots := 0, locals := 0 }
theorem in_X10_draw_X10 : ∀ w ∈ u_ws RX10 TX10 38, w ∈ wsX10_draw := fun w h => List.mem_cons_of_mem _ (List.mem_append_right _ (h))
set_option maxHeartbeats 4000000 in
set_option maxRecDepth 100000 in
theorem c_X10_draw {l : Launch} {D : va_G} {G : gT} (o : Nat) (ma : Nat → Nat) (fi : Nat → Int32) (fl : Nat → Int64) (s9 d9 : Nat) (hs : fl 30 = lN s9) (hs31 : s9 < 2 ^ 31) (hd0 : 0 < d9) (hd : d9 < 2 ^ 31) : CtI (σ := Unit) l yX10_draw wsX10_draw rm_X10_draw D G [.ref o, .int (nI d9)] [(o, mO ma fi fl)] (fun r _ => r = nI (sdN s9 / 65536 % d9)) (fun _ => [(o, mO ma fi (va_up fl 30 (lN (sdN s9))))]) := by
  refine openI (maxL := 2) (by decide) rfl (Nat.le_of_ble_eq_true rfl) ?_
  intro pg ev sg mm ags bl me cd A Q F hmn rt
  refine v_lv (lz := [(0, .ref o), (1, .int (nI d9))]) rfl ?_
  have hsl := sdN_lt s9
  refine v_aload_n (pc' := 1) F dX10_draw_0 rfl 0 rfl rfl ?_
  refine v_ldc2 (pc' := 4) (v := lN 1103515245) F dX10_draw_1 (List.mem_of_getElem? (i := 1) rfl) rfl ?_
  refine v_aload_n (pc' := 5) F dX10_draw_4 rfl 0 rfl rfl ?_
  refine v_get (pc' := 8) (v := .long (lN s9)) (C := RX10) (T := TX10) (N := 38) F dX10_draw_5 in_X10_draw_X10 0 rfl rfl 30 (by decide) (List.mem_of_getElem? (i := 2) rfl) (congrArg (fun z => some (Value.long z)) hs) rfl ?_
  refine v_lmul (pc' := 9) (z := lN (1103515245 * s9)) F dX10_draw_8 (lN_mul _ _) rfl ?_
  refine v_ldc2 (pc' := 12) (v := lN 12345) F dX10_draw_9 (List.mem_of_getElem? (i := 3) rfl) rfl ?_
  refine v_ladd (pc' := 13) (z := lN ((1103515245 * s9) + 12345)) F dX10_draw_12 (lN_add _ _) rfl ?_
  refine v_ldc2 (pc' := 16) (v := lN 2147483647) F dX10_draw_13 (List.mem_of_getElem? (i := 4) rfl) rfl ?_
  refine v_land (pc' := 17) (z := lN (((1103515245 * s9) + 12345) % 2147483648)) F dX10_draw_16 (wb_mask (k := 31) (by omega) (by decide)) rfl ?_
  refine v_put (pc' := 20) (ws' := [(o, mO ma fi (va_up fl 30 (lN (((1103515245 * s9) + 12345) % 2147483648))))]) (C := RX10) (T := TX10) (N := 38) F dX10_draw_17 in_X10_draw_X10 tyX10_ok nmX10 0 rfl rfl 30 (by decide) (List.mem_of_getElem? (i := 2) rfl) rfl rfl rfl (Nat.le_of_ble_eq_true rfl) rfl rfl ?_
  refine v_ws (wz := [(o, mO ma fi (va_up fl 30 (lN (sdN s9))))]) rfl ?_
  refine v_aload_n (pc' := 21) F dX10_draw_20 rfl 0 rfl rfl ?_
  refine v_get (pc' := 24) (v := .long (lN (sdN s9))) (C := RX10) (T := TX10) (N := 38) F dX10_draw_21 in_X10_draw_X10 0 rfl rfl 30 (by decide) (List.mem_of_getElem? (i := 2) rfl) rfl rfl ?_
  refine v_ldc2 (pc' := 27) (v := lN 65536) F dX10_draw_24 (List.mem_of_getElem? (i := 5) rfl) rfl ?_
  refine v_ldiv (pc' := 28) (z := lN ((sdN s9) / 65536)) F dX10_draw_27 (lN_ne0 (by omega) (by omega)) (pk_lDiv (by omega) (by omega) (by omega)) rfl ?_
  refine v_iload_n (pc' := 29) F dX10_draw_28 rfl 1 rfl rfl ?_
  refine v_i2l (pc' := 30) (z := lN d9) F dX10_draw_29 (nI_l (by omega)) rfl ?_
  refine v_lrem (pc' := 31) (z := lN (((sdN s9) / 65536) % d9)) F dX10_draw_30 (lN_ne0 (by omega) (by omega)) (pk_lRem (by omega) (by omega) (by omega)) rfl ?_
  refine v_l2i (pc' := 32) (z := nI (((sdN s9) / 65536) % d9)) F dX10_draw_31 (lN_i _) rfl ?_
  exact rt dX10_draw_32 () rfl rfl
def rm_X10_walkNow : Room := { frames := 4, cells := 0, slots := 0, locals := 97 }
theorem in_X10_walkNow_X10 : ∀ w ∈ u_ws RX10 TX10 38, w ∈ wsX10_walkNow := fun w h => List.mem_cons_of_mem _ (List.mem_append_right _ (h))
set_option maxHeartbeats 4000000 in
set_option maxRecDepth 100000 in
theorem c_X10_walkNow {l : Launch} {D : va_G} {G : gT} (o : Nat) (ma : Nat → Nat) (fi : Nat → Int32) (fl : Nat → Int64) (tk gv pr py ks sx : Nat → Nat) (t tz sv wv : Nat) (ht : t < 5) (hz : tz ≤ 60) (hs : sv < 2 ^ 31) (hv : wv ≤ 3) (hwp : WPe ks sx) (hw : WL tk gv pr py) : CtI (σ := (Nat → Int64)) l yX10_walkNow wsX10_walkNow rm_X10_walkNow D G [.ref o, .int (nI t), .int (nI tz), .int (nI sv), .int (nI wv)] [(o, mO ma fi fl), (ma 2, aI G 4 tk), (ma 3, aI G 4 gv), (ma 4, aI G 4 pr), (ma 5, aI G 4 py), (ma 7, aI G 5 ks), (ma 8, aI G 5 sx)] (fun r u => r = nI (walkV (wkN (mB (ks t) tk gv pr py) tz (sx t, sv)) wv)) (fun u => [(o, mO ma fi u), (ma 2, aI G 4 tk), (ma 3, aI G 4 gv), (ma 4, aI G 4 pr), (ma 5, aI G 4 py), (ma 7, aI G 5 ks), (ma 8, aI G 5 sx)]) := by
  refine openI (maxL := 7) (by decide) rfl (Nat.le_of_ble_eq_true rfl) ?_
  intro pg ev sg mm ags bl me cd A Q F hmn rt
  refine v_lv (lz := [(0, .ref o), (1, .int (nI t)), (2, .int (nI tz)), (3, .int (nI sv)), (4, .int (nI wv))]) rfl ?_
  have hw9 := hwp t ht
  refine v_aload_n (pc' := 1) F dX10_walkNow_0 rfl 0 rfl rfl ?_
  refine v_iload_n (pc' := 2) F dX10_walkNow_1 rfl 3 rfl rfl ?_
  refine v_i2l (pc' := 3) (z := lN sv) F dX10_walkNow_2 (nI_l (by omega)) rfl ?_
  refine v_put (pc' := 6) (ws' := [(o, mO ma fi (va_up fl 30 (lN sv))), (ma 2, aI G 4 tk), (ma 3, aI G 4 gv), (ma 4, aI G 4 pr), (ma 5, aI G 4 py), (ma 7, aI G 5 ks), (ma 8, aI G 5 sx)]) (C := RX10) (T := TX10) (N := 38) F dX10_walkNow_3 in_X10_walkNow_X10 tyX10_ok nmX10 0 rfl rfl 30 (by decide) (List.mem_of_getElem? (i := 1) rfl) rfl rfl rfl (Nat.le_of_ble_eq_true rfl) rfl rfl ?_
  refine v_aload_n (pc' := 7) F dX10_walkNow_6 rfl 0 rfl rfl ?_
  refine v_get (pc' := 10) (v := .ref (ma 8)) (C := RX10) (T := TX10) (N := 38) F dX10_walkNow_7 in_X10_walkNow_X10 0 rfl rfl 8 (by decide) (List.mem_of_getElem? (i := 2) rfl) rfl rfl ?_
  refine v_iload_n (pc' := 11) F dX10_walkNow_10 rfl 1 rfl rfl ?_
  refine v_iald (pc' := 12) (z := sx t) F dX10_walkNow_11 6 rfl (by omega) (by decide) rfl rfl ?_
  refine v_istore (pc' := 14) (lv' := [(5, .int (nI (sx t))), (0, .ref o), (1, .int (nI t)), (2, .int (nI tz)), (3, .int (nI sv)), (4, .int (nI wv))]) F dX10_walkNow_12 (by decide) rfl rfl ?_
  refine v_iconst (pc' := 15) (v := nI 0) F dX10_walkNow_14 (by decide) rfl ?_
  refine v_istore (pc' := 17) (lv' := [(6, .int (nI 0)), (5, .int (nI (sx t))), (0, .ref o), (1, .int (nI t)), (2, .int (nI tz)), (3, .int (nI sv)), (4, .int (nI wv))]) F dX10_walkNow_15 (by decide) rfl rfl ?_
  have L17 : ∀ (fu : Nat) (j : Nat) (sn : Nat) (s9 : Nat), (j ≤ tz) → (sn < 40000) → (s9 < 2 ^ 31) → (wkN (mB (ks t) tk gv pr py) j (sx t, sv) = (sn, s9)) → tz < j + fu → V pg l ev rm_X10_walkNow sg mm ags bl me cd 0 0 Q D A 7 17 [(6, .int (nI j)), (5, .int (nI sn)), (0, .ref o), (1, .int (nI t)), (2, .int (nI tz)), (3, .int (nI sv)), (4, .int (nI wv))] [] [(o, mO ma fi (va_up fl 30 (lN s9))), (ma 2, aI G 4 tk), (ma 3, aI G 4 gv), (ma 4, aI G 4 pr), (ma 5, aI G 4 py), (ma 7, aI G 5 ks), (ma 8, aI G 5 sx)] := by
    intro fu
    induction fu with
    | zero => intro j sn s9 hj hsn hla hwk hfu; exact absurd hfu (by omega)
    | succ fu ih17 =>
      intro j sn s9 hj hsn hla hwk hfu
      refine v_iload (pc' := 19) F dX10_walkNow_17 0 rfl rfl ?_
      refine v_iload_n (pc' := 20) F dX10_walkNow_19 rfl 4 rfl rfl ?_
      refine v_ncmp_ge (tgt := 59) (pc' := 23) F dX10_walkNow_20 (by omega) (by omega) (by decide) rfl (fun c2 => ?_) (fun c2 => ?_)
      · refine v_iload (pc' := 61) F dX10_walkNow_59 6 rfl rfl ?_
        refine v_nif_ne (tgt := 72) (pc' := 64) F dX10_walkNow_61 (by omega) (by decide) rfl (fun c3 => ?_) (fun c3 => ?_)
        · refine v_iload (pc' := 74) F dX10_walkNow_72 6 rfl rfl ?_
          refine v_iconst (pc' := 75) (v := nI 1) F dX10_walkNow_74 (by decide) rfl ?_
          refine v_ncmp_ne (tgt := 86) (pc' := 78) F dX10_walkNow_75 (by omega) (by omega) (by decide) rfl (fun c4 => ?_) (fun c4 => ?_)
          · refine v_iload (pc' := 88) F dX10_walkNow_86 6 rfl rfl ?_
            refine v_iconst (pc' := 89) (v := nI 2) F dX10_walkNow_88 (by decide) rfl ?_
            refine v_ncmp_ne (tgt := 100) (pc' := 92) F dX10_walkNow_89 (by omega) (by omega) (by decide) rfl (fun c5 => ?_) (fun c5 => ?_)
            · refine v_aload_n (pc' := 101) F dX10_walkNow_100 rfl 2 rfl rfl ?_
              refine v_get (pc' := 104) (v := .long (lN s9)) (C := RX10) (T := TX10) (N := 38) F dX10_walkNow_101 in_X10_walkNow_X10 0 rfl rfl 30 (by decide) (List.mem_of_getElem? (i := 1) rfl) rfl rfl ?_
              refine v_l2i (pc' := 105) (z := nI s9) F dX10_walkNow_104 (lN_i _) rfl ?_
              exact rt dX10_walkNow_105 (va_up fl 30 (lN s9)) (by rw [show tz = j by omega, hwk]; unfold walkV; rw [if_neg (by assumption), if_neg (by assumption), if_neg (by assumption)]) rfl
            · refine v_iload (pc' := 94) F dX10_walkNow_92 1 rfl rfl ?_
              refine cSI0 (pc' := 97) (As := [.int (nI sn)]) (rest := []) F (c_X10_goodsIn sn (by omega)) (va_cwS 1 F.2.2.2.2.1 gX10_walkNow_X10_goodsIn rfl rfl rfl (by decide +kernel) ⟨Nat.le_of_ble_eq_true rfl, Nat.le_of_ble_eq_true rfl⟩) rfl rfl (Nat.le_of_ble_eq_true rfl) dX10_walkNow_94 ⟨Nat.zero_le _, Nat.zero_le _⟩ rfl (fun r u q6 => ?_)
              obtain rfl := q6
              refine v_goto (tgt := 105) F dX10_walkNow_97 (by decide) ?_
              exact rt dX10_walkNow_105 (va_up fl 30 (lN s9)) (by rw [show tz = j by omega, hwk]; unfold walkV; rw [if_neg (by assumption), if_neg (by assumption), if_pos (by assumption)]) rfl
          · refine v_iload (pc' := 80) F dX10_walkNow_78 1 rfl rfl ?_
            refine cSI0 (pc' := 83) (As := [.int (nI sn)]) (rest := []) F (c_X10_coinsAll sn (by omega)) (va_cwS 1 F.2.2.2.2.1 gX10_walkNow_X10_coinsAll rfl rfl rfl (by decide +kernel) ⟨Nat.le_of_ble_eq_true rfl, Nat.le_of_ble_eq_true rfl⟩) rfl rfl (Nat.le_of_ble_eq_true rfl) dX10_walkNow_80 ⟨Nat.zero_le _, Nat.zero_le _⟩ rfl (fun r u q7 => ?_)
            obtain rfl := q7
            refine v_goto (tgt := 105) F dX10_walkNow_83 (by decide) ?_
            exact rt dX10_walkNow_105 (va_up fl 30 (lN s9)) (by rw [show tz = j by omega, hwk]; unfold walkV; rw [if_neg (by assumption), if_pos (by assumption)]) rfl
        · refine v_iload (pc' := 66) F dX10_walkNow_64 1 rfl rfl ?_
          refine cSI0 (pc' := 69) (As := [.int (nI sn)]) (rest := []) F (c_X10_townIn sn (by omega)) (va_cwS 1 F.2.2.2.2.1 gX10_walkNow_X10_townIn rfl rfl rfl (by decide +kernel) ⟨Nat.le_of_ble_eq_true rfl, Nat.le_of_ble_eq_true rfl⟩) rfl rfl (Nat.le_of_ble_eq_true rfl) dX10_walkNow_66 ⟨Nat.zero_le _, Nat.zero_le _⟩ rfl (fun r u q8 => ?_)
          obtain rfl := q8
          refine v_goto (tgt := 105) F dX10_walkNow_69 (by decide) ?_
          exact rt dX10_walkNow_105 (va_up fl 30 (lN s9)) (by rw [show tz = j by omega, hwk]; unfold walkV; rw [if_pos (by assumption)]) rfl
      · refine v_aload_n (pc' := 24) F dX10_walkNow_23 rfl 2 rfl rfl ?_
        refine v_aload_n (pc' := 25) F dX10_walkNow_24 rfl 2 rfl rfl ?_
        refine v_get (pc' := 28) (v := .ref (ma 7)) (C := RX10) (T := TX10) (N := 38) F dX10_walkNow_25 in_X10_walkNow_X10 0 rfl rfl 7 (by decide) (List.mem_of_getElem? (i := 3) rfl) rfl rfl ?_
        refine v_iload_n (pc' := 29) F dX10_walkNow_28 rfl 3 rfl rfl ?_
        refine v_iald (pc' := 30) (z := ks t) F dX10_walkNow_29 5 rfl (by omega) (by decide) rfl rfl ?_
        refine v_iload (pc' := 32) F dX10_walkNow_30 1 rfl rfl ?_
        refine v_aload_n (pc' := 33) F dX10_walkNow_32 rfl 2 rfl rfl ?_
        refine v_aload_n (pc' := 34) F dX10_walkNow_33 rfl 2 rfl rfl ?_
        refine v_aload_n (pc' := 35) F dX10_walkNow_34 rfl 2 rfl rfl ?_
        refine v_get (pc' := 38) (v := .ref (ma 7)) (C := RX10) (T := TX10) (N := 38) F dX10_walkNow_35 in_X10_walkNow_X10 0 rfl rfl 7 (by decide) (List.mem_of_getElem? (i := 3) rfl) rfl rfl ?_
        refine v_iload_n (pc' := 39) F dX10_walkNow_38 rfl 3 rfl rfl ?_
        refine v_iald (pc' := 40) (z := ks t) F dX10_walkNow_39 5 rfl (by omega) (by decide) rfl rfl ?_
        refine v_iload (pc' := 42) F dX10_walkNow_40 1 rfl rfl ?_
        refine cVI (pc' := 45) (As := [.int (nI (ks t)), .int (nI sn)]) (rest := [.ref o, .int (nI sn), .int (nI (ks t)), .ref o]) (wr := [(ma 7, aI G 5 ks), (ma 8, aI G 5 sx)]) F (c_X10_mayMany o ma fi (va_up fl 30 (lN s9)) tk gv pr py (ks t) sn hw hw9.1 hsn) (cwV 2 F.2.2.2.2.1 gX10_walkNow_X10_mayMany rfl rfl rfl (by decide +kernel) ⟨Nat.le_of_ble_eq_true rfl, Nat.le_of_ble_eq_true rfl⟩) (v_rcvW F 8 0 rfl rfl) rfl rfl (Nat.le_of_ble_eq_true rfl) dX10_walkNow_42 [0, 1, 2, 3, 4] [5, 6] (by decide) rfl rfl (by decide) (by decide) ⟨Nat.zero_le _, Nat.zero_le _⟩ rfl (fun r u q9 => ?_)
        obtain rfl := q9
        refine v_ws (wz := [(ma 7, aI G 5 ks), (ma 8, aI G 5 sx), (o, mO ma fi (va_up fl 30 (lN s9))), (ma 2, aI G 4 tk), (ma 3, aI G 4 gv), (ma 4, aI G 4 pr), (ma 5, aI G 4 py)]) rfl ?_
        have h2 : 2 ≤ (opL (mB (ks t) tk gv pr py sn)).length := opL_two (mCo (ks t) pr) (mGe (ks t) py) gv (mPa (ks t) tk) sn
        have h12 := opL_len (mB (ks t) tk gv pr py sn)
        have hsl := sdN_lt s9
        refine cVI (pc' := 48) (As := [.int (nI ((opL (mB (ks t) tk gv pr py sn)).length))]) (rest := [.int (nI sn), .int (nI (ks t)), .ref o]) (wr := [(ma 7, aI G 5 ks), (ma 8, aI G 5 sx), (ma 2, aI G 4 tk), (ma 3, aI G 4 gv), (ma 4, aI G 4 pr), (ma 5, aI G 4 py)]) F (c_X10_draw o ma fi (va_up fl 30 (lN s9)) s9 ((opL (mB (ks t) tk gv pr py sn)).length) (up_at _ _ _) (by omega) (by omega) (by omega)) (cwV 1 F.2.2.2.2.1 gX10_walkNow_X10_draw rfl rfl rfl (by decide +kernel) ⟨Nat.le_of_ble_eq_true rfl, Nat.le_of_ble_eq_true rfl⟩) (v_rcvW F 8 2 rfl rfl) rfl rfl (Nat.le_of_ble_eq_true rfl) dX10_walkNow_45 [2] [0, 1, 3, 4, 5, 6] (by decide) rfl rfl (by decide) (by decide) ⟨Nat.zero_le _, Nat.zero_le _⟩ rfl (fun r u q10 => ?_)
        obtain rfl := q10
        refine v_ws (wz := [(ma 7, aI G 5 ks), (ma 8, aI G 5 sx), (ma 2, aI G 4 tk), (ma 3, aI G 4 gv), (ma 4, aI G 4 pr), (ma 5, aI G 4 py), (o, mO ma fi (va_up (va_up fl 30 (lN s9)) 30 (lN (sdN s9))))]) rfl ?_
        refine v_ws (wz := [(ma 7, aI G 5 ks), (ma 8, aI G 5 sx), (ma 2, aI G 4 tk), (ma 3, aI G 4 gv), (ma 4, aI G 4 pr), (ma 5, aI G 4 py), (o, mO ma fi (va_up fl 30 (lN (sdN s9))))]) (by rw [up_up]) ?_
        refine cVI (pc' := 51) (As := [.int (nI (ks t)), .int (nI sn), .int (nI (sdN s9 / 65536 % ((opL (mB (ks t) tk gv pr py sn)).length)))]) (rest := []) (wr := [(ma 7, aI G 5 ks), (ma 8, aI G 5 sx)]) F (c_X10_actBy o ma fi (va_up fl 30 (lN (sdN s9))) tk gv pr py (ks t) sn hw hw9.1 hsn (sdN s9 / 65536 % ((opL (mB (ks t) tk gv pr py sn)).length)) (Nat.mod_lt _ (by omega))) (cwV 3 F.2.2.2.2.1 gX10_walkNow_X10_actBy rfl rfl rfl (by decide +kernel) ⟨Nat.le_of_ble_eq_true rfl, Nat.le_of_ble_eq_true rfl⟩) (v_rcvW F 8 6 rfl rfl) rfl rfl (Nat.le_of_ble_eq_true rfl) dX10_walkNow_48 [6, 2, 3, 4, 5] [0, 1] (by decide) rfl rfl (by decide) (by decide) ⟨Nat.zero_le _, Nat.zero_le _⟩ rfl (fun r u q13 => ?_)
        obtain ⟨z9_11, hu9⟩ : ∃ z, z = u := ⟨_, rfl⟩
        subst hu9
        obtain ⟨rfl, hZ_12⟩ := q13
        refine v_ws (wz := [(ma 7, aI G 5 ks), (ma 8, aI G 5 sx), (o, mO ma fi (va_up fl 30 (lN (sdN s9)))), (ma 2, aI G 4 tk), (ma 3, aI G 4 gv), (ma 4, aI G 4 pr), (ma 5, aI G 4 py)]) rfl ?_
        refine v_istore (pc' := 53) (lv' := [(5, .int (nI z9_11)), (6, .int (nI j)), (0, .ref o), (1, .int (nI t)), (2, .int (nI tz)), (3, .int (nI sv)), (4, .int (nI wv))]) F dX10_walkNow_51 (by decide) rfl rfl ?_
        refine v_iinc (pc' := 56) (v := nI (j + 1)) (lv' := [(6, .int (nI (j + 1))), (5, .int (nI z9_11)), (0, .ref o), (1, .int (nI t)), (2, .int (nI tz)), (3, .int (nI sv)), (4, .int (nI wv))]) F dX10_walkNow_53 1 rfl (nI_add _ _) (by decide) rfl rfl ?_
        refine v_goto (tgt := 17) F dX10_walkNow_56 (by decide) ?_
        refine v_perm (wz := [(o, mO ma fi (va_up fl 30 (lN (sdN s9)))), (ma 2, aI G 4 tk), (ma 3, aI G 4 gv), (ma 4, aI G 4 pr), (ma 5, aI G 4 py), (ma 7, aI G 5 ks), (ma 8, aI G 5 sx)]) [2, 3, 4, 5, 6, 0, 1] (by decide) rfl ?_
        exact ih17 (j + 1) z9_11 (sdN s9) (by omega) (opL_lt hw hsn hZ_12) (by omega) (wkN_s hwk hZ_12) (by omega)
  exact L17 (tz + 1) 0 (sx t) sv (by omega) (by omega) (by omega) (rfl) (by omega)
def rm_X10_walk : Room := { frames := 5, cells := 0, slots := 0, locals := 123 }
set_option maxHeartbeats 4000000 in
set_option maxRecDepth 100000 in
theorem c_X10_walk {l : Launch} {D : va_G} {G : gT} (o : Nat) (ma : Nat → Nat) (fi : Nat → Int32) (fl : Nat → Int64) (tk gv pr py ks sx : Nat → Nat) (pe : Nat) (x y z v : Int32) (hpe : fi 6 = nI pe) (h5 : pe ≤ 5) (hwp : WPe ks sx) (hl : 0 < pe → WL tk gv pr py) : CtI (σ := (Nat → Int64)) l yX10_walk wsX10_walk rm_X10_walk D G [.ref o, .int x, .int y, .int z, .int v] [(o, mO ma fi fl), (ma 2, aI G 4 tk), (ma 3, aI G 4 gv), (ma 4, aI G 4 pr), (ma 5, aI G 4 py), (ma 7, aI G 5 ks), (ma 8, aI G 5 sx)] (fun r u => r = A_walk pe tk gv pr py ks sx x y z v) (fun u => [(o, mO ma fi u), (ma 2, aI G 4 tk), (ma 3, aI G 4 gv), (ma 4, aI G 4 pr), (ma 5, aI G 4 py), (ma 7, aI G 5 ks), (ma 8, aI G 5 sx)]) := by
  refine openI (maxL := 5) (by decide) rfl (Nat.le_of_ble_eq_true rfl) ?_
  intro pg ev sg mm ags bl me cd A Q F hmn rt
  refine v_lv (lz := [(0, .ref o), (1, .int x), (2, .int y), (3, .int z), (4, .int v)]) rfl ?_
  refine v_aload_n (pc' := 1) F dX10_walk_0 rfl 0 rfl rfl ?_
  refine v_iload_n (pc' := 2) F dX10_walk_1 rfl 1 rfl rfl ?_
  refine cVI (pc' := 5) (As := [.int x]) (rest := []) (wr := [(ma 2, aI G 4 tk), (ma 3, aI G 4 gv), (ma 4, aI G 4 pr), (ma 5, aI G 4 py), (ma 7, aI G 5 ks), (ma 8, aI G 5 sx)]) F (c_X10_isPerson o ma fi fl pe x hpe h5) (cwV 1 F.2.2.2.2.1 gX10_walk_X10_isPerson rfl rfl rfl (by decide +kernel) ⟨Nat.le_of_ble_eq_true rfl, Nat.le_of_ble_eq_true rfl⟩) (v_rcvW F 8 0 rfl rfl) rfl rfl (Nat.le_of_ble_eq_true rfl) dX10_walk_2 [0] [1, 2, 3, 4, 5, 6] (by decide) rfl rfl (by decide) (by decide) ⟨Nat.zero_le _, Nat.zero_le _⟩ rfl (fun r u q1 => ?_)
  obtain rfl := q1
  refine v_ws (wz := [(ma 2, aI G 4 tk), (ma 3, aI G 4 gv), (ma 4, aI G 4 pr), (ma 5, aI G 4 py), (ma 7, aI G 5 ks), (ma 8, aI G 5 sx), (o, mO ma fi fl)]) rfl ?_
  refine v_bif_ne (tgt := 11) (pc' := 8) F dX10_walk_5 (by decide) rfl (fun c2 => ?_) (fun c2 => ?_)
  · obtain ⟨t, ht, rfl⟩ := isP_of (by omega) c2
    have hw9 := hwp t (by omega)
    have hl9 := hl (by omega)
    refine v_iload_n (pc' := 12) F dX10_walk_11 rfl 2 rfl rfl ?_
    refine v_iconst (pc' := 13) (v := nI 1) F dX10_walk_12 (by decide) rfl ?_
    refine v_bipush (pc' := 15) (v := nI 60) F dX10_walk_13 (by decide) rfl ?_
    refine cSI0 (pc' := 18) (As := [.int y, .int (nI 1), .int (nI 60)]) (rest := []) F (c_X10_within y (nI 1) (nI 60)) (va_cwS 3 F.2.2.2.2.1 gX10_walk_X10_within rfl rfl rfl (by decide +kernel) ⟨Nat.le_of_ble_eq_true rfl, Nat.le_of_ble_eq_true rfl⟩) rfl rfl (Nat.le_of_ble_eq_true rfl) dX10_walk_15 ⟨Nat.zero_le _, Nat.zero_le _⟩ rfl (fun r u q3 => ?_)
    obtain rfl := q3
    refine v_bif_eq (tgt := 35) (pc' := 21) F dX10_walk_18 (by decide) rfl (fun c4 => ?_) (fun c4 => ?_)
    · refine v_bipush (pc' := 37) (v := (-102)) F dX10_walk_35 (by decide) rfl ?_
      refine v_perm (wz := [(o, mO ma fi fl), (ma 2, aI G 4 tk), (ma 3, aI G 4 gv), (ma 4, aI G 4 pr), (ma 5, aI G 4 py), (ma 7, aI G 5 ks), (ma 8, aI G 5 sx)]) [6, 0, 1, 2, 3, 4, 5] (by decide) rfl ?_
      exact rt dX10_walk_37 fl (by unfold A_walk; rw [if_pos (show isP pe (nI t) by assumption)]; first | rw [if_neg (by assumption)] | (rw [if_pos (show inR (nI 1) y (nI 60) by assumption)]; first | rw [if_pos (by assumption)] | rw [if_neg (show ¬ z < 0 by assumption), if_neg (by assumption)])) rfl
    · refine v_iload_n (pc' := 22) F dX10_walk_21 rfl 3 rfl rfl ?_
      refine v_if_lt (tgt := 35) (pc' := 25) F dX10_walk_22 (by decide) rfl (fun c5 => ?_) (fun c5 => ?_)
      · refine v_bipush (pc' := 37) (v := (-102)) F dX10_walk_35 (by decide) rfl ?_
        refine v_perm (wz := [(o, mO ma fi fl), (ma 2, aI G 4 tk), (ma 3, aI G 4 gv), (ma 4, aI G 4 pr), (ma 5, aI G 4 py), (ma 7, aI G 5 ks), (ma 8, aI G 5 sx)]) [6, 0, 1, 2, 3, 4, 5] (by decide) rfl ?_
        exact rt dX10_walk_37 fl (by unfold A_walk; rw [if_pos (show isP pe (nI t) by assumption)]; first | rw [if_neg (by assumption)] | (rw [if_pos (show inR (nI 1) y (nI 60) by assumption)]; first | rw [if_pos (by assumption)] | rw [if_neg (show ¬ z < 0 by assumption), if_neg (by assumption)])) rfl
      · refine v_iload (pc' := 27) F dX10_walk_25 4 rfl rfl ?_
        refine v_iconst (pc' := 28) (v := nI 0) F dX10_walk_27 (by decide) rfl ?_
        refine v_iconst (pc' := 29) (v := nI 3) F dX10_walk_28 (by decide) rfl ?_
        refine cSI0 (pc' := 32) (As := [.int v, .int (nI 0), .int (nI 3)]) (rest := []) F (c_X10_within v (nI 0) (nI 3)) (va_cwS 3 F.2.2.2.2.1 gX10_walk_X10_within rfl rfl rfl (by decide +kernel) ⟨Nat.le_of_ble_eq_true rfl, Nat.le_of_ble_eq_true rfl⟩) rfl rfl (Nat.le_of_ble_eq_true rfl) dX10_walk_29 ⟨Nat.zero_le _, Nat.zero_le _⟩ rfl (fun r u q6 => ?_)
        obtain rfl := q6
        refine v_bif_ne (tgt := 38) (pc' := 35) F dX10_walk_32 (by decide) rfl (fun c7 => ?_) (fun c7 => ?_)
        · have hz9 : inR (nI 1) y (nI 60) := by assumption
          obtain ⟨tz, htz, rfl⟩ := inR_of2 (by decide) (by decide) hz9
          have hv9 : ¬ z < 0 := by assumption
          obtain ⟨sv, hsv, rfl⟩ := nI_of hv9
          have hw8 : inR (nI 0) v (nI 3) := by assumption
          obtain ⟨wv, hwv, rfl⟩ := inR_of (by decide) hw8
          refine v_aload_n (pc' := 39) F dX10_walk_38 rfl 0 rfl rfl ?_
          refine v_iload_n (pc' := 40) F dX10_walk_39 rfl 1 rfl rfl ?_
          refine v_iload_n (pc' := 41) F dX10_walk_40 rfl 2 rfl rfl ?_
          refine v_iload_n (pc' := 42) F dX10_walk_41 rfl 3 rfl rfl ?_
          refine v_iload (pc' := 44) F dX10_walk_42 4 rfl rfl ?_
          refine cVI (pc' := 47) (As := [.int (nI t), .int (nI tz), .int (nI sv), .int (nI wv)]) (rest := []) (wr := []) F (c_X10_walkNow o ma fi fl tk gv pr py ks sx t tz sv wv (by omega) (by omega) (by omega) (by omega) hwp hl9) (cwV 4 F.2.2.2.2.1 gX10_walk_X10_walkNow rfl rfl rfl (by decide +kernel) ⟨Nat.le_of_ble_eq_true rfl, Nat.le_of_ble_eq_true rfl⟩) (v_rcvW F 8 6 rfl rfl) rfl rfl (Nat.le_of_ble_eq_true rfl) dX10_walk_44 [6, 0, 1, 2, 3, 4, 5] [] (by decide) rfl rfl (by decide) (by decide) ⟨Nat.zero_le _, Nat.zero_le _⟩ rfl (fun r u q9 => ?_)
          obtain ⟨fl2_8, hu9⟩ : ∃ z, z = u := ⟨_, rfl⟩
          subst hu9
          obtain rfl := q9
          refine v_ws (wz := [(o, mO ma fi fl2_8), (ma 2, aI G 4 tk), (ma 3, aI G 4 gv), (ma 4, aI G 4 pr), (ma 5, aI G 4 py), (ma 7, aI G 5 ks), (ma 8, aI G 5 sx)]) rfl ?_
          exact rt dX10_walk_47 fl2_8 (by unfold A_walk; rw [if_pos (show isP pe (nI t) by assumption), if_pos hz9, if_neg hv9, if_pos hw8, tN_nI (t := t) (by omega), tN_nI (t := tz) (by omega), tN_nI (t := sv) (by omega), tN_nI (t := wv) (by omega)]) rfl
        · refine v_bipush (pc' := 37) (v := (-102)) F dX10_walk_35 (by decide) rfl ?_
          refine v_perm (wz := [(o, mO ma fi fl), (ma 2, aI G 4 tk), (ma 3, aI G 4 gv), (ma 4, aI G 4 pr), (ma 5, aI G 4 py), (ma 7, aI G 5 ks), (ma 8, aI G 5 sx)]) [6, 0, 1, 2, 3, 4, 5] (by decide) rfl ?_
          exact rt dX10_walk_37 fl (by unfold A_walk; rw [if_pos (show isP pe (nI t) by assumption)]; first | rw [if_neg (by assumption)] | (rw [if_pos (show inR (nI 1) y (nI 60) by assumption)]; first | rw [if_pos (by assumption)] | rw [if_neg (show ¬ z < 0 by assumption), if_neg (by assumption)])) rfl
  · refine v_bipush (pc' := 10) (v := (-101)) F dX10_walk_8 (by decide) rfl ?_
    refine v_perm (wz := [(o, mO ma fi fl), (ma 2, aI G 4 tk), (ma 3, aI G 4 gv), (ma 4, aI G 4 pr), (ma 5, aI G 4 py), (ma 7, aI G 5 ks), (ma 8, aI G 5 sx)]) [6, 0, 1, 2, 3, 4, 5] (by decide) rfl ?_
    exact rt dX10_walk_10 fl (by unfold A_walk; rw [if_neg (by first | assumption | exact inR_no0 (by assumption) | exact inR_no1 (by assumption) | exact inR_no2 (by assumption) | exact inR_no2 (nle9 (by assumption)) | exact inR_noL (by decide) (by assumption))]) rfl
