theorem wp_J6_bitCount_0f7a4_0 {X : e_X} {d gn : Nat} {o : e_O} (M : e_M) (p0 : Int) (h : (o = (.inl (some (.inl (e_and (e_w ((e_w ((e_and (e_w ((e_w ((e_and (e_w (p0 - (e_and (e_ushr p0 1) 1431655765))) 858993459) + (e_and (e_ushr (e_w (p0 - (e_and (e_ushr p0 1) 1431655765))) 2) 858993459))) + (e_ushr (e_w ((e_and (e_w (p0 - (e_and (e_ushr p0 1) 1431655765))) 858993459) + (e_and (e_ushr (e_w (p0 - (e_and (e_ushr p0 1) 1431655765))) 2) 858993459))) 4))) 252645135) + (e_ushr (e_and (e_w ((e_w ((e_and (e_w (p0 - (e_and (e_ushr p0 1) 1431655765))) 858993459) + (e_and (e_ushr (e_w (p0 - (e_and (e_ushr p0 1) 1431655765))) 2) 858993459))) + (e_ushr (e_w ((e_and (e_w (p0 - (e_and (e_ushr p0 1) 1431655765))) 858993459) + (e_and (e_ushr (e_w (p0 - (e_and (e_ushr p0 1) 1431655765))) 2) 858993459))) 4))) 252645135) 8))) + (e_ushr (e_w ((e_and (e_w ((e_w ((e_and (e_w (p0 - (e_and (e_ushr p0 1) 1431655765))) 858993459) + (e_and (e_ushr (e_w (p0 - (e_and (e_ushr p0 1) 1431655765))) 2) 858993459))) + (e_ushr (e_w ((e_and (e_w (p0 - (e_and (e_ushr p0 1) 1431655765))) 858993459) + (e_and (e_ushr (e_w (p0 - (e_and (e_ushr p0 1) 1431655765))) 2) 858993459))) 4))) 252645135) + (e_ushr (e_and (e_w ((e_w ((e_and (e_w (p0 - (e_and (e_ushr p0 1) 1431655765))) 858993459) + (e_and (e_ushr (e_w (p0 - (e_and (e_ushr p0 1) 1431655765))) 2) 858993459))) + (e_ushr (e_w ((e_and (e_w (p0 - (e_and (e_ushr p0 1) 1431655765))) 858993459) + (e_and (e_ushr (e_w (p0 - (e_and (e_ushr p0 1) 1431655765))) 2) 858993459))) 4))) 252645135) 8))) 16))) 63))), (557, gn, e_RF, M)))) : e_G X d YJ6_bitCount_0f7a4 0 [some (.inl p0)] [] (557, gn, e_RF, M) o := by
  refine e_r_iload_n (pc' := 1) dJ6_bitCount_0f7a4_0 rfl rfl rfl ?_
  refine e_r_iload_n (pc' := 2) dJ6_bitCount_0f7a4_1 rfl rfl rfl ?_
  refine e_r_iconst (pc' := 3) dJ6_bitCount_0f7a4_2 rfl (by decide) ?_
  refine e_r_iushr (pc' := 4) dJ6_bitCount_0f7a4_3 rfl ?_
  refine e_r_ldcw (pc' := 7) (n := 1431655765) cst_RJ6_265 dJ6_bitCount_0f7a4_4 rfl (by decide) ?_
  refine e_r_iand (pc' := 8) dJ6_bitCount_0f7a4_7 rfl ?_
  refine e_r_isub (pc' := 9) dJ6_bitCount_0f7a4_8 rfl ?_
  refine e_r_istore_n (pc' := 10) (loc' := [some (.inl (e_w (p0 - (e_and (e_ushr p0 1) 1431655765))))]) dJ6_bitCount_0f7a4_9 rfl rfl rfl rfl rfl ?_
  refine e_r_iload_n (pc' := 11) dJ6_bitCount_0f7a4_10 rfl rfl rfl ?_
  refine e_r_ldcw (pc' := 14) (n := 858993459) cst_RJ6_266 dJ6_bitCount_0f7a4_11 rfl (by decide) ?_
  refine e_r_iand (pc' := 15) dJ6_bitCount_0f7a4_14 rfl ?_
  refine e_r_iload_n (pc' := 16) dJ6_bitCount_0f7a4_15 rfl rfl rfl ?_
  refine e_r_iconst (pc' := 17) dJ6_bitCount_0f7a4_16 rfl (by decide) ?_
  refine e_r_iushr (pc' := 18) dJ6_bitCount_0f7a4_17 rfl ?_
  refine e_r_ldcw (pc' := 21) (n := 858993459) cst_RJ6_266 dJ6_bitCount_0f7a4_18 rfl (by decide) ?_
  refine e_r_iand (pc' := 22) dJ6_bitCount_0f7a4_21 rfl ?_
  refine e_r_iadd (pc' := 23) dJ6_bitCount_0f7a4_22 rfl ?_
  refine e_r_istore_n (pc' := 24) (loc' := [some (.inl (e_w ((e_and (e_w (p0 - (e_and (e_ushr p0 1) 1431655765))) 858993459) + (e_and (e_ushr (e_w (p0 - (e_and (e_ushr p0 1) 1431655765))) 2) 858993459))))]) dJ6_bitCount_0f7a4_23 rfl rfl rfl rfl rfl ?_
  refine e_r_iload_n (pc' := 25) dJ6_bitCount_0f7a4_24 rfl rfl rfl ?_
  refine e_r_iload_n (pc' := 26) dJ6_bitCount_0f7a4_25 rfl rfl rfl ?_
  refine e_r_iconst (pc' := 27) dJ6_bitCount_0f7a4_26 rfl (by decide) ?_
  refine e_r_iushr (pc' := 28) dJ6_bitCount_0f7a4_27 rfl ?_
  refine e_r_iadd (pc' := 29) dJ6_bitCount_0f7a4_28 rfl ?_
  refine e_r_ldcw (pc' := 32) (n := 252645135) cst_RJ6_267 dJ6_bitCount_0f7a4_29 rfl (by decide) ?_
  refine e_r_iand (pc' := 33) dJ6_bitCount_0f7a4_32 rfl ?_
  refine e_r_istore_n (pc' := 34) (loc' := [some (.inl (e_and (e_w ((e_w ((e_and (e_w (p0 - (e_and (e_ushr p0 1) 1431655765))) 858993459) + (e_and (e_ushr (e_w (p0 - (e_and (e_ushr p0 1) 1431655765))) 2) 858993459))) + (e_ushr (e_w ((e_and (e_w (p0 - (e_and (e_ushr p0 1) 1431655765))) 858993459) + (e_and (e_ushr (e_w (p0 - (e_and (e_ushr p0 1) 1431655765))) 2) 858993459))) 4))) 252645135))]) dJ6_bitCount_0f7a4_33 rfl rfl rfl rfl rfl ?_
  refine e_r_iload_n (pc' := 35) dJ6_bitCount_0f7a4_34 rfl rfl rfl ?_
  refine e_r_iload_n (pc' := 36) dJ6_bitCount_0f7a4_35 rfl rfl rfl ?_
  refine e_r_bipush (pc' := 38) dJ6_bitCount_0f7a4_36 rfl (by decide) ?_
  refine e_r_iushr (pc' := 39) dJ6_bitCount_0f7a4_38 rfl ?_
  refine e_r_iadd (pc' := 40) dJ6_bitCount_0f7a4_39 rfl ?_
  refine e_r_istore_n (pc' := 41) (loc' := [some (.inl (e_w ((e_and (e_w ((e_w ((e_and (e_w (p0 - (e_and (e_ushr p0 1) 1431655765))) 858993459) + (e_and (e_ushr (e_w (p0 - (e_and (e_ushr p0 1) 1431655765))) 2) 858993459))) + (e_ushr (e_w ((e_and (e_w (p0 - (e_and (e_ushr p0 1) 1431655765))) 858993459) + (e_and (e_ushr (e_w (p0 - (e_and (e_ushr p0 1) 1431655765))) 2) 858993459))) 4))) 252645135) + (e_ushr (e_and (e_w ((e_w ((e_and (e_w (p0 - (e_and (e_ushr p0 1) 1431655765))) 858993459) + (e_and (e_ushr (e_w (p0 - (e_and (e_ushr p0 1) 1431655765))) 2) 858993459))) + (e_ushr (e_w ((e_and (e_w (p0 - (e_and (e_ushr p0 1) 1431655765))) 858993459) + (e_and (e_ushr (e_w (p0 - (e_and (e_ushr p0 1) 1431655765))) 2) 858993459))) 4))) 252645135) 8))))]) dJ6_bitCount_0f7a4_40 rfl rfl rfl rfl rfl ?_
  refine e_r_iload_n (pc' := 42) dJ6_bitCount_0f7a4_41 rfl rfl rfl ?_
  refine e_r_iload_n (pc' := 43) dJ6_bitCount_0f7a4_42 rfl rfl rfl ?_
  refine e_r_bipush (pc' := 45) dJ6_bitCount_0f7a4_43 rfl (by decide) ?_
  refine e_r_iushr (pc' := 46) dJ6_bitCount_0f7a4_45 rfl ?_
  refine e_r_iadd (pc' := 47) dJ6_bitCount_0f7a4_46 rfl ?_
  refine e_r_istore_n (pc' := 48) (loc' := [some (.inl (e_w ((e_w ((e_and (e_w ((e_w ((e_and (e_w (p0 - (e_and (e_ushr p0 1) 1431655765))) 858993459) + (e_and (e_ushr (e_w (p0 - (e_and (e_ushr p0 1) 1431655765))) 2) 858993459))) + (e_ushr (e_w ((e_and (e_w (p0 - (e_and (e_ushr p0 1) 1431655765))) 858993459) + (e_and (e_ushr (e_w (p0 - (e_and (e_ushr p0 1) 1431655765))) 2) 858993459))) 4))) 252645135) + (e_ushr (e_and (e_w ((e_w ((e_and (e_w (p0 - (e_and (e_ushr p0 1) 1431655765))) 858993459) + (e_and (e_ushr (e_w (p0 - (e_and (e_ushr p0 1) 1431655765))) 2) 858993459))) + (e_ushr (e_w ((e_and (e_w (p0 - (e_and (e_ushr p0 1) 1431655765))) 858993459) + (e_and (e_ushr (e_w (p0 - (e_and (e_ushr p0 1) 1431655765))) 2) 858993459))) 4))) 252645135) 8))) + (e_ushr (e_w ((e_and (e_w ((e_w ((e_and (e_w (p0 - (e_and (e_ushr p0 1) 1431655765))) 858993459) + (e_and (e_ushr (e_w (p0 - (e_and (e_ushr p0 1) 1431655765))) 2) 858993459))) + (e_ushr (e_w ((e_and (e_w (p0 - (e_and (e_ushr p0 1) 1431655765))) 858993459) + (e_and (e_ushr (e_w (p0 - (e_and (e_ushr p0 1) 1431655765))) 2) 858993459))) 4))) 252645135) + (e_ushr (e_and (e_w ((e_w ((e_and (e_w (p0 - (e_and (e_ushr p0 1) 1431655765))) 858993459) + (e_and (e_ushr (e_w (p0 - (e_and (e_ushr p0 1) 1431655765))) 2) 858993459))) + (e_ushr (e_w ((e_and (e_w (p0 - (e_and (e_ushr p0 1) 1431655765))) 858993459) + (e_and (e_ushr (e_w (p0 - (e_and (e_ushr p0 1) 1431655765))) 2) 858993459))) 4))) 252645135) 8))) 16))))]) dJ6_bitCount_0f7a4_47 rfl rfl rfl rfl rfl ?_
  refine e_r_iload_n (pc' := 49) dJ6_bitCount_0f7a4_48 rfl rfl rfl ?_
  refine e_r_bipush (pc' := 51) dJ6_bitCount_0f7a4_49 rfl (by decide) ?_
  refine e_r_iand (pc' := 52) dJ6_bitCount_0f7a4_51 rfl ?_
  exact e_r_iret (ty := .int) rfl (e_nI _) dJ6_bitCount_0f7a4_52 h
