theorem wp_X10_shopHas_0 {X : e_X} {d gn : Nat} {o : e_O} (M : e_M) (p0 p1 p2 p3 : Int) (h : ((¬ p0 = 0 → ((¬ p1 = 0 → (o = (.inl (some (.inl 0)), (557, gn, e_RF, M)))) ∧ (p1 = 0 → (o = (.inl (some (.inl (-1))), (557, gn, e_RF, M)))))) ∧ (p0 = 0 → ((¬ p1 = 0 → (o = (.inl (some (.inl p3)), (557, gn, e_RF, M)))) ∧ (p1 = 0 → (o = (.inl (some (.inl p2)), (557, gn, e_RF, M)))))))) : e_G X d YX10_shopHas 0 [some (.inl p0), some (.inl p1), some (.inl p2), some (.inl p3)] [] (557, gn, e_RF, M) o := by
  refine e_r_iload_n (pc' := 1) dX10_shopHas_0 rfl rfl rfl ?_
  obtain ⟨ht1, hf2⟩ := h
  refine e_r_if_ne (tgt := 14) (pc' := 4) dX10_shopHas_1 rfl rfl (fun c => ?_) (fun c => ?_)
  · have h := ht1 c
    refine e_r_iload_n (pc' := 15) dX10_shopHas_14 rfl rfl rfl ?_
    obtain ⟨ht3, hf4⟩ := h
    refine e_r_if_ne (tgt := 22) (pc' := 18) dX10_shopHas_15 rfl rfl (fun c => ?_) (fun c => ?_)
    · have h := ht3 c
      refine e_r_iconst (pc' := 23) dX10_shopHas_22 rfl (by decide) ?_
      exact e_r_iret (ty := .int) rfl (e_nI _) dX10_shopHas_23 h
    · have h := hf4 c
      refine e_r_iconst (pc' := 19) dX10_shopHas_18 rfl (by decide) ?_
      refine e_r_goto (pc' := 23) dX10_shopHas_19 rfl ?_
      exact e_r_iret (ty := .int) rfl (e_nI _) dX10_shopHas_23 h
  · have h := hf2 c
    refine e_r_iload_n (pc' := 5) dX10_shopHas_4 rfl rfl rfl ?_
    obtain ⟨ht5, hf6⟩ := h
    refine e_r_if_ne (tgt := 12) (pc' := 8) dX10_shopHas_5 rfl rfl (fun c => ?_) (fun c => ?_)
    · have h := ht5 c
      refine e_r_iload_n (pc' := 13) dX10_shopHas_12 rfl rfl rfl ?_
      exact e_r_iret (ty := .int) rfl (e_nI _) dX10_shopHas_13 h
    · have h := hf6 c
      refine e_r_iload_n (pc' := 9) dX10_shopHas_8 rfl rfl rfl ?_
      refine e_r_goto (pc' := 13) dX10_shopHas_9 rfl ?_
      exact e_r_iret (ty := .int) rfl (e_nI _) dX10_shopHas_13 h
