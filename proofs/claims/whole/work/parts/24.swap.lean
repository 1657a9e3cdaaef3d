/-! the same cells told by other functions: only what lies inside counts -/
def e_sm (R R' : e_R) (M M' : e_M) (a : Nat) : Prop := ∀ j, j < (e_SH a).2 → if (e_SH a).1 < 20 then (if e_isI (e_SH a).1 j = true then M a j = M' a j else R a j = R' a j) else if (e_SH a).1 < 23 then M a j = M' a j else R a j = R' a j
theorem e_arrV {c : ClassId} {n : Nat} {f g : Nat → Value} (h : ∀ j, j < n → f j = g j) : arrV c n f = arrV c n g := by
  unfold arrV
  congr 1
  congr 1
  funext j
  exact h j.val j.isLt
theorem e_at_sm {D : va_G} {ca : Nat → ClassId} {ad : Nat → Nat} {R R' : e_R} {M M' : e_M} {a q : Nat} {H : Heap} (hk : (e_SH a).1 < 25) (h : e_sm R R' M M' a) (h1 : va_at D vwCl (q, e_en ca ad R M a) H) : va_at D vwCl (q, e_en ca ad R' M' a) H := by
  obtain ⟨k, n, hs⟩ : ∃ k n, e_SH a = (k, n) := ⟨_, _, rfl⟩
  unfold e_sm at h
  rw [hs] at h hk
  have hk' : k < 25 := hk
  by_cases c1 : k < 20
  · rw [e_en_o hs c1] at h1 ⊢
    have e : (List.range n).map (fun j => e_fv ad R M a k j) = (List.range n).map (fun j => e_fv ad R' M' a k j) := by
      refine List.map_congr_left (fun j hj => ?_)
      have hj' := h j (List.mem_range.mp hj)
      rw [if_pos c1] at hj'
      unfold e_fv
      by_cases c2 : e_isI k j = true
      · rw [if_pos c2] at hj' ⊢
        rw [if_pos c2, hj']
      · rw [if_neg c2] at hj' ⊢
        rw [if_neg c2, hj']
    rw [← e]; exact h1
  · rcases (show k = 20 ∨ k = 21 ∨ k = 22 ∨ k = 23 ∨ k = 24 by omega) with rfl | rfl | rfl | rfl | rfl
    · rw [e_en_i hs] at h1 ⊢
      have h2 : H[q]? = some (vp_cell _ _) := h1
      show H[q]? = some (vp_cell _ _)
      rw [h2, vp_cell_i, vp_cell_i]
      exact congrArg some (e_arrV (fun j hj => by have := h j hj; simp at this; rw [this]))
    · rw [e_en_b hs] at h1 ⊢
      have h2 : H[q]? = some (vp_cell _ _) := h1
      show H[q]? = some (vp_cell _ _)
      rw [h2, vp_cell_i, vp_cell_i]
      exact congrArg some (e_arrV (fun j hj => by have := h j hj; simp at this; rw [this]))
    · rw [e_en_l hs] at h1 ⊢
      have h2 : H[q]? = some (vp_cell _ _) := h1
      show H[q]? = some (vp_cell _ _)
      rw [h2, vp_cell_l, vp_cell_l]
      exact congrArg some (e_arrV (fun j hj => by have := h j hj; simp at this; rw [this]))
    · rw [e_en_q hs] at h1 ⊢
      have h2 : H[q]? = some (vp_cell _ _) := h1
      show H[q]? = some (vp_cell _ _)
      rw [h2, vp_cell_q, vp_cell_q]
      exact congrArg some (e_arrV (fun j hj => by have := h j hj; simp at this; rw [this]))
    · rw [e_en_r hs] at h1 ⊢
      have h2 : H[q]? = some (vp_cell _ _) := h1
      show H[q]? = some (vp_cell _ _)
      rw [h2, vp_cell_q, vp_cell_q]
      exact congrArg some (e_arrV (fun j hj => by have := h j hj; simp at this; rw [this]))
theorem e_SH25 : ∀ a, a ≤ 557 → 0 < a → (e_SH a).1 < 25 := by decide +kernel
theorem e_swap2 {X : e_X} {d : Nat} {Y : e_Y} {pc : Nat} {loc : List (Option e_V)} {st : List e_V} {o : e_O} {cn gn : Nat} {R R' : e_R} {M M' : e_M} (hcn : cn ≤ 557) (h : ∀ a, 0 < a → a ≤ cn → e_sm R R' M M' a) (hM : e_rM M') (k9 : e_G X d Y pc loc st (cn, gn, R', M') o) : e_G X d Y pc loc st (cn, gn, R, M) o := by
  intro p e Rm s m args below meth c ls H locs cells slots ad ad0 k0 c0 s0 Cx P Z L hs0 hA hk0 hcc hn hR1 hR2
  refine k9 p e Rm s m args below meth c ls H locs cells slots ad ad0 k0 c0 s0 Cx ⟨fun k q hq => ?_, ⟨fun i j x y hx hy hxy => ?_, fun k q hq => ?_⟩, hM, P.2.2.2⟩ Z L hs0 hA hk0 hcc hn hR1 hR2
  · have hl : k < cn := by have := (List.getElem?_eq_some_iff.mp hq).1; rw [e_ws_len] at this; exact this
    have h1 : (e_ws X.2.2.1 ad (cn, gn, R', M'))[k]? = some _ := e_ws_at (a := k + 1) (by omega) hl
    cases Option.some.inj (hq.symm.trans h1)
    exact e_at_sm (e_SH25 (k + 1) (by omega) (by omega)) (h (k + 1) (by omega) hl) (P.1 k _ (e_ws_at (a := k + 1) (by omega) hl))
  · have hl : i < cn := by have := (List.getElem?_eq_some_iff.mp hx).1; rw [e_ws_len] at this; exact this
    have hl2 : j < cn := by have := (List.getElem?_eq_some_iff.mp hy).1; rw [e_ws_len] at this; exact this
    have h1 : (e_ws X.2.2.1 ad (cn, gn, R', M'))[i]? = some _ := e_ws_at (a := i + 1) (by omega) hl
    have h2 : (e_ws X.2.2.1 ad (cn, gn, R', M'))[j]? = some _ := e_ws_at (a := j + 1) (by omega) hl2
    cases Option.some.inj (hx.symm.trans h1)
    cases Option.some.inj (hy.symm.trans h2)
    exact P.2.1.1 i j _ _ (e_ws_at (a := i + 1) (by omega) hl) (e_ws_at (a := j + 1) (by omega) hl2) hxy
  · have hl : k < cn := by have := (List.getElem?_eq_some_iff.mp hq).1; rw [e_ws_len] at this; exact this
    have h1 : (e_ws X.2.2.1 ad (cn, gn, R', M'))[k]? = some _ := e_ws_at (a := k + 1) (by omega) hl
    cases Option.some.inj (hq.symm.trans h1)
    have h5 := P.2.1.2 k _ (e_ws_at (S := (cn, gn, R, M)) (a := k + 1) (by omega) hl); exact h5
theorem shg_73 {i : Int} (h0 : 0 ≤ i) (h1 : i < 6) : e_SH (74 + i.toNat) = (20, 2) ∧ 74 + i.toNat ≤ 556 ∧ 74 + i.toNat ≠ 0 := by
  have h : ∀ j, j < 6 → e_SH (74 + j) = (20, 2) ∧ 74 + j ≤ 556 ∧ 74 + j ≠ 0 := by decide +kernel
  exact h i.toNat (by omega)
theorem shg_80 {i : Int} (h0 : 0 ≤ i) (h1 : i < 6) : e_SH (81 + i.toNat) = (20, 2) ∧ 81 + i.toNat ≤ 556 ∧ 81 + i.toNat ≠ 0 := by
  have h : ∀ j, j < 6 → e_SH (81 + j) = (20, 2) ∧ 81 + j ≤ 556 ∧ 81 + j ≠ 0 := by decide +kernel
  exact h i.toNat (by omega)
theorem shg_87 {i : Int} (h0 : 0 ≤ i) (h1 : i < 12) : e_SH (88 + i.toNat) = (20, 3) ∧ 88 + i.toNat ≤ 556 ∧ 88 + i.toNat ≠ 0 := by
  have h : ∀ j, j < 12 → e_SH (88 + j) = (20, 3) ∧ 88 + j ≤ 556 ∧ 88 + j ≠ 0 := by decide +kernel
  exact h i.toNat (by omega)
theorem shg_100 {i : Int} (h0 : 0 ≤ i) (h1 : i < 12) : e_SH (101 + i.toNat) = (20, 3) ∧ 101 + i.toNat ≤ 556 ∧ 101 + i.toNat ≠ 0 := by
  have h : ∀ j, j < 12 → e_SH (101 + j) = (20, 3) ∧ 101 + j ≤ 556 ∧ 101 + j ≠ 0 := by decide +kernel
  exact h i.toNat (by omega)
theorem shg_113 {i : Int} (h0 : 0 ≤ i) (h1 : i < 160) : e_SH (114 + i.toNat) = (20, 2) ∧ 114 + i.toNat ≤ 556 ∧ 114 + i.toNat ≠ 0 := by
  have h : ∀ j, j < 160 → e_SH (114 + j) = (20, 2) ∧ 114 + j ≤ 556 ∧ 114 + j ≠ 0 := by decide +kernel
  exact h i.toNat (by omega)
theorem shg_274 {i : Int} (h0 : 0 ≤ i) (h1 : i < 160) : e_SH (275 + i.toNat) = (20, 2) ∧ 275 + i.toNat ≤ 556 ∧ 275 + i.toNat ≠ 0 := by
  have h : ∀ j, j < 160 → e_SH (275 + j) = (20, 2) ∧ 275 + j ≤ 556 ∧ 275 + j ≠ 0 := by decide +kernel
  exact h i.toNat (by omega)
theorem shg_435 {i : Int} (h0 : 0 ≤ i) (h1 : i < 6) : e_SH (436 + i.toNat) = (20, 2) ∧ 436 + i.toNat ≤ 556 ∧ 436 + i.toNat ≠ 0 := by
  have h : ∀ j, j < 6 → e_SH (436 + j) = (20, 2) ∧ 436 + j ≤ 556 ∧ 436 + j ≠ 0 := by decide +kernel
  exact h i.toNat (by omega)
theorem shg_442 {i : Int} (h0 : 0 ≤ i) (h1 : i < 6) : e_SH (443 + i.toNat) = (20, 2) ∧ 443 + i.toNat ≤ 556 ∧ 443 + i.toNat ≠ 0 := by
  have h : ∀ j, j < 6 → e_SH (443 + j) = (20, 2) ∧ 443 + j ≤ 556 ∧ 443 + j ≠ 0 := by decide +kernel
  exact h i.toNat (by omega)
theorem shg_451 {i : Int} (h0 : 0 ≤ i) (h1 : i < 80) : e_SH (452 + i.toNat) = (20, 4) ∧ 452 + i.toNat ≤ 556 ∧ 452 + i.toNat ≠ 0 := by
  have h : ∀ j, j < 80 → e_SH (452 + j) = (20, 4) ∧ 452 + j ≤ 556 ∧ 452 + j ≠ 0 := by decide +kernel
  exact h i.toNat (by omega)
theorem shg_534 {i : Int} (h0 : 0 ≤ i) (h1 : i < 16) : e_SH (535 + i.toNat) = (20, 56) ∧ 535 + i.toNat ≤ 556 ∧ 535 + i.toNat ≠ 0 := by
  have h : ∀ j, j < 16 → e_SH (535 + j) = (20, 56) ∧ 535 + j ≤ 556 ∧ 535 + j ≠ 0 := by decide +kernel
  exact h i.toNat (by omega)
theorem shg_551 {i : Int} (h0 : 0 ≤ i) (h1 : i < 3) : e_SH (552 + i.toNat) = (20, 953) ∧ 552 + i.toNat ≤ 556 ∧ 552 + i.toNat ≠ 0 := by
  have h : ∀ j, j < 3 → e_SH (552 + j) = (20, 953) ∧ 552 + j ≤ 556 ∧ 552 + j ≠ 0 := by decide +kernel
  exact h i.toNat (by omega)
theorem wg_X3_begin_now_0 {X : e_X} {d gn : Nat} {o : e_O} {cn : Nat} (hcn : 63 ≤ cn) (M : e_M) (h : e_G X (d + 1) YX3_begin 17 [some (.inr (.inr 36)), some (.inl 0)] [] (cn, gn, e_RF, (e_up (e_up (e_up M 36 2 0) 36 3 0) 36 4 0)) o) : e_G X (d + 1) YX3_begin 0 [some (.inr (.inr 36)), none] [] (cn, gn, e_RF, M) o := by
  refine e_r_aload_n (pc' := 1) (by decide) dX3_begin_0 rfl rfl rfl ?_
  refine e_r_iconst (pc' := 2) dX3_begin_1 rfl (by decide) ?_
  refine e_r_puti (k := 2) (pc' := 5) cl_3 rfl (Nat.le_trans (Nat.le_of_ble_eq_true (m := 63) rfl) hcn) rfl rfl fl_RX3_9 rfl (by decide +kernel) dX3_begin_2 rfl ?_
  refine e_r_aload_n (pc' := 6) (by decide) dX3_begin_5 rfl rfl rfl ?_
  refine e_r_iconst (pc' := 7) dX3_begin_6 rfl (by decide) ?_
  refine e_r_puti (k := 3) (pc' := 10) cl_3 rfl (Nat.le_trans (Nat.le_of_ble_eq_true (m := 63) rfl) hcn) rfl rfl fl_RX3_15 rfl (by decide +kernel) dX3_begin_7 rfl ?_
  refine e_r_aload_n (pc' := 11) (by decide) dX3_begin_10 rfl rfl rfl ?_
  refine e_r_iconst (pc' := 12) dX3_begin_11 rfl (by decide) ?_
  refine e_r_puti (k := 4) (pc' := 15) cl_3 rfl (Nat.le_trans (Nat.le_of_ble_eq_true (m := 63) rfl) hcn) rfl rfl fl_RX3_18 rfl (by decide +kernel) dX3_begin_12 rfl ?_
  refine e_r_iconst (pc' := 16) dX3_begin_15 rfl (by decide) ?_
  refine e_r_istore_n (pc' := 17) (loc' := [some (.inr (.inr 36)), some (.inl 0)]) dX3_begin_16 rfl rfl rfl rfl rfl ?_
  exact h
theorem wg_X3_begin_now_17 {X : e_X} {d gn : Nat} {o : e_O} {cn : Nat} (hcn : 63 ≤ cn) (M : e_M) (v1 : Int) (h : ((6 ≤ v1 → ((o = (.inl none, (cn, gn, e_RF, (e_cp M 10 0 42 0 12)))))) ∧ (¬ (6 ≤ v1) → ((0 ≤ v1 ∧ v1 < 6) ∧ ((0 ≤ v1 ∧ v1 < 6) ∧ ((0 ≤ v1 ∧ v1 < 6) ∧ ((0 ≤ v1 ∧ v1 < 6) ∧ ((0 ≤ v1 ∧ v1 < 6) ∧ ((0 ≤ v1 ∧ v1 < 6) ∧ e_G X (d + 1) YX3_begin 17 [some (.inr (.inr 36)), some (.inl (e_w (v1 + 1)))] [] (cn, gn, e_RF, (e_up (e_up (e_up (e_up (e_up M 37 v1.toNat (M 5 v1.toNat)) 38 v1.toNat 0) 39 v1.toNat 0) 40 v1.toNat (-1)) 41 v1.toNat 0)) o))))))))) : e_G X (d + 1) YX3_begin 17 [some (.inr (.inr 36)), some (.inl v1)] [] (cn, gn, e_RF, M) o := by
  refine e_r_iload_n (pc' := 18) dX3_begin_17 rfl rfl rfl ?_
  refine e_r_bipush (pc' := 20) dX3_begin_18 rfl (by decide) ?_
  obtain ⟨ht1, hf2⟩ := h
  refine e_r_icmp_ge (tgt := 72) (pc' := 23) dX3_begin_20 rfl rfl (fun c => ?_) (fun c => ?_)
  · have h := ht1 c
    refine e_r_aload_n (pc' := 73) (by decide) dX3_begin_72 rfl rfl rfl ?_
    refine e_r_getr (k := 0) (q := 4) (pc' := 76) cl_3 rfl (Nat.le_trans (Nat.le_of_ble_eq_true (m := 63) rfl) hcn) rfl rfl fl_RX3_40 rfl (Nat.le_trans (Nat.le_of_ble_eq_true (m := 63) rfl) hcn) dX3_begin_73 rfl ?_
    refine e_r_getr (k := 8) (q := 10) (pc' := 79) cl_8 rfl (Nat.le_trans (Nat.le_of_ble_eq_true (m := 63) rfl) hcn) rfl rfl fl_RX3_51 rfl (Nat.le_trans (Nat.le_of_ble_eq_true (m := 63) rfl) hcn) dX3_begin_76 rfl ?_
    refine e_r_iconst (pc' := 80) dX3_begin_79 rfl (by decide) ?_
    refine e_r_aload_n (pc' := 81) (by decide) dX3_begin_80 rfl rfl rfl ?_
    refine e_r_getr (k := 10) (q := 42) (pc' := 84) cl_3 rfl (Nat.le_trans (Nat.le_of_ble_eq_true (m := 63) rfl) hcn) rfl rfl fl_RX3_37 rfl (Nat.le_trans (Nat.le_of_ble_eq_true (m := 63) rfl) hcn) dX3_begin_81 rfl ?_
    refine e_r_iconst (pc' := 85) dX3_begin_84 rfl (by decide) ?_
    refine e_r_bipush (pc' := 87) dX3_begin_85 rfl (by decide) ?_
    refine e_r_copy (pc' := 90) rfl rfl (Nat.le_trans (Nat.le_of_ble_eq_true (m := 63) rfl) hcn) (Nat.le_trans (Nat.le_of_ble_eq_true (m := 63) rfl) hcn) (by decide) (by decide) (by decide) (by decide) (by decide) lk_RX3_52 rfl dX3_begin_87 rfl ?_
    exact e_r_vret rfl dX3_begin_90 h
  · have h := hf2 c
    refine e_r_aload_n (pc' := 24) (by decide) dX3_begin_23 rfl rfl rfl ?_
    refine e_r_getr (k := 5) (q := 37) (pc' := 27) cl_3 rfl (Nat.le_trans (Nat.le_of_ble_eq_true (m := 63) rfl) hcn) rfl rfl fl_RX3_21 rfl (Nat.le_trans (Nat.le_of_ble_eq_true (m := 63) rfl) hcn) dX3_begin_24 rfl ?_
    refine e_r_iload_n (pc' := 28) dX3_begin_27 rfl rfl rfl ?_
    refine e_r_aload_n (pc' := 29) (by decide) dX3_begin_28 rfl rfl rfl ?_
    refine e_r_getr (k := 0) (q := 4) (pc' := 32) cl_3 rfl (Nat.le_trans (Nat.le_of_ble_eq_true (m := 63) rfl) hcn) rfl rfl fl_RX3_40 rfl (Nat.le_trans (Nat.le_of_ble_eq_true (m := 63) rfl) hcn) dX3_begin_29 rfl ?_
    refine e_r_getr (k := 3) (q := 5) (pc' := 35) cl_8 rfl (Nat.le_trans (Nat.le_of_ble_eq_true (m := 63) rfl) hcn) rfl rfl fl_RX3_48 rfl (Nat.le_trans (Nat.le_of_ble_eq_true (m := 63) rfl) hcn) dX3_begin_32 rfl ?_
    refine e_r_iload_n (pc' := 36) dX3_begin_35 rfl rfl rfl ?_
    obtain ⟨hb3, h⟩ := h
    refine e_r_iald (j9 := v1.toNat) (pc' := 37) rfl (Nat.le_trans (Nat.le_of_ble_eq_true (m := 63) rfl) hcn) hb3.1 hb3.2 rfl dX3_begin_36 rfl ?_
    obtain ⟨hb4, h⟩ := h
    refine e_r_iast (j9 := v1.toNat) (pc' := 38) rfl (Nat.le_trans (Nat.le_of_ble_eq_true (m := 63) rfl) hcn) hb4.1 hb4.2 rfl dX3_begin_37 rfl ?_
    refine e_r_aload_n (pc' := 39) (by decide) dX3_begin_38 rfl rfl rfl ?_
    refine e_r_getr (k := 6) (q := 38) (pc' := 42) cl_3 rfl (Nat.le_trans (Nat.le_of_ble_eq_true (m := 63) rfl) hcn) rfl rfl fl_RX3_25 rfl (Nat.le_trans (Nat.le_of_ble_eq_true (m := 63) rfl) hcn) dX3_begin_39 rfl ?_
    refine e_r_iload_n (pc' := 43) dX3_begin_42 rfl rfl rfl ?_
    refine e_r_iconst (pc' := 44) dX3_begin_43 rfl (by decide) ?_
    obtain ⟨hb5, h⟩ := h
    refine e_r_iast (j9 := v1.toNat) (pc' := 45) rfl (Nat.le_trans (Nat.le_of_ble_eq_true (m := 63) rfl) hcn) hb5.1 hb5.2 rfl dX3_begin_44 rfl ?_
    refine e_r_aload_n (pc' := 46) (by decide) dX3_begin_45 rfl rfl rfl ?_
    refine e_r_getr (k := 7) (q := 39) (pc' := 49) cl_3 rfl (Nat.le_trans (Nat.le_of_ble_eq_true (m := 63) rfl) hcn) rfl rfl fl_RX3_28 rfl (Nat.le_trans (Nat.le_of_ble_eq_true (m := 63) rfl) hcn) dX3_begin_46 rfl ?_
    refine e_r_iload_n (pc' := 50) dX3_begin_49 rfl rfl rfl ?_
    refine e_r_iconst (pc' := 51) dX3_begin_50 rfl (by decide) ?_
    obtain ⟨hb6, h⟩ := h
    refine e_r_iast (j9 := v1.toNat) (pc' := 52) rfl (Nat.le_trans (Nat.le_of_ble_eq_true (m := 63) rfl) hcn) hb6.1 hb6.2 rfl dX3_begin_51 rfl ?_
    refine e_r_aload_n (pc' := 53) (by decide) dX3_begin_52 rfl rfl rfl ?_
    refine e_r_getr (k := 8) (q := 40) (pc' := 56) cl_3 rfl (Nat.le_trans (Nat.le_of_ble_eq_true (m := 63) rfl) hcn) rfl rfl fl_RX3_31 rfl (Nat.le_trans (Nat.le_of_ble_eq_true (m := 63) rfl) hcn) dX3_begin_53 rfl ?_
    refine e_r_iload_n (pc' := 57) dX3_begin_56 rfl rfl rfl ?_
    refine e_r_iconst (pc' := 58) dX3_begin_57 rfl (by decide) ?_
    obtain ⟨hb7, h⟩ := h
    refine e_r_iast (j9 := v1.toNat) (pc' := 59) rfl (Nat.le_trans (Nat.le_of_ble_eq_true (m := 63) rfl) hcn) hb7.1 hb7.2 rfl dX3_begin_58 rfl ?_
    refine e_r_aload_n (pc' := 60) (by decide) dX3_begin_59 rfl rfl rfl ?_
    refine e_r_getr (k := 9) (q := 41) (pc' := 63) cl_3 rfl (Nat.le_trans (Nat.le_of_ble_eq_true (m := 63) rfl) hcn) rfl rfl fl_RX3_34 rfl (Nat.le_trans (Nat.le_of_ble_eq_true (m := 63) rfl) hcn) dX3_begin_60 rfl ?_
    refine e_r_iload_n (pc' := 64) dX3_begin_63 rfl rfl rfl ?_
    refine e_r_iconst (pc' := 65) dX3_begin_64 rfl (by decide) ?_
    obtain ⟨hb8, h⟩ := h
    refine e_r_iast (j9 := v1.toNat) (pc' := 66) rfl (Nat.le_trans (Nat.le_of_ble_eq_true (m := 63) rfl) hcn) hb8.1 hb8.2 rfl dX3_begin_65 rfl ?_
    refine e_r_iinc (pc' := 69) (loc' := [some (.inr (.inr 36)), some (.inl (e_w (v1 + 1)))]) dX3_begin_66 rfl rfl rfl rfl rfl ?_
    refine e_r_goto (pc' := 17) dX3_begin_69 rfl ?_
    exact h
theorem wg_X11_tellsNothing_0 {X : e_X} {d gn : Nat} {o : e_O} {cn : Nat} (hcn : 556 ≤ cn) (M : e_M) (h : e_G X d YX11_tellsNothing 2 [some (.inr (.inr 64)), some (.inl 0)] [] (cn, gn, e_RF, M) o) : e_G X d YX11_tellsNothing 0 [some (.inr (.inr 64)), none] [] (cn, gn, e_RF, M) o := by
  refine e_r_iconst (pc' := 1) dX11_tellsNothing_0 rfl (by decide) ?_
  refine e_r_istore_n (pc' := 2) (loc' := [some (.inr (.inr 64)), some (.inl 0)]) dX11_tellsNothing_1 rfl rfl rfl rfl rfl ?_
  exact h
theorem wg_X11_tellsNothing_2 {X : e_X} {d gn : Nat} {o : e_O} {cn : Nat} (hcn : 556 ≤ cn) (M : e_M) (v1 : Int) (h : ((3 ≤ v1 → e_G X d YX11_tellsNothing 22 [some (.inr (.inr 64)), some (.inl 0)] [] (cn, gn, e_RF, M) o) ∧ (¬ (3 ≤ v1) → ((0 ≤ v1 ∧ v1 < 3) ∧ e_G X d YX11_tellsNothing 2 [some (.inr (.inr 64)), some (.inl (e_w (v1 + 1)))] [] (cn, gn, e_RF, (e_up M 67 v1.toNat 0)) o)))) : e_G X d YX11_tellsNothing 2 [some (.inr (.inr 64)), some (.inl v1)] [] (cn, gn, e_RF, M) o := by
  refine e_r_iload_n (pc' := 3) dX11_tellsNothing_2 rfl rfl rfl ?_
  refine e_r_iconst (pc' := 4) dX11_tellsNothing_3 rfl (by decide) ?_
  obtain ⟨ht1, hf2⟩ := h
  refine e_r_icmp_ge (tgt := 20) (pc' := 7) dX11_tellsNothing_4 rfl rfl (fun c => ?_) (fun c => ?_)
  · have h := ht1 c
    refine e_r_iconst (pc' := 21) dX11_tellsNothing_20 rfl (by decide) ?_
    refine e_r_istore_n (pc' := 22) (loc' := [some (.inr (.inr 64)), some (.inl 0)]) dX11_tellsNothing_21 rfl rfl rfl rfl rfl ?_
    exact h
  · have h := hf2 c
    refine e_r_aload_n (pc' := 8) (by decide) dX11_tellsNothing_7 rfl rfl rfl ?_
    refine e_r_getr (k := 11) (q := 67) (pc' := 11) cl_11 rfl (Nat.le_trans (Nat.le_of_ble_eq_true (m := 556) rfl) hcn) rfl rfl fl_RX11_20 rfl (Nat.le_trans (Nat.le_of_ble_eq_true (m := 556) rfl) hcn) dX11_tellsNothing_8 rfl ?_
    refine e_r_iload_n (pc' := 12) dX11_tellsNothing_11 rfl rfl rfl ?_
    refine e_r_iconst (pc' := 13) dX11_tellsNothing_12 rfl (by decide) ?_
    obtain ⟨hb3, h⟩ := h
    refine e_r_iast (j9 := v1.toNat) (pc' := 14) rfl (Nat.le_trans (Nat.le_of_ble_eq_true (m := 556) rfl) hcn) hb3.1 hb3.2 rfl dX11_tellsNothing_13 rfl ?_
    refine e_r_iinc (pc' := 17) (loc' := [some (.inr (.inr 64)), some (.inl (e_w (v1 + 1)))]) dX11_tellsNothing_14 rfl rfl rfl rfl rfl ?_
    refine e_r_goto (pc' := 2) dX11_tellsNothing_17 rfl ?_
    exact h
theorem wg_X11_tellsNothing_22 {X : e_X} {d gn : Nat} {o : e_O} {cn : Nat} (hcn : 556 ≤ cn) (M : e_M) (v1 : Int) (h : ((6 ≤ v1 → (o = (.inl none, (cn, gn, e_RF, M)))) ∧ (¬ (6 ≤ v1) → ((0 ≤ v1 ∧ v1 < 6) ∧ e_G X d YX11_tellsNothing 22 [some (.inr (.inr 64)), some (.inl (e_w (v1 + 1)))] [] (cn, gn, e_RF, (e_up M 71 v1.toNat 0)) o)))) : e_G X d YX11_tellsNothing 22 [some (.inr (.inr 64)), some (.inl v1)] [] (cn, gn, e_RF, M) o := by
  refine e_r_iload_n (pc' := 23) dX11_tellsNothing_22 rfl rfl rfl ?_
  refine e_r_bipush (pc' := 25) dX11_tellsNothing_23 rfl (by decide) ?_
  obtain ⟨ht1, hf2⟩ := h
  refine e_r_icmp_ge (tgt := 41) (pc' := 28) dX11_tellsNothing_25 rfl rfl (fun c => ?_) (fun c => ?_)
  · have h := ht1 c
    exact e_r_vret rfl dX11_tellsNothing_41 h
  · have h := hf2 c
    refine e_r_aload_n (pc' := 29) (by decide) dX11_tellsNothing_28 rfl rfl rfl ?_
    refine e_r_getr (k := 15) (q := 71) (pc' := 32) cl_11 rfl (Nat.le_trans (Nat.le_of_ble_eq_true (m := 556) rfl) hcn) rfl rfl fl_RX11_32 rfl (Nat.le_trans (Nat.le_of_ble_eq_true (m := 556) rfl) hcn) dX11_tellsNothing_29 rfl ?_
    refine e_r_iload_n (pc' := 33) dX11_tellsNothing_32 rfl rfl rfl ?_
    refine e_r_iconst (pc' := 34) dX11_tellsNothing_33 rfl (by decide) ?_
    obtain ⟨hb3, h⟩ := h
    refine e_r_iast (j9 := v1.toNat) (pc' := 35) rfl (Nat.le_trans (Nat.le_of_ble_eq_true (m := 556) rfl) hcn) hb3.1 hb3.2 rfl dX11_tellsNothing_34 rfl ?_
    refine e_r_iinc (pc' := 38) (loc' := [some (.inr (.inr 64)), some (.inl (e_w (v1 + 1)))]) dX11_tellsNothing_35 rfl rfl rfl rfl rfl ?_
    refine e_r_goto (pc' := 22) dX11_tellsNothing_38 rfl ?_
    exact h
theorem wg_X11_beginsAnew_0 {X : e_X} {d gn : Nat} {o : e_O} {cn : Nat} (hcn : 556 ≤ cn) (M : e_M) (h : e_G X (d + 1) YX11_beginsAnew 2 [some (.inr (.inr 64)), some (.inl 0)] [] (cn, gn, e_RF, M) o) : e_G X (d + 1) YX11_beginsAnew 0 [some (.inr (.inr 64)), none] [] (cn, gn, e_RF, M) o := by
  refine e_r_iconst (pc' := 1) dX11_beginsAnew_0 rfl (by decide) ?_
  refine e_r_istore_n (pc' := 2) (loc' := [some (.inr (.inr 64)), some (.inl 0)]) dX11_beginsAnew_1 rfl rfl rfl rfl rfl ?_
  exact h
theorem wg_X11_beginsAnew_2 {X : e_X} {d gn : Nat} {o : e_O} {cn : Nat} (hcn : 556 ≤ cn) (M : e_M) (v1 : Int) (hmo : e_mn (cn, gn, e_RF, M) o.2) (h : ((3 ≤ v1 → (∃ N3 : e_M, e_E X d YX11_lays [.inr (.inr 73), .inr (.inr 80), .inl (M 68 0)] (cn, gn, e_RF, M) (.inl none, (cn, gn, e_RF, N3)) ∧ (∃ N5 : e_M, e_E X d YX11_lays [.inr (.inr 87), .inr (.inr 100), .inl (N3 68 2)] (cn, gn, e_RF, N3) (.inl none, (cn, gn, e_RF, N5)) ∧ e_G X (d + 1) YX11_beginsAnew 61 [some (.inr (.inr 64)), some (.inl 0)] [] (cn, gn, e_RF, N5) o))) ∧ (¬ (3 ≤ v1) → ((0 ≤ v1 ∧ v1 < 3) ∧ ((0 ≤ v1 ∧ v1 < 3) ∧ e_G X (d + 1) YX11_beginsAnew 2 [some (.inr (.inr 64)), some (.inl (e_w (v1 + 1)))] [] (cn, gn, e_RF, (e_up M 68 v1.toNat (M 67 v1.toNat))) o))))) : e_G X (d + 1) YX11_beginsAnew 2 [some (.inr (.inr 64)), some (.inl v1)] [] (cn, gn, e_RF, M) o := by
  refine e_r_iload_n (pc' := 3) dX11_beginsAnew_2 rfl rfl rfl ?_
  refine e_r_iconst (pc' := 4) dX11_beginsAnew_3 rfl (by decide) ?_
  obtain ⟨ht1, hf2⟩ := h
  refine e_r_icmp_ge (tgt := 25) (pc' := 7) dX11_beginsAnew_4 rfl rfl (fun c => ?_) (fun c => ?_)
  · have h := ht1 c
    refine e_r_aload_n (pc' := 26) (by decide) dX11_beginsAnew_25 rfl rfl rfl ?_
    refine e_r_getr (k := 17) (q := 73) (pc' := 29) cl_11 rfl (Nat.le_trans (Nat.le_of_ble_eq_true (m := 556) rfl) hcn) rfl rfl fl_RX11_40 rfl (Nat.le_trans (Nat.le_of_ble_eq_true (m := 556) rfl) hcn) dX11_beginsAnew_26 rfl ?_
    refine e_r_aload_n (pc' := 30) (by decide) dX11_beginsAnew_29 rfl rfl rfl ?_
    refine e_r_getr (k := 18) (q := 80) (pc' := 33) cl_11 rfl (Nat.le_trans (Nat.le_of_ble_eq_true (m := 556) rfl) hcn) rfl rfl fl_RX11_43 rfl (Nat.le_trans (Nat.le_of_ble_eq_true (m := 556) rfl) hcn) dX11_beginsAnew_30 rfl ?_
    refine e_r_aload_n (pc' := 34) (by decide) dX11_beginsAnew_33 rfl rfl rfl ?_
    refine e_r_getr (k := 12) (q := 68) (pc' := 37) cl_11 rfl (Nat.le_trans (Nat.le_of_ble_eq_true (m := 556) rfl) hcn) rfl rfl fl_RX11_23 rfl (Nat.le_trans (Nat.le_of_ble_eq_true (m := 556) rfl) hcn) dX11_beginsAnew_34 rfl ?_
    refine e_r_iconst (pc' := 38) dX11_beginsAnew_37 rfl (by decide) ?_
    refine e_r_iald (j9 := 0) (pc' := 39) rfl (Nat.le_trans (Nat.le_of_ble_eq_true (m := 556) rfl) hcn) (by decide) (by decide) rfl dX11_beginsAnew_38 rfl ?_
    obtain ⟨N3, he4, h⟩ := h
    refine e_r_callS (av := [.inr (.inr 73), .inr (.inr 80), .inl (M 68 0)]) (st := []) mqYX11_lays ml_RX11_186 (by simp [e_cat]) rfl rfl rfl dX11_beginsAnew_39 (pc' := 42) rfl he4 ⟨Nat.le_refl _, Nat.le_refl _⟩ hmo ?_
    refine e_r_aload_n (pc' := 43) (by decide) dX11_beginsAnew_42 rfl rfl rfl ?_
    refine e_r_getr (k := 19) (q := 87) (pc' := 46) cl_11 rfl (Nat.le_trans (Nat.le_of_ble_eq_true (m := 556) rfl) hcn) rfl rfl fl_RX11_46 rfl (Nat.le_trans (Nat.le_of_ble_eq_true (m := 556) rfl) hcn) dX11_beginsAnew_43 rfl ?_
    refine e_r_aload_n (pc' := 47) (by decide) dX11_beginsAnew_46 rfl rfl rfl ?_
    refine e_r_getr (k := 20) (q := 100) (pc' := 50) cl_11 rfl (Nat.le_trans (Nat.le_of_ble_eq_true (m := 556) rfl) hcn) rfl rfl fl_RX11_49 rfl (Nat.le_trans (Nat.le_of_ble_eq_true (m := 556) rfl) hcn) dX11_beginsAnew_47 rfl ?_
    refine e_r_aload_n (pc' := 51) (by decide) dX11_beginsAnew_50 rfl rfl rfl ?_
    refine e_r_getr (k := 12) (q := 68) (pc' := 54) cl_11 rfl (Nat.le_trans (Nat.le_of_ble_eq_true (m := 556) rfl) hcn) rfl rfl fl_RX11_23 rfl (Nat.le_trans (Nat.le_of_ble_eq_true (m := 556) rfl) hcn) dX11_beginsAnew_51 rfl ?_
    refine e_r_iconst (pc' := 55) dX11_beginsAnew_54 rfl (by decide) ?_
    refine e_r_iald (j9 := 2) (pc' := 56) rfl (Nat.le_trans (Nat.le_of_ble_eq_true (m := 556) rfl) hcn) (by decide) (by decide) rfl dX11_beginsAnew_55 rfl ?_
    obtain ⟨N5, he6, h⟩ := h
    refine e_r_callS (av := [.inr (.inr 87), .inr (.inr 100), .inl (N3 68 2)]) (st := []) mqYX11_lays ml_RX11_186 (by simp [e_cat]) rfl rfl rfl dX11_beginsAnew_56 (pc' := 59) rfl he6 ⟨Nat.le_refl _, Nat.le_refl _⟩ hmo ?_
    refine e_r_iconst (pc' := 60) dX11_beginsAnew_59 rfl (by decide) ?_
    refine e_r_istore_n (pc' := 61) (loc' := [some (.inr (.inr 64)), some (.inl 0)]) dX11_beginsAnew_60 rfl rfl rfl rfl rfl ?_
    exact h
  · have h := hf2 c
    refine e_r_aload_n (pc' := 8) (by decide) dX11_beginsAnew_7 rfl rfl rfl ?_
    refine e_r_getr (k := 12) (q := 68) (pc' := 11) cl_11 rfl (Nat.le_trans (Nat.le_of_ble_eq_true (m := 556) rfl) hcn) rfl rfl fl_RX11_23 rfl (Nat.le_trans (Nat.le_of_ble_eq_true (m := 556) rfl) hcn) dX11_beginsAnew_8 rfl ?_
    refine e_r_iload_n (pc' := 12) dX11_beginsAnew_11 rfl rfl rfl ?_
    refine e_r_aload_n (pc' := 13) (by decide) dX11_beginsAnew_12 rfl rfl rfl ?_
    refine e_r_getr (k := 11) (q := 67) (pc' := 16) cl_11 rfl (Nat.le_trans (Nat.le_of_ble_eq_true (m := 556) rfl) hcn) rfl rfl fl_RX11_20 rfl (Nat.le_trans (Nat.le_of_ble_eq_true (m := 556) rfl) hcn) dX11_beginsAnew_13 rfl ?_
    refine e_r_iload_n (pc' := 17) dX11_beginsAnew_16 rfl rfl rfl ?_
    obtain ⟨hb7, h⟩ := h
    refine e_r_iald (j9 := v1.toNat) (pc' := 18) rfl (Nat.le_trans (Nat.le_of_ble_eq_true (m := 556) rfl) hcn) hb7.1 hb7.2 rfl dX11_beginsAnew_17 rfl ?_
    obtain ⟨hb8, h⟩ := h
    refine e_r_iast (j9 := v1.toNat) (pc' := 19) rfl (Nat.le_trans (Nat.le_of_ble_eq_true (m := 556) rfl) hcn) hb8.1 hb8.2 rfl dX11_beginsAnew_18 rfl ?_
    refine e_r_iinc (pc' := 22) (loc' := [some (.inr (.inr 64)), some (.inl (e_w (v1 + 1)))]) dX11_beginsAnew_19 rfl rfl rfl rfl rfl ?_
    refine e_r_goto (pc' := 2) dX11_beginsAnew_22 rfl ?_
    exact h
theorem wg_X11_beginsAnew_61 {X : e_X} {d gn : Nat} {o : e_O} {cn : Nat} (hcn : 556 ≤ cn) (M : e_M) (v1 : Int) (h : ((6 ≤ v1 → e_G X (d + 1) YX11_beginsAnew 87 [some (.inr (.inr 64)), some (.inl 0)] [] (cn, gn, e_RF, M) o) ∧ (¬ (6 ≤ v1) → ((0 ≤ v1 ∧ v1 < 6) ∧ ((0 ≤ v1 ∧ v1 < 6) ∧ e_G X (d + 1) YX11_beginsAnew 61 [some (.inr (.inr 64)), some (.inl (e_w (v1 + 1)))] [] (cn, gn, e_RF, (e_up M 70 v1.toNat (M 69 v1.toNat))) o))))) : e_G X (d + 1) YX11_beginsAnew 61 [some (.inr (.inr 64)), some (.inl v1)] [] (cn, gn, e_RF, M) o := by
  refine e_r_iload_n (pc' := 62) dX11_beginsAnew_61 rfl rfl rfl ?_
  refine e_r_bipush (pc' := 64) dX11_beginsAnew_62 rfl (by decide) ?_
  obtain ⟨ht1, hf2⟩ := h
  refine e_r_icmp_ge (tgt := 85) (pc' := 67) dX11_beginsAnew_64 rfl rfl (fun c => ?_) (fun c => ?_)
  · have h := ht1 c
    refine e_r_iconst (pc' := 86) dX11_beginsAnew_85 rfl (by decide) ?_
    refine e_r_istore_n (pc' := 87) (loc' := [some (.inr (.inr 64)), some (.inl 0)]) dX11_beginsAnew_86 rfl rfl rfl rfl rfl ?_
    exact h
  · have h := hf2 c
    refine e_r_aload_n (pc' := 68) (by decide) dX11_beginsAnew_67 rfl rfl rfl ?_
    refine e_r_getr (k := 14) (q := 70) (pc' := 71) cl_11 rfl (Nat.le_trans (Nat.le_of_ble_eq_true (m := 556) rfl) hcn) rfl rfl fl_RX11_29 rfl (Nat.le_trans (Nat.le_of_ble_eq_true (m := 556) rfl) hcn) dX11_beginsAnew_68 rfl ?_
    refine e_r_iload_n (pc' := 72) dX11_beginsAnew_71 rfl rfl rfl ?_
    refine e_r_aload_n (pc' := 73) (by decide) dX11_beginsAnew_72 rfl rfl rfl ?_
    refine e_r_getr (k := 13) (q := 69) (pc' := 76) cl_11 rfl (Nat.le_trans (Nat.le_of_ble_eq_true (m := 556) rfl) hcn) rfl rfl fl_RX11_26 rfl (Nat.le_trans (Nat.le_of_ble_eq_true (m := 556) rfl) hcn) dX11_beginsAnew_73 rfl ?_
    refine e_r_iload_n (pc' := 77) dX11_beginsAnew_76 rfl rfl rfl ?_
    obtain ⟨hb3, h⟩ := h
    refine e_r_iald (j9 := v1.toNat) (pc' := 78) rfl (Nat.le_trans (Nat.le_of_ble_eq_true (m := 556) rfl) hcn) hb3.1 hb3.2 rfl dX11_beginsAnew_77 rfl ?_
    obtain ⟨hb4, h⟩ := h
    refine e_r_iast (j9 := v1.toNat) (pc' := 79) rfl (Nat.le_trans (Nat.le_of_ble_eq_true (m := 556) rfl) hcn) hb4.1 hb4.2 rfl dX11_beginsAnew_78 rfl ?_
    refine e_r_iinc (pc' := 82) (loc' := [some (.inr (.inr 64)), some (.inl (e_w (v1 + 1)))]) dX11_beginsAnew_79 rfl rfl rfl rfl rfl ?_
    refine e_r_goto (pc' := 61) dX11_beginsAnew_82 rfl ?_
    exact h
theorem wg_X11_beginsAnew_87 {X : e_X} {d gn : Nat} {o : e_O} {cn : Nat} (hcn : 556 ≤ cn) (M : e_M) (v1 : Int) (h : ((56 ≤ v1 → e_G X (d + 1) YX11_beginsAnew 108 [some (.inr (.inr 64)), some (.inl 0)] [] (cn, gn, e_RF, M) o) ∧ (¬ (56 ≤ v1) → ((0 ≤ v1 ∧ v1 < 56) ∧ e_G X (d + 1) YX11_beginsAnew 87 [some (.inr (.inr 64)), some (.inl (e_w (v1 + 1)))] [] (cn, gn, e_RF, (e_up M 532 v1.toNat 0)) o)))) : e_G X (d + 1) YX11_beginsAnew 87 [some (.inr (.inr 64)), some (.inl v1)] [] (cn, gn, e_RF, M) o := by
  refine e_r_iload_n (pc' := 88) dX11_beginsAnew_87 rfl rfl rfl ?_
  refine e_r_bipush (pc' := 90) dX11_beginsAnew_88 rfl (by decide) ?_
  obtain ⟨ht1, hf2⟩ := h
  refine e_r_icmp_ge (tgt := 106) (pc' := 93) dX11_beginsAnew_90 rfl rfl (fun c => ?_) (fun c => ?_)
  · have h := ht1 c
    refine e_r_iconst (pc' := 107) dX11_beginsAnew_106 rfl (by decide) ?_
    refine e_r_istore_n (pc' := 108) (loc' := [some (.inr (.inr 64)), some (.inl 0)]) dX11_beginsAnew_107 rfl rfl rfl rfl rfl ?_
    exact h
  · have h := hf2 c
    refine e_r_aload_n (pc' := 94) (by decide) dX11_beginsAnew_93 rfl rfl rfl ?_
    refine e_r_getr (k := 31) (q := 532) (pc' := 97) cl_11 rfl (Nat.le_trans (Nat.le_of_ble_eq_true (m := 556) rfl) hcn) rfl rfl fl_RX11_73 rfl (Nat.le_trans (Nat.le_of_ble_eq_true (m := 556) rfl) hcn) dX11_beginsAnew_94 rfl ?_
    refine e_r_iload_n (pc' := 98) dX11_beginsAnew_97 rfl rfl rfl ?_
    refine e_r_iconst (pc' := 99) dX11_beginsAnew_98 rfl (by decide) ?_
    obtain ⟨hb3, h⟩ := h
    refine e_r_iast (j9 := v1.toNat) (pc' := 100) rfl (Nat.le_trans (Nat.le_of_ble_eq_true (m := 556) rfl) hcn) hb3.1 hb3.2 rfl dX11_beginsAnew_99 rfl ?_
    refine e_r_iinc (pc' := 103) (loc' := [some (.inr (.inr 64)), some (.inl (e_w (v1 + 1)))]) dX11_beginsAnew_100 rfl rfl rfl rfl rfl ?_
    refine e_r_goto (pc' := 87) dX11_beginsAnew_103 rfl ?_
    exact h
theorem wg_X11_beginsAnew_108 {X : e_X} {d gn : Nat} {o : e_O} {cn : Nat} (hcn : 556 ≤ cn) (M : e_M) (v1 : Int) (h : ((6 ≤ v1 → e_G X (d + 1) YX11_beginsAnew 188 [some (.inr (.inr 64)), some (.inl 0)] [] (cn, gn, e_RF, M) o) ∧ (¬ (6 ≤ v1) → (((M 68 0) ≤ v1 → e_G X (d + 1) YX11_beginsAnew 139 [some (.inr (.inr 64)), some (.inl v1)] [.inl 0, .inl v1, .inr (.inr 72)] (cn, gn, e_RF, M) o) ∧ (¬ ((M 68 0) ≤ v1) → ((0 ≤ v1 ∧ v1 < 6) ∧ e_G X (d + 1) YX11_beginsAnew 139 [some (.inr (.inr 64)), some (.inl v1)] [.inl (M 71 v1.toNat), .inl v1, .inr (.inr 72)] (cn, gn, e_RF, M) o)))))) : e_G X (d + 1) YX11_beginsAnew 108 [some (.inr (.inr 64)), some (.inl v1)] [] (cn, gn, e_RF, M) o := by
  refine e_r_iload_n (pc' := 109) dX11_beginsAnew_108 rfl rfl rfl ?_
  refine e_r_bipush (pc' := 111) dX11_beginsAnew_109 rfl (by decide) ?_
  obtain ⟨ht1, hf2⟩ := h
  refine e_r_icmp_ge (tgt := 186) (pc' := 114) dX11_beginsAnew_111 rfl rfl (fun c => ?_) (fun c => ?_)
  · have h := ht1 c
    refine e_r_iconst (pc' := 187) dX11_beginsAnew_186 rfl (by decide) ?_
    refine e_r_istore_n (pc' := 188) (loc' := [some (.inr (.inr 64)), some (.inl 0)]) dX11_beginsAnew_187 rfl rfl rfl rfl rfl ?_
    exact h
  · have h := hf2 c
    refine e_r_aload_n (pc' := 115) (by decide) dX11_beginsAnew_114 rfl rfl rfl ?_
    refine e_r_getr (k := 16) (q := 72) (pc' := 118) cl_11 rfl (Nat.le_trans (Nat.le_of_ble_eq_true (m := 556) rfl) hcn) rfl rfl fl_RX11_35 rfl (Nat.le_trans (Nat.le_of_ble_eq_true (m := 556) rfl) hcn) dX11_beginsAnew_115 rfl ?_
    refine e_r_iload_n (pc' := 119) dX11_beginsAnew_118 rfl rfl rfl ?_
    refine e_r_iload_n (pc' := 120) dX11_beginsAnew_119 rfl rfl rfl ?_
    refine e_r_aload_n (pc' := 121) (by decide) dX11_beginsAnew_120 rfl rfl rfl ?_
    refine e_r_getr (k := 12) (q := 68) (pc' := 124) cl_11 rfl (Nat.le_trans (Nat.le_of_ble_eq_true (m := 556) rfl) hcn) rfl rfl fl_RX11_23 rfl (Nat.le_trans (Nat.le_of_ble_eq_true (m := 556) rfl) hcn) dX11_beginsAnew_121 rfl ?_
    refine e_r_iconst (pc' := 125) dX11_beginsAnew_124 rfl (by decide) ?_
    refine e_r_iald (j9 := 0) (pc' := 126) rfl (Nat.le_trans (Nat.le_of_ble_eq_true (m := 556) rfl) hcn) (by decide) (by decide) rfl dX11_beginsAnew_125 rfl ?_
    obtain ⟨ht3, hf4⟩ := h
    refine e_r_icmp_ge (tgt := 138) (pc' := 129) dX11_beginsAnew_126 rfl rfl (fun c => ?_) (fun c => ?_)
    · have h := ht3 c
      refine e_r_iconst (pc' := 139) dX11_beginsAnew_138 rfl (by decide) ?_
      exact h
    · have h := hf4 c
      refine e_r_aload_n (pc' := 130) (by decide) dX11_beginsAnew_129 rfl rfl rfl ?_
      refine e_r_getr (k := 15) (q := 71) (pc' := 133) cl_11 rfl (Nat.le_trans (Nat.le_of_ble_eq_true (m := 556) rfl) hcn) rfl rfl fl_RX11_32 rfl (Nat.le_trans (Nat.le_of_ble_eq_true (m := 556) rfl) hcn) dX11_beginsAnew_130 rfl ?_
      refine e_r_iload_n (pc' := 134) dX11_beginsAnew_133 rfl rfl rfl ?_
      obtain ⟨hb5, h⟩ := h
      refine e_r_iald (j9 := v1.toNat) (pc' := 135) rfl (Nat.le_trans (Nat.le_of_ble_eq_true (m := 556) rfl) hcn) hb5.1 hb5.2 rfl dX11_beginsAnew_134 rfl ?_
      refine e_r_goto (pc' := 139) dX11_beginsAnew_135 rfl ?_
      exact h
theorem wg_X11_beginsAnew_139 {X : e_X} {d gn : Nat} {o : e_O} {cn : Nat} (hcn : 556 ≤ cn) (M : e_M) (v1 w0 w1 : Int) (h : ((0 ≤ w1 ∧ w1 < 6) ∧ ((((e_up M 72 w1.toNat w0) 68 0) ≤ v1 → e_G X (d + 1) YX11_beginsAnew 169 [some (.inr (.inr 64)), some (.inl v1)] [.inl 0, .inl (e_w (0 + v1)), .inr (.inr 532)] (cn, gn, e_RF, (e_up M 72 w1.toNat w0)) o) ∧ (¬ (((e_up M 72 w1.toNat w0) 68 0) ≤ v1) → ((0 ≤ v1 ∧ v1 < 6) ∧ e_G X (d + 1) YX11_beginsAnew 169 [some (.inr (.inr 64)), some (.inl v1)] [.inl ((e_up M 72 w1.toNat w0) (81 + v1.toNat) 0), .inl (e_w (0 + v1)), .inr (.inr 532)] (cn, gn, e_RF, (e_up M 72 w1.toNat w0)) o))))) : e_G X (d + 1) YX11_beginsAnew 139 [some (.inr (.inr 64)), some (.inl v1)] [.inl w0, .inl w1, .inr (.inr 72)] (cn, gn, e_RF, M) o := by
  obtain ⟨hb1, h⟩ := h
  refine e_r_iast (j9 := w1.toNat) (pc' := 140) rfl (Nat.le_trans (Nat.le_of_ble_eq_true (m := 556) rfl) hcn) hb1.1 hb1.2 rfl dX11_beginsAnew_139 rfl ?_
  refine e_r_aload_n (pc' := 141) (by decide) dX11_beginsAnew_140 rfl rfl rfl ?_
  refine e_r_getr (k := 31) (q := 532) (pc' := 144) cl_11 rfl (Nat.le_trans (Nat.le_of_ble_eq_true (m := 556) rfl) hcn) rfl rfl fl_RX11_73 rfl (Nat.le_trans (Nat.le_of_ble_eq_true (m := 556) rfl) hcn) dX11_beginsAnew_141 rfl ?_
  refine e_r_iconst (pc' := 145) dX11_beginsAnew_144 rfl (by decide) ?_
  refine e_r_iload_n (pc' := 146) dX11_beginsAnew_145 rfl rfl rfl ?_
  refine e_r_iadd (pc' := 147) dX11_beginsAnew_146 rfl ?_
  refine e_r_iload_n (pc' := 148) dX11_beginsAnew_147 rfl rfl rfl ?_
  refine e_r_aload_n (pc' := 149) (by decide) dX11_beginsAnew_148 rfl rfl rfl ?_
  refine e_r_getr (k := 12) (q := 68) (pc' := 152) cl_11 rfl (Nat.le_trans (Nat.le_of_ble_eq_true (m := 556) rfl) hcn) rfl rfl fl_RX11_23 rfl (Nat.le_trans (Nat.le_of_ble_eq_true (m := 556) rfl) hcn) dX11_beginsAnew_149 rfl ?_
  refine e_r_iconst (pc' := 153) dX11_beginsAnew_152 rfl (by decide) ?_
  refine e_r_iald (j9 := 0) (pc' := 154) rfl (Nat.le_trans (Nat.le_of_ble_eq_true (m := 556) rfl) hcn) (by decide) (by decide) rfl dX11_beginsAnew_153 rfl ?_
  obtain ⟨ht2, hf3⟩ := h
  refine e_r_icmp_ge (tgt := 168) (pc' := 157) dX11_beginsAnew_154 rfl rfl (fun c => ?_) (fun c => ?_)
  · have h := ht2 c
    refine e_r_iconst (pc' := 169) dX11_beginsAnew_168 rfl (by decide) ?_
    exact h
  · have h := hf3 c
    refine e_r_aload_n (pc' := 158) (by decide) dX11_beginsAnew_157 rfl rfl rfl ?_
    refine e_r_getr (k := 18) (q := 80) (pc' := 161) cl_11 rfl (Nat.le_trans (Nat.le_of_ble_eq_true (m := 556) rfl) hcn) rfl rfl fl_RX11_43 rfl (Nat.le_trans (Nat.le_of_ble_eq_true (m := 556) rfl) hcn) dX11_beginsAnew_158 rfl ?_
    refine e_r_iload_n (pc' := 162) dX11_beginsAnew_161 rfl rfl rfl ?_
    obtain ⟨hb4, h⟩ := h
    refine e_r_aldr (q := (81 + v1.toNat)) (pc' := 163) rfl (Nat.le_trans (Nat.le_of_ble_eq_true (m := 556) rfl) hcn) hb4.1 hb4.2 rfl (Nat.le_trans (shg_80 hb4.1 hb4.2).2.1 hcn) dX11_beginsAnew_162 rfl ?_
    refine e_r_iconst (pc' := 164) dX11_beginsAnew_163 rfl (by decide) ?_
    refine e_r_iald (j9 := 0) (pc' := 165) (shg_80 hb4.1 hb4.2).1 (Nat.le_trans (shg_80 hb4.1 hb4.2).2.1 hcn) (by decide) (by decide) rfl dX11_beginsAnew_164 rfl ?_
    refine e_r_goto (pc' := 169) dX11_beginsAnew_165 rfl ?_
    exact h
theorem wg_X11_beginsAnew_169 {X : e_X} {d gn : Nat} {o : e_O} {cn : Nat} (hcn : 556 ≤ cn) (M : e_M) (v1 w0 w1 : Int) (h : ((0 ≤ w1 ∧ w1 < 56) ∧ ((0 ≤ (e_w (18 + v1)) ∧ (e_w (18 + v1)) < 56) ∧ e_G X (d + 1) YX11_beginsAnew 108 [some (.inr (.inr 64)), some (.inl (e_w (v1 + 1)))] [] (cn, gn, e_RF, (e_up (e_up M 532 w1.toNat w0) 532 (e_w (18 + v1)).toNat (-1))) o))) : e_G X (d + 1) YX11_beginsAnew 169 [some (.inr (.inr 64)), some (.inl v1)] [.inl w0, .inl w1, .inr (.inr 532)] (cn, gn, e_RF, M) o := by
  obtain ⟨hb1, h⟩ := h
  refine e_r_iast (j9 := w1.toNat) (pc' := 170) rfl (Nat.le_trans (Nat.le_of_ble_eq_true (m := 556) rfl) hcn) hb1.1 hb1.2 rfl dX11_beginsAnew_169 rfl ?_
  refine e_r_aload_n (pc' := 171) (by decide) dX11_beginsAnew_170 rfl rfl rfl ?_
  refine e_r_getr (k := 31) (q := 532) (pc' := 174) cl_11 rfl (Nat.le_trans (Nat.le_of_ble_eq_true (m := 556) rfl) hcn) rfl rfl fl_RX11_73 rfl (Nat.le_trans (Nat.le_of_ble_eq_true (m := 556) rfl) hcn) dX11_beginsAnew_171 rfl ?_
  refine e_r_bipush (pc' := 176) dX11_beginsAnew_174 rfl (by decide) ?_
  refine e_r_iload_n (pc' := 177) dX11_beginsAnew_176 rfl rfl rfl ?_
  refine e_r_iadd (pc' := 178) dX11_beginsAnew_177 rfl ?_
  refine e_r_iconst (pc' := 179) dX11_beginsAnew_178 rfl (by decide) ?_
  obtain ⟨hb2, h⟩ := h
  refine e_r_iast (j9 := (e_w (18 + v1)).toNat) (pc' := 180) rfl (Nat.le_trans (Nat.le_of_ble_eq_true (m := 556) rfl) hcn) hb2.1 hb2.2 rfl dX11_beginsAnew_179 rfl ?_
  refine e_r_iinc (pc' := 183) (loc' := [some (.inr (.inr 64)), some (.inl (e_w (v1 + 1)))]) dX11_beginsAnew_180 rfl rfl rfl rfl rfl ?_
  refine e_r_goto (pc' := 108) dX11_beginsAnew_183 rfl ?_
  exact h
theorem wg_X11_beginsAnew_188 {X : e_X} {d gn : Nat} {o : e_O} {cn : Nat} (hcn : 556 ≤ cn) (M : e_M) (v1 : Int) (h : (((M 68 2) ≤ v1 → (o = (.inl none, (cn, gn, e_RF, (e_up (e_up (e_up (e_up (e_up M 64 21 0) 64 35 0) 64 36 0) 64 37 0) 64 38 0))))) ∧ (¬ ((M 68 2) ≤ v1) → ((0 ≤ v1 ∧ v1 < 12) ∧ ((0 ≤ (e_w (30 + v1)) ∧ (e_w (30 + v1)) < 56) ∧ e_G X (d + 1) YX11_beginsAnew 188 [some (.inr (.inr 64)), some (.inl (e_w (v1 + 1)))] [] (cn, gn, e_RF, (e_up M 532 (e_w (30 + v1)).toNat (M (101 + v1.toNat) 1))) o))))) : e_G X (d + 1) YX11_beginsAnew 188 [some (.inr (.inr 64)), some (.inl v1)] [] (cn, gn, e_RF, M) o := by
  refine e_r_iload_n (pc' := 189) dX11_beginsAnew_188 rfl rfl rfl ?_
  refine e_r_aload_n (pc' := 190) (by decide) dX11_beginsAnew_189 rfl rfl rfl ?_
  refine e_r_getr (k := 12) (q := 68) (pc' := 193) cl_11 rfl (Nat.le_trans (Nat.le_of_ble_eq_true (m := 556) rfl) hcn) rfl rfl fl_RX11_23 rfl (Nat.le_trans (Nat.le_of_ble_eq_true (m := 556) rfl) hcn) dX11_beginsAnew_190 rfl ?_
  refine e_r_iconst (pc' := 194) dX11_beginsAnew_193 rfl (by decide) ?_
  refine e_r_iald (j9 := 2) (pc' := 195) rfl (Nat.le_trans (Nat.le_of_ble_eq_true (m := 556) rfl) hcn) (by decide) (by decide) rfl dX11_beginsAnew_194 rfl ?_
  obtain ⟨ht1, hf2⟩ := h
  refine e_r_icmp_ge (tgt := 221) (pc' := 198) dX11_beginsAnew_195 rfl rfl (fun c => ?_) (fun c => ?_)
  · have h := ht1 c
    refine e_r_aload_n (pc' := 222) (by decide) dX11_beginsAnew_221 rfl rfl rfl ?_
    refine e_r_iconst (pc' := 223) dX11_beginsAnew_222 rfl (by decide) ?_
    refine e_r_puti (k := 21) (pc' := 226) cl_11 rfl (Nat.le_trans (Nat.le_of_ble_eq_true (m := 556) rfl) hcn) rfl rfl fl_RX11_190 rfl (by decide +kernel) dX11_beginsAnew_223 rfl ?_
    refine e_r_aload_n (pc' := 227) (by decide) dX11_beginsAnew_226 rfl rfl rfl ?_
    refine e_r_iconst (pc' := 228) dX11_beginsAnew_227 rfl (by decide) ?_
    refine e_r_puti (k := 35) (pc' := 231) cl_11 rfl (Nat.le_trans (Nat.le_of_ble_eq_true (m := 556) rfl) hcn) rfl rfl fl_RX11_193 rfl (by decide +kernel) dX11_beginsAnew_228 rfl ?_
    refine e_r_aload_n (pc' := 232) (by decide) dX11_beginsAnew_231 rfl rfl rfl ?_
    refine e_r_iconst (pc' := 233) dX11_beginsAnew_232 rfl (by decide) ?_
    refine e_r_puti (k := 36) (pc' := 236) cl_11 rfl (Nat.le_trans (Nat.le_of_ble_eq_true (m := 556) rfl) hcn) rfl rfl fl_RX11_196 rfl (by decide +kernel) dX11_beginsAnew_233 rfl ?_
    refine e_r_aload_n (pc' := 237) (by decide) dX11_beginsAnew_236 rfl rfl rfl ?_
    refine e_r_iconst (pc' := 238) dX11_beginsAnew_237 rfl (by decide) ?_
    refine e_r_puti (k := 37) (pc' := 241) cl_11 rfl (Nat.le_trans (Nat.le_of_ble_eq_true (m := 556) rfl) hcn) rfl rfl fl_RX11_199 rfl (by decide +kernel) dX11_beginsAnew_238 rfl ?_
    refine e_r_aload_n (pc' := 242) (by decide) dX11_beginsAnew_241 rfl rfl rfl ?_
    refine e_r_iconst (pc' := 243) dX11_beginsAnew_242 rfl (by decide) ?_
    refine e_r_puti (k := 38) (pc' := 246) cl_11 rfl (Nat.le_trans (Nat.le_of_ble_eq_true (m := 556) rfl) hcn) rfl rfl fl_RX11_202 rfl (by decide +kernel) dX11_beginsAnew_243 rfl ?_
    exact e_r_vret rfl dX11_beginsAnew_246 h
  · have h := hf2 c
    refine e_r_aload_n (pc' := 199) (by decide) dX11_beginsAnew_198 rfl rfl rfl ?_
    refine e_r_getr (k := 31) (q := 532) (pc' := 202) cl_11 rfl (Nat.le_trans (Nat.le_of_ble_eq_true (m := 556) rfl) hcn) rfl rfl fl_RX11_73 rfl (Nat.le_trans (Nat.le_of_ble_eq_true (m := 556) rfl) hcn) dX11_beginsAnew_199 rfl ?_
    refine e_r_bipush (pc' := 204) dX11_beginsAnew_202 rfl (by decide) ?_
    refine e_r_iload_n (pc' := 205) dX11_beginsAnew_204 rfl rfl rfl ?_
    refine e_r_iadd (pc' := 206) dX11_beginsAnew_205 rfl ?_
    refine e_r_aload_n (pc' := 207) (by decide) dX11_beginsAnew_206 rfl rfl rfl ?_
    refine e_r_getr (k := 20) (q := 100) (pc' := 210) cl_11 rfl (Nat.le_trans (Nat.le_of_ble_eq_true (m := 556) rfl) hcn) rfl rfl fl_RX11_49 rfl (Nat.le_trans (Nat.le_of_ble_eq_true (m := 556) rfl) hcn) dX11_beginsAnew_207 rfl ?_
    refine e_r_iload_n (pc' := 211) dX11_beginsAnew_210 rfl rfl rfl ?_
    obtain ⟨hb3, h⟩ := h
    refine e_r_aldr (q := (101 + v1.toNat)) (pc' := 212) rfl (Nat.le_trans (Nat.le_of_ble_eq_true (m := 556) rfl) hcn) hb3.1 hb3.2 rfl (Nat.le_trans (shg_100 hb3.1 hb3.2).2.1 hcn) dX11_beginsAnew_211 rfl ?_
    refine e_r_iconst (pc' := 213) dX11_beginsAnew_212 rfl (by decide) ?_
    refine e_r_iald (j9 := 1) (pc' := 214) (shg_100 hb3.1 hb3.2).1 (Nat.le_trans (shg_100 hb3.1 hb3.2).2.1 hcn) (by decide) (by decide) rfl dX11_beginsAnew_213 rfl ?_
    obtain ⟨hb4, h⟩ := h
    refine e_r_iast (j9 := (e_w (30 + v1)).toNat) (pc' := 215) rfl (Nat.le_trans (Nat.le_of_ble_eq_true (m := 556) rfl) hcn) hb4.1 hb4.2 rfl dX11_beginsAnew_214 rfl ?_
    refine e_r_iinc (pc' := 218) (loc' := [some (.inr (.inr 64)), some (.inl (e_w (v1 + 1)))]) dX11_beginsAnew_215 rfl rfl rfl rfl rfl ?_
    refine e_r_goto (pc' := 188) dX11_beginsAnew_218 rfl ?_
    exact h
theorem wg_X11_lays_m_person_0 {X : e_X} {d gn : Nat} {o : e_O} {cn : Nat} (hcn : 556 ≤ cn) (M : e_M) (p2 : Int) (h : e_G X d YX11_lays 2 [some (.inr (.inr 73)), some (.inr (.inr 80)), some (.inl p2), some (.inl 0), none] [] (cn, gn, e_RF, M) o) : e_G X d YX11_lays 0 [some (.inr (.inr 73)), some (.inr (.inr 80)), some (.inl p2), none, none] [] (cn, gn, e_RF, M) o := by
  refine e_r_iconst (pc' := 1) dX11_lays_0 rfl (by decide) ?_
  refine e_r_istore_n (pc' := 2) (loc' := [some (.inr (.inr 73)), some (.inr (.inr 80)), some (.inl p2), some (.inl 0), none]) dX11_lays_1 rfl rfl rfl rfl rfl ?_
  exact h
theorem wg_X11_lays_m_person_2 {X : e_X} {d gn : Nat} {o : e_O} {cn : Nat} (hcn : 556 ≤ cn) (M : e_M) (p2 v3 : Int) (h : ((p2 ≤ v3 → (o = (.inl none, (cn, gn, e_RF, M)))) ∧ (¬ (p2 ≤ v3) → e_G X d YX11_lays 10 [some (.inr (.inr 73)), some (.inr (.inr 80)), some (.inl p2), some (.inl v3), some (.inl 0)] [] (cn, gn, e_RF, M) o))) : e_G X d YX11_lays 2 [some (.inr (.inr 73)), some (.inr (.inr 80)), some (.inl p2), some (.inl v3), none] [] (cn, gn, e_RF, M) o := by
  refine e_r_iload_n (pc' := 3) dX11_lays_2 rfl rfl rfl ?_
  refine e_r_iload_n (pc' := 4) dX11_lays_3 rfl rfl rfl ?_
  obtain ⟨ht1, hf2⟩ := h
  refine e_r_icmp_ge (tgt := 43) (pc' := 7) dX11_lays_4 rfl rfl (fun c => ?_) (fun c => ?_)
  · have h := ht1 c
    exact e_r_vret rfl dX11_lays_43 h
  · have h := hf2 c
    refine e_r_iconst (pc' := 8) dX11_lays_7 rfl (by decide) ?_
    refine e_r_istore (pc' := 10) (loc' := [some (.inr (.inr 73)), some (.inr (.inr 80)), some (.inl p2), some (.inl v3), some (.inl 0)]) dX11_lays_8 rfl rfl rfl rfl ?_
    exact h
theorem wg_X11_lays_m_person_10 {X : e_X} {d gn : Nat} {o : e_O} {cn : Nat} (hcn : 556 ≤ cn) (M : e_M) (p2 v3 v4 : Int) (h : ((0 ≤ v3 ∧ v3 < 6) ∧ ((2 ≤ v4 → e_G X d YX11_lays 2 [some (.inr (.inr 73)), some (.inr (.inr 80)), some (.inl p2), some (.inl (e_w (v3 + 1))), none] [] (cn, gn, e_RF, M) o) ∧ (¬ (2 ≤ v4) → ((0 ≤ v3 ∧ v3 < 6) ∧ ((0 ≤ v3 ∧ v3 < 6) ∧ ((0 ≤ v4 ∧ v4 < 2) ∧ ((0 ≤ v4 ∧ v4 < 2) ∧ e_G X d YX11_lays 10 [some (.inr (.inr 73)), some (.inr (.inr 80)), some (.inl p2), some (.inl v3), some (.inl (e_w (v4 + 1)))] [] (cn, gn, e_RF, (e_up M (81 + v3.toNat) v4.toNat (M (74 + v3.toNat) v4.toNat))) o)))))))) : e_G X d YX11_lays 10 [some (.inr (.inr 73)), some (.inr (.inr 80)), some (.inl p2), some (.inl v3), some (.inl v4)] [] (cn, gn, e_RF, M) o := by
  refine e_r_iload (pc' := 12) dX11_lays_10 rfl rfl ?_
  refine e_r_aload_n (pc' := 13) (by decide) dX11_lays_12 rfl rfl rfl ?_
  refine e_r_iload_n (pc' := 14) dX11_lays_13 rfl rfl rfl ?_
  obtain ⟨hb1, h⟩ := h
  refine e_r_aldr (q := (81 + v3.toNat)) (pc' := 15) rfl (Nat.le_trans (Nat.le_of_ble_eq_true (m := 556) rfl) hcn) hb1.1 hb1.2 rfl (Nat.le_trans (shg_80 hb1.1 hb1.2).2.1 hcn) dX11_lays_14 rfl ?_
  refine e_r_alen (pc' := 16) (shg_80 hb1.1 hb1.2).1 (Nat.le_trans (shg_80 hb1.1 hb1.2).2.1 hcn) (by decide) dX11_lays_15 rfl ?_
  obtain ⟨ht2, hf3⟩ := h
  refine e_r_icmp_ge (tgt := 37) (pc' := 19) dX11_lays_16 rfl rfl (fun c => ?_) (fun c => ?_)
  · have h := ht2 c
    refine e_r_iinc (pc' := 40) (loc' := [some (.inr (.inr 73)), some (.inr (.inr 80)), some (.inl p2), some (.inl (e_w (v3 + 1))), some (.inl v4)]) dX11_lays_37 rfl rfl rfl rfl rfl ?_
    refine e_r_goto (pc' := 2) dX11_lays_40 rfl ?_
    exact e_forget (m := [true, true, true, true, false]) h rfl
  · have h := hf3 c
    refine e_r_aload_n (pc' := 20) (by decide) dX11_lays_19 rfl rfl rfl ?_
    refine e_r_iload_n (pc' := 21) dX11_lays_20 rfl rfl rfl ?_
    obtain ⟨hb4, h⟩ := h
    refine e_r_aldr (q := (81 + v3.toNat)) (pc' := 22) rfl (Nat.le_trans (Nat.le_of_ble_eq_true (m := 556) rfl) hcn) hb4.1 hb4.2 rfl (Nat.le_trans (shg_80 hb4.1 hb4.2).2.1 hcn) dX11_lays_21 rfl ?_
    refine e_r_iload (pc' := 24) dX11_lays_22 rfl rfl ?_
    refine e_r_aload_n (pc' := 25) (by decide) dX11_lays_24 rfl rfl rfl ?_
    refine e_r_iload_n (pc' := 26) dX11_lays_25 rfl rfl rfl ?_
    obtain ⟨hb5, h⟩ := h
    refine e_r_aldr (q := (74 + v3.toNat)) (pc' := 27) rfl (Nat.le_trans (Nat.le_of_ble_eq_true (m := 556) rfl) hcn) hb5.1 hb5.2 rfl (Nat.le_trans (shg_73 hb5.1 hb5.2).2.1 hcn) dX11_lays_26 rfl ?_
    refine e_r_iload (pc' := 29) dX11_lays_27 rfl rfl ?_
    obtain ⟨hb6, h⟩ := h
    refine e_r_iald (j9 := v4.toNat) (pc' := 30) (shg_73 hb5.1 hb5.2).1 (Nat.le_trans (shg_73 hb5.1 hb5.2).2.1 hcn) hb6.1 hb6.2 rfl dX11_lays_29 rfl ?_
    obtain ⟨hb7, h⟩ := h
    refine e_r_iast (j9 := v4.toNat) (pc' := 31) (shg_80 hb4.1 hb4.2).1 (Nat.le_trans (shg_80 hb4.1 hb4.2).2.1 hcn) hb7.1 hb7.2 rfl dX11_lays_30 rfl ?_
    refine e_r_iinc (pc' := 34) (loc' := [some (.inr (.inr 73)), some (.inr (.inr 80)), some (.inl p2), some (.inl v3), some (.inl (e_w (v4 + 1)))]) dX11_lays_31 rfl rfl rfl rfl rfl ?_
    refine e_r_goto (pc' := 10) dX11_lays_34 rfl ?_
    exact h
theorem wg_X11_lays_m_task_0 {X : e_X} {d gn : Nat} {o : e_O} {cn : Nat} (hcn : 556 ≤ cn) (M : e_M) (p2 : Int) (h : e_G X d YX11_lays 2 [some (.inr (.inr 87)), some (.inr (.inr 100)), some (.inl p2), some (.inl 0), none] [] (cn, gn, e_RF, M) o) : e_G X d YX11_lays 0 [some (.inr (.inr 87)), some (.inr (.inr 100)), some (.inl p2), none, none] [] (cn, gn, e_RF, M) o := by
  refine e_r_iconst (pc' := 1) dX11_lays_0 rfl (by decide) ?_
  refine e_r_istore_n (pc' := 2) (loc' := [some (.inr (.inr 87)), some (.inr (.inr 100)), some (.inl p2), some (.inl 0), none]) dX11_lays_1 rfl rfl rfl rfl rfl ?_
  exact h
theorem wg_X11_lays_m_task_2 {X : e_X} {d gn : Nat} {o : e_O} {cn : Nat} (hcn : 556 ≤ cn) (M : e_M) (p2 v3 : Int) (h : ((p2 ≤ v3 → (o = (.inl none, (cn, gn, e_RF, M)))) ∧ (¬ (p2 ≤ v3) → e_G X d YX11_lays 10 [some (.inr (.inr 87)), some (.inr (.inr 100)), some (.inl p2), some (.inl v3), some (.inl 0)] [] (cn, gn, e_RF, M) o))) : e_G X d YX11_lays 2 [some (.inr (.inr 87)), some (.inr (.inr 100)), some (.inl p2), some (.inl v3), none] [] (cn, gn, e_RF, M) o := by
  refine e_r_iload_n (pc' := 3) dX11_lays_2 rfl rfl rfl ?_
  refine e_r_iload_n (pc' := 4) dX11_lays_3 rfl rfl rfl ?_
  obtain ⟨ht1, hf2⟩ := h
  refine e_r_icmp_ge (tgt := 43) (pc' := 7) dX11_lays_4 rfl rfl (fun c => ?_) (fun c => ?_)
  · have h := ht1 c
    exact e_r_vret rfl dX11_lays_43 h
  · have h := hf2 c
    refine e_r_iconst (pc' := 8) dX11_lays_7 rfl (by decide) ?_
    refine e_r_istore (pc' := 10) (loc' := [some (.inr (.inr 87)), some (.inr (.inr 100)), some (.inl p2), some (.inl v3), some (.inl 0)]) dX11_lays_8 rfl rfl rfl rfl ?_
    exact h
theorem wg_X11_lays_m_task_10 {X : e_X} {d gn : Nat} {o : e_O} {cn : Nat} (hcn : 556 ≤ cn) (M : e_M) (p2 v3 v4 : Int) (h : ((0 ≤ v3 ∧ v3 < 12) ∧ ((3 ≤ v4 → e_G X d YX11_lays 2 [some (.inr (.inr 87)), some (.inr (.inr 100)), some (.inl p2), some (.inl (e_w (v3 + 1))), none] [] (cn, gn, e_RF, M) o) ∧ (¬ (3 ≤ v4) → ((0 ≤ v3 ∧ v3 < 12) ∧ ((0 ≤ v3 ∧ v3 < 12) ∧ ((0 ≤ v4 ∧ v4 < 3) ∧ ((0 ≤ v4 ∧ v4 < 3) ∧ e_G X d YX11_lays 10 [some (.inr (.inr 87)), some (.inr (.inr 100)), some (.inl p2), some (.inl v3), some (.inl (e_w (v4 + 1)))] [] (cn, gn, e_RF, (e_up M (101 + v3.toNat) v4.toNat (M (88 + v3.toNat) v4.toNat))) o)))))))) : e_G X d YX11_lays 10 [some (.inr (.inr 87)), some (.inr (.inr 100)), some (.inl p2), some (.inl v3), some (.inl v4)] [] (cn, gn, e_RF, M) o := by
  refine e_r_iload (pc' := 12) dX11_lays_10 rfl rfl ?_
  refine e_r_aload_n (pc' := 13) (by decide) dX11_lays_12 rfl rfl rfl ?_
  refine e_r_iload_n (pc' := 14) dX11_lays_13 rfl rfl rfl ?_
  obtain ⟨hb1, h⟩ := h
  refine e_r_aldr (q := (101 + v3.toNat)) (pc' := 15) rfl (Nat.le_trans (Nat.le_of_ble_eq_true (m := 556) rfl) hcn) hb1.1 hb1.2 rfl (Nat.le_trans (shg_100 hb1.1 hb1.2).2.1 hcn) dX11_lays_14 rfl ?_
  refine e_r_alen (pc' := 16) (shg_100 hb1.1 hb1.2).1 (Nat.le_trans (shg_100 hb1.1 hb1.2).2.1 hcn) (by decide) dX11_lays_15 rfl ?_
  obtain ⟨ht2, hf3⟩ := h
  refine e_r_icmp_ge (tgt := 37) (pc' := 19) dX11_lays_16 rfl rfl (fun c => ?_) (fun c => ?_)
  · have h := ht2 c
    refine e_r_iinc (pc' := 40) (loc' := [some (.inr (.inr 87)), some (.inr (.inr 100)), some (.inl p2), some (.inl (e_w (v3 + 1))), some (.inl v4)]) dX11_lays_37 rfl rfl rfl rfl rfl ?_
    refine e_r_goto (pc' := 2) dX11_lays_40 rfl ?_
    exact e_forget (m := [true, true, true, true, false]) h rfl
  · have h := hf3 c
    refine e_r_aload_n (pc' := 20) (by decide) dX11_lays_19 rfl rfl rfl ?_
    refine e_r_iload_n (pc' := 21) dX11_lays_20 rfl rfl rfl ?_
    obtain ⟨hb4, h⟩ := h
    refine e_r_aldr (q := (101 + v3.toNat)) (pc' := 22) rfl (Nat.le_trans (Nat.le_of_ble_eq_true (m := 556) rfl) hcn) hb4.1 hb4.2 rfl (Nat.le_trans (shg_100 hb4.1 hb4.2).2.1 hcn) dX11_lays_21 rfl ?_
    refine e_r_iload (pc' := 24) dX11_lays_22 rfl rfl ?_
    refine e_r_aload_n (pc' := 25) (by decide) dX11_lays_24 rfl rfl rfl ?_
    refine e_r_iload_n (pc' := 26) dX11_lays_25 rfl rfl rfl ?_
    obtain ⟨hb5, h⟩ := h
    refine e_r_aldr (q := (88 + v3.toNat)) (pc' := 27) rfl (Nat.le_trans (Nat.le_of_ble_eq_true (m := 556) rfl) hcn) hb5.1 hb5.2 rfl (Nat.le_trans (shg_87 hb5.1 hb5.2).2.1 hcn) dX11_lays_26 rfl ?_
    refine e_r_iload (pc' := 29) dX11_lays_27 rfl rfl ?_
    obtain ⟨hb6, h⟩ := h
    refine e_r_iald (j9 := v4.toNat) (pc' := 30) (shg_87 hb5.1 hb5.2).1 (Nat.le_trans (shg_87 hb5.1 hb5.2).2.1 hcn) hb6.1 hb6.2 rfl dX11_lays_29 rfl ?_
    obtain ⟨hb7, h⟩ := h
    refine e_r_iast (j9 := v4.toNat) (pc' := 31) (shg_100 hb4.1 hb4.2).1 (Nat.le_trans (shg_100 hb4.1 hb4.2).2.1 hcn) hb7.1 hb7.2 rfl dX11_lays_30 rfl ?_
    refine e_r_iinc (pc' := 34) (loc' := [some (.inr (.inr 87)), some (.inr (.inr 100)), some (.inl p2), some (.inl v3), some (.inl (e_w (v4 + 1)))]) dX11_lays_31 rfl rfl rfl rfl rfl ?_
    refine e_r_goto (pc' := 10) dX11_lays_34 rfl ?_
    exact h
