/-- where the case j begins -/
def k_tg (j : Nat) : Nat := (bif Nat.ble j 22 then (bif Nat.ble j 11 then (bif Nat.ble j 5 then (bif Nat.ble j 2 then (bif Nat.ble j 1 then (bif Nat.ble j 0 then 236 else 309) else 365) else (bif Nat.ble j 4 then (bif Nat.ble j 3 then 421 else 477) else 533)) else (bif Nat.ble j 8 then (bif Nat.ble j 7 then (bif Nat.ble j 6 then 546 else 559) else 615) else (bif Nat.ble j 10 then (bif Nat.ble j 9 then 683 else 751) else 819))) else (bif Nat.ble j 17 then (bif Nat.ble j 14 then (bif Nat.ble j 13 then (bif Nat.ble j 12 then 875 else 1021) else 1084) else (bif Nat.ble j 16 then (bif Nat.ble j 15 then 1152 else 1165) else 1221)) else (bif Nat.ble j 20 then (bif Nat.ble j 19 then (bif Nat.ble j 18 then 1234 else 1290) else 1370) else (bif Nat.ble j 21 then 1450 else 1530)))) else (bif Nat.ble j 33 then (bif Nat.ble j 28 then (bif Nat.ble j 25 then (bif Nat.ble j 24 then (bif Nat.ble j 23 then 1609 else 1689) else 1769) else (bif Nat.ble j 27 then (bif Nat.ble j 26 then 1825 else 1893) else 1906)) else (bif Nat.ble j 31 then (bif Nat.ble j 30 then (bif Nat.ble j 29 then 1919 else 1932) else 1988) else (bif Nat.ble j 32 then 2056 else 2112))) else (bif Nat.ble j 39 then (bif Nat.ble j 36 then (bif Nat.ble j 35 then (bif Nat.ble j 34 then 2168 else 2181) else 2249) else (bif Nat.ble j 38 then (bif Nat.ble j 37 then 2305 else 2361) else 2417)) else (bif Nat.ble j 42 then (bif Nat.ble j 41 then (bif Nat.ble j 40 then 2521 else 2653) else 2666) else (bif Nat.ble j 43 then 2679 else 2704)))))
/-- one operation of the law's loop -/
def k_step (X : e_X) (K : e_M → Prop) : Prop := ∀ c : Nat, c < 45 → ∀ (i gn : Nat) (M : e_M), i + 9 ≤ X.2.2.2.2.2.1 → K M → ∃ (g1 : Nat) (M2 : e_M), gn ≤ g1 ∧ g1 ≤ gn + 1 ∧ K M2 ∧ ∀ o : e_O, e_mn (557, g1, e_RF, M2) o.2 → e_G X 401 YL_law_ 2729 [some (.inr (.inr 999999)), some (.inr (.inr 1)), some (.inr (.inr 64)), some (.inr (.inr 557)), some (.inl (i : Int)), none, none, none] [] (557, g1, e_RF, M2) o → e_G X 401 YL_law_ (k_tg c) [some (.inr (.inr 999999)), some (.inr (.inr 1)), some (.inr (.inr 64)), some (.inr (.inr 557)), some (.inl (i : Int)), none, none, none] [] (557, gn, e_RF, M) o
theorem k_tg_ok : ∀ j : Nat, (0 : Int) + (j : Int) ≤ 44 → ∃ off, (#[196, 269, 325, 381, 437, 493, 506, 519, 575, 643, 711, 779, 835, 981, 1044, 1112, 1125, 1181, 1194, 1250, 1330, 1410, 1490, 1569, 1649, 1729, 1785, 1853, 1866, 1879, 1892, 1948, 2016, 2072, 2128, 2141, 2209, 2265, 2321, 2377, 2481, 2613, 2626, 2639, 2664] : Array Int)[j]? = some off ∧ ((40 : Nat) : Int) + off = (k_tg j : Int) := by
  intro j hj
  have h : ∀ j : Nat, j < 45 → ∃ off, off ∈ ([196, 269, 325, 381, 437, 493, 506, 519, 575, 643, 711, 779, 835, 981, 1044, 1112, 1125, 1181, 1194, 1250, 1330, 1410, 1490, 1569, 1649, 1729, 1785, 1853, 1866, 1879, 1892, 1948, 2016, 2072, 2128, 2141, 2209, 2265, 2321, 2377, 2481, 2613, 2626, 2639, 2664] : List Int) ∧ (#[196, 269, 325, 381, 437, 493, 506, 519, 575, 643, 711, 779, 835, 981, 1044, 1112, 1125, 1181, 1194, 1250, 1330, 1410, 1490, 1569, 1649, 1729, 1785, 1853, 1866, 1879, 1892, 1948, 2016, 2072, 2128, 2141, 2209, 2265, 2321, 2377, 2481, 2613, 2626, 2639, 2664] : Array Int)[j]? = some off ∧ ((40 : Nat) : Int) + off = (k_tg j : Int) := by decide +kernel
  obtain ⟨off, -, h1, h2⟩ := h j (by omega)
  exact ⟨off, h1, h2⟩
section LW
variable {X : e_X} {K : e_M → Prop} (hL : X.2.2.2.2.2.1 ≤ 4608) (hb : X.2.2.2.2.1 < (e_H0 X).size)
theorem k_in {i gn : Nat} {M : e_M} {o : e_O} (hL : X.2.2.2.2.2.1 ≤ 4608) (hb : X.2.2.2.2.1 < (e_H0 X).size) (hi : i + 9 ≤ X.2.2.2.2.2.1) (kt : ∀ j : Nat, j < 45 → e_and (k_xi X i 0) 63 = (j : Int) → e_G X 401 YL_law_ (k_tg j) [some (.inr (.inr 999999)), some (.inr (.inr 1)), some (.inr (.inr 64)), some (.inr (.inr 557)), some (.inl (i : Int)), none, none, none] [] (557, gn, e_RF, M) o) (kf : (e_and (k_xi X i 0) 63 < 0 ∨ 44 < e_and (k_xi X i 0) 63) → e_G X 401 YL_law_ 2729 [some (.inr (.inr 999999)), some (.inr (.inr 1)), some (.inr (.inr 64)), some (.inr (.inr 557)), some (.inl (i : Int)), none, none, none] [] (557, gn, e_RF, M) o) : e_G X 401 YL_law_ 23 [some (.inr (.inr 999999)), some (.inr (.inr 1)), some (.inr (.inr 64)), some (.inr (.inr 557)), some (.inl (i : Int)), none, none, none] [] (557, gn, e_RF, M) o := by
  refine e_r_iload (pc' := 25) dL_law__23 rfl rfl ?_
  refine e_r_aload_n (pc' := 26) (by decide) dL_law__25 rfl rfl rfl ?_
  refine e_r_slen (pc' := 27) hb (by omega) dL_law__26 rfl ?_
  refine e_r_bipush (pc' := 29) dL_law__27 rfl (by decide) ?_
  refine e_r_isub (pc' := 30) dL_law__29 rfl ?_
  have e1 : e_w ((X.2.2.2.2.2.1 : Int) - 9) = (X.2.2.2.2.2.1 : Int) - 9 := e_ws_ (by omega) (by omega)
  refine e_r_icmp_gt (tgt := 2735) (pc' := 33) dL_law__30 rfl rfl (fun q => absurd q (by rw [e1]; omega)) (fun _ => ?_)
  refine e_r_aload_n (pc' := 34) (by decide) dL_law__33 rfl rfl rfl ?_
  refine e_r_iload (pc' := 36) dL_law__34 rfl rfl ?_
  refine e_r_sld (pc' := 37) (by omega) (by omega) hb dL_law__36 rfl ?_
  rw [show ((i : Int)).toNat = i + 0 by omega]
  refine e_r_bipush (pc' := 39) dL_law__37 rfl (by decide) ?_
  refine e_r_iand (pc' := 40) dL_law__39 rfl ?_
  refine e_r_table (tgt := 2729) dL_law__40 rfl k_tg k_tg_ok (fun j ej hj => ?_) (fun c => kf c)
  have ej2 := ej.trans (Int.zero_add _)
  exact kt j (by rw [ej2] at hj; omega) ej2
theorem k_out {i gn : Nat} {M : e_M} (hL : X.2.2.2.2.2.1 ≤ 4608) (hb : X.2.2.2.2.1 < (e_H0 X).size) (hi : ¬ i + 9 ≤ X.2.2.2.2.2.1) (hi2 : i ≤ 4608) : e_G X 401 YL_law_ 23 [some (.inr (.inr 999999)), some (.inr (.inr 1)), some (.inr (.inr 64)), some (.inr (.inr 557)), some (.inl (i : Int)), none, none, none] [] (557, gn, e_RF, M) (.inl (some (.inl 1)), (557, gn, e_RF, M)) := by
  refine e_r_iload (pc' := 25) dL_law__23 rfl rfl ?_
  refine e_r_aload_n (pc' := 26) (by decide) dL_law__25 rfl rfl rfl ?_
  refine e_r_slen (pc' := 27) hb (by omega) dL_law__26 rfl ?_
  refine e_r_bipush (pc' := 29) dL_law__27 rfl (by decide) ?_
  refine e_r_isub (pc' := 30) dL_law__29 rfl ?_
  have e1 : e_w ((X.2.2.2.2.2.1 : Int) - 9) = (X.2.2.2.2.2.1 : Int) - 9 := e_ws_ (by omega) (by omega)
  refine e_r_icmp_gt (tgt := 2735) (pc' := 33) dL_law__30 rfl rfl (fun _ => ?_) (fun q => absurd (by rw [e1]; omega) q)
  refine e_r_iconst (pc' := 2736) dL_law__2735 rfl (by decide) ?_
  exact e_r_iret (ty := .boolean) rfl (e_nZ (Or.inr rfl)) dL_law__2736 rfl
theorem k_nx {i gn : Nat} {M : e_M} {o : e_O} (hi : i ≤ 4608) (k9 : e_G X 401 YL_law_ 23 [some (.inr (.inr 999999)), some (.inr (.inr 1)), some (.inr (.inr 64)), some (.inr (.inr 557)), some (.inl ((i + 9 : Nat) : Int)), none, none, none] [] (557, gn, e_RF, M) o) : e_G X 401 YL_law_ 2729 [some (.inr (.inr 999999)), some (.inr (.inr 1)), some (.inr (.inr 64)), some (.inr (.inr 557)), some (.inl (i : Int)), none, none, none] [] (557, gn, e_RF, M) o := by
  have e1 : e_w ((i : Int) + 9) = ((i + 9 : Nat) : Int) := by rw [e_ws_ (by omega) (by omega)]; omega
  refine e_r_iinc (pc' := 2732) (loc' := [some (.inr (.inr 999999)), some (.inr (.inr 1)), some (.inr (.inr 64)), some (.inr (.inr 557)), some (.inl ((i + 9 : Nat) : Int)), none, none, none]) dL_law__2729 rfl rfl rfl rfl (by rw [e1]; rfl) ?_
  refine e_r_goto (pc' := 23) dL_law__2732 rfl ?_
  exact k9
/-- the loop: from every state in the relation the law comes to its end with 1 -/
theorem law_loop (hL : X.2.2.2.2.2.1 ≤ 4608) (hb : X.2.2.2.2.1 < (e_H0 X).size) (hst : k_step X K) : ∀ (n i gn : Nat) (M : e_M), X.2.2.2.2.2.1 < i + 9 * (n + 1) → i ≤ X.2.2.2.2.2.1 → K M → ∃ (g' : Nat) (M' : e_M), gn ≤ g' ∧ g' ≤ gn + n ∧ e_G X 401 YL_law_ 23 [some (.inr (.inr 999999)), some (.inr (.inr 1)), some (.inr (.inr 64)), some (.inr (.inr 557)), some (.inl (i : Int)), none, none, none] [] (557, gn, e_RF, M) (.inl (some (.inl 1)), (557, g', e_RF, M')) := by
  intro n
  induction n with
  | zero =>
    intro i gn M h1 h2 hK
    exact ⟨gn, M, Nat.le_refl _, Nat.le_refl _, k_out hL hb (by omega) (by omega)⟩
  | succ n ih =>
    intro i gn M h1 h2 hK
    by_cases hi : i + 9 ≤ X.2.2.2.2.2.1
    · by_cases hc : 0 ≤ e_and (k_xi X i 0) 63 ∧ e_and (k_xi X i 0) 63 ≤ 44
      · obtain ⟨c, hc9⟩ : ∃ c : Nat, e_and (k_xi X i 0) 63 = (c : Int) := ⟨(e_and (k_xi X i 0) 63).toNat, by omega⟩
        obtain ⟨g1, M2, a1, a2, hK2, hgo⟩ := hst c (by omega) i gn M hi hK
        obtain ⟨g', M', b1, b2, hG⟩ := ih (i + 9) g1 M2 (by omega) (by omega) hK2
        refine ⟨g', M', by omega, by omega, k_in hL hb hi (fun j hj ej => ?_) (fun q => absurd q (by omega))⟩
        have : j = c := by omega
        subst this
        exact hgo _ ⟨Nat.le_refl _, b1⟩ (k_nx (by omega) hG)
      · obtain ⟨g', M', b1, b2, hG⟩ := ih (i + 9) gn M (by omega) (by omega) hK
        exact ⟨g', M', by omega, by omega, k_in hL hb hi (fun j hj ej => absurd (show 0 ≤ e_and (k_xi X i 0) 63 ∧ e_and (k_xi X i 0) 63 ≤ 44 by omega) hc) (fun _ => k_nx (by omega) hG)⟩
    · exact ⟨gn, M, Nat.le_refl _, by omega, k_out hL hb hi (by omega)⟩
end LW
