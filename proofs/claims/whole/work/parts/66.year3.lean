/-! OPERATIONS, 16: year, span, asked -/
theorem y_ny {a b c : Int} {M : e_M} : f_X10_needYear a b c M = if (1 ≤ a ∧ a ≤ 96) ∧ (0 ≤ b ∧ b ≤ 16) ∧ 0 ≤ c ∧ c ≤ 16 then some (.inl 0, M) else some (.inr 1, e_up M 1 17 (e_w (M 1 17 + 1))) := by
  unfold f_X10_needYear
  rw [r_nw]
  by_cases h1 : 1 ≤ a ∧ a ≤ 96
  · rw [if_pos h1, f_tl, r_nw]
    by_cases h2 : 0 ≤ b ∧ b ≤ 16
    · rw [if_pos h2, f_tl, r_nw]
      by_cases h3 : 0 ≤ c ∧ c ≤ 16
      · rw [if_pos h3, f_tl, if_pos ⟨h1, h2, h3⟩]
      · rw [if_neg h3, f_tr, if_neg (fun h => h3 h.2.2)]
    · rw [if_neg h2, f_tr, if_neg (fun h => h2 h.2.1)]
  · rw [if_neg h1, f_tr, if_neg (fun h => h1 h.1)]
theorem y_iy {a b c : Int} {M : e_M} : f_X11_isYear a b c M = some (if (1 ≤ a ∧ a ≤ 96) ∧ (0 ≤ b ∧ b ≤ 16) ∧ 0 ≤ c ∧ c ≤ 16 then 1 else 0, M) := by
  unfold f_X11_isYear
  rw [r_in, f_bs]
  by_cases h1 : 1 ≤ a ∧ a ≤ 96
  · rw [if_pos h1, if_neg (by decide), r_in, f_bs]
    by_cases h2 : 0 ≤ b ∧ b ≤ 16
    · rw [if_pos h2, if_neg (by decide), r_in, f_bs]
      by_cases h3 : 0 ≤ c ∧ c ≤ 16
      · rw [if_pos h3, if_neg (by decide), if_pos ⟨h1, h2, h3⟩]
      · rw [if_neg h3, if_pos rfl, if_neg (fun h => h3 h.2.2)]
    · rw [if_neg h2, if_pos rfl, if_neg (fun h => h2 h.2.1)]
  · rw [if_neg h1, if_pos rfl, if_neg (fun h => h1 h.1)]
theorem o_year {F : Nat} (hF : 1000 < F) (s w q r z : Int) : q_o2 (f_X10_year F s w q r z) (f_X11_year F s w q r z) k_c1 := by
  intro M k
  have k' := k
  obtain ⟨n, m, t, wa, sk, wo, ow, fi, l, cw, cv, L, hB⟩ := k'
  have hT : q_T n m t wa sk wo ow fi M := hB.1
  have h6 := hT.1
  have hm := hT.2.1
  have ht12 := hT.2.2.1
  have hn := hT.2.2.2.2.2.2.1
  have hC : q_cn n t L M := hB.2.2.2.2.2.1.1
  have hLB : q_LB n t L := hB.2.2.2.2.2.1.2.2
  have hLa : q_La l cw cv M := hB.2.2.2.1
  by_cases hy : ¬ ((1 ≤ w ∧ w ≤ 96) ∧ (0 ≤ q ∧ q ≤ 16) ∧ 0 ≤ r ∧ r ≤ 16)
  · refine q_ref1 (b := 0) (c := 1) k rfl (by decide) ?_ ?_
    · unfold f_X10_year
      rw [y_ny, if_neg hy, f_tr]
    · unfold f_X11_year f_X11_year_31
      rw [y_iy, f_bs, if_neg hy, if_pos rfl, r_bada rfl (by decide), f_bs, if_neg (by decide)]
      rfl
  replace hy := Classical.not_not.mp hy
  by_cases hz : ¬ (0 ≤ z ∧ z ≤ 4)
  · refine q_ref1 (b := 0) (c := 1) k rfl (by decide) ?_ ?_
    · unfold f_X10_year
      rw [y_ny, if_pos hy, f_tl, r_nw, if_neg hz, f_tr]
    · unfold f_X11_year f_X11_year_31
      rw [y_iy, f_bs, if_pos hy, if_neg (by decide), r_in, f_bs, if_neg hz, if_neg (by decide), r_bada rfl (by decide), f_bs, if_neg (by decide)]
      rfl
  replace hz := Classical.not_not.mp hz
  obtain ⟨w', hw', rfl⟩ := q_nat (n := 97) (p := w) (by omega)
  obtain ⟨X, b, M1, i1, i2, i3, i4, i5, i6⟩ := y_live (s := s) (q := q) (r := r) (w := w') (by omega) hT hLa hC hLB
  have f1 : ∀ a j, ¬ q_sca a → M1 a j = M a j := fun a j ha => i4 a j (by unfold q_sca at ha; omega) (by unfold q_sca at ha; omega) (by unfold q_sca at ha; omega)
  generalize hv : (if z = 0 then q_sm (fun p => X p) n else if z = 1 then q_sm (fun p => X (6 + p)) n else if z = 2 then e_w (X 54 - L 54) else if z = 3 then b else (q_bs (q_dn X) t : Int)) = v
  have hB2 := q_B_f (q_fr_b (v := v) f1) hB
  obtain ⟨N, R', j1, j2, j3, j4, j5⟩ := i6 (e_up (e_up M1 557 0 v) 64 0 0) hB2.1 hB2.2.2.2.1 hB2.2.2.2.2.2.1.2.1
  have h1n : M1 4 0 = (n : Int) := by rw [i4 4 0 (by decide) (by decide) (by omega)]; exact hT.2.2.2.1
  have hnN : N 68 0 = (n : Int) := by rw [j4 68 0 (by decide) (by decide) (by decide) (by omega)]; exact hB2.1.2.2.2.2.2.2.1
  have htN : N 68 2 = (t : Int) := by rw [j4 68 2 (by decide) (by decide) (by decide) (by omega)]; exact hB2.1.2.2.2.2.2.2.2.2.1
  have h54 : N 532 54 = L 54 := by rw [j4 532 54 (by decide) (by decide) (by decide) (by omega)]; exact hB2.2.2.2.2.2.1.2.1 54 (by omega)
  refine q_ok (M1 := M1) (M2 := N) (v := v) k ?_ f1 ?_ (fun a j h1 h2 h3 _ _ h6 => j4 a j h1 h2 h3 (fun h => (h6 h).2))
  · unfold f_X10_year
    rw [y_ny, if_pos hy, f_tl, r_nw, if_pos hz, f_tl, i5 F (by omega), f_bs, rr_coins h1n h6 (by omega), f_bs, rr_days h1n h6 (by omega), f_bs, q_sm_congr (c := M1 44) (d := fun p => X p) (fun i hi => (i2.1 i hi).1), q_sm_congr (c := M1 45) (d := fun p => X (6 + p)) (fun i hi => (i2.1 i hi).2.1), i2.2.2.2.1, i2.2.2.2.2, i3, i4 36 3 (by decide) (by decide) (by omega), hC.2.2.2.1, ← hv]
    by_cases h0 : z = 0
    · rw [if_pos h0, if_pos h0]
    · rw [if_neg h0, if_neg h0]
      by_cases h1 : z = 1
      · rw [if_pos h1, if_pos h1]
      · rw [if_neg h1, if_neg h1]
        by_cases h2 : z = 2
        · rw [if_pos h2, if_pos h2]
        · rw [if_neg h2, if_neg h2]
          by_cases h3 : z = 3
          · rw [if_pos h3, if_pos h3]
          · rw [if_neg h3, if_neg h3]
  · unfold f_X11_year f_X11_year_31
    have hd : ∀ k, k < t → R' (42 + k) = 0 ∨ R' (42 + k) = 1 := fun k hk => by rw [← (j2.2.1 k hk).2]; exact (i2.2.1 k hk).2
    rw [y_iy, f_bs, if_pos hy, if_neg (by decide), r_in, f_bs, if_pos hz, if_pos (by decide), r_bad0 rfl, f_bs, if_pos rfl, j5 F (by omega), f_bs, r_doneIn htN ht12 j1 hd (by omega), f_bs, r_sum6 hnN h6 (by omega), f_bs, r_sum0 hnN h6 (by omega), f_bs, q_sm_congr (c := fun p => N 533 p) (d := fun p => X p) (fun i hi => by rw [j1 i (by omega)]; exact (j2.1 i hi).1.symm), q_sm_congr (c := fun p => N 533 (6 + p)) (d := fun p => X (6 + p)) (fun i hi => by rw [j1 (6 + i) (by omega)]; exact (j2.1 i hi).2.1.symm), ← q_ag_dn j2, h54, j1 54 (by omega), ← j2.2.2.1, j3, ← hv]
    by_cases h0 : z = 0
    · rw [if_pos h0, if_pos h0]
    · rw [if_neg h0, if_neg h0]
      by_cases h1 : z = 1
      · rw [if_pos h1, if_pos h1]
      · rw [if_neg h1, if_neg h1]
        by_cases h2 : z = 2
        · rw [if_pos h2, if_pos h2]
        · rw [if_neg h2, if_neg h2]
          by_cases h3 : z = 3
          · rw [if_pos h3, if_pos h3]
          · rw [if_neg h3, if_neg h3]
theorem y_el {a b x y : Int} (h1 : a = x) (h2 : b = y) (h3 : 0 ≤ y) (h4 : y ≤ x) (h5 : x ≤ 2000000) : e_w (a - b) = x - y := by
  rw [h1, h2, e_ws_ (by omega) (by omega)]
section SP
variable {n m t : Nat} {wa : Nat → Int} {sk : Nat → Nat} {wo : Nat → Int} {ow : Nat → Nat} {fi : Nat → Int} {l : Nat} {cw cv L R : Nat → Int} {M : e_M}
theorem y_span {w y k : Nat} {s q r z : Int} (hw : w ≤ 96) (hy : y ≤ 20) (hk : k < t) (hLB : q_LB n t L) : ∀ (j i : Nat) (a b c : Int) (M : e_M), i + j = y → q_T n m t wa sk wo ow fi M → q_La l cw cv M → q_cn n t L M → 0 ≤ a → a ≤ 2000000 → 0 ≤ b → b ≤ 2000000 → 0 ≤ c → c ≤ (i : Int) →
    ∃ (v : Int) (M' : e_M), (∀ a k, a ≠ 22 → a ≠ 23 → a < 43 ∨ 54 < a → M' a k = M a k) ∧ (∀ f, j + 510 < f → f_X10_span_53 f s (y : Int) (w : Int) q r z (k : Int) a b c (i : Int) M = some (.inl v, M')) ∧
    ∀ (N : e_M) (a' : Int), (a' = if i = 0 then (if j = 0 then a else -1) else a) → q_T n m t wa sk wo ow fi N → q_La l cw cv N → q_ml N 532 L → ∃ (N' : e_M), (∀ a k, a ≠ 449 → a ≠ 450 → a ≠ 533 → (a = 64 → k ≠ 45 ∧ k ≠ 46) → N' a k = N a k) ∧ ∀ f, j + 510 < f → f_X11_span_81 f s (y : Int) (w : Int) q r z (k : Int) a' b c (i : Int) N = some (v, N') := by
  intro j
  induction j with
  | zero =>
    intro i a b c M hi hT hLa hC ha0 ha1 hb0 hb1 hc0 hc1
    refine ⟨if z = 0 then a else if z = 1 then b else c, M, fun _ _ _ _ _ => rfl, fun f hf => ?_, fun N a' ea hTN hLN hrN => ⟨N, fun _ _ _ _ _ _ => rfl, fun f hf => ?_⟩⟩
    · obtain ⟨f', rfl⟩ : ∃ f', f = f' + 1 := ⟨f - 1, by omega⟩
      rw [f_X10_span_53, if_pos (by omega)]
      split
      · rfl
      · split <;> rfl
    · obtain ⟨f', rfl⟩ : ∃ f', f = f' + 1 := ⟨f - 1, by omega⟩
      have e : a' = a := by
        rw [ea]
        split
        · exact if_pos rfl
        · rfl
      rw [f_X11_span_81, if_pos (by omega), e]
      by_cases h0 : z = 0
      · rw [if_neg (not_not_intro h0), if_pos h0]
      · rw [if_pos h0, if_neg h0]
        by_cases h1 : z = 1
        · rw [if_neg (not_not_intro h1), if_pos h1]
        · rw [if_pos h1, if_neg h1]
  | succ j ih =>
    intro i a b c M hi hT hLa hC ha0 ha1 hb0 hb1 hc0 hc1
    have h6 := hT.1
    have h12 := hT.2.2.1
    have hL3 := hLB.2.2.1
    obtain ⟨X, bb, M1, i1, i2, i3, i4, i5, i6⟩ := y_live (s := e_w (s + (i : Int))) (q := q) (r := r) (w := w) hw hT hLa hC hLB
    have hT1 : q_T n m t wa sk wo ow fi M1 := q_T_f (fun a j z => i4 a j (by unfold q_F3 at z; omega) (by unfold q_F3 at z; omega) (by unfold q_F3 at z; omega)) hT
    have hLa1 : q_La l cw cv M1 := q_La_f (fun a j z => i4 a j (by unfold q_F4 at z; omega) (by unfold q_F4 at z; omega) (by unfold q_F4 at z; omega)) hLa
    have hC1 : q_cn n t L M1 := q_cn_f (fun a j z => i4 a j (by omega) (by omega) (by omega)) hC
    have hbs : q_bs (q_dn X) t < 2147483648 := q_bs_31 (by omega)
    have hbt : (q_bs (q_dn X) t).testBit k = q_dn X k := by
      rw [Bool.eq_iff_iff, q_bs_tb]
      exact ⟨fun h => h.2, fun h => ⟨hk, h⟩⟩
    have hX42 := (i2.2.1 k hk).2
    have est : ∀ f, 505 ≤ f → f_X10_span_53 (f + 1) s (y : Int) (w : Int) q r z (k : Int) a b c (i : Int) M = f_X10_span_53 f s (y : Int) (w : Int) q r z (k : Int) (if i = 0 then X 54 - L 54 else min a (X 54 - L 54)) (max b (X 54 - L 54)) (c + X (42 + k)) ((i + 1 : Nat) : Int) M1 := by
      intro f hf
      rw [f_X10_span_53, if_neg (by omega), i5 f (by omega), f_bs, y_el i2.2.2.2.1 hC1.2.2.2.1 hL3 i1.1 i1.2, rr_isDone i2.2.2.2.2 hbs (by omega), f_bs, f_bs, hbt, y_ei (by omega)]
      unfold q_dn
      by_cases hi0 : i = 0
      · rw [if_neg (by omega), if_pos hi0]
        rcases hX42 with h | h
        · rw [if_neg (show ¬ (decide (X (42 + k) = 1) = true) by rw [h]; decide), if_pos rfl, h, e_ws_ (by omega) (by omega)]
        · rw [if_pos (show (decide (X (42 + k) = 1) = true) by rw [h]; decide), if_neg (by decide), h, e_ws_ (by omega) (by omega)]
      · rw [if_pos (by omega), if_neg hi0]
        rcases hX42 with h | h
        · rw [if_neg (show ¬ (decide (X (42 + k) = 1) = true) by rw [h]; decide), if_pos rfl, h, e_ws_ (by omega) (by omega)]
        · rw [if_pos (show (decide (X (42 + k) = 1) = true) by rw [h]; decide), if_neg (by decide), h, e_ws_ (by omega) (by omega)]
    obtain ⟨v, M', k1, k2, k3⟩ := ih (i + 1) (if i = 0 then X 54 - L 54 else min a (X 54 - L 54)) (max b (X 54 - L 54)) (c + X (42 + k)) M1 (by omega) hT1 hLa1 hC1 (by split <;> omega) (by split <;> omega) (by omega) (by omega) (by omega) (by omega)
    refine ⟨v, M', fun a k x1 x2 x3 => by rw [k1 a k x1 x2 x3, i4 a k x1 x2 x3], fun f hf => ?_, fun N a' ea hTN hLN hrN => ?_⟩
    · obtain ⟨f', rfl⟩ : ∃ f', f = f' + 1 := ⟨f - 1, by omega⟩
      rw [est f' (by omega)]
      exact k2 f' (by omega)
    · obtain ⟨N1, R', j1, j2, j3, j4, j5⟩ := i6 N hTN hLN hrN
      have hTN1 : q_T n m t wa sk wo ow fi N1 := q_T_f (fun a j z => j4 a j (by unfold q_F3 at z; omega) (by unfold q_F3 at z; omega) (by unfold q_F3 at z; omega) (by unfold q_F3 at z; omega)) hTN
      have hLN1 : q_La l cw cv N1 := q_La_f (fun a j z => j4 a j (by unfold q_F4 at z; omega) (by unfold q_F4 at z; omega) (by unfold q_F4 at z; omega) (by unfold q_F4 at z; omega)) hLN
      have hrN1 : q_ml N1 532 L := fun j hj => by rw [j4 532 j (by decide) (by decide) (by decide) (by omega)]; exact hrN j hj
      have e42 : N1 533 (42 + k) = X (42 + k) := by rw [j1 (42 + k) (by omega), ← (j2.2.1 k hk).2]
      obtain ⟨N2, l1, l2⟩ := k3 N1 (if i = 0 then X 54 - L 54 else min a (X 54 - L 54)) (by rw [if_neg (show ¬ i + 1 = 0 by omega)]) hTN1 hLN1 hrN1
      refine ⟨N2, fun a k x1 x2 x3 x4 => by rw [l1 a k x1 x2 x3 x4, j4 a k x1 x2 x3 x4], fun f hf => ?_⟩
      obtain ⟨f', rfl⟩ : ∃ f', f = f' + 1 := ⟨f - 1, by omega⟩
      refine Eq.trans ?_ (l2 f' (by omega))
      rw [f_X11_span_81, if_neg (by omega), j5 f' (by omega), f_bs, y_el ((j1 54 (by omega)).trans j2.2.2.1.symm) (hrN1 54 (by omega)) hL3 i1.1 i1.2, r_less, f_bs, r_more, f_bs, f_bs, e_ws_ (x := 42 + (k : Int)) (by omega) (by omega), if_pos (show 0 ≤ 42 + (k : Int) ∧ 42 + (k : Int) < 56 by omega), if_pos (show 0 ≤ 42 + (k : Int) ∧ 42 + (k : Int) < 56 by omega), q_t42, e42, y_ei (by omega), e_ws_ (x := c + X (42 + k)) (by omega) (by omega)]
      by_cases hi0 : i = 0
      · rw [if_pos hi0, if_neg (show ¬ j + 1 = 0 by omega)] at ea
        rw [if_neg (not_not_intro ea), if_pos hi0]
      · rw [if_neg hi0] at ea
        rw [if_pos (show ¬ a' = -1 by omega), if_neg hi0, ea]
end SP
theorem o_span {F : Nat} (hF : 1000 < F) (s y w q r z k' : Int) : q_o2 (f_X10_span F s y w q r z k') (f_X11_span F s y w q r z k') k_c1 := by
  intro M k
  have k' := k
  obtain ⟨n, m, t, wa, sk, wo, ow, fi, l, cw, cv, L, hB⟩ := k'
  have hT : q_T n m t wa sk wo ow fi M := hB.1
  have h6 := hT.1
  have hm := hT.2.1
  have ht12 := hT.2.2.1
  have hn := hT.2.2.2.2.2.2.1
  have hC : q_cn n t L M := hB.2.2.2.2.2.1.1
  have hLB : q_LB n t L := hB.2.2.2.2.2.1.2.2
  have hLa : q_La l cw cv M := hB.2.2.2.1
  have htt := hT.2.2.2.2.2.2.2.2.1
  by_cases hx : ¬ (1 ≤ y ∧ y ≤ 20)
  · refine q_ref1 (b := 0) (c := 1) k rfl (by decide) ?_ ?_
    · unfold f_X10_span
      rw [r_nw, if_neg hx, f_tr]
    · unfold f_X11_span
      rw [r_in, f_bs, if_neg hx, if_pos rfl, r_bada rfl (by decide), f_bs, if_neg (by decide)]
      rfl
  replace hx := Classical.not_not.mp hx
  by_cases hy : ¬ ((1 ≤ w ∧ w ≤ 96) ∧ (0 ≤ q ∧ q ≤ 16) ∧ 0 ≤ r ∧ r ≤ 16)
  · refine q_ref1 (b := 0) (c := 1) k rfl (by decide) ?_ ?_
    · unfold f_X10_span
      rw [r_nw, if_pos hx, f_tl, y_ny, if_neg hy, f_tr]
    · unfold f_X11_span
      rw [r_in, f_bs, if_pos hx, if_neg (by decide), y_iy, f_bs, if_neg hy, if_pos rfl, r_bada rfl (by decide), f_bs, if_neg (by decide)]
      rfl
  replace hy := Classical.not_not.mp hy
  by_cases hz : ¬ (0 ≤ z ∧ z ≤ 2)
  · refine q_ref1 (b := 0) (c := 1) k rfl (by decide) ?_ ?_
    · unfold f_X10_span
      rw [r_nw, if_pos hx, f_tl, y_ny, if_pos hy, f_tl, r_nw, if_neg hz, f_tr]
    · unfold f_X11_span
      rw [r_in, f_bs, if_pos hx, if_neg (by decide), y_iy, f_bs, if_pos hy, if_neg (by decide), r_in, f_bs, if_neg hz, if_pos rfl, r_bada rfl (by decide), f_bs, if_neg (by decide)]
      rfl
  replace hz := Classical.not_not.mp hz
  by_cases hk : ¬ (0 ≤ k' ∧ k' ≤ (t : Int) - 1)
  · refine q_ref1 (b := 0) (c := 1) k rfl (by decide) ?_ ?_
    · unfold f_X10_span
      rw [r_nw, if_pos hx, f_tl, y_ny, if_pos hy, f_tl, r_nw, if_pos hz, f_tl, hT.2.2.2.2.2.1, e_ws_ (x := (t : Int) - 1) (by omega) (by omega), r_nw, if_neg hk, f_tr]
    · unfold f_X11_span
      rw [r_in, f_bs, if_pos hx, if_neg (by decide), y_iy, f_bs, if_pos hy, if_neg (by decide), r_in, f_bs, if_pos hz, if_neg (by decide), u_r (show (68 : Nat) ≠ 64 by decide), u_r (show (68 : Nat) ≠ 1 by decide), htt, e_ws_ (x := (t : Int) - 1) (by omega) (by omega), r_in, f_bs, if_neg hk, if_neg (by decide), r_bada rfl (by decide), f_bs, if_neg (by decide)]
      rfl
  replace hk := Classical.not_not.mp hk
  obtain ⟨w', hw', rfl⟩ := q_nat (n := 97) (p := w) (by omega)
  obtain ⟨y', hy', rfl⟩ := q_nat (n := 21) (p := y) (by omega)
  obtain ⟨k2, hk2, rfl⟩ := q_nat (n := t) (p := k') (by omega)
  obtain ⟨v, M1, i4, i5, i6⟩ := y_span (s := s) (q := q) (r := r) (z := z) (w := w') (y := y') (k := k2) (by omega) (by omega) hk2 hLB y' 0 0 0 0 M (by omega) hT hLa hC (by omega) (by omega) (by omega) (by omega) (by omega) (by omega)
  have f1 : ∀ a j, ¬ q_sca a → M1 a j = M a j := fun a j ha => i4 a j (by unfold q_sca at ha; omega) (by unfold q_sca at ha; omega) (by unfold q_sca at ha; omega)
  have hB2 := q_B_f (q_fr_b (v := v) f1) hB
  obtain ⟨N, j4, j5⟩ := i6 (e_up (e_up M1 557 0 v) 64 0 0) (-1) (by rw [if_pos rfl, if_neg (by omega)]) hB2.1 hB2.2.2.2.1 hB2.2.2.2.2.2.1.2.1
  refine q_ok (M1 := M1) (M2 := N) (v := v) k ?_ f1 ?_ (fun a j h1 h2 h3 _ _ h6 => j4 a j h1 h2 h3 (fun h => (h6 h).2))
  · unfold f_X10_span
    rw [r_nw, if_pos hx, f_tl, y_ny, if_pos hy, f_tl, r_nw, if_pos hz, f_tl, hT.2.2.2.2.2.1, e_ws_ (x := (t : Int) - 1) (by omega) (by omega), r_nw, if_pos hk, f_tl]
    exact i5 F (by omega)
  · unfold f_X11_span
    rw [r_in, f_bs, if_pos hx, if_neg (by decide), y_iy, f_bs, if_pos hy, if_neg (by decide), r_in, f_bs, if_pos hz, if_neg (by decide), hB2.1.2.2.2.2.2.2.2.2.1, e_ws_ (x := (t : Int) - 1) (by omega) (by omega), r_in, f_bs, if_pos hk, if_pos (by decide), r_bad0 rfl, f_bs, if_pos rfl]
    exact j5 F (by omega)
