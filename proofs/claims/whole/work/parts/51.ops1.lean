/-! OPERATIONS, 1 -/
def q_mx (c : Nat → Int) : Nat → Int
  | 0 => 0
  | n + 1 => max (q_mx c n) (c n)
theorem q_mx_le {c : Nat → Int} {i : Nat} : ∀ {n : Nat}, i < n → c i ≤ q_mx c n
  | n + 1, h => by
    show c i ≤ max (q_mx c n) (c n)
    by_cases e : i = n
    · subst e; omega
    · have := q_mx_le (c := c) (i := i) (n := n) (by omega)
      omega
theorem q_mx_ub {c : Nat → Int} {b : Int} (hb : 0 ≤ b) : ∀ {n : Nat}, (∀ i, i < n → c i ≤ b) → 0 ≤ q_mx c n ∧ q_mx c n ≤ b
  | 0, _ => ⟨Int.le_refl _, hb⟩
  | n + 1, h => by
    have h1 := q_mx_ub hb (n := n) (fun i hi => h i (by omega))
    have h2 := h n (by omega)
    show 0 ≤ max (q_mx c n) (c n) ∧ max (q_mx c n) (c n) ≤ b
    omega
theorem rn_dut {M : e_M} {x N f : Nat} {b : Int} (h0 : M 4 0 = (N : Int)) (h6 : N ≤ 6) (hx : x < 2147483648) (hf : 6 < f) : f_X3_daysUpTo_now f b (x : Int) M = some (q_sm (fun q => if x.testBit q then min b (M 38 q) else 0) N, M) := by
  refine q_sq (fun f s i => f_X3_daysUpTo_now_5 f b (x : Int) s i M) (q_sm (fun q => if x.testBit q then min b (M 38 q) else 0)) N _ (fun f i hi => ?_) (fun f => ?_) f (by omega)
  · rw [f_X3_daysUpTo_now_5, if_neg (by omega), q_tb hx (by omega), e_ws_ (x := (i : Int) + 1) (by omega) (by omega)]
    by_cases hc : x.testBit i = true
    · rw [if_pos hc, if_neg (by decide), if_pos (by omega), Int.toNat_natCast, q_sm_1, if_pos hc]
    · rw [if_neg hc, if_pos rfl, q_sm_0 (by rw [if_neg hc])]
  · rw [f_X3_daysUpTo_now_5, if_pos (by omega)]
theorem rn_most {M : e_M} {N f : Nat} (h0 : M 4 0 = (N : Int)) (h6 : N ≤ 6) (hf : 6 < f) : f_X3_mostDays_now f M = some (q_mx (M 38) N, M) := by
  refine q_sq (fun f s i => f_X3_mostDays_now_4 f s i M) (q_mx (M 38)) N _ (fun f i hi => ?_) (fun f => ?_) f (by omega)
  · rw [f_X3_mostDays_now_4, if_neg (by omega), if_pos (by omega), Int.toNat_natCast, e_ws_ (x := (i : Int) + 1) (by omega) (by omega)]
    rfl
  · rw [f_X3_mostDays_now_4, if_pos (by omega)]
theorem rn_days {M : e_M} {N f : Nat} (h0 : M 4 0 = (N : Int)) (h6 : N ≤ 6) (hf : 6 < f) : f_X3_daysOfAll_now f M = some (q_sm (M 38) N, M) := by
  unfold f_X3_daysOfAll_now f_X10_bitsBelow
  have hp : (2 : Nat) ^ N ≤ 2 ^ 6 := Nat.pow_le_pow_right (by omega) h6
  have e1 : q_sm (fun q => if (2 ^ N - 1).testBit q then min (q_mx (M 38) N) (M 38 q) else 0) N = q_sm (M 38) N := q_sm_congr (fun i hi => by
    rw [Nat.testBit_two_pow_sub_one, if_pos (by simpa using hi), Int.min_eq_right (q_mx_le hi)])
  rw [rn_most h0 h6 hf, f_bs, f_bs, h0, q_bb (by omega), rn_dut h0 h6 (by omega) hf, f_bs, e1]
theorem rr_dut {M : e_M} {x N f : Nat} {b : Int} (h0 : M 4 0 = (N : Int)) (h6 : N ≤ 6) (hx : x < 2147483648) (hf : 6 < f) : f_X3_daysUpTo_trial f b (x : Int) M = some (q_sm (fun q => if x.testBit q then min b (M 45 q) else 0) N, M) := by
  refine q_sq (fun f s i => f_X3_daysUpTo_trial_5 f b (x : Int) s i M) (q_sm (fun q => if x.testBit q then min b (M 45 q) else 0)) N _ (fun f i hi => ?_) (fun f => ?_) f (by omega)
  · rw [f_X3_daysUpTo_trial_5, if_neg (by omega), q_tb hx (by omega), e_ws_ (x := (i : Int) + 1) (by omega) (by omega)]
    by_cases hc : x.testBit i = true
    · rw [if_pos hc, if_neg (by decide), if_pos (by omega), Int.toNat_natCast, q_sm_1, if_pos hc]
    · rw [if_neg hc, if_pos rfl, q_sm_0 (by rw [if_neg hc])]
  · rw [f_X3_daysUpTo_trial_5, if_pos (by omega)]
theorem rr_most {M : e_M} {N f : Nat} (h0 : M 4 0 = (N : Int)) (h6 : N ≤ 6) (hf : 6 < f) : f_X3_mostDays_trial f M = some (q_mx (M 45) N, M) := by
  refine q_sq (fun f s i => f_X3_mostDays_trial_4 f s i M) (q_mx (M 45)) N _ (fun f i hi => ?_) (fun f => ?_) f (by omega)
  · rw [f_X3_mostDays_trial_4, if_neg (by omega), if_pos (by omega), Int.toNat_natCast, e_ws_ (x := (i : Int) + 1) (by omega) (by omega)]
    rfl
  · rw [f_X3_mostDays_trial_4, if_pos (by omega)]
theorem rr_days {M : e_M} {N f : Nat} (h0 : M 4 0 = (N : Int)) (h6 : N ≤ 6) (hf : 6 < f) : f_X3_daysOfAll_trial f M = some (q_sm (M 45) N, M) := by
  unfold f_X3_daysOfAll_trial f_X10_bitsBelow
  have hp : (2 : Nat) ^ N ≤ 2 ^ 6 := Nat.pow_le_pow_right (by omega) h6
  have e1 : q_sm (fun q => if (2 ^ N - 1).testBit q then min (q_mx (M 45) N) (M 45 q) else 0) N = q_sm (M 45) N := q_sm_congr (fun i hi => by
    rw [Nat.testBit_two_pow_sub_one, if_pos (by simpa using hi), Int.min_eq_right (q_mx_le hi)])
  rw [rr_most h0 h6 hf, f_bs, f_bs, h0, q_bb (by omega), rr_dut h0 h6 (by omega) hf, f_bs, e1]
section O1
theorem r_sum0 {M : e_M} {r N n : Nat} (h0 : M 68 0 = (N : Int)) (h6 : N ≤ 6) (hn : 6 < n) : f_X11_sumOf r n 0 M = some (q_sm (fun p => M r p) N, M) := by
  have := r_sumOf (a := 0) (r := r) h0 h6 (by omega) hn
  simpa using this
theorem r_sum6 {M : e_M} {r N n : Nat} (h0 : M 68 0 = (N : Int)) (h6 : N ≤ 6) (hn : 6 < n) : f_X11_sumOf r n 6 M = some (q_sm (fun p => M r (6 + p)) N, M) := r_sumOf (a := 6) (r := r) h0 h6 (by omega) hn
theorem r_sum24 {M : e_M} {r N n : Nat} (h0 : M 68 0 = (N : Int)) (h6 : N ≤ 6) (hn : 6 < n) : f_X11_sumOf r n 24 M = some (q_sm (fun p => M r (24 + p)) N, M) := r_sumOf (a := 24) (r := r) h0 h6 (by omega) hn
theorem q_shl0 {k : Nat} (h : k < 31) : e_shl 0 (k : Int) = 0 := by
  have := b_shl (a := 0) (k := k) (by omega) (by omega)
  simpa using this
theorem r_doneIn {M : e_M} {r t n : Nat} {L : Nat → Int} (h0 : M 68 2 = (t : Int)) (h6 : t ≤ 12) (hr : q_ml M r L) (hd : ∀ k, k < t → L (42 + k) = 0 ∨ L (42 + k) = 1) (hn : 12 < n) : f_X11_doneIn r n M = some ((q_bs (q_dn L) t : Int), M) := by
  refine q_sq (fun f s i => f_X11_doneIn_4 r f s i M) (fun i => (q_bs (q_dn L) i : Int)) t _ (fun f i hi => ?_) (fun f => ?_) n (by omega)
  · rw [f_X11_doneIn_4, if_neg (by omega), e_ws_ (x := 42 + (i : Int)) (by omega) (by omega), if_pos (by omega), q_t42, e_ws_ (x := (i : Int) + 1) (by omega) (by omega), hr (42 + i) (by omega)]
    rcases hd i hi with h | h
    · rw [h, q_shl0 (by omega), q_or0 (q_bs_31 (by omega)), q_bs_f (by unfold q_dn; rw [h]; rfl)]
    · rw [h, q_bs_t (c := q_dn L) (by unfold q_dn; rw [h]; rfl) (by omega)]
  · rw [f_X11_doneIn_4, if_pos (by omega)]
theorem o_told {F : Nat} (hF : 300 < F) (p : Int) : q_o2 (f_X10_told F p) (f_X11_told F p) k_c1 := by
  intro M k
  have k' := k
  obtain ⟨n, m, t, wa, sk, wo, ow, fi, l, cw, cv, L, hB⟩ := k'
  have hT : q_T n m t wa sk wo ow fi M := hB.1
  have h6 := hT.1
  have hm := hT.2.1
  have ht12 := hT.2.2.1
  have hn := hT.2.2.2.2.2.2.1
  have hC : q_cn n t L M := hB.2.2.2.2.2.1.1
  have hLB : q_LB n t L := hB.2.2.2.2.2.1.2.2
  by_cases hp : 0 ≤ p ∧ p ≤ 10
  · have key : ∃ v, f_X10_told F p M = some (.inl v, M) ∧ ∀ M', q_fr M M' → q_B n m t wa sk wo ow fi l cw cv L M' → f_X11_told_35 F p 0 0 M' = some (v, M') := by
      obtain ⟨f, rfl⟩ : ∃ f, F = (f + 1) + 6 := ⟨F - 7, by omega⟩
      have hloop : ∀ M', q_B n m t wa sk wo ow fi l cw cv L M' → ∃ g, 200 < g ∧ f_X11_told_35 ((f + 1) + 6) p 0 0 M' = f_X11_told_35 (g + 1) p (q_bs (fun p => !decide (L (18 + p) = -1)) n : Int) (n : Int) M' := by
        intro M' hB'
        have hR : q_ml M' 532 L := hB'.2.2.2.2.2.1.2.1
        have hn' := hB'.1.2.2.2.2.2.2.1
        refine ⟨f + 6 - n, by omega, ?_⟩
        have e := q_seq 0 1 n (fun f s i => f_X11_told_35 f p s i M') (fun i => (q_bs (fun p => !decide (L (18 + p) = -1)) i : Int)) (fun f i _ hi => by
          rw [f_X11_told_35, if_neg (by omega), r_sold (by omega), f_bs, e_ws_ (x := (i : Int) + 1) (by omega) (by omega), hR (18 + i) (by omega)]
          by_cases c : L (18 + i) = -1
          · rw [if_pos c, if_pos rfl, q_or0 (q_bs_31 (by omega)), q_bs_f (by simp [c])]
          · rw [if_neg c, if_neg (by decide), q_bs_t (c := fun p => !decide (L (18 + p) = -1)) (by simp [c]) (by omega)]) (f + 6 - n + 1) (by omega)
        rw [show f + 6 - n + 1 + n * 1 = f + 1 + 6 by omega] at e
        exact e
      have hx : ∀ v, (∀ M' g, q_fr M M' → q_B n m t wa sk wo ow fi l cw cv L M' → 200 < g → f_X11_told_35 (g + 1) p (q_bs (fun p => !decide (L (18 + p) = -1)) n : Int) (n : Int) M' = some (v, M')) → ∀ M', q_fr M M' → q_B n m t wa sk wo ow fi l cw cv L M' → f_X11_told_35 ((f + 1) + 6) p 0 0 M' = some (v, M') := by
        intro v h M' hfr hB'
        obtain ⟨g, h1, h2⟩ := hloop M' hB'
        rw [h2]
        exact h M' g hfr hB' h1
      have hcases : p = 0 ∨ p = 1 ∨ p = 2 ∨ p = 3 ∨ p = 4 ∨ p = 5 ∨ p = 6 ∨ p = 7 ∨ p = 8 ∨ p = 9 ∨ p = 10 := by omega
      have ec : f_X10_told (f + 1 + 6) p M = (if p = 0 then some (.inl (M 4 0), M) else if p = 1 then some (.inl (M 4 1), M) else if p = 2 then some (.inl (M 4 2), M) else if p = 3 then some (.inl (M 36 2), M) else if p = 4 then some (.inl (q_bs (fun p => !decide (L (18 + p) = -1)) n : Int), M) else if p = 5 then some (.inl (M 36 4), M) else if p = 6 then some (.inl (M 36 3), M) else if p = 7 then some (.inl (q_sm (fun p => L p) n), M) else if p = 8 then some (.inl (q_sm (fun p => L (6 + p)) n), M) else if p = 9 then some (.inl (M 28 0), M) else some (.inl (M 32 6), M)) := by
        unfold f_X10_told
        rw [r_nw, if_pos hp, f_tl, rn_bb hT.2.2.2.1 h6 (by omega), f_bs, rn_coins hT.2.2.2.1 h6 (by omega), f_bs, rn_days hT.2.2.2.1 h6 (by omega), f_bs, q_sm_congr (c := M 37) (d := fun p => L p) (fun i hi => (hC.1 i hi).1), q_sm_congr (c := M 38) (d := fun p => L (6 + p)) (fun i hi => (hC.1 i hi).2.1), q_bs_congr (c := fun p => !decide (M 40 p = -1)) (d := fun p => !decide (L (18 + p) = -1)) (fun i hi => by rw [(hC.1 i hi).2.2.2.1])]
      obtain ⟨lb, bb, b1, b2, b3, b4, b5⟩ := hB.2.2.2.2.1
      rw [ec]
      rcases hcases with rfl | rfl | rfl | rfl | rfl | rfl | rfl | rfl | rfl | rfl | rfl
      · exact ⟨_, rfl, hx _ (fun M' g hfr hB' hg => by rw [f_X11_told_35, if_pos (by rw [hB'.1.2.2.2.2.2.2.1]; omega), if_pos rfl, if_pos (by decide), hT.2.2.2.1, show M' 68 (0 : Int).toNat = (n : Int) from hB'.1.2.2.2.2.2.2.1])⟩
      · exact ⟨_, rfl, hx _ (fun M' g hfr hB' hg => by rw [f_X11_told_35, if_pos (by rw [hB'.1.2.2.2.2.2.2.1]; omega), if_neg (by decide), if_pos rfl, if_pos (by decide), hT.2.2.2.2.1, show M' 68 (1 : Int).toNat = (m : Int) from hB'.1.2.2.2.2.2.2.2.1])⟩
      · exact ⟨_, rfl, hx _ (fun M' g hfr hB' hg => by rw [f_X11_told_35, if_pos (by rw [hB'.1.2.2.2.2.2.2.1]; omega), if_neg (by decide), if_neg (by decide), if_pos rfl, if_pos (by decide), hT.2.2.2.2.2.1, show M' 68 (2 : Int).toNat = (t : Int) from hB'.1.2.2.2.2.2.2.2.2.1])⟩
      · exact ⟨_, rfl, hx _ (fun M' g hfr hB' hg => by rw [f_X11_told_35, if_pos (by rw [hB'.1.2.2.2.2.2.2.1]; omega), if_neg (by decide), if_neg (by decide), if_neg (by decide), if_pos rfl, hC.2.2.1, hB'.2.2.2.2.2.1.2.1 55 (by omega)])⟩
      · exact ⟨_, rfl, hx _ (fun M' g hfr hB' hg => by rw [f_X11_told_35, if_pos (by rw [hB'.1.2.2.2.2.2.2.1]; omega), if_neg (by decide), if_neg (by decide), if_neg (by decide), if_neg (by decide), if_pos rfl])⟩
      · exact ⟨_, rfl, hx _ (fun M' g hfr hB' hg => by rw [f_X11_told_35, if_pos (by rw [hB'.1.2.2.2.2.2.2.1]; omega), if_neg (by decide), if_neg (by decide), if_neg (by decide), if_neg (by decide), if_neg (by decide), if_pos rfl, r_doneIn hB'.1.2.2.2.2.2.2.2.2.1 ht12 hB'.2.2.2.2.2.1.2.1 (fun k hk => (hC.2.1 k hk).2) (by omega), f_bs, hC.2.2.2.2])⟩
      · exact ⟨_, rfl, hx _ (fun M' g hfr hB' hg => by rw [f_X11_told_35, if_pos (by rw [hB'.1.2.2.2.2.2.2.1]; omega), if_neg (by decide), if_neg (by decide), if_neg (by decide), if_neg (by decide), if_neg (by decide), if_neg (by decide), if_pos rfl, hC.2.2.2.1, hB'.2.2.2.2.2.1.2.1 54 (by omega)])⟩
      · exact ⟨_, rfl, hx _ (fun M' g hfr hB' hg => by rw [f_X11_told_35, if_pos (by rw [hB'.1.2.2.2.2.2.2.1]; omega), if_neg (by decide), if_neg (by decide), if_neg (by decide), if_neg (by decide), if_neg (by decide), if_neg (by decide), if_neg (by decide), if_pos rfl, r_sum0 hB'.1.2.2.2.2.2.2.1 h6 (by omega), f_bs, q_sm_congr (c := fun p => M' 532 p) (d := fun p => L p) (fun i hi => hB'.2.2.2.2.2.1.2.1 i (by omega))])⟩
      · exact ⟨_, rfl, hx _ (fun M' g hfr hB' hg => by rw [f_X11_told_35, if_pos (by rw [hB'.1.2.2.2.2.2.2.1]; omega), if_neg (by decide), if_neg (by decide), if_neg (by decide), if_neg (by decide), if_neg (by decide), if_neg (by decide), if_neg (by decide), if_neg (by decide), if_pos rfl, r_sum6 hB'.1.2.2.2.2.2.2.1 h6 (by omega), f_bs, q_sm_congr (c := fun p => M' 532 (6 + p)) (d := fun p => L (6 + p)) (fun i hi => hB'.2.2.2.2.2.1.2.1 (6 + i) (by omega))])⟩
      · exact ⟨_, rfl, hx _ (fun M' g hfr hB' hg => by rw [f_X11_told_35, if_pos (by rw [hB'.1.2.2.2.2.2.2.1]; omega), if_neg (by decide), if_neg (by decide), if_neg (by decide), if_neg (by decide), if_neg (by decide), if_neg (by decide), if_neg (by decide), if_neg (by decide), if_neg (by decide), if_pos rfl, hfr 64 35 (Or.inr (Or.inr (Or.inr (Or.inr (Or.inl (by unfold q_F5; omega)))))), b4, b3])⟩
      · exact ⟨_, rfl, hx _ (fun M' g hfr hB' hg => by rw [f_X11_told_35, if_pos (by rw [hB'.1.2.2.2.2.2.2.1]; omega), if_neg (by decide), if_neg (by decide), if_neg (by decide), if_neg (by decide), if_neg (by decide), if_neg (by decide), if_neg (by decide), if_neg (by decide), if_neg (by decide), if_neg (by decide), hfr 64 37 (Or.inl (by unfold q_F1; omega)), hB.2.1.2.2.2.2.2.2])⟩
    obtain ⟨v, k1, k2⟩ := key
    have hfr := q_fr_b (M := M) (M1 := M) (v := v) (fun _ _ _ => rfl)
    refine q_ok (M1 := M) (M2 := e_up (e_up M 557 0 v) 64 0 0) (v := v) k k1 (fun _ _ _ => rfl) ?_ q_mf.rf
    unfold f_X11_told
    rw [r_in, f_bs, if_pos hp, if_pos (by decide), r_bad0 rfl, f_bs, if_pos rfl]
    exact k2 _ hfr (q_B_f hfr hB)
  · refine q_ref1 (b := 0) (c := 1) k rfl (by decide) ?_ ?_
    · unfold f_X10_told
      rw [r_nw, if_neg hp, f_tr]
    · unfold f_X11_told
      rw [r_in, f_bs, if_neg hp, if_neg (by decide), r_bada rfl (by decide), f_bs, if_neg (by decide)]
      rfl
end O1
