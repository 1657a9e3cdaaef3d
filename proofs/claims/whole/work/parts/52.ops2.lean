/-! OPERATIONS, 2 -/
theorem o_person (p w : Int) : q_o2 (f_X10_person p w) (f_X11_person p w) k_c2 := by
  intro M k
  have k' := k
  obtain ⟨n, m, t, wa, sk, wo, ow, fi, l, cw, cv, L, hB⟩ := k'
  have hT : q_T n m t wa sk wo ow fi M := hB.1
  have h6 := hT.1
  have hm := hT.2.1
  have ht12 := hT.2.2.1
  have hn := hT.2.2.2.2.2.2.1
  have hC : q_cn n t L M := hB.2.2.2.2.2.1.1
  have hLB : q_LB n t L := hB.2.2.2.2.2.1.2.2
  by_cases hp : 0 ≤ p ∧ p < (n : Int)
  · by_cases hw : 0 ≤ w ∧ w ≤ 6
    · obtain ⟨q, hq, rfl⟩ := q_nat hp
      have key : ∃ v, f_X10_person (q : Int) w M = some (.inl v, M) ∧ ∀ M', q_B n m t wa sk wo ow fi l cw cv L M' → M' 64 0 = 0 → f_X11_person_43 (q : Int) w 0 M' = some (v, M') := by
        have hCq := hC.1 q hq
        have hTq := hT.2.2.2.2.2.2.2.2.2.1 q hq
        have ec : f_X10_person (q : Int) w M = (if w = 0 then some (.inl (L q), M) else if w = 1 then some (.inl (wa q), M) else if w = 2 then some (.inl (L (6 + q)), M) else if w = 3 then some (.inl (L (12 + q)), M) else if w = 4 then some (.inl ((sk q : Nat) : Int), M) else if w = 5 then some (.inl (L (18 + q)), M) else some (.inl (L (24 + q)), M)) := by
          unfold f_X10_person
          rw [r_np hT.2.2.2.1, if_pos hp, f_tl, r_nw, if_pos hw, f_tl, if_pos (show 0 ≤ (q : Int) ∧ (q : Int) < 6 by omega), if_pos (show 0 ≤ (q : Int) ∧ (q : Int) < 6 by omega), if_pos (show 0 ≤ (q : Int) ∧ (q : Int) < 6 by omega), if_pos (show 0 ≤ (q : Int) ∧ (q : Int) < 6 by omega), if_pos (show 0 ≤ (q : Int) ∧ (q : Int) < 6 by omega), if_pos (show 0 ≤ (q : Int) ∧ (q : Int) < 6 by omega), if_pos (show 0 ≤ (q : Int) ∧ (q : Int) < 6 by omega), Int.toNat_natCast, hCq.1, hCq.2.1, hCq.2.2.1, hCq.2.2.2.1, hCq.2.2.2.2, hTq.1, hTq.2.2.2.2.1]
        have em : ∀ M', q_B n m t wa sk wo ow fi l cw cv L M' → M' 64 0 = 0 → f_X11_person_43 (q : Int) w 0 M' = (if w = 0 then some (L q, M') else if w = 1 then some (wa q, M') else if w = 2 then some (L (6 + q), M') else if w = 3 then some (L (12 + q), M') else if w = 4 then some (((sk q : Nat) : Int), M') else if w = 5 then some (L (18 + q), M') else some (L (24 + q), M')) := by
          intro M' hB' h0
          have hR : q_ml M' 532 L := hB'.2.2.2.2.2.1.2.1
          have hTq' := hB'.1.2.2.2.2.2.2.2.2.2.1 q hq
          unfold f_X11_person_43
          rw [r_bad0 h0, f_bs, if_pos rfl, q_w0 q (by omega), if_pos (show 0 ≤ (q : Int) ∧ (q : Int) < 56 by omega), if_pos (show 0 ≤ (q : Int) ∧ (q : Int) < 6 by omega), e_ws_ (x := 6 + (q : Int)) (by omega) (by omega), if_pos (show 0 ≤ 6 + (q : Int) ∧ 6 + (q : Int) < 56 by omega), e_ws_ (x := 12 + (q : Int)) (by omega) (by omega), if_pos (show 0 ≤ 12 + (q : Int) ∧ 12 + (q : Int) < 56 by omega), if_pos (show 0 ≤ (q : Int) ∧ (q : Int) < 6 by omega), e_ws_ (x := 18 + (q : Int)) (by omega) (by omega), if_pos (show 0 ≤ 18 + (q : Int) ∧ 18 + (q : Int) < 56 by omega), e_ws_ (x := 24 + (q : Int)) (by omega) (by omega), if_pos (show 0 ≤ 24 + (q : Int) ∧ 24 + (q : Int) < 56 by omega), Int.toNat_natCast, q_t6, q_t12, q_t18, q_t24, hR q (by omega), hR (6 + q) (by omega), hR (12 + q) (by omega), hR (18 + q) (by omega), hR (24 + q) (by omega), hTq'.2.1, hTq'.2.2.2.2.2.1]
        have hc : w = 0 ∨ w = 1 ∨ w = 2 ∨ w = 3 ∨ w = 4 ∨ w = 5 ∨ w = 6 := by omega
        rcases hc with rfl | rfl | rfl | rfl | rfl | rfl | rfl <;> exact ⟨_, ec, fun M' hB' h0 => (em M' hB' h0)⟩
      obtain ⟨v, k1, k2⟩ := key
      have hfr := q_fr_b (M := M) (M1 := M) (v := v) (fun _ _ _ => rfl)
      refine q_ok (M1 := M) (M2 := e_up (e_up M 557 0 v) 64 0 0) (v := v) k k1 (fun _ _ _ => rfl) ?_ q_mf.rf
      unfold f_X11_person f_X11_person_19
      rw [r_isP (n := n) (by exact hn) h6, f_bs, if_pos hp, if_pos (by decide), r_bad0 rfl, f_bs, if_neg (by decide), r_in, f_bs, if_pos hw, if_pos (by decide)]
      exact k2 _ (q_B_f hfr hB) rfl
    · refine q_ref1 (b := 0) (c := 2) k rfl (by decide) ?_ ?_
      · unfold f_X10_person
        rw [r_np hT.2.2.2.1, if_pos hp, f_tl, r_nw, if_neg hw, f_tr]
      · unfold f_X11_person f_X11_person_19 f_X11_person_43
        rw [r_isP (n := n) (by exact hn) h6, f_bs, if_pos hp, if_pos (by decide), r_bad0 rfl, f_bs, if_neg (by decide), r_in, f_bs, if_neg hw, if_neg (by decide), r_bada rfl (by decide), f_bs, if_neg (by decide)]
        rfl
  · refine q_ref0 (b := 0) (c := 1) k rfl (by decide) ?_ ?_
    · unfold f_X10_person
      rw [r_np hT.2.2.2.1, if_neg hp, f_tr]
    · unfold f_X11_person f_X11_person_19
      rw [r_isP (n := n) (by exact hn) h6, f_bs, if_neg hp, if_neg (by decide), r_badm rfl (by decide), f_bs, if_pos (by decide)]
      rfl
theorem o_duty {F : Nat} (hF : 300 < F) (p w : Int) : q_o2 (f_X10_duty F p w) (f_X11_duty F p w) k_c2 := by
  intro M k
  have k' := k
  obtain ⟨n, m, t, wa, sk, wo, ow, fi, l, cw, cv, L, hB⟩ := k'
  have hT : q_T n m t wa sk wo ow fi M := hB.1
  have h6 := hT.1
  have hm := hT.2.1
  have ht12 := hT.2.2.1
  have hn := hT.2.2.2.2.2.2.1
  have hC : q_cn n t L M := hB.2.2.2.2.2.1.1
  have hLB : q_LB n t L := hB.2.2.2.2.2.1.2.2
  have hmm := hT.2.2.2.2.2.2.2.1
  by_cases hp : 0 ≤ p ∧ p < (m : Int)
  · have hp' : 0 ≤ p ∧ p ≤ (m : Int) - 1 := by omega
    by_cases hw : 0 ≤ w ∧ w ≤ 1
    · obtain ⟨q, hq, rfl⟩ := q_nat hp
      have hs : ∀ q, q < n → M 7 q = (sk q : Int) ∧ sk q < 2 ^ 31 := fun q hq => ⟨(hT.2.2.2.2.2.2.2.2.2.1 q hq).2.2.2.2.1, by have := q_sk6 hT hq; omega⟩
      have key : f_X10_duty F (q : Int) w M = some (.inl (if w = 0 then wo q else (q_bs (fun p => (sk p).testBit q) n : Int)), M) := by
        unfold f_X10_duty
        rw [r_nd hT.2.2.2.2.1, if_pos hp, f_tl, r_nw, if_pos hw, f_tl, r_able hT.2.2.2.1 h6 (by omega) hs (by omega), f_bs, if_pos (show 0 ≤ (q : Int) ∧ (q : Int) < 6 by omega), Int.toNat_natCast, (hT.2.2.2.2.2.2.2.2.2.2.1 q hq).1]
        by_cases h0 : w = 0
        · rw [if_neg (not_not_intro h0), if_pos h0]
        · rw [if_pos h0, if_neg h0]
      have hfr := q_fr_b (M := M) (M1 := M) (v := if w = 0 then wo q else (q_bs (fun p => (sk p).testBit q) n : Int)) (fun _ _ _ => rfl)
      have hB2 := q_B_f hfr hB
      refine q_ok (M1 := M) k key (fun _ _ _ => rfl) ?_ q_mf.rf
      unfold f_X11_duty f_X11_duty_27
      rw [r_in, f_bs, u_r (show (68 : Nat) ≠ 64 by decide), u_r (show (68 : Nat) ≠ 557 by decide), hmm, e_ws_ (x := (m : Int) - 1) (by omega) (by omega), if_pos hp', if_pos (by decide), r_bad0 rfl, f_bs, if_neg (by decide), r_in, f_bs, if_pos hw, if_pos (by decide), r_bad0 rfl, f_bs, if_pos rfl]
      generalize hM' : e_up (e_up M 557 0 (if w = 0 then wo q else (q_bs (fun p => (sk p).testBit q) n : Int))) 64 0 0 = M' at hB2 ⊢
      refine q_sq (fun f s i => f_X11_duty_65 f (q : Int) w s i M') (fun i => (q_bs (fun p => (sk p).testBit q) i : Int)) n _ (fun f i hi => ?_) (fun f => ?_) F (by omega)
      · have hsi := (hB2.1.2.2.2.2.2.2.2.2.2.1 i hi).2.2.2.2.2.1
        rw [f_X11_duty_65, if_neg (by rw [hB2.1.2.2.2.2.2.2.1]; omega), if_pos (by omega), Int.toNat_natCast, hsi, r_has (by have := q_sk6 hT hi; omega) (by omega), f_bs, e_ws_ (x := (i : Int) + 1) (by omega) (by omega)]
        by_cases c : (sk i).testBit q = true
        · rw [if_pos c, if_neg (by decide), q_bs_t (c := fun p => (sk p).testBit q) c (by omega)]
        · rw [if_neg c, if_pos rfl, q_or0 (q_bs_31 (by omega)), q_bs_f (by simpa using c)]
      · rw [f_X11_duty_65, if_pos (by rw [hB2.1.2.2.2.2.2.2.1]; omega), if_pos (show 0 ≤ (q : Int) ∧ (q : Int) < 6 by omega), Int.toNat_natCast, (hB2.1.2.2.2.2.2.2.2.2.2.2.1 q hq).2.1]
        by_cases h0 : w = 0
        · rw [if_neg (not_not_intro h0), if_pos h0]
        · rw [if_pos h0, if_neg h0]
    · refine q_ref1 (b := 0) (c := 2) k rfl (by decide) ?_ ?_
      · unfold f_X10_duty
        rw [r_nd hT.2.2.2.2.1, if_pos hp, f_tl, r_nw, if_neg hw, f_tr]
      · unfold f_X11_duty f_X11_duty_27
        rw [r_in, f_bs, u_r (show (68 : Nat) ≠ 64 by decide), u_r (show (68 : Nat) ≠ 1 by decide), hmm, e_ws_ (x := (m : Int) - 1) (by omega) (by omega), if_pos hp', if_pos (by decide), r_bad0 rfl, f_bs, if_neg (by decide), r_in, f_bs, if_neg hw, if_neg (by decide), r_bada rfl (by decide), f_bs, if_neg (by decide)]
        rfl
  · have hp' : ¬ (0 ≤ p ∧ p ≤ (m : Int) - 1) := by omega
    refine q_ref0 (b := 0) (c := 1) k rfl (by decide) ?_ ?_
    · unfold f_X10_duty
      rw [r_nd hT.2.2.2.2.1, if_neg hp, f_tr]
    · unfold f_X11_duty f_X11_duty_27
      rw [r_in, f_bs, u_r (show (68 : Nat) ≠ 64 by decide), u_r (show (68 : Nat) ≠ 1 by decide), hmm, e_ws_ (x := (m : Int) - 1) (by omega) (by omega), if_neg hp', if_neg (by decide), r_badm rfl (by decide), f_bs, if_pos (by decide)]
      rfl
theorem o_task (p w : Int) : q_o2 (f_X10_task p w) (f_X11_task p w) k_c2 := by
  intro M k
  have k' := k
  obtain ⟨n, m, t, wa, sk, wo, ow, fi, l, cw, cv, L, hB⟩ := k'
  have hT : q_T n m t wa sk wo ow fi M := hB.1
  have h6 := hT.1
  have hm := hT.2.1
  have ht12 := hT.2.2.1
  have hn := hT.2.2.2.2.2.2.1
  have hC : q_cn n t L M := hB.2.2.2.2.2.1.1
  have hLB : q_LB n t L := hB.2.2.2.2.2.1.2.2
  have hmm := hT.2.2.2.2.2.2.2.2.1
  by_cases hp : 0 ≤ p ∧ p < (t : Int)
  · have hp' : 0 ≤ p ∧ p ≤ (t : Int) - 1 := by omega
    by_cases hw : 0 ≤ w ∧ w ≤ 3
    · obtain ⟨q, hq, rfl⟩ := q_nat hp
      have hTq := hT.2.2.2.2.2.2.2.2.2.2.2 q hq
      have hCq := hC.2.1 q hq
      have key : f_X10_task (q : Int) w M = some (.inl (if w = 0 then ((ow q : Nat) : Int) else if w = 1 then L (30 + q) else if w = 2 then fi q else L (42 + q)), M) := by
        unfold f_X10_task
        rw [r_nt hT.2.2.2.2.2.1, if_pos hp, f_tl, r_nw, if_pos hw, f_tl, if_pos (show 0 ≤ (q : Int) ∧ (q : Int) < 12 by omega), if_pos (show 0 ≤ (q : Int) ∧ (q : Int) < 12 by omega), if_pos (show 0 ≤ (q : Int) ∧ (q : Int) < 12 by omega), Int.toNat_natCast, hTq.1, hTq.2.2.2.1, hCq.1, rn_isDone (D := q_bs (q_dn L) t) hC.2.2.2.2 (q_dn_lt ht12) (by omega), f_bs, q_bs_tbc hq]
        by_cases h0 : w = 0
        · rw [if_pos h0, if_pos h0]
        rw [if_neg h0, if_neg h0]
        by_cases h1 : w = 1
        · rw [if_pos h1, if_pos h1]
        rw [if_neg h1, if_neg h1]
        by_cases h2 : w = 2
        · rw [if_pos h2, if_pos h2]
        rw [if_neg h2, if_neg h2]
        unfold q_dn
        rcases hCq.2 with h | h <;> rw [h] <;> rfl
      have hfr := q_fr_b (M := M) (M1 := M) (v := if w = 0 then ((ow q : Nat) : Int) else if w = 1 then L (30 + q) else if w = 2 then fi q else L (42 + q)) (fun _ _ _ => rfl)
      have hB2 := q_B_f hfr hB
      have hR : q_ml _ 532 L := hB2.2.2.2.2.2.1.2.1
      have hTq' := hB2.1.2.2.2.2.2.2.2.2.2.2.2 q hq
      refine q_ok (M1 := M) k key (fun _ _ _ => rfl) ?_ q_mf.rf
      unfold f_X11_task f_X11_task_27 f_X11_task_50
      rw [r_in, f_bs, u_r (show (68 : Nat) ≠ 64 by decide), u_r (show (68 : Nat) ≠ 557 by decide), hmm, e_ws_ (x := (t : Int) - 1) (by omega) (by omega), if_pos hp', if_pos (by decide), r_bad0 rfl, f_bs, if_neg (by decide), r_in, f_bs, if_pos hw, if_pos (by decide), r_bad0 rfl, f_bs, if_pos rfl, if_pos (show 0 ≤ (q : Int) ∧ (q : Int) < 12 by omega), e_ws_ (x := 42 + (q : Int)) (by omega) (by omega), if_pos (show 0 ≤ 42 + (q : Int) ∧ 42 + (q : Int) < 56 by omega), e_ws_ (x := 30 + (q : Int)) (by omega) (by omega), if_pos (show 0 ≤ 30 + (q : Int) ∧ 30 + (q : Int) < 56 by omega), Int.toNat_natCast, q_t42, q_t30, hR (42 + q) (by omega), hR (30 + q) (by omega)]
      have hc : w = 0 ∨ w = 1 ∨ w = 2 ∨ w = 3 := by omega
      rcases hc with rfl | rfl | rfl | rfl
      · rw [if_pos (by decide), if_pos (by decide), if_pos (by decide), show ((0 : Int)).toNat = 0 from rfl, hTq'.2.1, if_pos rfl]
      · rw [if_neg (by decide), if_neg (by decide), if_pos rfl]
      · rw [if_pos (by decide), if_pos (by decide), if_pos (by decide), show ((2 : Int)).toNat = 2 from rfl, hTq'.2.2.2.2.1, if_neg (by decide), if_neg (by decide), if_pos rfl]
      · rw [if_pos (by decide), if_neg (by decide), if_neg (by decide), if_neg (by decide), if_neg (by decide)]
    · refine q_ref1 (b := 0) (c := 2) k rfl (by decide) ?_ ?_
      · unfold f_X10_task
        rw [r_nt hT.2.2.2.2.2.1, if_pos hp, f_tl, r_nw, if_neg hw, f_tr]
      · unfold f_X11_task f_X11_task_27 f_X11_task_50
        rw [r_in, f_bs, u_r (show (68 : Nat) ≠ 64 by decide), u_r (show (68 : Nat) ≠ 1 by decide), hmm, e_ws_ (x := (t : Int) - 1) (by omega) (by omega), if_pos hp', if_pos (by decide), r_bad0 rfl, f_bs, if_neg (by decide), r_in, f_bs, if_neg hw, if_neg (by decide), r_bada rfl (by decide), f_bs, if_neg (by decide)]
        rfl
  · have hp' : ¬ (0 ≤ p ∧ p ≤ (t : Int) - 1) := by omega
    refine q_ref0 (b := 0) (c := 1) k rfl (by decide) ?_ ?_
    · unfold f_X10_task
      rw [r_nt hT.2.2.2.2.2.1, if_neg hp, f_tr]
    · unfold f_X11_task f_X11_task_27
      rw [r_in, f_bs, u_r (show (68 : Nat) ≠ 64 by decide), u_r (show (68 : Nat) ≠ 1 by decide), hmm, e_ws_ (x := (t : Int) - 1) (by omega) (by omega), if_neg hp', if_neg (by decide), r_badm rfl (by decide), f_bs, if_pos (by decide)]
      rfl
theorem o_back (p : Int) : q_o2 (f_X10_back p) (f_X11_back p) k_c0 := by
  intro M k
  have k' := k
  obtain ⟨n, m, t, wa, sk, wo, ow, fi, l, cw, cv, L, hB⟩ := k'
  have hT : q_T n m t wa sk wo ow fi M := hB.1
  have h6 := hT.1
  have hm := hT.2.1
  have ht12 := hT.2.2.1
  have hn := hT.2.2.2.2.2.2.1
  have hC : q_cn n t L M := hB.2.2.2.2.2.1.1
  have hLB : q_LB n t L := hB.2.2.2.2.2.1.2.2
  by_cases hp : 0 ≤ p ∧ p < (n : Int)
  · obtain ⟨q, hq, rfl⟩ := q_nat hp
    have hCq := hC.1 q hq
    have key : f_X10_back (q : Int) M = some (.inl (if L (18 + q) = -1 then -1 else e_w (Int.tdiv (L (18 + q)) 2)), M) := by
      unfold f_X10_back
      rw [r_np hT.2.2.2.1, if_pos hp, f_tl, rn_hb (by omega), f_bs, if_pos (show 0 ≤ (q : Int) ∧ (q : Int) < 6 by omega), Int.toNat_natCast, hCq.2.2.2.1]
      by_cases c : L (18 + q) = -1
      · rw [if_pos c, if_pos rfl, if_pos c]
      · rw [if_neg c, if_neg (by decide), if_neg c]
    have hfr := q_fr_b (M := M) (M1 := M) (v := if L (18 + q) = -1 then -1 else e_w (Int.tdiv (L (18 + q)) 2)) (fun _ _ _ => rfl)
    have hB2 := q_B_f hfr hB
    have hR : q_ml _ 532 L := hB2.2.2.2.2.2.1.2.1
    refine q_ok (M1 := M) k key (fun _ _ _ => rfl) ?_ q_mf.rf
    unfold f_X11_back f_X11_back_19
    rw [r_isP (n := n) (by exact hn) h6, f_bs, if_pos hp, if_pos (by decide), r_bad0 rfl, f_bs, if_pos rfl, r_sold (by omega), f_bs, e_ws_ (x := 18 + (q : Int)) (by omega) (by omega), if_pos (show 0 ≤ 18 + (q : Int) ∧ 18 + (q : Int) < 56 by omega), q_t18, hR (18 + q) (by omega)]
    by_cases c : L (18 + q) = -1
    · rw [if_pos c, if_pos rfl, if_pos c]
    · rw [if_neg c, if_neg (by decide), if_neg c]
  · refine q_ref0 (b := 0) (c := 1) k rfl (by decide) ?_ ?_
    · unfold f_X10_back
      rw [r_np hT.2.2.2.1, if_neg hp, f_tr]
    · unfold f_X11_back f_X11_back_19
      rw [r_isP (n := n) (by exact hn) h6, f_bs, if_neg hp, if_neg (by decide), r_badm rfl (by decide), f_bs, if_neg (by decide)]
      rfl
theorem o_left {F : Nat} (hF : 300 < F) : q_o1 (f_X10_left F) (f_X11_left F) := by
  intro M k
  have k' := k
  obtain ⟨n, m, t, wa, sk, wo, ow, fi, l, cw, cv, L, hB⟩ := k'
  have hT : q_T n m t wa sk wo ow fi M := hB.1
  have h6 := hT.1
  have hm := hT.2.1
  have ht12 := hT.2.2.1
  have hn := hT.2.2.2.2.2.2.1
  have hC : q_cn n t L M := hB.2.2.2.2.2.1.1
  have hLB : q_LB n t L := hB.2.2.2.2.2.1.2.2
  have hs : ∀ q, q < n → M 7 q = (sk q : Int) ∧ sk q < 2 ^ 6 := fun q hq => ⟨(hT.2.2.2.2.2.2.2.2.2.1 q hq).2.2.2.2.1, q_sk6 hT hq⟩
  have hBl : q_bs (fun p => decide (M 40 p = -1)) n < 2147483648 := Nat.lt_of_lt_of_le q_bs_lt (Nat.le_trans (Nat.pow_le_pow_right (by omega) h6) (by decide))
  have eL : q_or (fun q => (q_bs (fun p => decide (M 40 p = -1)) n).testBit q) sk n = q_or (fun q => decide (L (18 + q) = -1)) sk n := q_or_congr (fun i hi => ⟨by rw [q_bs_tbc hi, (hC.1 i hi).2.2.2.1], fun _ => rfl⟩)
  have hB2 := q_B_f (q_fr_b1 (M := M) (M1 := M) (fun _ _ _ => rfl)) hB
  refine q_ok1 (M1 := M) (v := ((q_an (2 ^ m - 1) (q_or (fun q => decide (L (18 + q) = -1)) sk n) : Nat) : Int)) k ?_ (fun _ _ _ => rfl) ?_ q_mf.rf
  · unfold f_X10_left
    rw [rn_sb hT.2.2.2.1 h6 (by omega), f_bs, rn_lb hT.2.2.2.1 h6 hT.2.2.2.2.1 hm hBl hs (by omega), f_bs, eL]
  · unfold f_X11_left
    have eL2 : q_or (fun q => decide ((e_up M 64 0 0) 532 (18 + q) = -1)) sk n = q_or (fun q => decide (L (18 + q) = -1)) sk n := q_or_congr (fun i hi => ⟨by rw [hB2.2.2.2.2.2.1.2.1 (18 + i) (by omega)], fun _ => rfl⟩)
    rw [r_left hB2.1.2.2.2.2.2.2.1 h6 hB2.1.2.2.2.2.2.2.2.1 hm (fun q hq => ⟨(hB2.1.2.2.2.2.2.2.2.2.2.1 q hq).2.2.2.2.2.1, (hB2.1.2.2.2.2.2.2.2.2.2.1 q hq).2.2.2.2.2.2⟩) (by omega), f_bs, eL2]
