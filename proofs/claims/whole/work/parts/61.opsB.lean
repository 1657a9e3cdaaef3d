/-! OPERATIONS, 11: apart, together -/
theorem o_apart {F : Nat} (hF : 300 < F) (p q z : Int) : q_o2 (f_X10_apart F p q z) (f_X11_apart F p q z) k_c2 := by
  intro M k
  have k' := k
  obtain ⟨n, m, t, wa, sk, wo, ow, fi, l, cw, cv, L, hB⟩ := k'
  have hT : q_T n m t wa sk wo ow fi M := hB.1
  have h6 := hT.1
  have hm := hT.2.1
  have ht12 := hT.2.2.1
  have hn := hT.2.2.2.2.2.2.1
  have hC : q_cn n t L M := hB.2.2.2.2.2.1.1
  have hLB : q_LB n t L := hB.2.2.2.2.2.1.2.2
  by_cases hp : ¬ (0 ≤ p ∧ p < (n : Int))
  · refine q_ref0 (b := 0) (c := 1) k rfl (by decide) ?_ ?_
    · unfold f_X10_apart f_X10_needTwo
      rw [r_np hT.2.2.2.1, if_neg hp, f_tr, f_tr]
    · unfold f_X11_apart f_X11_apart_27
      rw [r_isP (n := n) (by exact hn) h6, f_bs, if_neg hp, if_pos rfl, r_badm rfl (by decide), f_bs, if_pos (by decide)]
      rfl
  replace hp := Classical.not_not.mp hp
  by_cases hq : ¬ (0 ≤ q ∧ q < (n : Int))
  · refine q_ref0 (b := 0) (c := 1) k rfl (by decide) ?_ ?_
    · unfold f_X10_apart f_X10_needTwo
      rw [r_np hT.2.2.2.1, if_pos hp, f_tl, r_np hT.2.2.2.1, if_neg hq, f_tr, f_tr]
    · unfold f_X11_apart f_X11_apart_27
      rw [r_isP (n := n) (by exact hn) h6, f_bs, if_pos hp, if_neg (by decide), r_isP (n := n) (by exact hn) h6, f_bs, if_neg hq, if_neg (by decide), r_badm rfl (by decide), f_bs, if_pos (by decide)]
      rfl
  replace hq := Classical.not_not.mp hq
  by_cases hpq : p = q
  · refine q_ref1 (b := 0) (c := 2) k rfl (by decide) ?_ ?_
    · unfold f_X10_apart f_X10_needTwo f_X10_refuseArgument
      rw [r_np hT.2.2.2.1, if_pos hp, f_tl, r_np hT.2.2.2.1, if_pos hq, f_tl, if_neg (not_not_intro hpq), f_tr, f_tr]
    · unfold f_X11_apart f_X11_apart_27 f_X11_apart_56
      rw [r_isP (n := n) (by exact hn) h6, f_bs, if_pos hp, if_neg (by decide), r_isP (n := n) (by exact hn) h6, f_bs, if_pos hq, if_pos (by decide), r_bad0 rfl, f_bs, if_neg (by decide), if_pos hpq, r_bada rfl (by decide), f_bs, if_neg (by decide)]
      rfl
  by_cases hz : ¬ (0 ≤ z ∧ z ≤ 20)
  · refine q_ref1 (b := 0) (c := 2) k rfl (by decide) ?_ ?_
    · unfold f_X10_apart f_X10_needTwo
      rw [r_np hT.2.2.2.1, if_pos hp, f_tl, r_np hT.2.2.2.1, if_pos hq, f_tl, if_pos hpq, r_nw, if_neg hz, f_tr, f_tr]
    · unfold f_X11_apart f_X11_apart_27 f_X11_apart_56
      rw [r_isP (n := n) (by exact hn) h6, f_bs, if_pos hp, if_neg (by decide), r_isP (n := n) (by exact hn) h6, f_bs, if_pos hq, if_pos (by decide), r_bad0 rfl, f_bs, if_neg (by decide), if_neg hpq, r_in, f_bs, if_neg hz, if_neg (by decide), r_bada rfl (by decide), f_bs, if_neg (by decide)]
      rfl
  replace hz := Classical.not_not.mp hz
  obtain ⟨a, ha, rfl⟩ := q_nat hp
  obtain ⟨b, hb, rfl⟩ := q_nat hq
  obtain ⟨y, hy, rfl⟩ := q_nat (n := 21) (p := z) (by omega)
  have key : ∃ v, (f_b (α := (Int ⊕ Nat) × e_M) (f_X0_hasBoth_book (a : Int) (b : Int) M) fun rr3 NN4 => if ¬ rr3 = 0 then (f_b (f_X0_mondaysHad_book (a : Int) (y : Int) NN4) fun rr5 NN6 => (f_b (f_X0_mondaysHad_book (b : Int) (y : Int) NN6) fun rr7 NN8 => (if rr5 = (-1) then (some ((.inl 0), NN8)) else (if ¬ rr7 = (-1) then (f_b (f_X10_choose F (y : Int) rr5 NN8) fun rr9 NN10 => (f_b (f_X10_choose F (e_w ((y : Int) - rr5)) rr7 NN10) fun rr11 NN12 => (some ((.inl (e_w (e_wl (rr9 * rr11)))), NN12)))) else (some ((.inl 0), NN8)))))) else (some ((.inl (-1)), NN4))) = some (.inl v, M) ∧ ∀ M', (∀ a j, q_F5 a j → M' a j = M a j) → M' 64 0 = 0 → f_X11_apart_56 F (a : Int) (b : Int) (y : Int) 0 M' = some (v, M') := by
    have hA := r_had (z := y) hB.2.2.2.2.1 h6 ha (by omega)
    have hBb := r_had (z := y) hB.2.2.2.2.1 h6 hb (by omega)
    unfold f_X0_hasBoth_book f_X11_apart_56
    rcases hA with ⟨a1, a2⟩ | ⟨a1, ⟨a2, a3⟩ | ⟨x, hx, a2, a3⟩⟩
    · refine ⟨-1, by rw [a1, f_bs, if_pos rfl, f_bs, if_neg (by decide)], fun M' hM' h0 => ?_⟩
      rw [r_bad0 h0, f_bs, if_pos rfl, a2 M' hM' F (by omega), f_bs]
      rcases hBb with ⟨b1, b2⟩ | ⟨b1, ⟨b2, b3⟩ | ⟨w, hw, b2, b3⟩⟩
      · rw [b2 M' hM' F (by omega), f_bs, if_pos rfl]
      · rw [b3 M' hM' F (by omega), f_bs, if_pos rfl]
      · rw [b3 M' hM' F (by omega), f_bs, if_pos rfl]
    · rcases hBb with ⟨b1, b2⟩ | ⟨b1, ⟨b2, b3⟩ | ⟨w, hw, b2, b3⟩⟩
      · refine ⟨-1, by rw [a1, f_bs, if_neg (by decide), b1, f_bs, if_pos rfl, f_bs, if_neg (by decide)], fun M' hM' h0 => ?_⟩
        rw [r_bad0 h0, f_bs, if_pos rfl, a3 M' hM' F (by omega), f_bs, b2 M' hM' F (by omega), f_bs, if_neg (by omega), if_neg (by decide)]
      · refine ⟨0, by rw [a1, f_bs, if_neg (by decide), b1, f_bs, if_neg (by decide), f_bs, if_pos (by decide), a2, f_bs, b2, f_bs, if_pos rfl], fun M' hM' h0 => ?_⟩
        rw [r_bad0 h0, f_bs, if_pos rfl, a3 M' hM' F (by omega), f_bs, b3 M' hM' F (by omega), f_bs, if_neg (by omega), if_pos (by omega), e_ws_ (by omega) (by omega), if_neg (by omega)]
      · refine ⟨0, by rw [a1, f_bs, if_neg (by decide), b1, f_bs, if_neg (by decide), f_bs, if_pos (by decide), a2, f_bs, b2, f_bs, if_pos rfl], fun M' hM' h0 => ?_⟩
        rw [r_bad0 h0, f_bs, if_pos rfl, a3 M' hM' F (by omega), f_bs, b3 M' hM' F (by omega), f_bs, if_neg (by omega), if_pos (by omega), e_ws_ (by omega) (by omega), if_neg (by omega)]
    · rcases hBb with ⟨b1, b2⟩ | ⟨b1, ⟨b2, b3⟩ | ⟨w, hw, b2, b3⟩⟩
      · refine ⟨-1, by rw [a1, f_bs, if_neg (by decide), b1, f_bs, if_pos rfl, f_bs, if_neg (by decide)], fun M' hM' h0 => ?_⟩
        rw [r_bad0 h0, f_bs, if_pos rfl, a3 M' hM' F (by omega), f_bs, b2 M' hM' F (by omega), f_bs, if_neg (by omega), if_neg (by decide)]
      · refine ⟨0, by rw [a1, f_bs, if_neg (by decide), b1, f_bs, if_neg (by decide), f_bs, if_pos (by decide), a2, f_bs, b2, f_bs, if_neg (by omega), if_neg (by decide)], fun M' hM' h0 => ?_⟩
        rw [r_bad0 h0, f_bs, if_pos rfl, a3 M' hM' F (by omega), f_bs, b3 M' hM' F (by omega), f_bs, if_neg (by omega), if_pos (by omega), e_ws_ (by omega) (by omega), if_neg (by omega)]
      · by_cases hs : x + w ≤ y
        · obtain ⟨v1, c1, c2⟩ := ch_ok (F := F) (by omega) (z := y) (a := x) (by omega) hx
          obtain ⟨v2, d1, d2⟩ := ch_ok (F := F) (by omega) (z := y - x) (a := w) (by omega) (by omega)
          have e1 : e_w ((y : Int) - (x : Int)) = ((y - x : Nat) : Int) := by rw [e_ws_ (by omega) (by omega)]; omega
          refine ⟨e_w (v1 * v2), ?_, fun M' hM' h0 => ?_⟩
          · rw [a1, f_bs, if_neg (by decide), b1, f_bs, if_neg (by decide), f_bs, if_pos (by decide), a2, f_bs, b2, f_bs, if_neg (by omega), if_pos (by omega), c1, f_bs, e1, d1, f_bs]
            congr 3
            generalize v1 * v2 = s
            unfold e_w e_wl
            omega
          · rw [r_bad0 h0, f_bs, if_pos rfl, a3 M' hM' F (by omega), f_bs, b3 M' hM' F (by omega), f_bs, if_neg (by omega), if_pos (by omega), e_ws_ (x := (x : Int) + (w : Int)) (by omega) (by omega), if_pos (by omega), c2, f_bs, e1, d2, f_bs]
        · obtain ⟨v1, c1, c2⟩ := ch_ok (F := F) (by omega) (z := y) (a := x) (by omega) hx
          have e1 : e_w ((y : Int) - (x : Int)) = ((y - x : Nat) : Int) := by rw [e_ws_ (by omega) (by omega)]; omega
          have e2 : f_X10_choose F ((y - x : Nat) : Int) (w : Int) M = some (0, M) := by
            unfold f_X10_choose
            rw [if_neg (by omega), if_neg (by omega)]
          refine ⟨0, ?_, fun M' hM' h0 => ?_⟩
          · rw [a1, f_bs, if_neg (by decide), b1, f_bs, if_neg (by decide), f_bs, if_pos (by decide), a2, f_bs, b2, f_bs, if_neg (by omega), if_pos (by omega), c1, f_bs, e1, e2, f_bs, Int.mul_zero]
            rfl
          · rw [r_bad0 h0, f_bs, if_pos rfl, a3 M' hM' F (by omega), f_bs, b3 M' hM' F (by omega), f_bs, if_neg (by omega), if_pos (by omega), e_ws_ (x := (x : Int) + (w : Int)) (by omega) (by omega), if_neg (by omega)]
  obtain ⟨v, k1, k2⟩ := key
  have hfr := q_fr_b (M := M) (M1 := M) (v := v) (fun _ _ _ => rfl)
  refine q_ok (M1 := M) (v := v) k ?_ (fun _ _ _ => rfl) ?_ q_mf.rf
  · unfold f_X10_apart f_X10_needTwo
    rw [r_np hT.2.2.2.1, if_pos hp, f_tl, r_np hT.2.2.2.1, if_pos hq, f_tl, if_pos hpq, r_nw, if_pos hz, f_tl, f_tl]
    exact k1
  · unfold f_X11_apart f_X11_apart_27
    rw [r_isP (n := n) (by exact hn) h6, f_bs, if_pos hp, if_neg (by decide), r_isP (n := n) (by exact hn) h6, f_bs, if_pos hq, if_pos (by decide), r_bad0 rfl, f_bs, if_neg (by decide), if_neg hpq, r_in, f_bs, if_pos hz, if_pos (by decide)]
    exact k2 _ (fun a j hz => hfr a j (Or.inr (Or.inr (Or.inr (Or.inr (Or.inl hz)))))) rfl
theorem o_together {F : Nat} (hF : 300 < F) (p q z : Int) : q_o2 (f_X10_together p q z) (f_X11_together F p q z) k_c2 := by
  intro M k
  have k' := k
  obtain ⟨n, m, t, wa, sk, wo, ow, fi, l, cw, cv, L, hB⟩ := k'
  have hT : q_T n m t wa sk wo ow fi M := hB.1
  have h6 := hT.1
  have hm := hT.2.1
  have ht12 := hT.2.2.1
  have hn := hT.2.2.2.2.2.2.1
  have hC : q_cn n t L M := hB.2.2.2.2.2.1.1
  have hLB : q_LB n t L := hB.2.2.2.2.2.1.2.2
  by_cases hp : ¬ (0 ≤ p ∧ p < (n : Int))
  · refine q_ref0 (b := 0) (c := 1) k rfl (by decide) ?_ ?_
    · unfold f_X10_together f_X10_needTwo
      rw [r_np hT.2.2.2.1, if_neg hp, f_tr, f_tr]
    · unfold f_X11_together f_X11_together_27
      rw [r_isP (n := n) (by exact hn) h6, f_bs, if_neg hp, if_pos rfl, r_badm rfl (by decide), f_bs, if_pos (by decide)]
      rfl
  replace hp := Classical.not_not.mp hp
  by_cases hq : ¬ (0 ≤ q ∧ q < (n : Int))
  · refine q_ref0 (b := 0) (c := 1) k rfl (by decide) ?_ ?_
    · unfold f_X10_together f_X10_needTwo
      rw [r_np hT.2.2.2.1, if_pos hp, f_tl, r_np hT.2.2.2.1, if_neg hq, f_tr, f_tr]
    · unfold f_X11_together f_X11_together_27
      rw [r_isP (n := n) (by exact hn) h6, f_bs, if_pos hp, if_neg (by decide), r_isP (n := n) (by exact hn) h6, f_bs, if_neg hq, if_neg (by decide), r_badm rfl (by decide), f_bs, if_pos (by decide)]
      rfl
  replace hq := Classical.not_not.mp hq
  by_cases hpq : p = q
  · refine q_ref1 (b := 0) (c := 2) k rfl (by decide) ?_ ?_
    · unfold f_X10_together f_X10_needTwo f_X10_refuseArgument
      rw [r_np hT.2.2.2.1, if_pos hp, f_tl, r_np hT.2.2.2.1, if_pos hq, f_tl, if_neg (not_not_intro hpq), f_tr, f_tr]
    · unfold f_X11_together f_X11_together_27 f_X11_together_56
      rw [r_isP (n := n) (by exact hn) h6, f_bs, if_pos hp, if_neg (by decide), r_isP (n := n) (by exact hn) h6, f_bs, if_pos hq, if_pos (by decide), r_bad0 rfl, f_bs, if_neg (by decide), if_pos hpq, r_bada rfl (by decide), f_bs, if_neg (by decide)]
      rfl
  by_cases hz : ¬ (0 ≤ z ∧ z ≤ 20)
  · refine q_ref1 (b := 0) (c := 2) k rfl (by decide) ?_ ?_
    · unfold f_X10_together f_X10_needTwo
      rw [r_np hT.2.2.2.1, if_pos hp, f_tl, r_np hT.2.2.2.1, if_pos hq, f_tl, if_pos hpq, r_nw, if_neg hz, f_tr, f_tr]
    · unfold f_X11_together f_X11_together_27 f_X11_together_56
      rw [r_isP (n := n) (by exact hn) h6, f_bs, if_pos hp, if_neg (by decide), r_isP (n := n) (by exact hn) h6, f_bs, if_pos hq, if_pos (by decide), r_bad0 rfl, f_bs, if_neg (by decide), if_neg hpq, r_in, f_bs, if_neg hz, if_neg (by decide), r_bada rfl (by decide), f_bs, if_neg (by decide)]
      rfl
  replace hz := Classical.not_not.mp hz
  obtain ⟨a, ha, rfl⟩ := q_nat hp
  obtain ⟨b, hb, rfl⟩ := q_nat hq
  obtain ⟨y, hy, rfl⟩ := q_nat (n := 21) (p := z) (by omega)
  have key : ∃ v, (f_b (α := (Int ⊕ Nat) × e_M) (f_X0_hasBoth_book (a : Int) (b : Int) M) fun rr3 NN4 => if ¬ rr3 = 0 then (f_b (f_X0_mondaysHad_book (a : Int) (y : Int) NN4) fun rr5 NN6 => (f_b (f_X0_mondaysHad_book (b : Int) (y : Int) NN6) fun rr7 NN8 => (if rr5 = (-1) then (some ((.inl (-1)), NN8)) else (if ¬ rr7 = (-1) then (some ((.inl (max 0 (e_w ((e_w (rr5 + rr7)) - (y : Int))))), NN8)) else (some ((.inl (-1)), NN8)))))) else (some ((.inl (-1)), NN4))) = some (.inl v, M) ∧ ∀ M', (∀ a j, q_F5 a j → M' a j = M a j) → M' 64 0 = 0 → f_X11_together_56 F (a : Int) (b : Int) (y : Int) 0 M' = some (v, M') := by
    have hA := r_had (z := y) hB.2.2.2.2.1 h6 ha (by omega)
    have hBb := r_had (z := y) hB.2.2.2.2.1 h6 hb (by omega)
    unfold f_X0_hasBoth_book f_X11_together_56
    rcases hA with ⟨a1, a2⟩ | ⟨a1, ⟨a2, a3⟩ | ⟨x, hx, a2, a3⟩⟩
    · refine ⟨-1, by rw [a1, f_bs, if_pos rfl, f_bs, if_neg (by decide)], fun M' hM' h0 => ?_⟩
      rw [r_bad0 h0, f_bs, if_pos rfl, a2 M' hM' F (by omega), f_bs]
      rcases hBb with ⟨b1, b2⟩ | ⟨b1, ⟨b2, b3⟩ | ⟨w, hw, b2, b3⟩⟩
      · rw [b2 M' hM' F (by omega), f_bs, if_pos rfl]
      · rw [b3 M' hM' F (by omega), f_bs, if_pos rfl]
      · rw [b3 M' hM' F (by omega), f_bs, if_pos rfl]
    · rcases hBb with ⟨b1, b2⟩ | ⟨b1, ⟨b2, b3⟩ | ⟨w, hw, b2, b3⟩⟩
      · refine ⟨-1, by rw [a1, f_bs, if_neg (by decide), b1, f_bs, if_pos rfl, f_bs, if_neg (by decide)], fun M' hM' h0 => ?_⟩
        rw [r_bad0 h0, f_bs, if_pos rfl, a3 M' hM' F (by omega), f_bs, b2 M' hM' F (by omega), f_bs, if_neg (by omega), if_pos rfl]
      · refine ⟨-1, by rw [a1, f_bs, if_neg (by decide), b1, f_bs, if_neg (by decide), f_bs, if_pos (by decide), a2, f_bs, b2, f_bs, if_pos rfl], fun M' hM' h0 => ?_⟩
        rw [r_bad0 h0, f_bs, if_pos rfl, a3 M' hM' F (by omega), f_bs, b3 M' hM' F (by omega), f_bs, if_neg (by omega), if_neg (by omega), if_pos (by omega)]
      · refine ⟨-1, by rw [a1, f_bs, if_neg (by decide), b1, f_bs, if_neg (by decide), f_bs, if_pos (by decide), a2, f_bs, b2, f_bs, if_pos rfl], fun M' hM' h0 => ?_⟩
        rw [r_bad0 h0, f_bs, if_pos rfl, a3 M' hM' F (by omega), f_bs, b3 M' hM' F (by omega), f_bs, if_neg (by omega), if_neg (by omega), if_pos (by omega)]
    · rcases hBb with ⟨b1, b2⟩ | ⟨b1, ⟨b2, b3⟩ | ⟨w, hw, b2, b3⟩⟩
      · refine ⟨-1, by rw [a1, f_bs, if_neg (by decide), b1, f_bs, if_pos rfl, f_bs, if_neg (by decide)], fun M' hM' h0 => ?_⟩
        rw [r_bad0 h0, f_bs, if_pos rfl, a3 M' hM' F (by omega), f_bs, b2 M' hM' F (by omega), f_bs, if_neg (by omega), if_pos rfl]
      · refine ⟨-1, by rw [a1, f_bs, if_neg (by decide), b1, f_bs, if_neg (by decide), f_bs, if_pos (by decide), a2, f_bs, b2, f_bs, if_neg (by omega), if_neg (by decide)], fun M' hM' h0 => ?_⟩
        rw [r_bad0 h0, f_bs, if_pos rfl, a3 M' hM' F (by omega), f_bs, b3 M' hM' F (by omega), f_bs, if_neg (by omega), if_neg (by omega), if_neg (by omega), if_neg (by omega)]
      · refine ⟨max 0 (e_w ((e_w ((x : Int) + (w : Int))) - (y : Int))), ?_, fun M' hM' h0 => ?_⟩
        · rw [a1, f_bs, if_neg (by decide), b1, f_bs, if_neg (by decide), f_bs, if_pos (by decide), a2, f_bs, b2, f_bs, if_neg (by omega), if_pos (by omega)]
        · rw [r_bad0 h0, f_bs, if_pos rfl, a3 M' hM' F (by omega), f_bs, b3 M' hM' F (by omega), f_bs, if_neg (by omega), if_neg (by omega), if_neg (by omega), if_pos (by omega), r_more, f_bs]
  obtain ⟨v, k1, k2⟩ := key
  have hfr := q_fr_b (M := M) (M1 := M) (v := v) (fun _ _ _ => rfl)
  refine q_ok (M1 := M) (v := v) k ?_ (fun _ _ _ => rfl) ?_ q_mf.rf
  · unfold f_X10_together f_X10_needTwo
    rw [r_np hT.2.2.2.1, if_pos hp, f_tl, r_np hT.2.2.2.1, if_pos hq, f_tl, if_pos hpq, r_nw, if_pos hz, f_tl, f_tl]
    exact k1
  · unfold f_X11_together f_X11_together_27
    rw [r_isP (n := n) (by exact hn) h6, f_bs, if_pos hp, if_neg (by decide), r_isP (n := n) (by exact hn) h6, f_bs, if_pos hq, if_pos (by decide), r_bad0 rfl, f_bs, if_neg (by decide), if_neg hpq, r_in, f_bs, if_pos hz, if_pos (by decide)]
    exact k2 _ (fun a j hz => hfr a j (Or.inr (Or.inr (Or.inr (Or.inr (Or.inl hz)))))) rfl
