/-! OPERATIONS, 3 -/
def q_oz (fx : e_M → Option ((Int ⊕ Nat) × e_M)) (fm : e_M → Option (Int × e_M)) (cd : Nat → Option Int) : Prop := ∀ M, q_K M →
  (∃ v M1 M2, (v = 0 ∨ v = 1) ∧ fx M = some (.inl v, M1) ∧ fm (e_up M1 557 0 v) = some (v, M2) ∧ M2 64 0 = 0 ∧ M2 557 0 = v ∧ q_K M2) ∨
  (∃ z c b M1 M2, (b = 0 ∨ b = 1) ∧ cd z = some c ∧ c ≠ 0 ∧ fx M = some (.inr z, M1) ∧ fm M1 = some (b, M2) ∧ M2 64 0 = c ∧ q_K M2)
theorem o_can {F : Nat} (hF : 300 < F) (p : Int) : q_oz (f_X10_can F p) (f_X11_can F p) k_c0 := by
  intro M k
  have k' := k
  obtain ⟨n, m, t, wa, sk, wo, ow, fi, l, cw, cv, L, hB⟩ := k'
  have hT : q_T n m t wa sk wo ow fi M := hB.1
  have h6 := hT.1
  have hm := hT.2.1
  have ht12 := hT.2.2.1
  have hn := hT.2.2.2.2.2.2.1
  have hC : q_cn n t L M := hB.2.2.2.2.2.1.1
  have hLB : q_LB n t L := hB.2.2.2.2.2.1.2.2
  by_cases hp : 0 ≤ p ∧ p < (n : Int)
  · obtain ⟨q, hq, rfl⟩ := q_nat hp
    have key : ∃ (v : Int) (M1 M2 : e_M), (v = 0 ∨ v = 1) ∧ f_X3_canBuy_now F (q : Int) M = some (v, M1) ∧ (∀ a j, a ≠ 22 → a ≠ 23 → M1 a j = M a j) ∧ f_X11_canBuy 532 F (q : Int) (e_up (e_up M1 557 0 v) 64 0 0) = some (v, M2) ∧ ∀ a j, a ≠ 449 → a ≠ 450 → M2 a j = (e_up (e_up M1 557 0 v) 64 0 0) a j := by
      by_cases hc : q_ca n t wa sk ow l cw cv L q
      · obtain ⟨M1, g1, g2⟩ := (rn_can hq hT hB.2.2.2.1 hC).1 hc
        have hB2 := q_B_f (q_fr_b (v := 1) (M1 := M1) (fun a j ha => g2 a j (by unfold q_sca at ha; omega) (by unfold q_sca at ha; omega))) hB
        obtain ⟨M2, i1, i2⟩ := (r_can (Z := 0) (r := 532) hq hB2.1 hB2.2.2.2.1 hB2.2.2.2.2.2.1.2.1 ⟨by decide, by decide⟩).1 hc
        exact ⟨1, M1, M2, Or.inr rfl, g1 F hF, g2, i1 F hF, i2⟩
      · obtain ⟨M1, g1, g2⟩ := (rn_can hq hT hB.2.2.2.1 hC).2 hc
        have hB2 := q_B_f (q_fr_b (v := 0) (M1 := M1) (fun a j ha => g2 a j (by unfold q_sca at ha; omega) (by unfold q_sca at ha; omega))) hB
        obtain ⟨M2, i1, i2⟩ := (r_can (Z := 0) (r := 532) hq hB2.1 hB2.2.2.2.1 hB2.2.2.2.2.2.1.2.1 ⟨by decide, by decide⟩).2 hc
        exact ⟨0, M1, M2, Or.inl rfl, g1 F hF, g2, i1 F hF, i2⟩
    obtain ⟨v, M1, M2, hv, g1, g2, i1, i2⟩ := key
    have f1 : ∀ a j, ¬ q_sca a → M1 a j = M a j := fun a j ha => g2 a j (by unfold q_sca at ha; omega) (by unfold q_sca at ha; omega)
    refine Or.inl ⟨v, M1, M2, hv, ?_, ?_, ?_, ?_, ?_⟩
    · unfold f_X10_can
      rw [r_np hT.2.2.2.1, if_pos hp, f_tl, g1, f_bs, if_pos hv]
    · unfold f_X11_can f_X11_can_19
      have hn1 : (e_up (e_up M1 557 0 v) 64 0 0) 68 0 = (n : Int) := by
        show M1 68 0 = _
        rw [g2 68 0 (by decide) (by decide)]; exact hn
      rw [r_isP (n := n) hn1 h6, f_bs, if_pos hp, if_pos (by decide), r_bad0 rfl, f_bs, if_pos rfl, i1, f_bs, if_pos hv]
    · rw [i2 64 0 (by decide) (by decide)]; rfl
    · rw [i2 557 0 (by decide) (by decide)]; rfl
    · exact q_K_f (q_mf_fr (fun a j h1 h2 _ _ _ _ => i2 a j h1 h2)) (q_K_f (q_fr_b f1) k)
  · refine Or.inr ⟨0, 1, 0, e_up M 1 16 (e_w (M 1 16 + 1)), _, Or.inl rfl, rfl, by decide, ?_, ?_, ?_, q_rf0 (c := 1) k⟩
    · unfold f_X10_can
      rw [r_np hT.2.2.2.1, if_neg hp, f_tr]
    · unfold f_X11_can f_X11_can_19
      rw [r_isP (n := n) (by exact hn) h6, f_bs, if_neg hp, if_neg (by decide), r_badm rfl (by decide), f_bs, if_neg (by decide)]
      rfl
    · rfl
def q_k8 (p1 p2 p3 p4 p5 p6 p7 p8 : Int) : Nat → Int
  | 0 => p1
  | 1 => p2
  | 2 => p3
  | 3 => p4
  | 4 => p5
  | 5 => p6
  | 6 => p7
  | _ => p8
theorem o_would {F : Nat} (hF : 300 < F) (p1 p2 p3 p4 p5 p6 p7 p8 : Int) : q_o2 (f_X10_would F p1 p2 p3 p4 p5 p6 p7 p8) (f_X11_would F p1 p2 p3 p4 p5 p6 p7 p8) k_c1 := by
  intro M k
  have k' := k
  obtain ⟨n, m, t, wa, sk, wo, ow, fi, l, cw, cv, L, hB⟩ := k'
  have hT : q_T n m t wa sk wo ow fi M := hB.1
  have h6 := hT.1
  have hm := hT.2.1
  have ht12 := hT.2.2.1
  have hn := hT.2.2.2.2.2.2.1
  have hC : q_cn n t L M := hB.2.2.2.2.2.1.1
  have hLB : q_LB n t L := hB.2.2.2.2.2.1.2.2
  by_cases h1 : ¬ (0 ≤ p1 ∧ p1 ≤ 300)
  · refine q_ref1 (b := 0) (c := 1) k rfl (by decide) ?_ ?_
    · unfold f_X10_would
      rw [r_nw, if_neg h1, f_tr]
    · unfold f_X11_would
      rw [r_in, f_bs, if_neg h1, if_pos rfl, r_bada rfl (by decide), f_bs, if_neg (by decide)]
      rfl
  replace h1 := Classical.not_not.mp h1
  by_cases h2 : ¬ (0 ≤ p2 ∧ p2 ≤ 5)
  · refine q_ref1 (b := 0) (c := 1) k rfl (by decide) ?_ ?_
    · unfold f_X10_would
      rw [r_nw, if_pos h1, f_tl, r_nw, if_neg h2, f_tr]
    · unfold f_X11_would
      rw [r_in, f_bs, if_pos h1, if_neg (by decide), r_in, f_bs, if_neg h2, if_pos rfl, r_bada rfl (by decide), f_bs, if_neg (by decide)]
      rfl
  replace h2 := Classical.not_not.mp h2
  by_cases h3 : ¬ (0 ≤ p3 ∧ p3 ≤ 999)
  · refine q_ref1 (b := 0) (c := 1) k rfl (by decide) ?_ ?_
    · unfold f_X10_would
      rw [r_nw, if_pos h1, f_tl, r_nw, if_pos h2, f_tl, r_nw, if_neg h3, f_tr]
    · unfold f_X11_would
      rw [r_in, f_bs, if_pos h1, if_neg (by decide), r_in, f_bs, if_pos h2, if_neg (by decide), r_in, f_bs, if_neg h3, if_pos rfl, r_bada rfl (by decide), f_bs, if_neg (by decide)]
      rfl
  replace h3 := Classical.not_not.mp h3
  by_cases h4 : ¬ (0 ≤ p4 ∧ p4 ≤ 999)
  · refine q_ref1 (b := 0) (c := 1) k rfl (by decide) ?_ ?_
    · unfold f_X10_would
      rw [r_nw, if_pos h1, f_tl, r_nw, if_pos h2, f_tl, r_nw, if_pos h3, f_tl, r_nw, if_neg h4, f_tr]
    · unfold f_X11_would
      rw [r_in, f_bs, if_pos h1, if_neg (by decide), r_in, f_bs, if_pos h2, if_neg (by decide), r_in, f_bs, if_pos h3, if_neg (by decide), r_in, f_bs, if_neg h4, if_pos rfl, r_bada rfl (by decide), f_bs, if_neg (by decide)]
      rfl
  replace h4 := Classical.not_not.mp h4
  by_cases h5 : ¬ (0 ≤ p5 ∧ p5 ≤ 30)
  · refine q_ref1 (b := 0) (c := 1) k rfl (by decide) ?_ ?_
    · unfold f_X10_would
      rw [r_nw, if_pos h1, f_tl, r_nw, if_pos h2, f_tl, r_nw, if_pos h3, f_tl, r_nw, if_pos h4, f_tl, r_nw, if_neg h5, f_tr]
    · unfold f_X11_would
      rw [r_in, f_bs, if_pos h1, if_neg (by decide), r_in, f_bs, if_pos h2, if_neg (by decide), r_in, f_bs, if_pos h3, if_neg (by decide), r_in, f_bs, if_pos h4, if_neg (by decide), r_in, f_bs, if_neg h5, if_pos rfl, r_bada rfl (by decide), f_bs, if_neg (by decide)]
      rfl
  replace h5 := Classical.not_not.mp h5
  by_cases h6 : ¬ (0 ≤ p6 ∧ p6 ≤ 6)
  · refine q_ref1 (b := 0) (c := 1) k rfl (by decide) ?_ ?_
    · unfold f_X10_would
      rw [r_nw, if_pos h1, f_tl, r_nw, if_pos h2, f_tl, r_nw, if_pos h3, f_tl, r_nw, if_pos h4, f_tl, r_nw, if_pos h5, f_tl, r_nw, if_neg h6, f_tr]
    · unfold f_X11_would
      rw [r_in, f_bs, if_pos h1, if_neg (by decide), r_in, f_bs, if_pos h2, if_neg (by decide), r_in, f_bs, if_pos h3, if_neg (by decide), r_in, f_bs, if_pos h4, if_neg (by decide), r_in, f_bs, if_pos h5, if_neg (by decide), r_in, f_bs, if_neg h6, if_pos rfl, r_bada rfl (by decide), f_bs, if_neg (by decide)]
      rfl
  replace h6 := Classical.not_not.mp h6
  by_cases h7 : ¬ (0 ≤ p7 ∧ p7 ≤ 12)
  · refine q_ref1 (b := 0) (c := 1) k rfl (by decide) ?_ ?_
    · unfold f_X10_would
      rw [r_nw, if_pos h1, f_tl, r_nw, if_pos h2, f_tl, r_nw, if_pos h3, f_tl, r_nw, if_pos h4, f_tl, r_nw, if_pos h5, f_tl, r_nw, if_pos h6, f_tl, r_nw, if_neg h7, f_tr]
    · unfold f_X11_would
      rw [r_in, f_bs, if_pos h1, if_neg (by decide), r_in, f_bs, if_pos h2, if_neg (by decide), r_in, f_bs, if_pos h3, if_neg (by decide), r_in, f_bs, if_pos h4, if_neg (by decide), r_in, f_bs, if_pos h5, if_neg (by decide), r_in, f_bs, if_pos h6, if_neg (by decide), r_in, f_bs, if_neg h7, if_pos rfl, r_bada rfl (by decide), f_bs, if_neg (by decide)]
      rfl
  replace h7 := Classical.not_not.mp h7
  by_cases h8 : ¬ (0 ≤ p8 ∧ p8 ≤ 5)
  · refine q_ref1 (b := 0) (c := 1) k rfl (by decide) ?_ ?_
    · unfold f_X10_would
      rw [r_nw, if_pos h1, f_tl, r_nw, if_pos h2, f_tl, r_nw, if_pos h3, f_tl, r_nw, if_pos h4, f_tl, r_nw, if_pos h5, f_tl, r_nw, if_pos h6, f_tl, r_nw, if_pos h7, f_tl, r_nw, if_neg h8, f_tr]
    · unfold f_X11_would
      rw [r_in, f_bs, if_pos h1, if_neg (by decide), r_in, f_bs, if_pos h2, if_neg (by decide), r_in, f_bs, if_pos h3, if_neg (by decide), r_in, f_bs, if_pos h4, if_neg (by decide), r_in, f_bs, if_pos h5, if_neg (by decide), r_in, f_bs, if_pos h6, if_neg (by decide), r_in, f_bs, if_pos h7, if_neg (by decide), r_in, f_bs, if_neg h8, if_neg (by decide), r_bada rfl (by decide), f_bs, if_neg (by decide)]
      rfl
  replace h8 := Classical.not_not.mp h8
  obtain ⟨M1, g1, g2⟩ := r_seen (M := e_up (e_up (e_up (e_up (e_up (e_up (e_up (e_up M 23 0 p1) 23 1 p2) 23 2 p3) 23 3 p4) 23 4 p5) 23 5 p6) 23 6 p7) 23 7 p8) (l := l) (cw := cw) (cv := cv) (kn := q_k8 p1 p2 p3 p4 p5 p6 p7 p8) (q_La_wf hB.2.2.2.1) hB.2.2.2.1.2.1 (fun k hk => (hB.2.2.2.1.2.2.2 k hk).2.2.1) (fun j hj => by
      have hc : j = 0 ∨ j = 1 ∨ j = 2 ∨ j = 3 ∨ j = 4 ∨ j = 5 ∨ j = 6 ∨ j = 7 := by omega
      rcases hc with rfl | rfl | rfl | rfl | rfl | rfl | rfl | rfl <;> rfl)
  have f1 : ∀ a j, ¬ q_sca a → M1 a j = M a j := fun a j ha => by
    have h22 : a ≠ 22 := by unfold q_sca at ha; omega
    have h23 : a ≠ 23 := by unfold q_sca at ha; omega
    rw [g2 a j h22, u_r h23, u_r h23, u_r h23, u_r h23, u_r h23, u_r h23, u_r h23, u_r h23]
  have hB2 := q_B_f (q_fr_b (v := q_ev l cw cv (q_k8 p1 p2 p3 p4 p5 p6 p7 p8)) f1) hB
  generalize hv : q_ev l cw cv (q_k8 p1 p2 p3 p4 p5 p6 p7 p8) = v at hB2 g1
  obtain ⟨M2, i1, i2⟩ := r_byLaw (M := e_up (e_up (e_up (e_up (e_up (e_up (e_up (e_up (e_up (e_up M1 557 0 v) 64 0 0) 450 0 p1) 450 1 p2) 450 2 p3) 450 3 p4) 450 4 p5) 450 5 p6) 450 6 p7) 450 7 p8) (l := l) (cw := cw) (cv := cv) (kn := q_k8 p1 p2 p3 p4 p5 p6 p7 p8) (q_La_wf hB.2.2.2.1) hB2.2.2.2.1.2.2.1 (fun k hk => by
      have := hB2.2.2.2.1.2.2.2 k hk
      have e0 := hB2.2.2.2.1.1
      rw [u_r (show 114 + k ≠ 450 by omega), u_r (show 114 + k ≠ 450 by omega), u_r (show 114 + k ≠ 450 by omega), u_r (show 114 + k ≠ 450 by omega), u_r (show 114 + k ≠ 450 by omega), u_r (show 114 + k ≠ 450 by omega), u_r (show 114 + k ≠ 450 by omega), u_r (show 114 + k ≠ 450 by omega), u_r (show 114 + k ≠ 450 by omega), u_r (show 114 + k ≠ 450 by omega), u_r (show 114 + k ≠ 450 by omega), u_r (show 114 + k ≠ 450 by omega), u_r (show 114 + k ≠ 450 by omega), u_r (show 114 + k ≠ 450 by omega), u_r (show 114 + k ≠ 450 by omega), u_r (show 114 + k ≠ 450 by omega)]
      exact ⟨this.1, this.2.1⟩) (fun j hj => by
      have hc : j = 0 ∨ j = 1 ∨ j = 2 ∨ j = 3 ∨ j = 4 ∨ j = 5 ∨ j = 6 ∨ j = 7 := by omega
      rcases hc with rfl | rfl | rfl | rfl | rfl | rfl | rfl | rfl <;> rfl)
  have g1 := g1 F (by omega)
  have i1 := i1 F (by omega)
  rw [hv] at i1
  refine q_ok (M1 := M1) (M2 := M2) (v := v) k ?_ f1 ?_ (fun a j h1 h2 _ _ _ _ => by rw [i2 a j h1, u_r h2, u_r h2, u_r h2, u_r h2, u_r h2, u_r h2, u_r h2, u_r h2])
  · unfold f_X10_would
    rw [r_nw, if_pos h1, f_tl, r_nw, if_pos h2, f_tl, r_nw, if_pos h3, f_tl, r_nw, if_pos h4, f_tl, r_nw, if_pos h5, f_tl, r_nw, if_pos h6, f_tl, r_nw, if_pos h7, f_tl, r_nw, if_pos h8, f_tl, g1, f_bs]
  · unfold f_X11_would f_X11_priceBy
    rw [r_in, f_bs, if_pos h1, if_neg (by decide), r_in, f_bs, if_pos h2, if_neg (by decide), r_in, f_bs, if_pos h3, if_neg (by decide), r_in, f_bs, if_pos h4, if_neg (by decide), r_in, f_bs, if_pos h5, if_neg (by decide), r_in, f_bs, if_pos h6, if_neg (by decide), r_in, f_bs, if_pos h7, if_neg (by decide), r_in, f_bs, if_pos h8, if_pos (by decide), r_bad0 rfl, f_bs, if_pos rfl, i1, f_bs, f_bs]
theorem rn_ahd {M : e_M} {D k : Nat} (h : M 36 4 = (D : Int)) (hD : D < 2147483648) (hk : k < 12) : f_X3_isAhead_now (k : Int) M = some (if D.testBit k = false ∧ M 36 2 ≤ M 42 k then 1 else 0, M) := by
  unfold f_X3_isAhead_now
  rw [rn_isDone h hD (by omega), f_bs, if_pos (show 0 ≤ (k : Int) ∧ (k : Int) < 12 by omega), Int.toNat_natCast]
  by_cases c : D.testBit k = true
  · rw [if_pos c, if_pos (by decide), if_neg (fun z => by rw [c] at z; cases z.1)]
  · rw [if_neg c, if_neg (by decide)]
    by_cases c2 : M 42 k < M 36 2
    · rw [if_pos c2, if_neg (fun z => by omega)]
    · rw [if_neg c2, if_pos ⟨by simpa using c, by omega⟩]
theorem q_dnf {L : Nat → Int} {k : Nat} (h : L (42 + k) = 0 ∨ L (42 + k) = 1) : q_dn L k = false ↔ L (42 + k) = 0 := by
  unfold q_dn
  rw [decide_eq_false_iff_not]
  omega
theorem o_missed {F : Nat} (hF : 300 < F) : q_o1 (f_X10_missed F) (f_X11_missed F) := by
  intro M k
  have k' := k
  obtain ⟨n, m, t, wa, sk, wo, ow, fi, l, cw, cv, L, hB⟩ := k'
  have hT : q_T n m t wa sk wo ow fi M := hB.1
  have h6 := hT.1
  have hm := hT.2.1
  have ht12 := hT.2.2.1
  have hn := hT.2.2.2.2.2.2.1
  have hC : q_cn n t L M := hB.2.2.2.2.2.1.1
  have hLB : q_LB n t L := hB.2.2.2.2.2.1.2.2
  have hB2 := q_B_f (q_fr_b1 (M := M) (M1 := M) (fun _ _ _ => rfl)) hB
  refine q_ok1 (M1 := M) (v := (q_bs (fun k => decide (L (42 + k) = 0) && decide (L (30 + k) < L 55)) t : Int)) k ?_ (fun _ _ _ => rfl) ?_ q_mf.rf
  · refine q_sq (fun f s i => f_X10_missed_4 f s i M) (fun i => (q_bs (fun k => decide (L (42 + k) = 0) && decide (L (30 + k) < L 55)) i : Int)) t _ (fun f i hi => ?_) (fun f => ?_) F (by omega)
    · have hCi := hC.2.1 i hi
      rw [f_X10_missed_4, if_neg (by rw [hT.2.2.2.2.2.1]; omega), rn_isDone (D := q_bs (q_dn L) t) hC.2.2.2.2 (q_dn_lt ht12) (by omega), f_bs, q_bs_tbc hi, e_ws_ (x := (i : Int) + 1) (by omega) (by omega), if_pos (show 0 ≤ (i : Int) ∧ (i : Int) < 12 by omega), Int.toNat_natCast, hCi.1, hC.2.2.1]
      rcases hCi.2 with h | h
      · rw [(q_dnf hCi.2).mpr h, if_neg (by decide)]
        by_cases c : L 55 ≤ L (30 + i)
        · rw [if_pos c, q_bs_f (by simp; intro _; omega)]
        · rw [if_neg c, q_bs_t (c := fun k => decide (L (42 + k) = 0) && decide (L (30 + k) < L 55)) (by simp [h]; omega) (by omega)]
      · have hd : q_dn L i = true := by unfold q_dn; rw [h]; rfl
        rw [hd, if_pos rfl, if_pos (by decide), q_bs_f (by simp [h])]
    · rw [f_X10_missed_4, if_pos (by rw [hT.2.2.2.2.2.1]; omega)]
  · unfold f_X11_missed
    generalize e_up M 64 0 0 = M' at hB2 ⊢
    have hR : q_ml M' 532 L := hB2.2.2.2.2.2.1.2.1
    have ht' := hB2.1.2.2.2.2.2.2.2.2.1
    refine q_sq (fun f s i => f_X11_missed_9 f s i M') (fun i => (q_bs (fun k => decide (L (42 + k) = 0) && decide (L (30 + k) < L 55)) i : Int)) t _ (fun f i hi => ?_) (fun f => ?_) F (by omega)
    · rw [f_X11_missed_9, if_neg (by omega), e_ws_ (x := 42 + (i : Int)) (by omega) (by omega), if_pos (show 0 ≤ 42 + (i : Int) ∧ 42 + (i : Int) < 56 by omega), e_ws_ (x := 30 + (i : Int)) (by omega) (by omega), if_pos (show 0 ≤ 30 + (i : Int) ∧ 30 + (i : Int) < 56 by omega), q_t42, q_t30, hR (42 + i) (by omega), hR (30 + i) (by omega), hR 55 (by omega), e_ws_ (x := (i : Int) + 1) (by omega) (by omega), q_or0 (q_bs_31 (by omega))]
      by_cases h : L (42 + i) = 0
      · rw [if_neg (not_not_intro h)]
        by_cases c : L 55 ≤ L (30 + i)
        · rw [if_pos c, q_bs_f (by simp; intro _; omega)]
        · rw [if_neg c, q_bs_t (c := fun k => decide (L (42 + k) = 0) && decide (L (30 + k) < L 55)) (by simp [h]; omega) (by omega)]
      · rw [if_pos h, q_bs_f (by simp [h])]
    · rw [f_X11_missed_9, if_pos (by omega)]
theorem o_debt {F : Nat} (hF : 300 < F) (p : Int) : q_o2 (f_X10_debt F p) (f_X11_debt F p) k_c0 := by
  intro M k
  have k' := k
  obtain ⟨n, m, t, wa, sk, wo, ow, fi, l, cw, cv, L, hB⟩ := k'
  have hT : q_T n m t wa sk wo ow fi M := hB.1
  have h6 := hT.1
  have hm := hT.2.1
  have ht12 := hT.2.2.1
  have hn := hT.2.2.2.2.2.2.1
  have hC : q_cn n t L M := hB.2.2.2.2.2.1.1
  have hLB : q_LB n t L := hB.2.2.2.2.2.1.2.2
  by_cases hp : 0 ≤ p ∧ p < (n : Int)
  · obtain ⟨q, hq, rfl⟩ := q_nat hp
    have key : f_X10_debt F (q : Int) M = some (.inl (q_sm (fun k => if ow k = q ∧ (L (42 + k) = 0 ∧ L 55 ≤ L (30 + k)) then fi k else 0) t), M) := by
      unfold f_X10_debt
      rw [r_np hT.2.2.2.1, if_pos hp, f_tl]
      refine q_sq (fun f s i => f_X10_debt_9 f (q : Int) s i M) (q_sm (fun k => if ow k = q ∧ (L (42 + k) = 0 ∧ L 55 ≤ L (30 + k)) then fi k else 0)) t _ (fun f i hi => ?_) (fun f => ?_) F (by omega)
      · have hCi := hC.2.1 i hi
        have hTi := hT.2.2.2.2.2.2.2.2.2.2.2 i hi
        rw [f_X10_debt_9, if_neg (by rw [hT.2.2.2.2.2.1]; omega), if_pos (show 0 ≤ (i : Int) ∧ (i : Int) < 12 by omega), Int.toNat_natCast, hTi.1, rn_ahd (D := q_bs (q_dn L) t) hC.2.2.2.2 (q_dn_lt ht12) (by omega), f_bs, q_bs_tbc hi, e_ws_ (x := (i : Int) + 1) (by omega) (by omega), if_pos (show 0 ≤ (i : Int) ∧ (i : Int) < 12 by omega), hTi.2.2.2.1, hCi.1, hC.2.2.1]
        have hcond : (q_dn L i = false ∧ L 55 ≤ L (30 + i)) ↔ (L (42 + i) = 0 ∧ L 55 ≤ L (30 + i)) := by rw [q_dnf hCi.2]
        by_cases c1 : ow i = q
        · rw [if_neg (not_not_intro (by omega))]
          by_cases c2 : L (42 + i) = 0 ∧ L 55 ≤ L (30 + i)
          · rw [if_pos (hcond.mpr c2), if_neg (by decide), q_sm_1, if_pos ⟨c1, c2⟩]
          · rw [if_neg (fun z => c2 (hcond.mp z)), if_pos rfl, q_sm_0 (by rw [if_neg (fun z => c2 z.2)])]
        · rw [if_pos (by omega), q_sm_0 (by rw [if_neg (fun z => c1 z.1)])]
      · rw [f_X10_debt_9, if_pos (by rw [hT.2.2.2.2.2.1]; omega)]
    have hB2 := q_B_f (q_fr_b (M := M) (M1 := M) (v := q_sm (fun k => if ow k = q ∧ (L (42 + k) = 0 ∧ L 55 ≤ L (30 + k)) then fi k else 0) t) (fun _ _ _ => rfl)) hB
    refine q_ok (M1 := M) k key (fun _ _ _ => rfl) ?_ q_mf.rf
    unfold f_X11_debt
    rw [r_isP (n := n) (by exact hn) h6, f_bs, if_pos hp, if_pos (by decide), r_bad0 rfl, f_bs, if_pos rfl]
    generalize e_up (e_up M 557 0 (q_sm (fun k => if ow k = q ∧ (L (42 + k) = 0 ∧ L 55 ≤ L (30 + k)) then fi k else 0) t)) 64 0 0 = M' at hB2 ⊢
    have hR : q_ml M' 532 L := hB2.2.2.2.2.2.1.2.1
    have ht' := hB2.1.2.2.2.2.2.2.2.2.1
    refine q_sq (fun f s i => f_X11_debt_33 f (q : Int) s i M') (q_sm (fun k => if ow k = q ∧ (L (42 + k) = 0 ∧ L 55 ≤ L (30 + k)) then fi k else 0)) t _ (fun f i hi => ?_) (fun f => ?_) F (by omega)
    · have hTi := hB2.1.2.2.2.2.2.2.2.2.2.2.2 i hi
      rw [f_X11_debt_33, if_neg (by omega), if_pos (show 0 ≤ (i : Int) ∧ (i : Int) < 12 by omega), Int.toNat_natCast, hTi.2.1, e_ws_ (x := 42 + (i : Int)) (by omega) (by omega), if_pos (show 0 ≤ 42 + (i : Int) ∧ 42 + (i : Int) < 56 by omega), e_ws_ (x := 30 + (i : Int)) (by omega) (by omega), if_pos (show 0 ≤ 30 + (i : Int) ∧ 30 + (i : Int) < 56 by omega), q_t42, q_t30, hR (42 + i) (by omega), hR (30 + i) (by omega), hR 55 (by omega), e_ws_ (x := (i : Int) + 1) (by omega) (by omega), if_pos (show 0 ≤ (i : Int) ∧ (i : Int) < 12 by omega), hTi.2.2.2.2.1]
      by_cases c1 : ow i = q
      · rw [if_neg (not_not_intro (by omega))]
        by_cases h : L (42 + i) = 0
        · rw [if_neg (not_not_intro h)]
          by_cases c : L (30 + i) < L 55
          · rw [if_pos c, q_sm_1, if_neg (fun z => by omega)]
          · rw [if_neg c, q_sm_1, if_pos ⟨c1, h, by omega⟩]
        · rw [if_pos h, q_sm_1, if_neg (fun z => h z.2.1)]
      · rw [if_pos (by omega), q_sm_1, if_neg (fun z => c1 z.1)]
    · rw [f_X11_debt_33, if_pos (by omega)]
  · refine q_ref0 (b := 0) (c := 1) k rfl (by decide) ?_ ?_
    · unfold f_X10_debt
      rw [r_np hT.2.2.2.1, if_neg hp, f_tr]
    · unfold f_X11_debt
      rw [r_isP (n := n) (by exact hn) h6, f_bs, if_neg hp, if_neg (by decide), r_badm rfl (by decide), f_bs, if_neg (by decide)]
      rfl
theorem o_spare {F : Nat} (hF : 300 < F) (p w : Int) : q_o2 (f_X10_spare p w) (f_X11_spare F p w) k_c2 := by
  intro M k
  have k' := k
  obtain ⟨n, m, t, wa, sk, wo, ow, fi, l, cw, cv, L, hB⟩ := k'
  have hT : q_T n m t wa sk wo ow fi M := hB.1
  have h6 := hT.1
  have hm := hT.2.1
  have ht12 := hT.2.2.1
  have hn := hT.2.2.2.2.2.2.1
  have hC : q_cn n t L M := hB.2.2.2.2.2.1.1
  have hLB : q_LB n t L := hB.2.2.2.2.2.1.2.2
  by_cases hp : 0 ≤ p ∧ p < (n : Int)
  · by_cases hw : 0 ≤ w ∧ w ≤ 99
    · obtain ⟨q, hq, rfl⟩ := q_nat hp
      obtain ⟨z, hz, rfl⟩ := q_nat (n := 100) (p := w) (by omega)
      have hCq := hC.1 q hq
      have hTq := hT.2.2.2.2.2.2.2.2.2.1 q hq
      have hLq := hLB.2.2.2.2.1 q hq
      have hmul : ∀ i : Nat, i ≤ 99 → 0 ≤ (i : Int) * wa q ∧ (i : Int) * wa q ≤ 99 * 30 := fun i hi => ⟨Int.mul_nonneg (by omega) hTq.2.2.1, Int.mul_le_mul (by omega) hTq.2.2.2.1 hTq.2.2.1 (by omega)⟩
      have key : f_X10_spare (q : Int) (z : Int) M = some (.inl (min 999 (L q + (z : Int) * wa q)), M) := by
        have h1 := hmul z (by omega)
        unfold f_X10_spare
        rw [r_np hT.2.2.2.1, if_pos hp, f_tl, r_nw, if_pos hw, f_tl, if_pos (show 0 ≤ (q : Int) ∧ (q : Int) < 6 by omega), if_pos (show 0 ≤ (q : Int) ∧ (q : Int) < 6 by omega), Int.toNat_natCast, hCq.1, hTq.1, e_ws_ (x := (z : Int) * wa q) (by omega) (by omega), e_ws_ (x := L q + (z : Int) * wa q) (by omega) (by omega)]
      have hB2 := q_B_f (q_fr_b (M := M) (M1 := M) (v := min 999 (L q + (z : Int) * wa q)) (fun _ _ _ => rfl)) hB
      refine q_ok (M1 := M) k key (fun _ _ _ => rfl) ?_ q_mf.rf
      unfold f_X11_spare f_X11_spare_19
      rw [r_isP (n := n) (by exact hn) h6, f_bs, if_pos hp, if_pos (by decide), r_bad0 rfl, f_bs, if_neg (by decide), r_in, f_bs, if_pos hw, if_pos (by decide), r_bad0 rfl, f_bs, if_pos rfl, q_w0 q (by omega), if_pos (show 0 ≤ (q : Int) ∧ (q : Int) < 56 by omega), Int.toNat_natCast]
      generalize e_up (e_up M 557 0 (min 999 (L q + (z : Int) * wa q))) 64 0 0 = M' at hB2 ⊢
      have hR : q_ml M' 532 L := hB2.2.2.2.2.2.1.2.1
      have hTq' := hB2.1.2.2.2.2.2.2.2.2.2.1 q hq
      rw [hR q (by omega), show L q = min 999 (L q + ((0 : Nat) : Int) * wa q) by omega]
      refine q_sq (fun f s i => f_X11_spare_65 f (q : Int) (z : Int) s i M') (fun i => min 999 (L q + (i : Int) * wa q)) z _ (fun f i hi => ?_) (fun f => ?_) F (by omega)
      · have h1 := hmul i (by omega)
        rw [f_X11_spare_65, if_neg (by omega), if_pos (show 0 ≤ (q : Int) ∧ (q : Int) < 6 by omega), Int.toNat_natCast, hTq'.2.1, r_less, f_bs, e_ws_ (x := (i : Int) + 1) (by omega) (by omega), e_ws_ (x := min 999 (L q + (i : Int) * wa q) + wa q) (by omega) (by omega), show ((i + 1 : Nat) : Int) * wa q = (i : Int) * wa q + wa q by rw [show ((i + 1 : Nat) : Int) = (i : Int) + 1 by omega, Int.add_mul, Int.one_mul]]
        congr 1
        omega
      · rw [f_X11_spare_65, if_pos (by omega)]
        congr 2
        omega
    · refine q_ref1 (b := 0) (c := 2) k rfl (by decide) ?_ ?_
      · unfold f_X10_spare
        rw [r_np hT.2.2.2.1, if_pos hp, f_tl, r_nw, if_neg hw, f_tr]
      · unfold f_X11_spare f_X11_spare_19
        rw [r_isP (n := n) (by exact hn) h6, f_bs, if_pos hp, if_pos (by decide), r_bad0 rfl, f_bs, if_neg (by decide), r_in, f_bs, if_neg hw, if_neg (by decide), r_bada rfl (by decide), f_bs, if_neg (by decide)]
        rfl
  · refine q_ref0 (b := 0) (c := 1) k rfl (by decide) ?_ ?_
    · unfold f_X10_spare
      rw [r_np hT.2.2.2.1, if_neg hp, f_tr]
    · unfold f_X11_spare f_X11_spare_19
      rw [r_isP (n := n) (by exact hn) h6, f_bs, if_neg hp, if_neg (by decide), r_badm rfl (by decide), f_bs, if_pos (by decide)]
      rfl
