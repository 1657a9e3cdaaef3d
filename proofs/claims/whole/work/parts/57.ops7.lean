/-! OPERATIONS, 7: weeks ahead -/
section WA
variable {n m t : Nat} {wa : Nat → Int} {sk : Nat → Nat} {wo : Nat → Int} {ow : Nat → Nat} {fi : Nat → Int} {l : Nat} {cw cv L R : Nat → Int} {M : e_M}
def q_wki (n m t : Nat) (wa : Nat → Int) (sk : Nat → Nat) (wo : Nat → Int) (ow : Nat → Nat) (fi L : Nat → Int) : Nat → Nat → Int
  | 0 => L
  | i + 1 => q_wkf n m t wa sk wo ow fi (q_wki n m t wa sk wo ow fi L i)
theorem q_wki_r (h6 : n ≤ 6) (h12 : t ≤ 12) (hR : ∀ p, p < n → e_i32 (L (12 + p))) : ∀ i p, p < n → e_i32 (q_wki n m t wa sk wo ow fi L i (12 + p))
  | 0, p, hp => hR p hp
  | i + 1, p, hp => q_WK_r (q_wkf_ok (L := q_wki n m t wa sk wo ow fi L i) h6 h12) p hp
theorem rr_try (hT : q_T n m t wa sk wo ow fi M) (hC : q_cn n t L M) (hR : ∀ p, p < n → e_i32 (L (12 + p))) (z : Nat) (hz : z ≤ 99) : ∃ M', (∀ f, 500 < f → f_X10_tryWeeks f (z : Int) M = some (0, M')) ∧ q_cr n t (q_wki n m t wa sk wo ow fi L z) M' ∧ ∀ a j, a < 43 ∨ 49 < a → M' a j = M a j := by
  have h6 := hT.1
  have h12 := hT.2.2.1
  obtain ⟨M0, a1, a2, a3⟩ := rr_copy hC h6 h12
  obtain ⟨A, ⟨b1, b2⟩, hA⟩ := q_run 301 1 z (fun f (A : e_M) i => f_X10_tryWeeks_13 f (z : Int) i A) (fun i A => q_cr n t (q_wki n m t wa sk wo ow fi L i) A ∧ ∀ a j, a < 43 ∨ 49 < a → A a j = M a j) (a := M0) (fun i A hi hA => by
    have hTA : q_T n m t wa sk wo ow fi A := q_T_f (fun a j z => hA.2 a j (by unfold q_F3 at z; omega)) hT
    obtain ⟨A', c1, c2, c3⟩ := rr_week hTA hA.1 (q_wki_r h6 h12 hR i) (q_wkf_ok h6 h12)
    refine ⟨A', ⟨c2, fun a j ha => (c3 a j ha).trans (hA.2 a j ha)⟩, fun f hf => ?_⟩
    rw [f_X10_tryWeeks_13, if_neg (by omega), c1 f (by omega), f_bs, e_ws_ (x := (i : Int) + 1) (by omega) (by omega)]) ⟨a2, a3⟩
  refine ⟨A, fun f hf => ?_, b1, b2⟩
  unfold f_X10_tryWeeks
  rw [a1, f_bs]
  obtain ⟨f', rfl⟩ : ∃ f', f = (f' + 1) + z * 1 := ⟨f - 1 - z, by omega⟩
  refine (hA (f' + 1) (by omega)).trans ?_
  show f_X10_tryWeeks_13 (f' + 1) (z : Int) (z : Int) A = _
  rw [f_X10_tryWeeks_13, if_pos (by omega)]
theorem r_wks {β : Type} (g : Nat → e_M → Int → Option β) (z : Nat) (hg : ∀ i N N', i < z → (∀ f, 300 < f → f_X11_weekEnds 533 f N = some (0, N')) → ∀ f, 301 ≤ f → g (f + 1) N (i : Int) = g f N' ((i : Int) + 1)) (hT : q_T n m t wa sk wo ow fi M) (hr : q_ml M 533 R) (hag : q_ag n t L R) : ∃ N R', (∀ f, 301 ≤ f → g (f + z * 1) M 0 = g f N (z : Int)) ∧ q_ml N 533 R' ∧ q_ag n t (q_wki n m t wa sk wo ow fi L z) R' ∧ ∀ a j, a ≠ 533 → N a j = M a j := by
  have h6 := hT.1
  have h12 := hT.2.2.1
  obtain ⟨A, ⟨⟨R', b0, b1⟩, b2⟩, hA⟩ := q_run 301 1 z g (fun i A => (∃ R', q_ml A 533 R' ∧ q_ag n t (q_wki n m t wa sk wo ow fi L i) R') ∧ ∀ a j, a ≠ 533 → A a j = M a j) (a := M) (fun i A hi hA => by
    obtain ⟨⟨R', b0, b1⟩, b2⟩ := hA
    have hTA : q_T n m t wa sk wo ow fi A := q_T_f (fun a j z => b2 a j (by unfold q_F3 at z; omega)) hT
    obtain ⟨A', c1, c2, c3⟩ := r_week hTA b0 (by decide)
    refine ⟨A', ⟨⟨A' 533, fun _ _ => rfl, q_WK_ag (fun k hk => (hT.2.2.2.2.2.2.2.2.2.2.2 k hk).2.2.1) b1 (q_wkf_ok h6 h12) c2⟩, fun a j ha => (c3 a j ha).trans (b2 a j ha)⟩, hg i A A' hi c1⟩) ⟨⟨R, hr, hag⟩, fun _ _ _ => rfl⟩
  exact ⟨A, R', hA, b0, b1, b2⟩
end WA
theorem o_ahead {F : Nat} (hF : 1000 < F) (p w : Int) : q_o2 (f_X10_ahead F p w) (f_X11_ahead F p w) k_c1 := by
  intro M k
  have k' := k
  obtain ⟨n, m, t, wa, sk, wo, ow, fi, l, cw, cv, L, hB⟩ := k'
  have hT : q_T n m t wa sk wo ow fi M := hB.1
  have h6 := hT.1
  have hm := hT.2.1
  have ht12 := hT.2.2.1
  have hn := hT.2.2.2.2.2.2.1
  have hC : q_cn n t L M := hB.2.2.2.2.2.1.1
  have hLB : q_LB n t L := hB.2.2.2.2.2.1.2.2
  by_cases hp : ¬ (0 ≤ p ∧ p ≤ 99)
  · refine q_ref1 (b := 0) (c := 1) k rfl (by decide) ?_ ?_
    · unfold f_X10_ahead
      rw [r_nw, if_neg hp, f_tr]
    · unfold f_X11_ahead
      rw [r_in, f_bs, if_neg hp, if_pos rfl, r_bada rfl (by decide), f_bs, if_neg (by decide)]
      rfl
  replace hp := Classical.not_not.mp hp
  by_cases hw : ¬ (0 ≤ w ∧ w ≤ 2)
  · refine q_ref1 (b := 0) (c := 1) k rfl (by decide) ?_ ?_
    · unfold f_X10_ahead
      rw [r_nw, if_pos hp, f_tl, r_nw, if_neg hw, f_tr]
    · unfold f_X11_ahead
      rw [r_in, f_bs, if_pos hp, if_neg (by decide), r_in, f_bs, if_neg hw, if_neg (by decide), r_bada rfl (by decide), f_bs, if_neg (by decide)]
      rfl
  replace hw := Classical.not_not.mp hw
  obtain ⟨z, hz, rfl⟩ := q_nat (n := 100) (p := p) (by omega)
  obtain ⟨M1, g1, g2, g3⟩ := rr_try hT hC (q_LB_r hLB) z (by omega)
  have f1 : ∀ a j, ¬ q_sca a → M1 a j = M a j := fun a j ha => g3 a j (by unfold q_sca at ha; omega)
  generalize hX : q_wki n m t wa sk wo ow fi L z = X at g2
  generalize hv : (if w = 0 then q_sm (fun p => X p) n else if w = 1 then q_sm (fun p => X (6 + p)) n else (q_bs (q_dn X) t : Int)) = v
  have hB2 := q_B_f (q_fr_b (v := v) f1) hB
  obtain ⟨N0, c1, c2, c3⟩ := r_copies (M := e_up (e_up M1 557 0 v) 64 0 0) (q0 := 532) (q1 := 533) (by decide)
  have hT0 : q_T n m t wa sk wo ow fi N0 := q_T_f (fun a j z => c3 a j (by unfold q_F3 at z; omega)) hB2.1
  have hr0 : q_ml N0 533 L := fun j hj => (c2 j hj).trans (hB2.2.2.2.2.2.1.2.1 j hj)
  obtain ⟨N, R', d1, d2, d3, d4⟩ := r_wks (fun f N i => f_X11_ahead_53 f (z : Int) w i N) z (fun i N N' hi hN f hf => by
    rw [f_X11_ahead_53, if_neg (by omega), hN f (by omega), f_bs, e_ws_ (x := (i : Int) + 1) (by omega) (by omega)]) hT0 hr0 (q_ag.rf (L := L))
  rw [hX] at d3
  have h1n : M1 4 0 = (n : Int) := by rw [g3 4 0 (by omega)]; exact hT.2.2.2.1
  have hnN : N 68 0 = (n : Int) := by rw [d4 68 0 (by decide)]; exact hT0.2.2.2.2.2.2.1
  have htN : N 68 2 = (t : Int) := by rw [d4 68 2 (by decide)]; exact hT0.2.2.2.2.2.2.2.2.1
  refine q_ok (M1 := M1) (M2 := N) (v := v) k ?_ f1 ?_ (fun a j _ _ h3 _ _ _ => (d4 a j h3).trans (c3 a j h3))
  · unfold f_X10_ahead
    rw [r_nw, if_pos hp, f_tl, r_nw, if_pos hw, f_tl, g1 F (by omega), f_bs, rr_coins h1n h6 (by omega), f_bs, rr_days h1n h6 (by omega), f_bs, q_sm_congr (c := M1 44) (d := fun p => X p) (fun i hi => (g2.1 i hi).1), q_sm_congr (c := M1 45) (d := fun p => X (6 + p)) (fun i hi => (g2.1 i hi).2.1), g2.2.2.2.2, ← hv]
    by_cases h0 : w = 0
    · rw [if_pos h0, if_pos h0]
    · rw [if_neg h0, if_neg h0]
      by_cases h1 : w = 1
      · rw [if_pos h1, if_pos h1]
      · rw [if_neg h1, if_neg h1]
  · unfold f_X11_ahead
    rw [r_in, f_bs, if_pos hp, if_neg (by decide), r_in, f_bs, if_pos hw, if_pos (by decide), r_bad0 rfl, f_bs, if_pos rfl, c1 F (by omega), f_bs]
    obtain ⟨f', rfl⟩ : ∃ f', F = (f' + 1) + z * 1 := ⟨F - 1 - z, by omega⟩
    refine (d1 (f' + 1) (by omega)).trans ?_
    have hd : ∀ k, k < t → R' (42 + k) = 0 ∨ R' (42 + k) = 1 := fun k hk => by rw [← (d3.2.1 k hk).2]; exact (g2.2.1 k hk).2
    show f_X11_ahead_53 (f' + 1) (z : Int) w (z : Int) N = _
    rw [f_X11_ahead_53, if_pos (by omega), r_doneIn htN ht12 d2 hd (by omega), f_bs, r_sum6 hnN h6 (by omega), f_bs, r_sum0 hnN h6 (by omega), f_bs, q_sm_congr (c := fun p => N 533 p) (d := fun p => X p) (fun i hi => by rw [d2 i (by omega)]; exact (d3.1 i hi).1.symm), q_sm_congr (c := fun p => N 533 (6 + p)) (d := fun p => X (6 + p)) (fun i hi => by rw [d2 (6 + i) (by omega)]; exact (d3.1 i hi).2.1.symm), ← q_ag_dn d3, ← hv]
    by_cases h0 : w = 0
    · rw [if_neg (not_not_intro h0), if_pos h0]
    · rw [if_pos h0, if_neg h0]
      by_cases h1 : w = 1
      · rw [if_neg (not_not_intro h1), if_pos h1]
      · rw [if_pos h1, if_neg h1]
theorem o_loses {F : Nat} (hF : 1000 < F) (p : Int) : q_o2 (f_X10_loses F p) (f_X11_loses F p) k_c1 := by
  intro M k
  have k' := k
  obtain ⟨n, m, t, wa, sk, wo, ow, fi, l, cw, cv, L, hB⟩ := k'
  have hT : q_T n m t wa sk wo ow fi M := hB.1
  have h6 := hT.1
  have hm := hT.2.1
  have ht12 := hT.2.2.1
  have hn := hT.2.2.2.2.2.2.1
  have hC : q_cn n t L M := hB.2.2.2.2.2.1.1
  have hLB : q_LB n t L := hB.2.2.2.2.2.1.2.2
  by_cases hp : ¬ (0 ≤ p ∧ p ≤ 99)
  · refine q_ref1 (b := 0) (c := 1) k rfl (by decide) ?_ ?_
    · unfold f_X10_loses
      rw [r_nw, if_neg hp, f_tr]
    · unfold f_X11_loses
      rw [r_in, f_bs, if_neg hp, if_neg (by decide), r_bada rfl (by decide), f_bs, if_neg (by decide)]
      rfl
  replace hp := Classical.not_not.mp hp
  obtain ⟨z, hz, rfl⟩ := q_nat (n := 100) (p := p) (by omega)
  obtain ⟨M1, g1, g2, g3⟩ := rr_try hT hC (q_LB_r hLB) z (by omega)
  have f1 : ∀ a j, ¬ q_sca a → M1 a j = M a j := fun a j ha => g3 a j (by unfold q_sca at ha; omega)
  generalize hX : q_wki n m t wa sk wo ow fi L z = X at g2
  have hB2 := q_B_f (q_fr_b (v := e_w (X 54 - L 54)) f1) hB
  obtain ⟨N0, c1, c2, c3⟩ := r_copies (M := e_up (e_up M1 557 0 (e_w (X 54 - L 54))) 64 0 0) (q0 := 532) (q1 := 533) (by decide)
  have hT0 : q_T n m t wa sk wo ow fi N0 := q_T_f (fun a j z => c3 a j (by unfold q_F3 at z; omega)) hB2.1
  have hr0 : q_ml N0 533 L := fun j hj => (c2 j hj).trans (hB2.2.2.2.2.2.1.2.1 j hj)
  obtain ⟨N, R', d1, d2, d3, d4⟩ := r_wks (fun f N i => f_X11_loses_44 f (z : Int) i N) z (fun i N N' hi hN f hf => by
    rw [f_X11_loses_44, if_neg (by omega), hN f (by omega), f_bs, e_ws_ (x := (i : Int) + 1) (by omega) (by omega)]) hT0 hr0 (q_ag.rf (L := L))
  rw [hX] at d3
  refine q_ok (M1 := M1) (M2 := N) (v := e_w (X 54 - L 54)) k ?_ f1 ?_ (fun a j _ _ h3 _ _ _ => (d4 a j h3).trans (c3 a j h3))
  · unfold f_X10_loses
    rw [r_nw, if_pos hp, f_tl, g1 F (by omega), f_bs, g2.2.2.2.1, g3 36 3 (by omega), hC.2.2.2.1]
  · unfold f_X11_loses
    rw [r_in, f_bs, if_pos hp, if_pos (by decide), r_bad0 rfl, f_bs, if_pos rfl, c1 F (by omega), f_bs]
    obtain ⟨f', rfl⟩ : ∃ f', F = (f' + 1) + z * 1 := ⟨F - 1 - z, by omega⟩
    refine (d1 (f' + 1) (by omega)).trans ?_
    show f_X11_loses_44 (f' + 1) (z : Int) (z : Int) N = _
    rw [f_X11_loses_44, if_pos (by omega), d2 54 (by omega), d4 532 54 (by decide), c3 532 54 (by decide), hB2.2.2.2.2.2.1.2.1 54 (by omega), ← d3.2.2.1]
def q_ru (n t : Nat) (wa : Nat → Int) (sk ow : Nat → Nat) (l : Nat) (cw cv L : Nat → Int) : Nat → Nat → Int
  | 0 => L
  | i + 1 => if q_ru n t wa sk ow l cw cv L i (18 + i) = -1 ∧ q_pr n t wa sk ow l cw cv (q_ru n t wa sk ow l cw cv L i) i ≤ q_ru n t wa sk ow l cw cv L i i then q_bu n t wa sk ow l cw cv (q_ru n t wa sk ow l cw cv L i) i else q_ru n t wa sk ow l cw cv L i
theorem q_ru_1 {n t : Nat} {wa : Nat → Int} {sk ow : Nat → Nat} {l : Nat} {cw cv L : Nat → Int} {i : Nat} (h : q_ca n t wa sk ow l cw cv (q_ru n t wa sk ow l cw cv L i) i) : q_ru n t wa sk ow l cw cv L (i + 1) = q_bu n t wa sk ow l cw cv (q_ru n t wa sk ow l cw cv L i) i := if_pos h
theorem q_ru_0 {n t : Nat} {wa : Nat → Int} {sk ow : Nat → Nat} {l : Nat} {cw cv L : Nat → Int} {i : Nat} (h : ¬ q_ca n t wa sk ow l cw cv (q_ru n t wa sk ow l cw cv L i) i) : q_ru n t wa sk ow l cw cv L (i + 1) = q_ru n t wa sk ow l cw cv L i := if_neg h
theorem q_ru_k {n t : Nat} {wa : Nat → Int} {sk ow : Nat → Nat} {l : Nat} {cw cv L : Nat → Int} {q : Nat} (hq : q < 6) : ∀ i j, q < i → i + j ≤ 6 → q_ru n t wa sk ow l cw cv L (i + j) (18 + q) = q_ru n t wa sk ow l cw cv L i (18 + q)
  | i, 0, _, _ => rfl
  | i, j + 1, h, h2 => by
    rw [← q_ru_k hq i j h (by omega)]
    show q_ru n t wa sk ow l cw cv L (i + j + 1) (18 + q) = _
    by_cases c : q_ca n t wa sk ow l cw cv (q_ru n t wa sk ow l cw cv L (i + j)) (i + j)
    · rw [q_ru_1 c]
      unfold q_bu
      rw [q_u_n (by omega), q_u_n (by omega)]
    · rw [q_ru_0 c]
theorem o_rush {F : Nat} (hF : 1000 < F) : q_o1 (f_X10_rush F) (f_X11_rush F) := by
  intro M k
  have k' := k
  obtain ⟨n, m, t, wa, sk, wo, ow, fi, l, cw, cv, L, hB⟩ := k'
  have hT : q_T n m t wa sk wo ow fi M := hB.1
  have h6 := hT.1
  have hm := hT.2.1
  have ht12 := hT.2.2.1
  have hn := hT.2.2.2.2.2.2.1
  have hC : q_cn n t L M := hB.2.2.2.2.2.1.1
  have hLB : q_LB n t L := hB.2.2.2.2.2.1.2.2
  have hLa := hB.2.2.2.1
  obtain ⟨M0, a1, a2, a3⟩ := rr_copy hC h6 ht12
  obtain ⟨A, ⟨b1, b2⟩, hA⟩ := q_run 301 1 n (fun f (A : e_M) i => f_X10_rush_13 f i A) (fun i A => q_cr n t (q_ru n t wa sk ow l cw cv L i) A ∧ ∀ a j, a ≠ 22 → a ≠ 23 → a < 43 ∨ 49 < a → A a j = M a j) (a := M0) (fun i A hi hA => by
    have hTA : q_T n m t wa sk wo ow fi A := q_T_f (fun a j z => hA.2 a j (by unfold q_F3 at z; omega) (by unfold q_F3 at z; omega) (by unfold q_F3 at z; omega)) hT
    have hLA : q_La l cw cv A := q_La_f (fun a j z => hA.2 a j (by unfold q_F4 at z; omega) (by unfold q_F4 at z; omega) (by unfold q_F4 at z; omega)) hLa
    have hby := rr_buy hi hTA hLA hA.1
    by_cases c : q_ca n t wa sk ow l cw cv (q_ru n t wa sk ow l cw cv L i) i
    · obtain ⟨A', c1, c2, c3⟩ := hby.1 c
      refine ⟨A', ⟨?_, fun a j h1 h2 h3 => (c3 a j h1 h2 (by omega) (by omega)).trans (hA.2 a j h1 h2 h3)⟩, fun f hf => ?_⟩
      · rw [q_ru_1 c]; exact c2
      · rw [f_X10_rush_13, if_neg (by rw [hTA.2.2.2.1]; omega), c1 f (by omega), f_bs, e_ws_ (x := (i : Int) + 1) (by omega) (by omega)]
    · obtain ⟨A', c1, c2, c3⟩ := hby.2 c
      refine ⟨A', ⟨?_, fun a j h1 h2 h3 => (c3 a j h1 h2 (by omega) (by omega)).trans (hA.2 a j h1 h2 h3)⟩, fun f hf => ?_⟩
      · rw [q_ru_0 c]; exact c2
      · rw [f_X10_rush_13, if_neg (by rw [hTA.2.2.2.1]; omega), c1 f (by omega), f_bs, e_ws_ (x := (i : Int) + 1) (by omega) (by omega)]) ⟨a2, fun a j _ _ h => a3 a j h⟩
  have f1 : ∀ a j, ¬ q_sca a → A a j = M a j := fun a j ha => b2 a j (by unfold q_sca at ha; omega) (by unfold q_sca at ha; omega) (by unfold q_sca at ha; omega)
  have hB2 := q_B_f (q_fr_b1 f1) hB
  obtain ⟨N0, c1, c2, c3⟩ := r_copies (M := e_up A 64 0 0) (q0 := 532) (q1 := 533) (by decide)
  have hT0 : q_T n m t wa sk wo ow fi N0 := q_T_f (fun a j z => c3 a j (by unfold q_F3 at z; omega)) hB2.1
  have hL0 : q_La l cw cv N0 := q_La_f (fun a j z => c3 a j (by unfold q_F4 at z; omega)) hB2.2.2.2.1
  have hr0 : q_ml N0 533 L := fun j hj => (c2 j hj).trans (hB2.2.2.2.2.2.1.2.1 j hj)
  obtain ⟨⟨v, N⟩, ⟨d1, d2, d3⟩, hN⟩ := q_run 301 1 n (fun f (a : Int × e_M) i => f_X11_rush_20 f a.1 i a.2) (fun i a => a.1 = (q_bs (fun q => !decide (q_ru n t wa sk ow l cw cv L n (18 + q) = -1)) i : Int) ∧ q_ml a.2 533 (q_ru n t wa sk ow l cw cv L i) ∧ ∀ b j, b ≠ 449 → b ≠ 450 → b ≠ 533 → a.2 b j = N0 b j) (a := (0, N0)) (fun i a hi hA => by
    obtain ⟨v, A⟩ := a
    obtain ⟨d1, d2, d3⟩ := hA
    dsimp only at d1 d2 d3
    subst d1
    have hTA : q_T n m t wa sk wo ow fi A := q_T_f (fun a j z => d3 a j (by unfold q_F3 at z; omega) (by unfold q_F3 at z; omega) (by unfold q_F3 at z; omega)) hT0
    have hLA : q_La l cw cv A := q_La_f (fun a j z => d3 a j (by unfold q_F4 at z; omega) (by unfold q_F4 at z; omega) (by unfold q_F4 at z; omega)) hL0
    have hby := r_buys (r := 533) hi hTA hLA d2 (by decide)
    have hst : ∃ A', (∃ x, ∀ f, 300 < f → f_X11_buys 533 f (i : Int) A = some (x, A')) ∧ q_ml A' 533 (q_ru n t wa sk ow l cw cv L (i + 1)) ∧ ∀ a j, a ≠ 449 → a ≠ 450 → a ≠ 533 → A' a j = A a j := by
      by_cases c : q_ca n t wa sk ow l cw cv (q_ru n t wa sk ow l cw cv L i) i
      · obtain ⟨A', c1, c2, c3⟩ := hby.1 c
        refine ⟨A', ⟨1, c1⟩, ?_, c3⟩
        rw [q_ru_1 c]; exact c2
      · obtain ⟨A', c1, c2, c3⟩ := hby.2 c
        refine ⟨A', ⟨0, c1⟩, ?_, c3⟩
        rw [q_ru_0 c]; exact c2
    obtain ⟨A', ⟨x, e1⟩, e2, e3⟩ := hst
    have hbit : A' 533 (18 + i) = q_ru n t wa sk ow l cw cv L n (18 + i) := by
      rw [e2 (18 + i) (by omega), ← q_ru_k (q := i) (by omega) (i + 1) (n - (i + 1)) (by omega) (by omega), show i + 1 + (n - (i + 1)) = n by omega]
    refine ⟨(((q_bs (fun q => !decide (q_ru n t wa sk ow l cw cv L n (18 + q) = -1)) (i + 1) : Nat) : Int), A'), ⟨rfl, e2, fun b j h1 h2 h3 => (e3 b j h1 h2 h3).trans (d3 b j h1 h2 h3)⟩, fun f hf => ?_⟩
    dsimp only
    rw [f_X11_rush_20, if_neg (by rw [hTA.2.2.2.2.2.2.1]; omega), e1 f (by omega), f_bs, r_sold (by omega), f_bs, hbit, e_ws_ (x := (i : Int) + 1) (by omega) (by omega)]
    by_cases c : q_ru n t wa sk ow l cw cv L n (18 + i) = -1
    · rw [if_pos c, if_pos rfl, q_or0 (q_bs_31 (by omega)), q_bs_f (by simp [c])]
    · rw [if_neg c, if_neg (by decide), q_bs_t (c := fun q => !decide (q_ru n t wa sk ow l cw cv L n (18 + q) = -1)) (by simp [c]) (by omega)]) ⟨rfl, hr0, fun _ _ _ _ _ => rfl⟩
  dsimp only at d1 d2 d3
  subst d1
  have hAn : A 4 0 = (n : Int) := by rw [b2 4 0 (by decide) (by decide) (by omega)]; exact hT.2.2.2.1
  obtain ⟨f', rfl⟩ : ∃ f', F = (f' + 1) + n * 1 := ⟨F - 1 - n, by omega⟩
  refine q_ok1 (M1 := A) (M2 := N) (v := (q_bs (fun q => !decide (q_ru n t wa sk ow l cw cv L n (18 + q) = -1)) n : Int)) k ?_ f1 ?_ (fun a j h1 h2 h3 _ _ _ => (d3 a j h1 h2 h3).trans (c3 a j h3))
  · unfold f_X10_rush
    rw [a1, f_bs]
    refine (hA (f' + 1) (by omega)).trans ?_
    show f_X10_rush_13 (f' + 1) (n : Int) A = _
    rw [f_X10_rush_13, if_pos (by omega), rr_bb hAn h6 (by omega), f_bs, q_bs_congr (c := fun p => !decide (A 47 p = -1)) (d := fun q => !decide (q_ru n t wa sk ow l cw cv L n (18 + q) = -1)) (fun i hi => by rw [(b1.1 i hi).2.2.2.1])]
  · unfold f_X11_rush
    rw [c1 _ (by omega), f_bs]
    refine (hN (f' + 1) (by omega)).trans ?_
    show f_X11_rush_20 (f' + 1) _ (n : Int) N = _
    rw [f_X11_rush_20, if_pos (by rw [d3 68 0 (by decide) (by decide) (by decide), hT0.2.2.2.2.2.2.1]; omega)]
