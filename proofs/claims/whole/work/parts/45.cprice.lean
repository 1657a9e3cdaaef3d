/-! PURE 5: the class's prices -/
theorem q_pc_c1 {n p : Nat} {c : Nat → Bool} (hn : n ≤ 6) : q_pc (q_an (q_bs c n) (2 ^ p)) = q_ct (fun q => !decide (q = p) && c q) n := by
  have h1 : q_an (q_bs c n) (2 ^ p) < 2 ^ 6 := q_an_lt (Nat.lt_of_lt_of_le q_bs_lt (Nat.pow_le_pow_right (by omega) hn))
  rw [q_pc_n h1 (by omega), q_ct_z (n := n) hn]
  · apply q_ct_congr
    intro i hi
    rw [q_an_tb, q_bs_tbc hi, Nat.testBit_two_pow]
    by_cases hp : i = p
    · subst hp; simp
    · have : decide (p = i) = false := by simp; omega
      simp [this, hp]
  · intro i h1 h2
    rw [q_an_tb]
    have : (q_bs c n).testBit i = false := q_tlt q_bs_lt h1
    rw [this]; rfl
theorem q_or_c2 {n p : Nat} {c : Nat → Bool} {sk : Nat → Nat} : q_or (fun q => (q_an (q_an (2 ^ n - 1) (2 ^ p)) (q_an (q_bs c n) (2 ^ p))).testBit q) sk n = q_or (fun q => !decide (q = p) && !c q) sk n := by
  apply q_or_congr
  intro i hi
  refine ⟨?_, fun _ => rfl⟩
  rw [q_an_tb, q_an_tb, q_an_tb, q_bs_tbc hi, Nat.testBit_two_pow_sub_one, Nat.testBit_two_pow]
  by_cases hp : i = p
  · subst hp; simp
  · have : decide (p = i) = false := by simp; omega
    simp [this, hp, hi]
section CP
variable {n m t : Nat} {wa : Nat → Int} {sk : Nat → Nat} {wo : Nat → Int} {ow : Nat → Nat} {fi : Nat → Int} {l : Nat} {cw cv L : Nat → Int} {M : e_M}
theorem q_dn_lt {L : Nat → Int} {t : Nat} (h : t ≤ 12) : q_bs (q_dn L) t < 2147483648 := Nat.lt_of_lt_of_le q_bs_lt (Nat.le_trans (Nat.pow_le_pow_right (by omega) h) (by decide))
theorem vn_a (M : e_M) (k j : Nat) (v : Int) : e_up M 23 k v 37 j = M 37 j := rfl
theorem vn_b (M : e_M) (k j : Nat) (v : Int) : e_up M 23 k v 39 j = M 39 j := rfl
theorem vn_c (M : e_M) (k j : Nat) (v : Int) : e_up M 23 k v 36 j = M 36 j := rfl
theorem vr_a (M : e_M) (k j : Nat) (v : Int) : e_up M 23 k v 44 j = M 44 j := rfl
theorem vr_b (M : e_M) (k j : Nat) (v : Int) : e_up M 23 k v 46 j = M 46 j := rfl
theorem vr_c (M : e_M) (k j : Nat) (v : Int) : e_up M 23 k v 43 j = M 43 j := rfl
theorem v_6 (M : e_M) (k j : Nat) (v : Int) : e_up M 23 k v 6 j = M 6 j := rfl
theorem v_7 (M : e_M) (k j : Nat) (v : Int) : e_up M 23 k v 7 j = M 7 j := rfl
theorem q_T_23 {k : Nat} {v : Int} (hT : q_T n m t wa sk wo ow fi M) : q_T n m t wa sk wo ow fi (e_up M 23 k v) := q_T_f (fun a j z => u_r (by unfold q_F3 at z; omega)) hT
theorem rn_tn {p f : Nat} (hT : q_T n m t wa sk wo ow fi M) (hC : q_cn n t L M) (hf : 12 < f) : f_X3_tasksNow_now f (p : Int) M = some ((q_ct (fun k => decide (ow k = p) && (decide (L (42 + k) = 0) && decide (L (30 + k) = L 55))) t : Int), M) := by
  have ht := hT.2.2.2.2.2.1
  have ht12 := hT.2.2.1
  refine q_sq (fun f s i => f_X3_tasksNow_now_4 f (p : Int) s i M) (fun i => (q_ct (fun k => decide (ow k = p) && (decide (L (42 + k) = 0) && decide (L (30 + k) = L 55))) i : Int)) t _ (fun f i hi => ?_) (fun f => ?_) f (by omega)
  · have hk := (hT.2.2.2.2.2.2.2.2.2.2.2 i hi).1
    have hL2 := hC.2.1 i hi
    rw [f_X3_tasksNow_now_4, if_neg (by omega), e_ws_ (x := (i : Int) + 1) (by omega) (by omega), if_pos (by omega), Int.toNat_natCast, hk]
    by_cases ho : ow i = p
    · rw [if_neg (not_not_intro (by omega)), rn_falls (D := q_bs (q_dn L) t) hC.2.2.2.2 (q_dn_lt ht12) (by omega), f_bs, hL2.1, hC.2.2.1, q_bs_tbc hi]
      by_cases hc : L (42 + i) = 0 ∧ L (30 + i) = L 55
      · have hcc : L (30 + i) = L 55 ∧ q_dn L i = false := ⟨hc.2, by unfold q_dn; rw [hc.1]; rfl⟩
        rw [if_pos hcc, if_neg (by decide), q_cti1 (c := fun k => decide (ow k = p) && (decide (L (42 + k) = 0) && decide (L (30 + k) = L 55))) (n := i) (by omega) (by simp [ho, hc])]
      · have hcc : ¬ (L (30 + i) = L 55 ∧ q_dn L i = false) := fun q => hc ⟨by have h1 := q.2; unfold q_dn at h1; have h2 := of_decide_eq_false h1; have h3 := hL2.2; omega, q.1⟩
        rw [if_neg hcc, if_pos rfl, q_ct_0 (c := fun k => decide (ow k = p) && (decide (L (42 + k) = 0) && decide (L (30 + k) = L 55))) (n := i) (by simp only [ho]; simpa using hc)]
    · rw [if_pos (by omega), q_ct_0 (c := fun k => decide (ow k = p) && (decide (L (42 + k) = 0) && decide (L (30 + k) = L 55))) (n := i) (by simp [ho])]
  · rw [f_X3_tasksNow_now_4, if_pos (by omega)]
theorem rn_price {p : Nat} (hp : p < n) (hT : q_T n m t wa sk wo ow fi M) (hLa : q_La l cw cv M) (hC : q_cn n t L M) : ∃ M', (∀ f, 300 < f → f_X3_priceFor_now f (p : Int) M = some (q_pr n t wa sk ow l cw cv L p, M')) ∧ ∀ a j, a ≠ 22 → a ≠ 23 → M' a j = M a j := by
  have h0 := hT.2.2.2.1
  have h6 := hT.1
  have hpp : (2 : Nat) ^ n ≤ 2 ^ 6 := Nat.pow_le_pow_right (by omega) h6
  have hB : q_bs (fun p => !decide (M 40 p = -1)) n < 64 := Nat.lt_of_lt_of_le q_bs_lt hpp
  have hs : ∀ q, q < n → M 7 q = (sk q : Int) ∧ sk q < 2 ^ 6 := fun q hq => ⟨(hT.2.2.2.2.2.2.2.2.2.1 q hq).2.2.2.2.1, q_sk6 hT hq⟩
  have hCp := hC.1 p hp
  have hx1 : q_an (q_bs (fun p => !decide (M 40 p = -1)) n) (2 ^ p) < 64 := q_an_lt (k := 6) hB
  have hx2 : q_an (q_an (2 ^ n - 1) (2 ^ p)) (q_an (q_bs (fun p => !decide (M 40 p = -1)) n) (2 ^ p)) < 64 := q_an_lt (k := 6) (q_an_lt (k := 6) (by omega))
  have ec : q_ct (fun q => !decide (q = p) && !decide (M 40 q = -1)) n = q_ct (fun q => !decide (q = p) && !decide (L (18 + q) = -1)) n := q_ct_congr (fun i hi => by rw [(hC.1 i hi).2.2.2.1])
  have eo : q_or (fun q => !decide (q = p) && !!decide (M 40 q = -1)) sk n = q_or (fun q => !decide (q = p) && decide (L (18 + q) = -1)) sk n := q_or_congr (fun i hi => ⟨by rw [(hC.1 i hi).2.2.2.1, Bool.not_not], fun _ => rfl⟩)
  have hx3 : q_an (sk p) (q_or (fun q => !decide (q = p) && decide (L (18 + q) = -1)) sk n) < 64 := q_an_lt (k := 6) (hs p hp).2
  obtain ⟨M', g1, g2⟩ := r_seen (M := e_up (e_up (e_up (e_up (e_up (e_up (e_up (e_up M 23 0 (M 36 2)) 23 1 (q_kn n t wa sk ow L p 1)) 23 2 (M 39 p)) 23 3 (M 37 p)) 23 4 (M 6 p)) 23 5 (q_kn n t wa sk ow L p 5)) 23 6 (q_kn n t wa sk ow L p 6)) 23 7 (p : Int)) (l := l) (cw := cw) (cv := cv) (kn := q_kn n t wa sk ow L p) (q_La_wf hLa) hLa.2.1 (fun k hk => (hLa.2.2.2 k hk).2.2.1) (fun j hj => by
      have hc : j = 0 ∨ j = 1 ∨ j = 2 ∨ j = 3 ∨ j = 4 ∨ j = 5 ∨ j = 6 ∨ j = 7 := by omega
      rcases hc with rfl | rfl | rfl | rfl | rfl | rfl | rfl | rfl
      · exact hC.2.2.1
      · rfl
      · exact hCp.2.2.1
      · exact hCp.1
      · exact (hT.2.2.2.2.2.2.2.2.2.1 p hp).1
      · rfl
      · rfl
      · rfl)
  refine ⟨M', fun f hf => ?_, fun a j h1 h2 => ?_⟩
  · unfold f_X3_priceFor_now f_X10_bitsBelow
    rw [rn_bb h0 h6 (by omega), f_bs, f_bs, h0, q_bb (by omega), q_sh (by omega), q_andn (by omega), q_andn (by omega), q_andn (by have := q_an_lt (a := 2 ^ n - 1) (b := 2 ^ p) (k := 6) (by omega); omega), q_bc (by omega), f_bs, if_pos (by omega), if_pos (by omega), if_pos (by omega), if_pos (by omega), r_skof (by exact h0) h6 (by omega) (by exact hs) (by omega), f_bs, q_or_c2, q_pc_c1 h6, ec, eo]
    simp only [vn_a, vn_b, vn_c, v_6, v_7, Int.toNat_natCast]
    rw [(hs p hp).1, q_andn (by have := (hs p hp).2; omega), q_bc (by omega), f_bs, rn_tn (n := n) (m := m) (t := t) (wa := wa) (sk := sk) (wo := wo) (ow := ow) (fi := fi) (L := L) (by (repeat apply q_T_23); exact hT) (by exact hC) (by omega), f_bs]
    exact congrArg (fun w => f_b w fun rr7 NN8 => some (rr7, NN8)) (g1 f (by omega))
  · rw [g2 a j h1, u_r h2, u_r h2, u_r h2, u_r h2, u_r h2, u_r h2, u_r h2, u_r h2]
theorem rr_tn {p f : Nat} (hT : q_T n m t wa sk wo ow fi M) (hC : q_cr n t L M) (hf : 12 < f) : f_X3_tasksNow_trial f (p : Int) M = some ((q_ct (fun k => decide (ow k = p) && (decide (L (42 + k) = 0) && decide (L (30 + k) = L 55))) t : Int), M) := by
  have ht := hT.2.2.2.2.2.1
  have ht12 := hT.2.2.1
  refine q_sq (fun f s i => f_X3_tasksNow_trial_4 f (p : Int) s i M) (fun i => (q_ct (fun k => decide (ow k = p) && (decide (L (42 + k) = 0) && decide (L (30 + k) = L 55))) i : Int)) t _ (fun f i hi => ?_) (fun f => ?_) f (by omega)
  · have hk := (hT.2.2.2.2.2.2.2.2.2.2.2 i hi).1
    have hL2 := hC.2.1 i hi
    rw [f_X3_tasksNow_trial_4, if_neg (by omega), e_ws_ (x := (i : Int) + 1) (by omega) (by omega), if_pos (by omega), Int.toNat_natCast, hk]
    by_cases ho : ow i = p
    · rw [if_neg (not_not_intro (by omega)), rr_falls (D := q_bs (q_dn L) t) hC.2.2.2.2 (q_dn_lt ht12) (by omega), f_bs, hL2.1, hC.2.2.1, q_bs_tbc hi]
      by_cases hc : L (42 + i) = 0 ∧ L (30 + i) = L 55
      · have hcc : L (30 + i) = L 55 ∧ q_dn L i = false := ⟨hc.2, by unfold q_dn; rw [hc.1]; rfl⟩
        rw [if_pos hcc, if_neg (by decide), q_cti1 (c := fun k => decide (ow k = p) && (decide (L (42 + k) = 0) && decide (L (30 + k) = L 55))) (n := i) (by omega) (by simp [ho, hc])]
      · have hcc : ¬ (L (30 + i) = L 55 ∧ q_dn L i = false) := fun q => hc ⟨by have h1 := q.2; unfold q_dn at h1; have h2 := of_decide_eq_false h1; have h3 := hL2.2; omega, q.1⟩
        rw [if_neg hcc, if_pos rfl, q_ct_0 (c := fun k => decide (ow k = p) && (decide (L (42 + k) = 0) && decide (L (30 + k) = L 55))) (n := i) (by simp only [ho]; simpa using hc)]
    · rw [if_pos (by omega), q_ct_0 (c := fun k => decide (ow k = p) && (decide (L (42 + k) = 0) && decide (L (30 + k) = L 55))) (n := i) (by simp [ho])]
  · rw [f_X3_tasksNow_trial_4, if_pos (by omega)]
theorem rr_price {p : Nat} (hp : p < n) (hT : q_T n m t wa sk wo ow fi M) (hLa : q_La l cw cv M) (hC : q_cr n t L M) : ∃ M', (∀ f, 300 < f → f_X3_priceFor_trial f (p : Int) M = some (q_pr n t wa sk ow l cw cv L p, M')) ∧ ∀ a j, a ≠ 22 → a ≠ 23 → M' a j = M a j := by
  have h0 := hT.2.2.2.1
  have h6 := hT.1
  have hpp : (2 : Nat) ^ n ≤ 2 ^ 6 := Nat.pow_le_pow_right (by omega) h6
  have hB : q_bs (fun p => !decide (M 47 p = -1)) n < 64 := Nat.lt_of_lt_of_le q_bs_lt hpp
  have hs : ∀ q, q < n → M 7 q = (sk q : Int) ∧ sk q < 2 ^ 6 := fun q hq => ⟨(hT.2.2.2.2.2.2.2.2.2.1 q hq).2.2.2.2.1, q_sk6 hT hq⟩
  have hCp := hC.1 p hp
  have hx1 : q_an (q_bs (fun p => !decide (M 47 p = -1)) n) (2 ^ p) < 64 := q_an_lt (k := 6) hB
  have hx2 : q_an (q_an (2 ^ n - 1) (2 ^ p)) (q_an (q_bs (fun p => !decide (M 47 p = -1)) n) (2 ^ p)) < 64 := q_an_lt (k := 6) (q_an_lt (k := 6) (by omega))
  have ec : q_ct (fun q => !decide (q = p) && !decide (M 47 q = -1)) n = q_ct (fun q => !decide (q = p) && !decide (L (18 + q) = -1)) n := q_ct_congr (fun i hi => by rw [(hC.1 i hi).2.2.2.1])
  have eo : q_or (fun q => !decide (q = p) && !!decide (M 47 q = -1)) sk n = q_or (fun q => !decide (q = p) && decide (L (18 + q) = -1)) sk n := q_or_congr (fun i hi => ⟨by rw [(hC.1 i hi).2.2.2.1, Bool.not_not], fun _ => rfl⟩)
  have hx3 : q_an (sk p) (q_or (fun q => !decide (q = p) && decide (L (18 + q) = -1)) sk n) < 64 := q_an_lt (k := 6) (hs p hp).2
  obtain ⟨M', g1, g2⟩ := r_seen (M := e_up (e_up (e_up (e_up (e_up (e_up (e_up (e_up M 23 0 (M 43 2)) 23 1 (q_kn n t wa sk ow L p 1)) 23 2 (M 46 p)) 23 3 (M 44 p)) 23 4 (M 6 p)) 23 5 (q_kn n t wa sk ow L p 5)) 23 6 (q_kn n t wa sk ow L p 6)) 23 7 (p : Int)) (l := l) (cw := cw) (cv := cv) (kn := q_kn n t wa sk ow L p) (q_La_wf hLa) hLa.2.1 (fun k hk => (hLa.2.2.2 k hk).2.2.1) (fun j hj => by
      have hc : j = 0 ∨ j = 1 ∨ j = 2 ∨ j = 3 ∨ j = 4 ∨ j = 5 ∨ j = 6 ∨ j = 7 := by omega
      rcases hc with rfl | rfl | rfl | rfl | rfl | rfl | rfl | rfl
      · exact hC.2.2.1
      · rfl
      · exact hCp.2.2.1
      · exact hCp.1
      · exact (hT.2.2.2.2.2.2.2.2.2.1 p hp).1
      · rfl
      · rfl
      · rfl)
  refine ⟨M', fun f hf => ?_, fun a j h1 h2 => ?_⟩
  · unfold f_X3_priceFor_trial f_X10_bitsBelow
    rw [rr_bb h0 h6 (by omega), f_bs, f_bs, h0, q_bb (by omega), q_sh (by omega), q_andn (by omega), q_andn (by omega), q_andn (by have := q_an_lt (a := 2 ^ n - 1) (b := 2 ^ p) (k := 6) (by omega); omega), q_bc (by omega), f_bs, if_pos (by omega), if_pos (by omega), if_pos (by omega), if_pos (by omega), r_skof (by exact h0) h6 (by omega) (by exact hs) (by omega), f_bs, q_or_c2, q_pc_c1 h6, ec, eo]
    simp only [vr_a, vr_b, vr_c, v_6, v_7, Int.toNat_natCast]
    rw [(hs p hp).1, q_andn (by have := (hs p hp).2; omega), q_bc (by omega), f_bs, rr_tn (n := n) (m := m) (t := t) (wa := wa) (sk := sk) (wo := wo) (ow := ow) (fi := fi) (L := L) (by (repeat apply q_T_23); exact hT) (by exact hC) (by omega), f_bs]
    exact congrArg (fun w => f_b w fun rr7 NN8 => some (rr7, NN8)) (g1 f (by omega))
  · rw [g2 a j h1, u_r h2, u_r h2, u_r h2, u_r h2, u_r h2, u_r h2, u_r h2, u_r h2]
end CP
