/-! OPERATIONS, 12: share, stay -/
theorem q_sm_nn {c : Nat → Int} : ∀ {n : Nat}, n ≤ 6 → (∀ i, i < n → 0 ≤ c i ∧ c i ≤ 3000) → q_sm c n = q_zs c n ∧ 0 ≤ q_zs c n ∧ q_zs c n ≤ 3000 * (n : Int)
  | 0, _, _ => ⟨rfl, Int.le_refl _, Int.le_refl _⟩
  | n + 1, hn, h => by
    obtain ⟨h1, h2, h3⟩ := q_sm_nn (n := n) (by omega) (fun i hi => h i (by omega))
    have h4 := h n (by omega)
    refine ⟨?_, ?_, ?_⟩
    · show e_w (q_sm c n + c n) = q_zs c n + c n
      rw [h1, e_ws_ (by omega) (by omega)]
    · show 0 ≤ q_zs c n + c n
      omega
    · show q_zs c n + c n ≤ 3000 * ((n + 1 : Nat) : Int)
      omega
theorem q_zs_mono {c d : Nat → Int} : ∀ {n : Nat}, (∀ i, i < n → c i ≤ d i) → q_zs c n ≤ q_zs d n
  | 0, _ => Int.le_refl _
  | n + 1, h => by
    have h1 := q_zs_mono (n := n) (fun i hi => h i (by omega))
    have h2 := h n (by omega)
    show q_zs c n + c n ≤ q_zs d n + d n
    omega
def q_sS (n x : Nat) (L : Nat → Int) (b : Int) : Int := q_sm (fun q => if x.testBit q then min b (L (6 + q)) else 0) n
theorem q_sS_mono {n x : Nat} {L : Nat → Int} {b d : Int} (hn : n ≤ 6) (hL : ∀ i, i < n → 0 ≤ L (6 + i) ∧ L (6 + i) ≤ 2100) (hb : 0 ≤ b) (h : b ≤ d) : q_sS n x L b ≤ q_sS n x L d := by
  unfold q_sS
  have key : ∀ b, 0 ≤ b → ∀ i, i < n → 0 ≤ (if x.testBit i then min b (L (6 + i)) else 0) ∧ (if x.testBit i then min b (L (6 + i)) else 0) ≤ 3000 := fun b hb i hi => by
    have := hL i hi
    split <;> omega
  rw [(q_sm_nn hn (key b hb)).1, (q_sm_nn hn (key d (by omega))).1]
  refine q_zs_mono (fun i hi => ?_)
  have := hL i hi
  split <;> omega
theorem q_sS_0 {n x : Nat} {L : Nat → Int} (hn : n ≤ 6) (hL : ∀ i, i < n → 0 ≤ L (6 + i) ∧ L (6 + i) ≤ 2100) : q_sS n x L 0 = 0 := by
  unfold q_sS
  have e : q_sm (fun q => if x.testBit q then min 0 (L (6 + q)) else 0) n = q_sm (fun _ => 0) n := q_sm_congr (fun i hi => by
    have := hL i hi
    split <;> omega)
  rw [e]
  clear hn hL e
  induction n with
  | zero => rfl
  | succ n ih =>
    show e_w (q_sm (fun _ => 0) n + 0) = 0
    rw [ih]; rfl
theorem r_gvb {M : e_M} {n x f : Nat} {L : Nat → Int} {b : Int} (h0 : M 68 0 = (n : Int)) (h6 : n ≤ 6) (hx : x < 2147483648) (hR : q_ml M 532 L) (hf : 6 < f) : f_X11_givenBy f (x : Int) b M = some (q_sS n x L b, M) := by
  unfold q_sS
  refine q_sq (fun f s i => f_X11_givenBy_5 f (x : Int) b s i M) (q_sm (fun q => if x.testBit q then min b (L (6 + q)) else 0)) n _ (fun f i hi => ?_) (fun f => ?_) f (by omega)
  · rw [f_X11_givenBy_5, if_neg (by omega), r_has hx (by omega), f_bs, e_ws_ (x := (i : Int) + 1) (by omega) (by omega), e_ws_ (x := 6 + (i : Int)) (by omega) (by omega), if_pos (show 0 ≤ 6 + (i : Int) ∧ 6 + (i : Int) < 56 by omega), q_t6, hR (6 + i) (by omega), r_less, f_bs]
    by_cases c : x.testBit i = true
    · rw [if_pos c, if_neg (by decide), q_sm_1, if_pos c]
    · rw [if_neg c, if_pos rfl, q_sm_1, if_neg c]
  · rw [f_X11_givenBy_5, if_pos (by omega)]
theorem q_dut {M : e_M} {n m t x f : Nat} {wa : Nat → Int} {sk : Nat → Nat} {wo : Nat → Int} {ow : Nat → Nat} {fi L : Nat → Int} {b : Int} (hT : q_T n m t wa sk wo ow fi M) (hC : q_cn n t L M) (hx : x < 2147483648) (hf : 6 < f) : f_X3_daysUpTo_now f b (x : Int) M = some (q_sS n x L b, M) := by
  rw [rn_dut hT.2.2.2.1 hT.1 hx hf]
  unfold q_sS
  rw [q_sm_congr (d := fun q => if x.testBit q then min b (L (6 + q)) else 0) (fun i hi => by rw [(hC.1 i hi).2.1])]
theorem q_bin {M : e_M} {n m t x p : Nat} {wa : Nat → Int} {sk : Nat → Nat} {wo : Nat → Int} {ow : Nat → Nat} {fi L : Nat → Int} {z most : Int} (hT : q_T n m t wa sk wo ow fi M) (hC : q_cn n t L M) (hx : x < 2147483648) (hp : p < n) (hmo : most ≤ 2100) : ∀ (j : Nat) (lo hi : Int) (turn : Nat), hi - lo < 2 ^ j → turn + j ≤ 32 → 0 ≤ lo → lo ≤ hi → hi ≤ most → q_sS n x L lo ≤ z → (hi = most ∨ z < q_sS n x L (hi + 1)) → ∃ lo', (0 ≤ lo' ∧ lo' ≤ most ∧ q_sS n x L lo' ≤ z ∧ (lo' = most ∨ z < q_sS n x L (lo' + 1))) ∧ ∀ f, j + 10 < f → f_X10_share_55 f (p : Int) (x : Int) z lo hi (turn : Int) M = some (.inl (min (L (6 + p)) lo'), M) := by
  have h6 := hT.1
  intro j
  have hend : ∀ (lo hi : Int) (turn : Nat), hi ≤ lo → turn ≤ 32 → ∀ f, f_X10_share_55 (f + 1) (p : Int) (x : Int) z lo hi (turn : Int) M = some (.inl (min (L (6 + p)) lo), M) := by
    intro lo hi turn h1 h2 f
    rw [f_X10_share_55, if_pos h1, if_pos (show 0 ≤ (p : Int) ∧ (p : Int) < 6 by omega), Int.toNat_natCast, (hC.1 p hp).2.1]
    split <;> rfl
  induction j with
  | zero =>
    intro lo hi turn h1 h2 h3 h4 h5 h7 h8
    have e : hi = lo := by omega
    subst e
    refine ⟨hi, ⟨h3, h5, h7, h8⟩, fun f hf => ?_⟩
    obtain ⟨f', rfl⟩ : ∃ f', f = f' + 1 := ⟨f - 1, by omega⟩
    exact hend hi hi turn (Int.le_refl _) (by omega) f'
  | succ j ih =>
    intro lo hi turn h1 h2 h3 h4 h5 h7 h8
    by_cases c : hi ≤ lo
    · have e : hi = lo := by omega
      subst e
      refine ⟨hi, ⟨h3, h5, h7, h8⟩, fun f hf => ?_⟩
      obtain ⟨f', rfl⟩ : ∃ f', f = f' + 1 := ⟨f - 1, by omega⟩
      exact hend hi hi turn (Int.le_refl _) (by omega) f'
    · have hpow : (2 : Int) ^ (j + 1) = 2 ^ j * 2 := Int.pow_succ 2 j
      have hmid : e_w (Int.tdiv (e_w (e_w (lo + hi) + 1)) 2) = (lo + hi + 1) / 2 := by
        rw [e_ws_ (x := lo + hi) (by omega) (by omega), e_ws_ (x := lo + hi + 1) (by omega) (by omega), Int.tdiv_eq_ediv_of_nonneg (by omega), e_ws_ (by omega) (by omega)]
      have hst : ∀ f, 10 ≤ f → f_X10_share_55 (f + 1) (p : Int) (x : Int) z lo hi (turn : Int) M = if z < q_sS n x L ((lo + hi + 1) / 2) then f_X10_share_55 f (p : Int) (x : Int) z lo ((lo + hi + 1) / 2 - 1) ((turn + 1 : Nat) : Int) M else f_X10_share_55 f (p : Int) (x : Int) z ((lo + hi + 1) / 2) hi ((turn + 1 : Nat) : Int) M := by
        intro f hf
        rw [f_X10_share_55, if_neg (by omega), if_neg c, hmid, q_dut hT hC hx (by omega), f_bs, e_ws_ (x := (lo + hi + 1) / 2 - 1) (by omega) (by omega), e_ws_ (x := (turn : Int) + 1) (by omega) (by omega)]
        rfl
      by_cases c2 : z < q_sS n x L ((lo + hi + 1) / 2)
      · obtain ⟨lo', hl, hf⟩ := ih lo ((lo + hi + 1) / 2 - 1) (turn + 1) (by omega) (by omega) h3 (by omega) (by omega) h7 (Or.inr (by rw [show (lo + hi + 1) / 2 - 1 + 1 = (lo + hi + 1) / 2 by omega]; exact c2))
        refine ⟨lo', hl, fun f hff => ?_⟩
        obtain ⟨f', rfl⟩ : ∃ f', f = f' + 1 := ⟨f - 1, by omega⟩
        rw [hst f' (by omega), if_pos c2]
        exact hf f' (by omega)
      · obtain ⟨lo', hl, hf⟩ := ih ((lo + hi + 1) / 2) hi (turn + 1) (by omega) (by omega) (by omega) (by omega) h5 (by omega) h8
        refine ⟨lo', hl, fun f hff => ?_⟩
        obtain ⟨f', rfl⟩ : ∃ f', f = f' + 1 := ⟨f - 1, by omega⟩
        rw [hst f' (by omega), if_neg c2]
        exact hf f' (by omega)
theorem o_share {F : Nat} (hF : 3000 < F) (p x z : Int) : q_o2 (f_X10_share F p x z) (f_X11_share F p x z) k_c2 := by
  intro M k
  have k' := k
  obtain ⟨n, m, t, wa, sk, wo, ow, fi, l, cw, cv, L, hB⟩ := k'
  have hT : q_T n m t wa sk wo ow fi M := hB.1
  have h6 := hT.1
  have hm := hT.2.1
  have ht12 := hT.2.2.1
  have hn := hT.2.2.2.2.2.2.1
  have hC : q_cn n t L M := hB.2.2.2.2.2.1.1
  have hLB : q_LB n t L := hB.2.2.2.2.2.1.2.2
  have h2n : (2 : Nat) ^ n ≤ 2 ^ 6 := Nat.pow_le_pow_right (by omega) h6
  have h2p := Nat.two_pow_pos n
  by_cases hp : ¬ (0 ≤ p ∧ p < (n : Int))
  · refine q_ref0 (b := 0) (c := 1) k rfl (by decide) ?_ ?_
    · unfold f_X10_share
      rw [r_np hT.2.2.2.1, if_neg hp, f_tr]
    · unfold f_X11_share f_X11_share_19
      rw [r_isP (n := n) (by exact hn) h6, f_bs, if_neg hp, if_neg (by decide), r_badm rfl (by decide), f_bs, if_pos (by decide)]
      rfl
  replace hp := Classical.not_not.mp hp
  by_cases hx : ¬ (0 ≤ x ∧ x ≤ ((2 ^ n - 1 : Nat) : Int))
  · refine q_ref1 (b := 0) (c := 2) k rfl (by decide) ?_ ?_
    · unfold f_X10_share f_X10_bitsBelow
      rw [r_np hT.2.2.2.1, if_pos hp, f_tl, f_bs, hT.2.2.2.1, q_bb (by omega), r_nw, if_neg hx, f_tr]
    · unfold f_X11_share f_X11_share_19
      rw [r_isP (n := n) (by exact hn) h6, f_bs, if_pos hp, if_pos (by decide), r_bad0 rfl, f_bs, if_neg (by decide), u_r (show (68 : Nat) ≠ 64 by decide), u_r (show (68 : Nat) ≠ 1 by decide), hn, q_bb (by omega), r_in, f_bs, if_neg hx, if_pos rfl, r_bada rfl (by decide), f_bs, if_neg (by decide)]
      rfl
  replace hx := Classical.not_not.mp hx
  by_cases hz : ¬ (0 ≤ z ∧ z ≤ 9999)
  · refine q_ref1 (b := 0) (c := 2) k rfl (by decide) ?_ ?_
    · unfold f_X10_share f_X10_bitsBelow
      rw [r_np hT.2.2.2.1, if_pos hp, f_tl, f_bs, hT.2.2.2.1, q_bb (by omega), r_nw, if_pos hx, f_tl, r_nw, if_neg hz, f_tr]
    · unfold f_X11_share f_X11_share_19
      rw [r_isP (n := n) (by exact hn) h6, f_bs, if_pos hp, if_pos (by decide), r_bad0 rfl, f_bs, if_neg (by decide), u_r (show (68 : Nat) ≠ 64 by decide), u_r (show (68 : Nat) ≠ 1 by decide), hn, q_bb (by omega), r_in, f_bs, if_pos hx, if_neg (by decide), r_in, f_bs, if_neg hz, if_neg (by decide), r_bada rfl (by decide), f_bs, if_neg (by decide)]
      rfl
  replace hz := Classical.not_not.mp hz
  obtain ⟨a, ha, rfl⟩ := q_nat hp
  obtain ⟨y, hy, rfl⟩ := q_nat (n := 2 ^ n) (p := x) (by omega)
  have hy31 : y < 2147483648 := by omega
  have hLd : ∀ i, i < n → 0 ≤ L (6 + i) ∧ L (6 + i) ≤ 2100 := fun i hi => by
    have h1 := hLB.2.2.2.2.1 i hi
    have h2 := hLB.2.1
    omega
  have emx : q_mx (M 38) n = q_mx (fun i => L (6 + i)) n := by
    have : ∀ j, j ≤ n → q_mx (M 38) j = q_mx (fun i => L (6 + i)) j := by
      intro j
      induction j with
      | zero => intro _; rfl
      | succ j ih =>
        intro hj
        show max (q_mx (M 38) j) (M 38 j) = max (q_mx (fun i => L (6 + i)) j) (L (6 + j))
        rw [ih (by omega), (hC.1 j (by omega)).2.1]
    exact this n (Nat.le_refl _)
  have hub := q_mx_ub (c := fun i => L (6 + i)) (b := 2100) (by omega) (n := n) (fun i hi => (hLd i hi).2)
  by_cases hbit : y.testBit a = true
  · obtain ⟨lo', ⟨l1, l2, l3, l4⟩, hl⟩ := q_bin (z := z) (most := q_mx (fun i => L (6 + i)) n) hT hC hy31 ha hub.2 12 0 (q_mx (fun i => L (6 + i)) n) 0 (by omega) (by omega) (Int.le_refl _) hub.1 (Int.le_refl _) (by rw [q_sS_0 h6 hLd]; omega) (Or.inl rfl)
    have hDp := q_mx_le (c := fun i => L (6 + i)) ha
    have hd := hLd a ha
    have hB2 := q_B_f (q_fr_b (M := M) (M1 := M) (v := min (L (6 + a)) lo') (fun _ _ _ => rfl)) hB
    refine q_ok (M1 := M) (v := min (L (6 + a)) lo') k ?_ (fun _ _ _ => rfl) ?_ q_mf.rf
    · unfold f_X10_share f_X10_bitsBelow
      rw [r_np hT.2.2.2.1, if_pos hp, f_tl, f_bs, hT.2.2.2.1, q_bb (by omega), r_nw, if_pos hx, f_tl, r_nw, if_pos hz, f_tl, q_tb hy31 (by omega), if_pos hbit, if_pos (by decide), rn_most hT.2.2.2.1 h6 (by omega), f_bs, emx]
      exact hl F (by omega)
    · unfold f_X11_share f_X11_share_19
      rw [r_isP (n := n) (by exact hn) h6, f_bs, if_pos hp, if_pos (by decide), r_bad0 rfl, f_bs, if_neg (by decide), u_r (show (68 : Nat) ≠ 64 by decide), u_r (show (68 : Nat) ≠ 557 by decide), hn, q_bb (by omega), r_in, f_bs, if_pos hx, if_neg (by decide), r_in, f_bs, if_pos hz, if_pos (by decide), r_bad0 rfl, f_bs, if_pos rfl]
      generalize e_up (e_up M 557 0 (min (L (6 + a)) lo')) 64 0 0 = M' at hB2 ⊢
      have hR : q_ml M' 532 L := hB2.2.2.2.2.2.1.2.1
      have hn' := hB2.1.2.2.2.2.2.2.1
      obtain ⟨g, hg⟩ : ∃ g : Nat, min (L (6 + a)) lo' = (g : Int) := ⟨(min (L (6 + a)) lo').toNat, by omega⟩
      rw [hg]
      refine q_sB 10 (fun f (_ : Unit) i => f_X11_share_75 f (a : Int) (y : Int) z i M') (fun _ => ()) g _ (fun f i hf hi => ?_) (fun f hf => ?_) F (by omega)
      · have hmono := q_sS_mono (x := y) (b := (i : Int) + 1) (d := lo') h6 hLd (by omega) (by omega)
        rw [f_X11_share_75, e_ws_ (x := 6 + (a : Int)) (by omega) (by omega), if_pos (show 0 ≤ 6 + (a : Int) ∧ 6 + (a : Int) < 56 by omega), q_t6, hR (6 + a) (by omega), if_neg (by omega), e_ws_ (x := (i : Int) + 1) (by omega) (by omega), r_gvb hn' h6 hy31 hR (by omega), f_bs, if_neg (by omega)]
      · rw [f_X11_share_75, e_ws_ (x := 6 + (a : Int)) (by omega) (by omega), if_pos (show 0 ≤ 6 + (a : Int) ∧ 6 + (a : Int) < 56 by omega), q_t6, hR (6 + a) (by omega)]
        by_cases c : L (6 + a) ≤ (g : Int)
        · rw [if_pos c, r_has hy31 (by omega), f_bs, if_pos hbit, if_neg (by decide)]
        · have hlo : lo' = (g : Int) := by omega
          rw [if_neg c, e_ws_ (x := (g : Int) + 1) (by omega) (by omega), r_gvb hn' h6 hy31 hR (by omega), f_bs, if_pos (by rw [← hlo]; omega), r_has hy31 (by omega), f_bs, if_pos hbit, if_neg (by decide)]
  · have hB2 := q_B_f (q_fr_b (M := M) (M1 := M) (v := 0) (fun _ _ _ => rfl)) hB
    refine q_ok (M1 := M) (v := 0) k ?_ (fun _ _ _ => rfl) ?_ q_mf.rf
    · unfold f_X10_share f_X10_bitsBelow
      rw [r_np hT.2.2.2.1, if_pos hp, f_tl, f_bs, hT.2.2.2.1, q_bb (by omega), r_nw, if_pos hx, f_tl, r_nw, if_pos hz, f_tl, q_tb hy31 (by omega), if_neg hbit, if_neg (by decide)]
    · unfold f_X11_share f_X11_share_19
      rw [r_isP (n := n) (by exact hn) h6, f_bs, if_pos hp, if_pos (by decide), r_bad0 rfl, f_bs, if_neg (by decide), u_r (show (68 : Nat) ≠ 64 by decide), u_r (show (68 : Nat) ≠ 557 by decide), hn, q_bb (by omega), r_in, f_bs, if_pos hx, if_neg (by decide), r_in, f_bs, if_pos hz, if_pos (by decide), r_bad0 rfl, f_bs, if_pos rfl]
      generalize e_up (e_up M 557 0 0) 64 0 0 = M' at hB2 ⊢
      have hR : q_ml M' 532 L := hB2.2.2.2.2.2.1.2.1
      have hn' := hB2.1.2.2.2.2.2.2.1
      have hd := hLd a ha
      have hstop : ∀ (j : Nat) (i : Nat), i + j = (L (6 + a)).toNat → ∀ f, j + 10 < f → f_X11_share_75 f (a : Int) (y : Int) z (i : Int) M' = some (0, M') := by
        intro j
        induction j with
        | zero =>
          intro i hi f hf
          obtain ⟨f', rfl⟩ : ∃ f', f = f' + 1 := ⟨f - 1, by omega⟩
          rw [f_X11_share_75, e_ws_ (x := 6 + (a : Int)) (by omega) (by omega), if_pos (show 0 ≤ 6 + (a : Int) ∧ 6 + (a : Int) < 56 by omega), q_t6, hR (6 + a) (by omega), if_pos (by omega), r_has hy31 (by omega), f_bs, if_neg hbit, if_pos rfl]
        | succ j ih =>
          intro i hi f hf
          obtain ⟨f', rfl⟩ : ∃ f', f = f' + 1 := ⟨f - 1, by omega⟩
          rw [f_X11_share_75, e_ws_ (x := 6 + (a : Int)) (by omega) (by omega), if_pos (show 0 ≤ 6 + (a : Int) ∧ 6 + (a : Int) < 56 by omega), q_t6, hR (6 + a) (by omega), if_neg (by omega), e_ws_ (x := (i : Int) + 1) (by omega) (by omega), r_gvb hn' h6 hy31 hR (by omega), f_bs]
          by_cases c : z < q_sS n y L ((i : Int) + 1)
          · rw [if_pos c, r_has hy31 (by omega), f_bs, if_neg hbit, if_pos rfl]
          · rw [if_neg c]
            exact ih (i + 1) (by omega) f' (by omega)
      exact hstop (L (6 + a)).toNat 0 (by omega) F (by omega)
