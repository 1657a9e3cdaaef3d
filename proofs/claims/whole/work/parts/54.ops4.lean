/-! OPERATIONS, 4: the first of the least -/
def q_bm (cd : Nat → Bool) (c : Nat → Int) : Nat → Int
  | 0 => -1
  | i + 1 => if cd i then (if q_bm cd c i = -1 then (i : Int) else if c (q_bm cd c i).toNat ≤ c i then q_bm cd c i else (i : Int)) else q_bm cd c i
theorem q_bm_r {cd : Nat → Bool} {c : Nat → Int} : ∀ i, q_bm cd c i = -1 ∨ (0 ≤ q_bm cd c i ∧ q_bm cd c i < (i : Int))
  | 0 => Or.inl rfl
  | i + 1 => by
    have h := q_bm_r (cd := cd) (c := c) i
    show (if cd i then (if q_bm cd c i = -1 then (i : Int) else if c (q_bm cd c i).toNat ≤ c i then q_bm cd c i else (i : Int)) else q_bm cd c i) = -1 ∨ _
    by_cases h1 : cd i = true
    · by_cases h2 : q_bm cd c i = -1
      · right
        show _ ≤ (if cd i then (if q_bm cd c i = -1 then (i : Int) else if c (q_bm cd c i).toNat ≤ c i then q_bm cd c i else (i : Int)) else q_bm cd c i) ∧ (if cd i then (if q_bm cd c i = -1 then (i : Int) else if c (q_bm cd c i).toNat ≤ c i then q_bm cd c i else (i : Int)) else q_bm cd c i) < _
        rw [if_pos h1, if_pos h2]; omega
      · right
        show _ ≤ (if cd i then (if q_bm cd c i = -1 then (i : Int) else if c (q_bm cd c i).toNat ≤ c i then q_bm cd c i else (i : Int)) else q_bm cd c i) ∧ (if cd i then (if q_bm cd c i = -1 then (i : Int) else if c (q_bm cd c i).toNat ≤ c i then q_bm cd c i else (i : Int)) else q_bm cd c i) < _
        rw [if_pos h1, if_neg h2]
        split <;> omega
    · rw [if_neg h1]
      rcases h with h | h
      · exact Or.inl h
      · right
        show _ ≤ (if cd i then (if q_bm cd c i = -1 then (i : Int) else if c (q_bm cd c i).toNat ≤ c i then q_bm cd c i else (i : Int)) else q_bm cd c i) ∧ (if cd i then (if q_bm cd c i = -1 then (i : Int) else if c (q_bm cd c i).toNat ≤ c i then q_bm cd c i else (i : Int)) else q_bm cd c i) < _
        rw [if_neg h1]; omega
theorem q_bm_f {cd : Nat → Bool} {c : Nat → Int} {i : Nat} (h : cd i = false) : q_bm cd c (i + 1) = q_bm cd c i := by
  show (if cd i then _ else _) = _
  rw [h]; rfl
theorem q_bm_n {cd : Nat → Bool} {c : Nat → Int} {i : Nat} (h : cd i = true) (h1 : q_bm cd c i = -1) : q_bm cd c (i + 1) = (i : Int) := by
  show (if cd i then _ else _) = _
  rw [if_pos h, if_pos h1]
theorem q_bm_k {cd : Nat → Bool} {c : Nat → Int} {i : Nat} (h : cd i = true) (h1 : q_bm cd c i ≠ -1) (h2 : c (q_bm cd c i).toNat ≤ c i) : q_bm cd c (i + 1) = q_bm cd c i := by
  show (if cd i then _ else _) = _
  rw [if_pos h, if_neg h1, if_pos h2]
theorem q_bm_t {cd : Nat → Bool} {c : Nat → Int} {i : Nat} (h : cd i = true) (h1 : q_bm cd c i ≠ -1) (h2 : ¬ c (q_bm cd c i).toNat ≤ c i) : q_bm cd c (i + 1) = (i : Int) := by
  show (if cd i then _ else _) = _
  rw [if_pos h, if_neg h1, if_neg h2]
/-- what is told of the one found -/
def q_bv (w b : Int) (c : Nat → Int) : Int := if w = 0 then b else if b = -1 then -1 else c b.toNat
theorem o_youngest {F : Nat} (hF : 300 < F) (w : Int) : q_o2 (f_X10_youngest F w) (f_X11_youngest F w) k_c1 := by
  intro M k
  have k' := k
  obtain ⟨n, m, t, wa, sk, wo, ow, fi, l, cw, cv, L, hB⟩ := k'
  have hT : q_T n m t wa sk wo ow fi M := hB.1
  have h6 := hT.1
  have hm := hT.2.1
  have ht12 := hT.2.2.1
  have hn := hT.2.2.2.2.2.2.1
  have hC : q_cn n t L M := hB.2.2.2.2.2.1.1
  have hLB : q_LB n t L := hB.2.2.2.2.2.1.2.2
  by_cases hw : 0 ≤ w ∧ w ≤ 1
  · have key : f_X10_youngest F w M = some (.inl (q_bv w (q_bm (fun _ => true) (fun p => L (6 + p)) n) (fun p => L (6 + p))), M) := by
      unfold f_X10_youngest
      rw [r_nw, if_pos hw, f_tl]
      refine q_sq (fun f s i => f_X10_youngest_11 f w s i M) (q_bm (fun _ => true) (fun p => L (6 + p))) n _ (fun f i hi => ?_) (fun f => ?_) F (by omega)
      · have hb := q_bm_r (cd := fun _ => true) (c := fun p => L (6 + p)) i
        rw [f_X10_youngest_11, if_neg (by rw [hT.2.2.2.1]; omega), e_ws_ (x := (i : Int) + 1) (by omega) (by omega)]
        by_cases h1 : q_bm (fun _ => true) (fun p => L (6 + p)) i = -1
        · rw [if_pos h1, q_bm_n rfl h1]
        · obtain ⟨b, hb1, hb2⟩ := q_nat (n := i) (p := q_bm (fun _ => true) (fun p => L (6 + p)) i) (by omega)
          rw [if_neg h1, if_pos (show 0 ≤ (i : Int) ∧ (i : Int) < 6 by omega)]
          by_cases h2 : (fun p => L (6 + p)) (q_bm (fun _ => true) (fun p => L (6 + p)) i).toNat ≤ (fun p => L (6 + p)) i
          · rw [q_bm_k rfl h1 h2]
            rw [hb2, Int.toNat_natCast] at h2
            rw [hb2, if_pos (show 0 ≤ (b : Int) ∧ (b : Int) < 6 by omega), Int.toNat_natCast, Int.toNat_natCast, (hC.1 i hi).2.1, (hC.1 b (by omega)).2.1, if_pos (by dsimp only at h2; omega)]
          · rw [q_bm_t rfl h1 h2]
            rw [hb2, Int.toNat_natCast] at h2
            rw [hb2, if_pos (show 0 ≤ (b : Int) ∧ (b : Int) < 6 by omega), Int.toNat_natCast, Int.toNat_natCast, (hC.1 i hi).2.1, (hC.1 b (by omega)).2.1, if_neg (by dsimp only at h2; omega)]
      · have hb := q_bm_r (cd := fun _ => true) (c := fun p => L (6 + p)) n
        rw [f_X10_youngest_11, if_pos (by rw [hT.2.2.2.1]; omega)]
        unfold q_bv
        by_cases h0 : w = 0
        · rw [if_pos h0, if_pos h0]
        · rw [if_neg h0, if_neg h0]
          by_cases h1 : q_bm (fun _ => true) (fun p => L (6 + p)) n = -1
          · rw [if_neg (not_not_intro h1), if_pos h1, h1]
          · obtain ⟨b, hb1, hb2⟩ := q_nat (n := n) (p := q_bm (fun _ => true) (fun p => L (6 + p)) n) (by omega)
            rw [if_pos h1, if_neg h1, hb2, if_pos (show 0 ≤ (b : Int) ∧ (b : Int) < 6 by omega), Int.toNat_natCast, (hC.1 b hb1).2.1]
    have hB2 := q_B_f (q_fr_b (M := M) (M1 := M) (v := q_bv w (q_bm (fun _ => true) (fun p => L (6 + p)) n) (fun p => L (6 + p))) (fun _ _ _ => rfl)) hB
    refine q_ok (M1 := M) k key (fun _ _ _ => rfl) ?_ q_mf.rf
    unfold f_X11_youngest
    rw [r_in, f_bs, if_pos hw, if_pos (by decide), r_bad0 rfl, f_bs, if_pos rfl]
    generalize e_up (e_up M 557 0 (q_bv w (q_bm (fun _ => true) (fun p => L (6 + p)) n) (fun p => L (6 + p)))) 64 0 0 = M' at hB2 ⊢
    have hR : q_ml M' 532 L := hB2.2.2.2.2.2.1.2.1
    have hn' := hB2.1.2.2.2.2.2.2.1
    refine q_sq (fun f s i => f_X11_youngest_34 f w s i M') (q_bm (fun _ => true) (fun p => L (6 + p))) n _ (fun f i hi => ?_) (fun f => ?_) F (by omega)
    · have hb := q_bm_r (cd := fun _ => true) (c := fun p => L (6 + p)) i
      rw [f_X11_youngest_34, if_neg (by omega), e_ws_ (x := (i : Int) + 1) (by omega) (by omega)]
      by_cases h1 : q_bm (fun _ => true) (fun p => L (6 + p)) i = -1
      · rw [if_pos h1, q_bm_n rfl h1]
      · obtain ⟨b, hb1, hb2⟩ := q_nat (n := i) (p := q_bm (fun _ => true) (fun p => L (6 + p)) i) (by omega)
        rw [if_neg h1]
        by_cases h2 : (fun p => L (6 + p)) (q_bm (fun _ => true) (fun p => L (6 + p)) i).toNat ≤ (fun p => L (6 + p)) i
        · rw [q_bm_k rfl h1 h2]
          rw [hb2, Int.toNat_natCast] at h2
          rw [hb2, e_ws_ (x := 6 + (i : Int)) (by omega) (by omega), if_pos (show 0 ≤ 6 + (i : Int) ∧ 6 + (i : Int) < 56 by omega), e_ws_ (x := 6 + (b : Int)) (by omega) (by omega), if_pos (show 0 ≤ 6 + (b : Int) ∧ 6 + (b : Int) < 56 by omega), q_t6, q_t6, hR (6 + i) (by omega), hR (6 + b) (by omega), if_pos (by dsimp only at h2; omega)]
        · rw [q_bm_t rfl h1 h2]
          rw [hb2, Int.toNat_natCast] at h2
          rw [hb2, e_ws_ (x := 6 + (i : Int)) (by omega) (by omega), if_pos (show 0 ≤ 6 + (i : Int) ∧ 6 + (i : Int) < 56 by omega), e_ws_ (x := 6 + (b : Int)) (by omega) (by omega), if_pos (show 0 ≤ 6 + (b : Int) ∧ 6 + (b : Int) < 56 by omega), q_t6, q_t6, hR (6 + i) (by omega), hR (6 + b) (by omega), if_neg (by dsimp only at h2; omega)]
    · have hb := q_bm_r (cd := fun _ => true) (c := fun p => L (6 + p)) n
      rw [f_X11_youngest_34, if_pos (by omega)]
      unfold q_bv
      by_cases h0 : w = 0
      · rw [if_pos h0, if_pos h0]
      · rw [if_neg h0, if_neg h0]
        by_cases h1 : q_bm (fun _ => true) (fun p => L (6 + p)) n = -1
        · rw [if_neg (not_not_intro h1), if_pos h1, h1]
        · obtain ⟨b, hb1, hb2⟩ := q_nat (n := n) (p := q_bm (fun _ => true) (fun p => L (6 + p)) n) (by omega)
          rw [if_pos h1, if_neg h1, hb2, e_ws_ (x := 6 + (b : Int)) (by omega) (by omega), if_pos (show 0 ≤ 6 + (b : Int) ∧ 6 + (b : Int) < 56 by omega), q_t6, Int.toNat_natCast, hR (6 + b) (by omega)]
  · refine q_ref1 (b := 0) (c := 1) k rfl (by decide) ?_ ?_
    · unfold f_X10_youngest
      rw [r_nw, if_neg hw, f_tr]
    · unfold f_X11_youngest
      rw [r_in, f_bs, if_neg hw, if_neg (by decide), r_bada rfl (by decide), f_bs, if_neg (by decide)]
      rfl
theorem o_richest {F : Nat} (hF : 300 < F) (w : Int) : q_o2 (f_X10_richest F w) (f_X11_richest F w) k_c1 := by
  intro M k
  have k' := k
  obtain ⟨n, m, t, wa, sk, wo, ow, fi, l, cw, cv, L, hB⟩ := k'
  have hT : q_T n m t wa sk wo ow fi M := hB.1
  have h6 := hT.1
  have hm := hT.2.1
  have ht12 := hT.2.2.1
  have hn := hT.2.2.2.2.2.2.1
  have hC : q_cn n t L M := hB.2.2.2.2.2.1.1
  have hLB : q_LB n t L := hB.2.2.2.2.2.1.2.2
  by_cases hw : 0 ≤ w ∧ w ≤ 1
  · have key : f_X10_richest F w M = some (.inl (q_bv w (q_bm (fun _ => true) (fun p => -L p) n) (fun p => L p)), M) := by
      unfold f_X10_richest
      rw [r_nw, if_pos hw, f_tl]
      refine q_sq (fun f s i => f_X10_richest_11 f w s i M) (q_bm (fun _ => true) (fun p => -L p)) n _ (fun f i hi => ?_) (fun f => ?_) F (by omega)
      · have hb := q_bm_r (cd := fun _ => true) (c := fun p => -L p) i
        rw [f_X10_richest_11, if_neg (by rw [hT.2.2.2.1]; omega), e_ws_ (x := (i : Int) + 1) (by omega) (by omega)]
        by_cases h1 : q_bm (fun _ => true) (fun p => -L p) i = -1
        · rw [if_pos h1, q_bm_n rfl h1]
        · obtain ⟨b, hb1, hb2⟩ := q_nat (n := i) (p := q_bm (fun _ => true) (fun p => -L p) i) (by omega)
          rw [if_neg h1, if_pos (show 0 ≤ (i : Int) ∧ (i : Int) < 6 by omega)]
          by_cases h2 : (fun p => -L p) (q_bm (fun _ => true) (fun p => -L p) i).toNat ≤ (fun p => -L p) i
          · rw [q_bm_k rfl h1 h2]
            rw [hb2, Int.toNat_natCast] at h2
            rw [hb2, if_pos (show 0 ≤ (b : Int) ∧ (b : Int) < 6 by omega), Int.toNat_natCast, Int.toNat_natCast, (hC.1 i hi).1, (hC.1 b (by omega)).1, if_pos (by dsimp only at h2; omega)]
          · rw [q_bm_t rfl h1 h2]
            rw [hb2, Int.toNat_natCast] at h2
            rw [hb2, if_pos (show 0 ≤ (b : Int) ∧ (b : Int) < 6 by omega), Int.toNat_natCast, Int.toNat_natCast, (hC.1 i hi).1, (hC.1 b (by omega)).1, if_neg (by dsimp only at h2; omega)]
      · have hb := q_bm_r (cd := fun _ => true) (c := fun p => -L p) n
        rw [f_X10_richest_11, if_pos (by rw [hT.2.2.2.1]; omega)]
        unfold q_bv
        by_cases h0 : w = 0
        · rw [if_pos h0, if_pos h0]
        · rw [if_neg h0, if_neg h0]
          by_cases h1 : q_bm (fun _ => true) (fun p => -L p) n = -1
          · rw [if_neg (not_not_intro h1), if_pos h1, h1]
          · obtain ⟨b, hb1, hb2⟩ := q_nat (n := n) (p := q_bm (fun _ => true) (fun p => -L p) n) (by omega)
            rw [if_pos h1, if_neg h1, hb2, if_pos (show 0 ≤ (b : Int) ∧ (b : Int) < 6 by omega), Int.toNat_natCast, (hC.1 b hb1).1]
    have hB2 := q_B_f (q_fr_b (M := M) (M1 := M) (v := q_bv w (q_bm (fun _ => true) (fun p => -L p) n) (fun p => L p)) (fun _ _ _ => rfl)) hB
    refine q_ok (M1 := M) k key (fun _ _ _ => rfl) ?_ q_mf.rf
    unfold f_X11_richest
    rw [r_in, f_bs, if_pos hw, if_pos (by decide), r_bad0 rfl, f_bs, if_pos rfl]
    generalize e_up (e_up M 557 0 (q_bv w (q_bm (fun _ => true) (fun p => -L p) n) (fun p => L p))) 64 0 0 = M' at hB2 ⊢
    have hR : q_ml M' 532 L := hB2.2.2.2.2.2.1.2.1
    have hn' := hB2.1.2.2.2.2.2.2.1
    refine q_sq (fun f s i => f_X11_richest_34 f w s i M') (q_bm (fun _ => true) (fun p => -L p)) n _ (fun f i hi => ?_) (fun f => ?_) F (by omega)
    · have hb := q_bm_r (cd := fun _ => true) (c := fun p => -L p) i
      rw [f_X11_richest_34, if_neg (by omega), e_ws_ (x := (i : Int) + 1) (by omega) (by omega)]
      by_cases h1 : q_bm (fun _ => true) (fun p => -L p) i = -1
      · rw [if_pos h1, q_bm_n rfl h1]
      · obtain ⟨b, hb1, hb2⟩ := q_nat (n := i) (p := q_bm (fun _ => true) (fun p => -L p) i) (by omega)
        rw [if_neg h1]
        by_cases h2 : (fun p => -L p) (q_bm (fun _ => true) (fun p => -L p) i).toNat ≤ (fun p => -L p) i
        · rw [q_bm_k rfl h1 h2]
          rw [hb2, Int.toNat_natCast] at h2
          rw [hb2, q_w0 i (by omega), if_pos (show 0 ≤ (i : Int) ∧ (i : Int) < 56 by omega), q_w0 b (by omega), if_pos (show 0 ≤ (b : Int) ∧ (b : Int) < 56 by omega), Int.toNat_natCast, Int.toNat_natCast, hR (i) (by omega), hR (b) (by omega), if_pos (by dsimp only at h2; omega)]
        · rw [q_bm_t rfl h1 h2]
          rw [hb2, Int.toNat_natCast] at h2
          rw [hb2, q_w0 i (by omega), if_pos (show 0 ≤ (i : Int) ∧ (i : Int) < 56 by omega), q_w0 b (by omega), if_pos (show 0 ≤ (b : Int) ∧ (b : Int) < 56 by omega), Int.toNat_natCast, Int.toNat_natCast, hR (i) (by omega), hR (b) (by omega), if_neg (by dsimp only at h2; omega)]
    · have hb := q_bm_r (cd := fun _ => true) (c := fun p => -L p) n
      rw [f_X11_richest_34, if_pos (by omega)]
      unfold q_bv
      by_cases h0 : w = 0
      · rw [if_pos h0, if_pos h0]
      · rw [if_neg h0, if_neg h0]
        by_cases h1 : q_bm (fun _ => true) (fun p => -L p) n = -1
        · rw [if_neg (not_not_intro h1), if_pos h1, h1]
        · obtain ⟨b, hb1, hb2⟩ := q_nat (n := n) (p := q_bm (fun _ => true) (fun p => -L p) n) (by omega)
          rw [if_pos h1, if_neg h1, hb2, q_w0 b (by omega), if_pos (show 0 ≤ (b : Int) ∧ (b : Int) < 56 by omega), Int.toNat_natCast, hR (b) (by omega)]
  · refine q_ref1 (b := 0) (c := 1) k rfl (by decide) ?_ ?_
    · unfold f_X10_richest
      rw [r_nw, if_neg hw, f_tr]
    · unfold f_X11_richest
      rw [r_in, f_bs, if_neg hw, if_neg (by decide), r_bada rfl (by decide), f_bs, if_neg (by decide)]
      rfl
theorem o_next {F : Nat} (hF : 300 < F) (p w : Int) : q_o2 (f_X10_next F p w) (f_X11_next F p w) k_c2 := by
  intro M k
  have k' := k
  obtain ⟨n, m, t, wa, sk, wo, ow, fi, l, cw, cv, L, hB⟩ := k'
  have hT : q_T n m t wa sk wo ow fi M := hB.1
  have h6 := hT.1
  have hm := hT.2.1
  have ht12 := hT.2.2.1
  have hn := hT.2.2.2.2.2.2.1
  have hC : q_cn n t L M := hB.2.2.2.2.2.1.1
  have hLB : q_LB n t L := hB.2.2.2.2.2.1.2.2
  by_cases hp : 0 ≤ p ∧ p < (n : Int)
  · by_cases hw : 0 ≤ w ∧ w ≤ 1
    · obtain ⟨q, hq, rfl⟩ := q_nat hp
      have key : f_X10_next F (q : Int) w M = some (.inl (q_bv w (q_bm (fun k => decide (ow k = q) && (decide (L (42 + k) = 0) && decide (L 55 ≤ L (30 + k)))) (fun k => L (30 + k)) t) (fun k => e_w (L (30 + k) - L 55))), M) := by
        unfold f_X10_next
        rw [r_np hT.2.2.2.1, if_pos hp, f_tl, r_nw, if_pos hw, f_tl]
        refine q_sq (fun f s i => f_X10_next_17 f (q : Int) w s i M) (q_bm (fun k => decide (ow k = q) && (decide (L (42 + k) = 0) && decide (L 55 ≤ L (30 + k)))) (fun k => L (30 + k))) t _ (fun f i hi => ?_) (fun f => ?_) F (by omega)
        · have hb := q_bm_r (cd := fun k => decide (ow k = q) && (decide (L (42 + k) = 0) && decide (L 55 ≤ L (30 + k)))) (c := fun k => L (30 + k)) i
          have hCi := hC.2.1 i hi
          have hTi := hT.2.2.2.2.2.2.2.2.2.2.2 i hi
          have hcond : (q_dn L i = false ∧ L 55 ≤ L (30 + i)) ↔ (L (42 + i) = 0 ∧ L 55 ≤ L (30 + i)) := by rw [q_dnf hCi.2]
          rw [f_X10_next_17, if_neg (by rw [hT.2.2.2.2.2.1]; omega), e_ws_ (x := (i : Int) + 1) (by omega) (by omega), if_pos (show 0 ≤ (i : Int) ∧ (i : Int) < 12 by omega), Int.toNat_natCast, hTi.1, rn_ahd (D := q_bs (q_dn L) t) hC.2.2.2.2 (q_dn_lt ht12) (by omega), f_bs, q_bs_tbc hi, hCi.1, hC.2.2.1]
          by_cases c1 : ow i = q
          · rw [if_neg (not_not_intro (by omega))]
            by_cases c2 : L (42 + i) = 0 ∧ L 55 ≤ L (30 + i)
            · have hcd : (fun k => decide (ow k = q) && (decide (L (42 + k) = 0) && decide (L 55 ≤ L (30 + k)))) i = true := by simp [c1, c2]
              rw [if_pos (hcond.mpr c2), if_neg (by decide)]
              by_cases h1 : q_bm (fun k => decide (ow k = q) && (decide (L (42 + k) = 0) && decide (L 55 ≤ L (30 + k)))) (fun k => L (30 + k)) i = -1
              · rw [if_pos h1, q_bm_n hcd h1]
              · obtain ⟨b, hb1, hb2⟩ := q_nat (n := i) (p := q_bm (fun k => decide (ow k = q) && (decide (L (42 + k) = 0) && decide (L 55 ≤ L (30 + k)))) (fun k => L (30 + k)) i) (by omega)
                rw [if_neg h1, if_pos (show 0 ≤ (i : Int) ∧ (i : Int) < 12 by omega)]
                by_cases h2 : (fun k => L (30 + k)) (q_bm (fun k => decide (ow k = q) && (decide (L (42 + k) = 0) && decide (L 55 ≤ L (30 + k)))) (fun k => L (30 + k)) i).toNat ≤ (fun k => L (30 + k)) i
                · rw [q_bm_k hcd h1 h2]
                  rw [hb2, Int.toNat_natCast] at h2
                  rw [hb2, if_pos (show 0 ≤ (b : Int) ∧ (b : Int) < 12 by omega), Int.toNat_natCast, (hC.2.1 b (by omega)).1, if_pos h2]
                · rw [q_bm_t hcd h1 h2]
                  rw [hb2, Int.toNat_natCast] at h2
                  rw [hb2, if_pos (show 0 ≤ (b : Int) ∧ (b : Int) < 12 by omega), Int.toNat_natCast, (hC.2.1 b (by omega)).1, if_neg h2]
            · rw [if_neg (fun z => c2 (hcond.mp z)), if_pos rfl, q_bm_f (by simp only [c1]; simpa using c2)]
          · rw [if_pos (by omega), q_bm_f (by simp [c1])]
        · have hb := q_bm_r (cd := fun k => decide (ow k = q) && (decide (L (42 + k) = 0) && decide (L 55 ≤ L (30 + k)))) (c := fun k => L (30 + k)) t
          rw [f_X10_next_17, if_pos (by rw [hT.2.2.2.2.2.1]; omega)]
          unfold q_bv
          by_cases h1 : q_bm (fun k => decide (ow k = q) && (decide (L (42 + k) = 0) && decide (L 55 ≤ L (30 + k)))) (fun k => L (30 + k)) t = -1
          · rw [if_neg (not_not_intro h1), if_pos h1, h1]
            split <;> rfl
          · obtain ⟨b, hb1, hb2⟩ := q_nat (n := t) (p := q_bm (fun k => decide (ow k = q) && (decide (L (42 + k) = 0) && decide (L 55 ≤ L (30 + k)))) (fun k => L (30 + k)) t) (by omega)
            rw [if_pos h1, if_neg h1, hb2, if_pos (show 0 ≤ (b : Int) ∧ (b : Int) < 12 by omega), Int.toNat_natCast, (hC.2.1 b hb1).1, hC.2.2.1]
            by_cases h0 : w = 0
            · rw [if_neg (not_not_intro h0), if_pos h0]
            · rw [if_pos h0, if_neg h0]
      have hB2 := q_B_f (q_fr_b (M := M) (M1 := M) (v := q_bv w (q_bm (fun k => decide (ow k = q) && (decide (L (42 + k) = 0) && decide (L 55 ≤ L (30 + k)))) (fun k => L (30 + k)) t) (fun k => e_w (L (30 + k) - L 55))) (fun _ _ _ => rfl)) hB
      refine q_ok (M1 := M) k key (fun _ _ _ => rfl) ?_ q_mf.rf
      unfold f_X11_next f_X11_next_19
      rw [r_isP (n := n) (by exact hn) h6, f_bs, if_pos hp, if_pos (by decide), r_bad0 rfl, f_bs, if_neg (by decide), r_in, f_bs, if_pos hw, if_pos (by decide), r_bad0 rfl, f_bs, if_pos rfl]
      generalize e_up (e_up M 557 0 (q_bv w (q_bm (fun k => decide (ow k = q) && (decide (L (42 + k) = 0) && decide (L 55 ≤ L (30 + k)))) (fun k => L (30 + k)) t) (fun k => e_w (L (30 + k) - L 55)))) 64 0 0 = M' at hB2 ⊢
      have hR : q_ml M' 532 L := hB2.2.2.2.2.2.1.2.1
      have ht' := hB2.1.2.2.2.2.2.2.2.2.1
      refine q_sq (fun f s i => f_X11_next_57 f (q : Int) w s i M') (q_bm (fun k => decide (ow k = q) && (decide (L (42 + k) = 0) && decide (L 55 ≤ L (30 + k)))) (fun k => L (30 + k))) t _ (fun f i hi => ?_) (fun f => ?_) F (by omega)
      · have hb := q_bm_r (cd := fun k => decide (ow k = q) && (decide (L (42 + k) = 0) && decide (L 55 ≤ L (30 + k)))) (c := fun k => L (30 + k)) i
        have hTi := hB2.1.2.2.2.2.2.2.2.2.2.2.2 i hi
        have hd := (hC.2.1 i hi).2
        rw [f_X11_next_57, if_neg (by omega), e_ws_ (x := (i : Int) + 1) (by omega) (by omega), if_pos (show 0 ≤ (i : Int) ∧ (i : Int) < 12 by omega), Int.toNat_natCast, hTi.2.1, e_ws_ (x := 42 + (i : Int)) (by omega) (by omega), if_pos (show 0 ≤ 42 + (i : Int) ∧ 42 + (i : Int) < 56 by omega), e_ws_ (x := 30 + (i : Int)) (by omega) (by omega), if_pos (show 0 ≤ 30 + (i : Int) ∧ 30 + (i : Int) < 56 by omega), if_pos (show 0 ≤ 30 + (i : Int) ∧ 30 + (i : Int) < 56 by omega), q_t42, q_t30, hR (42 + i) (by omega), hR (30 + i) (by omega), hR 55 (by omega)]
        by_cases c1 : ow i = q
        · rw [if_neg (not_not_intro (by omega))]
          by_cases c2 : L (42 + i) = 1
          · rw [if_pos c2, q_bm_f (by simp [c2])]
          · rw [if_neg c2]
            by_cases c3 : L 55 ≤ L (30 + i)
            · have hcd : (fun k => decide (ow k = q) && (decide (L (42 + k) = 0) && decide (L 55 ≤ L (30 + k)))) i = true := by
                have : L (42 + i) = 0 := by omega
                simp [c1, c3, this]
              rw [if_pos c3]
              by_cases h1 : q_bm (fun k => decide (ow k = q) && (decide (L (42 + k) = 0) && decide (L 55 ≤ L (30 + k)))) (fun k => L (30 + k)) i = -1
              · rw [if_pos h1, q_bm_n hcd h1]
              · obtain ⟨b, hb1, hb2⟩ := q_nat (n := i) (p := q_bm (fun k => decide (ow k = q) && (decide (L (42 + k) = 0) && decide (L 55 ≤ L (30 + k)))) (fun k => L (30 + k)) i) (by omega)
                rw [if_neg h1]
                by_cases h2 : (fun k => L (30 + k)) (q_bm (fun k => decide (ow k = q) && (decide (L (42 + k) = 0) && decide (L 55 ≤ L (30 + k)))) (fun k => L (30 + k)) i).toNat ≤ (fun k => L (30 + k)) i
                · rw [q_bm_k hcd h1 h2]
                  rw [hb2, Int.toNat_natCast] at h2
                  rw [hb2, e_ws_ (x := 30 + (b : Int)) (by omega) (by omega), if_pos (show 0 ≤ 30 + (b : Int) ∧ 30 + (b : Int) < 56 by omega), q_t30, hR (30 + b) (by omega), if_pos h2]
                · rw [q_bm_t hcd h1 h2]
                  rw [hb2, Int.toNat_natCast] at h2
                  rw [hb2, e_ws_ (x := 30 + (b : Int)) (by omega) (by omega), if_pos (show 0 ≤ 30 + (b : Int) ∧ 30 + (b : Int) < 56 by omega), q_t30, hR (30 + b) (by omega), if_neg h2]
            · rw [if_neg c3, q_bm_f (by simp [c3])]
        · rw [if_pos (by omega), q_bm_f (by simp [c1])]
      · have hb := q_bm_r (cd := fun k => decide (ow k = q) && (decide (L (42 + k) = 0) && decide (L 55 ≤ L (30 + k)))) (c := fun k => L (30 + k)) t
        rw [f_X11_next_57, if_pos (by omega)]
        unfold q_bv
        by_cases h0 : w = 0
        · rw [if_pos h0, if_pos h0]
        · rw [if_neg h0, if_neg h0]
          by_cases h1 : q_bm (fun k => decide (ow k = q) && (decide (L (42 + k) = 0) && decide (L 55 ≤ L (30 + k)))) (fun k => L (30 + k)) t = -1
          · rw [if_neg (not_not_intro h1), if_pos h1, h1]
          · obtain ⟨b, hb1, hb2⟩ := q_nat (n := t) (p := q_bm (fun k => decide (ow k = q) && (decide (L (42 + k) = 0) && decide (L 55 ≤ L (30 + k)))) (fun k => L (30 + k)) t) (by omega)
            rw [if_pos h1, if_neg h1, hb2, e_ws_ (x := 30 + (b : Int)) (by omega) (by omega), if_pos (show 0 ≤ 30 + (b : Int) ∧ 30 + (b : Int) < 56 by omega), q_t30, Int.toNat_natCast, hR (30 + b) (by omega), hR 55 (by omega)]
    · refine q_ref1 (b := 0) (c := 2) k rfl (by decide) ?_ ?_
      · unfold f_X10_next
        rw [r_np hT.2.2.2.1, if_pos hp, f_tl, r_nw, if_neg hw, f_tr]
      · unfold f_X11_next f_X11_next_19
        rw [r_isP (n := n) (by exact hn) h6, f_bs, if_pos hp, if_pos (by decide), r_bad0 rfl, f_bs, if_neg (by decide), r_in, f_bs, if_neg hw, if_neg (by decide), r_bada rfl (by decide), f_bs, if_neg (by decide)]
        rfl
  · refine q_ref0 (b := 0) (c := 1) k rfl (by decide) ?_ ?_
    · unfold f_X10_next
      rw [r_np hT.2.2.2.1, if_neg hp, f_tr]
    · unfold f_X11_next f_X11_next_19
      rw [r_isP (n := n) (by exact hn) h6, f_bs, if_neg hp, if_neg (by decide), r_badm rfl (by decide), f_bs, if_pos (by decide)]
      rfl
