/-! OPERATIONS, 10: met, apart, together -/
def q_N0 : e_M := fun _ _ => 0
def q_x1 (w : Option ((Int ⊕ Nat) × e_M)) : Option Int := match w with
  | some (.inl v, _) => some v
  | _ => none
def q_x2 (w : Option (Int × e_M)) : Option Int := match w with
  | some (v, _) => some v
  | none => none
theorem mt_79 : ∀ (f j : Nat) (p1 p2 p3 v4 v6 v8 v10 v12 : Int) (M : e_M) (v : Int), q_x1 (f_X10_met_79 f p1 p2 p3 v4 v6 v8 v10 v12 q_N0) = some v → f_X10_met_79 (f + j) p1 p2 p3 v4 v6 v8 v10 v12 M = some (.inl v, M)
  | 0, j, p1, p2, p3, v4, v6, v8, v10, v12, M, v, h => by cases h
  | f + 1, j, p1, p2, p3, v4, v6, v8, v10, v12, M, v, h => by
    rw [show f + 1 + j = (f + j) + 1 by omega, f_X10_met_79]
    rw [f_X10_met_79] at h
    repeat' split
    all_goals simp_all [q_x1]
    exact mt_79 f j _ _ _ _ _ _ _ _ M v h
theorem mt_32 : ∀ (f j : Nat) (p1 p2 p3 v4 v6 v8 : Int) (M : e_M) (v : Int), q_x1 (f_X10_met_32 f p1 p2 p3 v4 v6 v8 q_N0) = some v → f_X10_met_32 (f + j) p1 p2 p3 v4 v6 v8 M = some (.inl v, M)
  | 0, j, p1, p2, p3, v4, v6, v8, M, v, h => by cases h
  | f + 1, j, p1, p2, p3, v4, v6, v8, M, v, h => by
    rw [show f + 1 + j = (f + j) + 1 by omega, f_X10_met_32]
    rw [f_X10_met_32] at h
    by_cases c : p1 ≤ v8
    · rw [if_pos c] at h ⊢
      exact mt_79 f j _ _ _ _ _ _ _ _ M v h
    · rw [if_neg c] at h ⊢
      exact mt_32 f j _ _ _ _ _ _ M v h
theorem mm_104 : ∀ (f j : Nat) (p1 p2 p3 v4 v6 v8 v10 v12 : Int) (M : e_M) (v : Int), q_x2 (f_X11_met_104 f p1 p2 p3 v4 v6 v8 v10 v12 q_N0) = some v → f_X11_met_104 (f + j) p1 p2 p3 v4 v6 v8 v10 v12 M = some (v, M)
  | 0, j, p1, p2, p3, v4, v6, v8, v10, v12, M, v, h => by cases h
  | f + 1, j, p1, p2, p3, v4, v6, v8, v10, v12, M, v, h => by
    rw [show f + 1 + j = (f + j) + 1 by omega, f_X11_met_104]
    rw [f_X11_met_104] at h
    repeat' split
    all_goals simp_all [q_x2]
    exact mm_104 f j _ _ _ _ _ _ _ _ M v h
theorem mm_64 : ∀ (f j : Nat) (p1 p2 p3 v4 v6 v8 : Int) (M : e_M) (v : Int), q_x2 (f_X11_met_64 f p1 p2 p3 v4 v6 v8 q_N0) = some v → f_X11_met_64 (f + j) p1 p2 p3 v4 v6 v8 M = some (v, M)
  | 0, j, p1, p2, p3, v4, v6, v8, M, v, h => by cases h
  | f + 1, j, p1, p2, p3, v4, v6, v8, M, v, h => by
    rw [show f + 1 + j = (f + j) + 1 by omega, f_X11_met_64]
    rw [f_X11_met_64] at h
    by_cases c : p1 ≤ v8
    · rw [if_pos c] at h ⊢
      exact mm_104 f j _ _ _ _ _ _ _ _ M v h
    · rw [if_neg c] at h ⊢
      exact mm_64 f j _ _ _ _ _ _ M v h
theorem mt_all : ∀ n : Nat, n < 8 → ∀ q : Nat, q < 17 → ∀ r : Nat, r < 2 → (q_x1 (f_X10_met_32 200 (n : Int) (q : Int) (r : Int) 1 1 0 q_N0)).isSome = true ∧ q_x1 (f_X10_met_32 200 (n : Int) (q : Int) (r : Int) 1 1 0 q_N0) = q_x2 (f_X11_met_64 200 (n : Int) (q : Int) (r : Int) 1 (e_lshl 1 (e_w (8 * (n : Int)))) 0 q_N0) := by decide +kernel
theorem o_met {F : Nat} (hF : 300 < F) (p q r : Int) : q_o2 (f_X10_met F p q r) (f_X11_met F p q r) k_c1 := by
  intro M k
  have k' := k
  obtain ⟨n, m, t, wa, sk, wo, ow, fi, l, cw, cv, L, hB⟩ := k'
  have hT : q_T n m t wa sk wo ow fi M := hB.1
  have h6 := hT.1
  have hm := hT.2.1
  have ht12 := hT.2.2.1
  have hn := hT.2.2.2.2.2.2.1
  have hC : q_cn n t L M := hB.2.2.2.2.2.1.1
  have hLB : q_LB n t L := hB.2.2.2.2.2.1.2.2
  by_cases hp : ¬ (0 ≤ p ∧ p ≤ 7)
  · refine q_ref1 (b := 0) (c := 1) k rfl (by decide) ?_ ?_
    · unfold f_X10_met
      rw [r_nw, if_neg hp, f_tr]
    · unfold f_X11_met
      rw [r_in, f_bs, if_neg hp, if_pos rfl, r_bada rfl (by decide), f_bs, if_neg (by decide)]
      rfl
  replace hp := Classical.not_not.mp hp
  by_cases hq : ¬ (0 ≤ q ∧ q ≤ 16)
  · refine q_ref1 (b := 0) (c := 1) k rfl (by decide) ?_ ?_
    · unfold f_X10_met
      rw [r_nw, if_pos hp, f_tl, r_nw, if_neg hq, f_tr]
    · unfold f_X11_met
      rw [r_in, f_bs, if_pos hp, if_neg (by decide), r_in, f_bs, if_neg hq, if_pos rfl, r_bada rfl (by decide), f_bs, if_neg (by decide)]
      rfl
  replace hq := Classical.not_not.mp hq
  by_cases hr : ¬ (0 ≤ r ∧ r ≤ 1)
  · refine q_ref1 (b := 0) (c := 1) k rfl (by decide) ?_ ?_
    · unfold f_X10_met
      rw [r_nw, if_pos hp, f_tl, r_nw, if_pos hq, f_tl, r_nw, if_neg hr, f_tr]
    · unfold f_X11_met
      rw [r_in, f_bs, if_pos hp, if_neg (by decide), r_in, f_bs, if_pos hq, if_neg (by decide), r_in, f_bs, if_neg hr, if_neg (by decide), r_bada rfl (by decide), f_bs, if_neg (by decide)]
      rfl
  replace hr := Classical.not_not.mp hr
  obtain ⟨a, ha, rfl⟩ := q_nat (n := 8) (p := p) (by omega)
  obtain ⟨b, hb, rfl⟩ := q_nat (n := 17) (p := q) (by omega)
  obtain ⟨c, hc, rfl⟩ := q_nat (n := 2) (p := r) (by omega)
  obtain ⟨h1, h2⟩ := mt_all a ha b hb c hc
  obtain ⟨v, hv⟩ := Option.isSome_iff_exists.mp h1
  rw [hv] at h2
  obtain ⟨f, rfl⟩ : ∃ f, F = 200 + f := ⟨F - 200, by omega⟩
  refine q_ok (M1 := M) (v := v) k ?_ (fun _ _ _ => rfl) ?_ q_mf.rf
  · unfold f_X10_met
    rw [r_nw, if_pos hp, f_tl, r_nw, if_pos hq, f_tl, r_nw, if_pos hr, f_tl]
    exact mt_32 200 f _ _ _ _ _ _ M v hv
  · unfold f_X11_met
    rw [r_in, f_bs, if_pos hp, if_neg (by decide), r_in, f_bs, if_pos hq, if_neg (by decide), r_in, f_bs, if_pos hr, if_pos (by decide), r_bad0 rfl, f_bs, if_pos rfl]
    exact mm_64 200 f _ _ _ _ _ _ _ v h2.symm
theorem ct_16 : ∀ (f j : Nat) (p0 p1 v2 v4 : Int) (M : e_M) (v : Int), q_x2 (f_X10_choose_16 f p0 p1 v2 v4 q_N0) = some v → f_X10_choose_16 (f + j) p0 p1 v2 v4 M = some (v, M)
  | 0, j, p0, p1, v2, v4, M, v, h => by cases h
  | f + 1, j, p0, p1, v2, v4, M, v, h => by
    rw [show f + 1 + j = (f + j) + 1 by omega, f_X10_choose_16]
    rw [f_X10_choose_16] at h
    by_cases c : p1 < v4
    · rw [if_pos c] at h ⊢
      cases h; rfl
    · rw [if_neg c] at h ⊢
      by_cases c2 : v4 ≠ 0
      · rw [if_pos c2] at h ⊢
        exact ct_16 f j _ _ _ _ M v h
      · rw [if_neg c2] at h
        cases h
theorem cm_4 : ∀ (f j : Nat) (p0 p1 v2 v4 : Int) (M : e_M) (v : Int), q_x2 (f_X11_choose_4 f p0 p1 v2 v4 q_N0) = some v → f_X11_choose_4 (f + j) p0 p1 v2 v4 M = some (v, M)
  | 0, j, p0, p1, v2, v4, M, v, h => by cases h
  | f + 1, j, p0, p1, v2, v4, M, v, h => by
    rw [show f + 1 + j = (f + j) + 1 by omega, f_X11_choose_4]
    rw [f_X11_choose_4] at h
    by_cases c : p1 < v4
    · rw [if_pos c] at h ⊢
      cases h; rfl
    · rw [if_neg c] at h ⊢
      by_cases c2 : v4 ≠ 0
      · rw [if_pos c2] at h ⊢
        exact cm_4 f j _ _ _ _ M v h
      · rw [if_neg c2] at h
        cases h
theorem ch_all : ∀ z : Nat, z < 21 → ∀ a : Nat, a < 21 → a ≤ z → (q_x2 (f_X10_choose_16 30 (z : Int) (a : Int) 1 1 q_N0)).isSome = true ∧ q_x2 (f_X10_choose_16 30 (z : Int) (a : Int) 1 1 q_N0) = q_x2 (f_X11_choose_4 30 (z : Int) (a : Int) 1 1 q_N0) := by decide +kernel
theorem ch_ok {F : Nat} (hF : 30 < F) {z a : Nat} (hz : z < 21) (ha : a ≤ z) : ∃ v, (∀ M, f_X10_choose F (z : Int) (a : Int) M = some (v, M)) ∧ ∀ M, f_X11_choose F (z : Int) (a : Int) M = some (v, M) := by
  obtain ⟨h1, h2⟩ := ch_all z hz a (by omega) ha
  obtain ⟨v, hv⟩ := Option.isSome_iff_exists.mp h1
  rw [hv] at h2
  obtain ⟨f, rfl⟩ : ∃ f, F = 30 + f := ⟨F - 30, by omega⟩
  refine ⟨v, fun M => ?_, fun M => ?_⟩
  · unfold f_X10_choose
    rw [if_neg (by omega), if_pos (by omega)]
    exact ct_16 30 f _ _ _ _ M v hv
  · exact cm_4 30 f _ _ _ _ M v h2.symm
/-- the BOOK asked on both sides -/
theorem r_had {M : e_M} {n p z : Nat} (h5 : q_K5 n M) (hn : n ≤ 6) (hp : p < n) (hz : z ≤ 20) : (f_X0_hasLine_book (p : Int) M = some (0, M) ∧ ∀ M', (∀ a j, q_F5 a j → M' a j = M a j) → ∀ f, 6 < f → f_X11_hadBy f (p : Int) (z : Int) M' = some (-1, M')) ∨
    (f_X0_hasLine_book (p : Int) M = some (1, M) ∧ ((f_X0_mondaysHad_book (p : Int) (z : Int) M = some (-1, M) ∧ ∀ M', (∀ a j, q_F5 a j → M' a j = M a j) → ∀ f, 6 < f → f_X11_hadBy f (p : Int) (z : Int) M' = some ((z : Int) + 1, M')) ∨ (∃ a : Nat, a ≤ z ∧ f_X0_mondaysHad_book (p : Int) (z : Int) M = some ((a : Int), M) ∧ ∀ M', (∀ a j, q_F5 a j → M' a j = M a j) → ∀ f, 6 < f → f_X11_hadBy f (p : Int) (z : Int) M' = some ((a : Int), M')))) := by
  obtain ⟨l, b, k1, k2, k3, k4, k5, k6⟩ := h5
  have hl : f_X0_hasLine_book (p : Int) M = some (if b.testBit p then 1 else 0, M) := by
    unfold f_X0_hasLine_book
    rw [k5, q_tb (by omega) (by omega)]
    by_cases c : b.testBit p = true
    · rw [if_pos c]; rfl
    · rw [if_neg c]; rfl
  rcases k6 p hp with ⟨z1, z2⟩ | ⟨z1, k, z2, z3, z4, z5, z6, z7⟩
  · left
    refine ⟨by rw [hl, z1]; rfl, fun M' hM' f hf => ?_⟩
    have k4' : M' 64 35 = (l : Int) := by rw [hM' 64 35 (by unfold q_F5; omega)]; exact k4
    refine q_sq (fun f (_ : Unit) i => f_X11_hadBy_2 f (p : Int) (z : Int) i M') (fun _ => ()) l _ (fun f i hi => ?_) (fun f => ?_) f (by omega)
    · rw [f_X11_hadBy_2, if_neg (by omega), if_pos (by omega), Int.toNat_natCast, if_pos (by rw [hM' _ _ (by unfold q_F5; omega)]; exact z2 i hi), e_ws_ (x := (i : Int) + 1) (by omega) (by omega)]
    · rw [f_X11_hadBy_2, if_pos (by omega)]
  · right
    refine ⟨by rw [hl, z1]; rfl, ?_⟩
    have hm : ∀ M', (∀ a j, q_F5 a j → M' a j = M a j) → ∀ f, 6 < f → f_X11_hadBy f (p : Int) (z : Int) M' = some (if 0 ≤ M 29 p - 6 * (z : Int) ∧ M 29 p - 6 * (z : Int) ≤ (z : Int) then M 29 p - 6 * (z : Int) else (z : Int) + 1, M') := by
      intro M' hM' f hf
      have k4' : M' 64 35 = (l : Int) := by rw [hM' 64 35 (by unfold q_F5; omega)]; exact k4
      have z3' : M' (436 + k) 0 = (p : Int) := by rw [hM' _ _ (by unfold q_F5; omega)]; exact z3
      have z4' : M' (436 + k) 1 = M 29 p := by rw [hM' _ _ (by unfold q_F5; omega)]; exact z4
      obtain ⟨f', rfl⟩ : ∃ f', f = (f' + 1) + k * 1 := ⟨f - 1 - k, by omega⟩
      have e := q_seq 0 1 k (fun f (_ : Unit) i => f_X11_hadBy_2 f (p : Int) (z : Int) i M') (fun _ => ()) (fun f i _ hi => by
        rw [f_X11_hadBy_2, if_neg (by omega), if_pos (by omega), Int.toNat_natCast, if_pos (by rw [hM' _ _ (by unfold q_F5; omega)]; exact z7 i hi), e_ws_ (x := (i : Int) + 1) (by omega) (by omega)]) (f' + 1) (by omega)
      refine e.trans ?_
      rw [f_X11_hadBy_2, if_neg (by omega), if_pos (show 0 ≤ (k : Int) ∧ (k : Int) < 6 by omega), Int.toNat_natCast, if_neg (not_not_intro z3'), if_pos (show 0 ≤ (k : Int) ∧ (k : Int) < 6 by omega), e_ws_ (x := 6 * (z : Int)) (by omega) (by omega), z4', e_ws_ (x := M 29 p - 6 * (z : Int)) (by omega) (by omega), r_in, f_bs, if_pos (show 0 ≤ (k : Int) ∧ (k : Int) < 6 by omega), z4', e_ws_ (x := (z : Int) + 1) (by omega) (by omega)]
      by_cases c : 0 ≤ M 29 p - 6 * (z : Int) ∧ M 29 p - 6 * (z : Int) ≤ (z : Int)
      · rw [if_pos c, if_neg (by decide), if_pos c]
        rw [e_ws_ (x := M 29 p - 6 * (z : Int)) (by omega) (by omega)]
      · rw [if_neg c, if_pos rfl, if_neg c]
    have hc : f_X0_mondaysHad_book (p : Int) (z : Int) M = some (if 0 ≤ M 29 p - 6 * (z : Int) ∧ M 29 p - 6 * (z : Int) ≤ (z : Int) then M 29 p - 6 * (z : Int) else -1, M) := by
      unfold f_X0_mondaysHad_book
      rw [if_pos (show 0 ≤ (p : Int) ∧ (p : Int) < 6 by omega), Int.toNat_natCast, e_ws_ (x := 6 * (z : Int)) (by omega) (by omega), e_ws_ (x := M 29 p - 6 * (z : Int)) (by omega) (by omega)]
      by_cases c1 : M 29 p - 6 * (z : Int) < 0
      · rw [if_pos c1, if_neg (by omega)]
      · rw [if_neg c1]
        by_cases c2 : (z : Int) < M 29 p - 6 * (z : Int)
        · rw [if_pos c2, if_neg (by omega)]
        · rw [if_neg c2, if_pos (by omega)]
    by_cases c : 0 ≤ M 29 p - 6 * (z : Int) ∧ M 29 p - 6 * (z : Int) ≤ (z : Int)
    · right
      refine ⟨(M 29 p - 6 * (z : Int)).toNat, by omega, ?_, fun M' hM' f hf => ?_⟩
      · rw [hc, if_pos c]; congr 2; omega
      · rw [hm M' hM' f hf, if_pos c]; congr 2; omega
    · left
      exact ⟨by rw [hc, if_neg c], fun M' hM' f hf => by rw [hm M' hM' f hf, if_neg c]⟩
