/-! OPERATIONS, 5: cheapest, crowd, clear, lone -/
def q_any (c : Nat → Bool) : Nat → Bool
  | 0 => false
  | k + 1 => q_any c k || c k
theorem q_any_t {c : Nat → Bool} : ∀ {t : Nat}, q_any c t = true ↔ ∃ k, k < t ∧ c k = true
  | 0 => by simp [q_any]
  | t + 1 => by
    show (q_any c t || c t) = true ↔ _
    rw [Bool.or_eq_true, q_any_t]
    constructor
    · rintro (⟨k, h1, h2⟩ | h)
      · exact ⟨k, by omega, h2⟩
      · exact ⟨t, by omega, h⟩
    · rintro ⟨k, h1, h2⟩
      by_cases e : k = t
      · subst e; exact Or.inr h2
      · exact Or.inl ⟨k, by omega, h2⟩
theorem r_kept {M : e_M} {n m t : Nat} {wa : Nat → Int} {sk : Nat → Nat} {wo : Nat → Int} {ow : Nat → Nat} {fi L : Nat → Int} {p : Nat} {x : Int} (hT : q_T n m t wa sk wo ow fi M) (hR : q_ml M 532 L) : ∀ f, 12 < f → f_X11_isKept f (p : Int) x M = some (if q_any (fun k => decide (ow k = p) && (decide (L (42 + k) = 0) && decide (L (30 + k) = x))) t = true then 1 else 0, M) := by
  have ht12 := hT.2.2.1
  have ht := hT.2.2.2.2.2.2.2.2.1
  have step : ∀ f i, i < t → f_X11_isKept_2 (f + 1) (p : Int) x (i : Int) M = if ow i = p ∧ L (42 + i) = 0 ∧ L (30 + i) = x then some (1, M) else f_X11_isKept_2 f (p : Int) x ((i : Int) + 1) M := by
    intro f i hi
    have hTi := hT.2.2.2.2.2.2.2.2.2.2.2 i hi
    rw [f_X11_isKept_2, if_neg (by omega), if_pos (show 0 ≤ (i : Int) ∧ (i : Int) < 12 by omega), Int.toNat_natCast, hTi.2.1, e_ws_ (x := 42 + (i : Int)) (by omega) (by omega), if_pos (show 0 ≤ 42 + (i : Int) ∧ 42 + (i : Int) < 56 by omega), e_ws_ (x := 30 + (i : Int)) (by omega) (by omega), if_pos (show 0 ≤ 30 + (i : Int) ∧ 30 + (i : Int) < 56 by omega), q_t42, q_t30, hR (42 + i) (by omega), hR (30 + i) (by omega), e_ws_ (x := (i : Int) + 1) (by omega) (by omega)]
    by_cases c1 : ow i = p
    · rw [if_neg (not_not_intro (by omega))]
      by_cases c2 : L (42 + i) = 0
      · rw [if_neg (not_not_intro c2)]
        by_cases c3 : L (30 + i) = x
        · rw [if_neg (not_not_intro c3), if_pos ⟨c1, c2, c3⟩]
        · rw [if_pos c3, if_neg (fun z => c3 z.2.2)]
      · rw [if_pos c2, if_neg (fun z => c2 z.2.1)]
    · rw [if_pos (by omega), if_neg (fun z => c1 z.1)]
  have h1 : ∀ k i f, i + k = t → k < f → ((∃ j, i ≤ j ∧ j < t ∧ (ow j = p ∧ L (42 + j) = 0 ∧ L (30 + j) = x)) → f_X11_isKept_2 f (p : Int) x (i : Int) M = some (1, M)) ∧ ((∀ j, i ≤ j → j < t → ¬ (ow j = p ∧ L (42 + j) = 0 ∧ L (30 + j) = x)) → f_X11_isKept_2 f (p : Int) x (i : Int) M = some (0, M)) := by
    intro k
    induction k with
    | zero =>
      intro i f h1 h2
      obtain ⟨f', rfl⟩ : ∃ f', f = f' + 1 := ⟨f - 1, by omega⟩
      refine ⟨fun ⟨j, a, b, _⟩ => absurd b (by omega), fun _ => ?_⟩
      rw [f_X11_isKept_2, if_pos (by omega)]
    | succ k ih =>
      intro i f h1 h2
      obtain ⟨f', rfl⟩ : ∃ f', f = f' + 1 := ⟨f - 1, by omega⟩
      have ih1 := ih (i + 1) f' (by omega) (by omega)
      rw [step f' i (by omega)]
      by_cases c : ow i = p ∧ L (42 + i) = 0 ∧ L (30 + i) = x
      · rw [if_pos c]
        exact ⟨fun _ => rfl, fun z => absurd c (z i (Nat.le_refl _) (by omega))⟩
      · rw [if_neg c]
        refine ⟨fun ⟨j, a, b, d⟩ => ih1.1 ⟨j, ?_, b, d⟩, fun z => ih1.2 (fun j a b => z j (by omega) b)⟩
        by_cases e : j = i
        · subst e; exact absurd d c
        · omega
  intro f hf
  have h2 := h1 t 0 f (by omega) (by omega)
  by_cases c : q_any (fun k => decide (ow k = p) && (decide (L (42 + k) = 0) && decide (L (30 + k) = x))) t = true
  · rw [if_pos c]
    obtain ⟨k, a, b⟩ := q_any_t.mp c
    exact h2.1 ⟨k, Nat.zero_le _, a, by simpa using b⟩
  · rw [if_neg c]
    refine h2.2 (fun j _ b d => c (q_any_t.mpr ⟨j, b, ?_⟩))
    simp [d.1, d.2.1, d.2.2]
theorem rn_busy {M : e_M} {n m t : Nat} {wa : Nat → Int} {sk : Nat → Nat} {wo : Nat → Int} {ow : Nat → Nat} {fi L : Nat → Int} {p z : Nat} (hT : q_T n m t wa sk wo ow fi M) (hC : q_cn n t L M) (hLB : q_LB n t L) (hz : z ≤ 20) : ∀ f, 12 < f → f_X3_busyBits_now f (p : Int) (z : Int) M = some ((q_or (fun k => decide (ow k = p) && (decide (L (42 + k) = 0) && (decide (L 55 ≤ L (30 + k)) && decide (L (30 + k) - L 55 < (z : Int))))) (fun k => 2 ^ (L (30 + k) - L 55).toNat) t : Int), M) := by
  intro f hf
  have ht12 := hT.2.2.1
  have ht := hT.2.2.2.2.2.1
  have h31 : ∀ i, i ≤ t → q_or (fun k => decide (ow k = p) && (decide (L (42 + k) = 0) && (decide (L 55 ≤ L (30 + k)) && decide (L (30 + k) - L 55 < (z : Int))))) (fun k => 2 ^ (L (30 + k) - L 55).toNat) i < 2 ^ 31 := fun i hi => Nat.lt_of_lt_of_le (q_or_lt (k := 21) (fun j hj hc => Nat.pow_lt_pow_right (by omega) (by simp at hc; omega))) (by decide)
  refine q_sq (fun f s i => f_X3_busyBits_now_5 f (p : Int) (z : Int) s i M) (fun i => (q_or (fun k => decide (ow k = p) && (decide (L (42 + k) = 0) && (decide (L 55 ≤ L (30 + k)) && decide (L (30 + k) - L 55 < (z : Int))))) (fun k => 2 ^ (L (30 + k) - L 55).toNat) i : Int)) t _ (fun f i hi => ?_) (fun f => ?_) f (by omega)
  · have hCi := hC.2.1 i hi
    have hTi := hT.2.2.2.2.2.2.2.2.2.2.2 i hi
    have hL1 := hLB.1
    have hL2 := hLB.2.1
    have hL3 := hLB.2.2.2.2.2 i hi
    rw [f_X3_busyBits_now_5, if_neg (by omega), e_ws_ (x := (i : Int) + 1) (by omega) (by omega), if_pos (show 0 ≤ (i : Int) ∧ (i : Int) < 12 by omega), if_pos (show 0 ≤ (i : Int) ∧ (i : Int) < 12 by omega), Int.toNat_natCast, hTi.1, rn_isDone (D := q_bs (q_dn L) t) hC.2.2.2.2 (q_dn_lt ht12) (by omega), f_bs, q_bs_tbc hi, hCi.1, hC.2.2.1, e_ws_ (x := L (30 + i) - L 55) (by omega) (by omega)]
    by_cases c1 : ow i = p
    · rw [if_neg (not_not_intro (by omega))]
      rcases hCi.2 with c2 | c2
      · rw [(q_dnf hCi.2).mpr c2, if_neg (by decide)]
        by_cases c3 : L (30 + i) - L 55 < 0
        · rw [if_pos c3, q_or_f (by simp; intro _ _; omega)]
        · rw [if_neg c3]
          by_cases c4 : (z : Int) ≤ L (30 + i) - L 55
          · rw [if_pos c4, q_or_f (by simp; intro _ _ _; omega)]
          · have hcd : (fun k => decide (ow k = p) && (decide (L (42 + k) = 0) && (decide (L 55 ≤ L (30 + k)) && decide (L (30 + k) - L 55 < (z : Int))))) i = true := by
              simp [c1, c2]; omega
            obtain ⟨y, hy⟩ : ∃ y : Nat, L (30 + i) - L 55 = (y : Int) := ⟨(L (30 + i) - L 55).toNat, by omega⟩
            rw [if_neg c4]
            have hsh : e_shl 1 (L (30 + i) - L 55) = (((fun k => 2 ^ (L (30 + k) - L 55).toNat) i : Nat) : Int) := by
              dsimp only
              rw [hy, q_sh (by omega), Int.toNat_natCast]
            rw [hsh, q_or_t hcd (h31 i (by omega)) (Nat.pow_lt_pow_right (by omega) (by omega))]
      · have hd : q_dn L i = true := by unfold q_dn; rw [c2]; rfl
        rw [hd, if_pos rfl, if_pos (by decide), q_or_f (by simp [c2])]
    · rw [if_pos (by omega), q_or_f (by simp [c1])]
  · rw [f_X3_busyBits_now_5, if_pos (by omega)]
theorem o_clear {F : Nat} (hF : 300 < F) (p w : Int) : q_o2 (f_X10_clear F p w) (f_X11_clear F p w) k_c2 := by
  intro M k
  have k' := k
  obtain ⟨n, m, t, wa, sk, wo, ow, fi, l, cw, cv, L, hB⟩ := k'
  have hT : q_T n m t wa sk wo ow fi M := hB.1
  have h6 := hT.1
  have hm := hT.2.1
  have ht12 := hT.2.2.1
  have hn := hT.2.2.2.2.2.2.1
  have hC : q_cn n t L M := hB.2.2.2.2.2.1.1
  have hLB : q_LB n t L := hB.2.2.2.2.2.1.2.2
  by_cases hp : 0 ≤ p ∧ p < (n : Int)
  · by_cases hw : 0 ≤ w ∧ w ≤ 20
    · obtain ⟨q, hq, rfl⟩ := q_nat hp
      obtain ⟨z, hz, rfl⟩ := q_nat (n := 21) (p := w) (by omega)
      have h2z : (2 : Nat) ^ z ≤ 2 ^ 20 := Nat.pow_le_pow_right (by omega) (by omega)
      have ev : q_an (2 ^ z - 1) (q_or (fun k => decide (ow k = q) && (decide (L (42 + k) = 0) && (decide (L 55 ≤ L (30 + k)) && decide (L (30 + k) - L 55 < (z : Int))))) (fun k => 2 ^ (L (30 + k) - L 55).toNat) t) = q_bs (fun j => !q_any (fun k => decide (ow k = q) && (decide (L (42 + k) = 0) && decide (L (30 + k) = L 55 + (j : Int)))) t) z := by
        apply q_tbx
        intro j
        rw [q_an_tb, q_bs_tb, Nat.testBit_two_pow_sub_one, Bool.and_eq_true, decide_eq_true_eq]
        have hiff : j < z → ((q_or (fun k => decide (ow k = q) && (decide (L (42 + k) = 0) && (decide (L 55 ≤ L (30 + k)) && decide (L (30 + k) - L 55 < (z : Int))))) (fun k => 2 ^ (L (30 + k) - L 55).toNat) t).testBit j = true ↔ q_any (fun k => decide (ow k = q) && (decide (L (42 + k) = 0) && decide (L (30 + k) = L 55 + (j : Int)))) t = true) := by
          intro hj
          rw [q_or_tb, q_any_t]
          constructor
          · rintro ⟨i, h1, h2, h3⟩
            rw [Nat.testBit_two_pow] at h3
            have h3 := of_decide_eq_true h3
            simp at h2
            refine ⟨i, h1, ?_⟩
            simp [h2.1, h2.2.1]
            omega
          · rintro ⟨i, h1, h2⟩
            simp at h2
            refine ⟨i, h1, ?_, ?_⟩
            · simp [h2.1, h2.2.1]; omega
            · rw [Nat.testBit_two_pow]; simp; omega
        constructor
        · rintro ⟨h1, h2⟩
          refine ⟨h1, ?_⟩
          have := hiff h1
          cases hx : (q_or (fun k => decide (ow k = q) && (decide (L (42 + k) = 0) && (decide (L 55 ≤ L (30 + k)) && decide (L (30 + k) - L 55 < (z : Int))))) (fun k => 2 ^ (L (30 + k) - L 55).toNat) t).testBit j <;> cases hy : q_any (fun k => decide (ow k = q) && (decide (L (42 + k) = 0) && decide (L (30 + k) = L 55 + (j : Int)))) t <;> simp_all
        · rintro ⟨h1, h2⟩
          refine ⟨h1, ?_⟩
          have := hiff h1
          cases hx : (q_or (fun k => decide (ow k = q) && (decide (L (42 + k) = 0) && (decide (L 55 ≤ L (30 + k)) && decide (L (30 + k) - L 55 < (z : Int))))) (fun k => 2 ^ (L (30 + k) - L 55).toNat) t).testBit j <;> cases hy : q_any (fun k => decide (ow k = q) && (decide (L (42 + k) = 0) && decide (L (30 + k) = L 55 + (j : Int)))) t <;> simp_all
      have key : f_X10_clear F (q : Int) (z : Int) M = some (.inl (q_bs (fun j => !q_any (fun k => decide (ow k = q) && (decide (L (42 + k) = 0) && decide (L (30 + k) = L 55 + (j : Int)))) t) z : Int), M) := by
        unfold f_X10_clear f_X10_bitsBelow
        rw [r_np hT.2.2.2.1, if_pos hp, f_tl, r_nw, if_pos hw, f_tl, f_bs, rn_busy hT hC hLB (by omega) F (by omega), f_bs, q_bb (by omega), q_andn (by omega), ev]
      have hB2 := q_B_f (q_fr_b (M := M) (M1 := M) (v := (q_bs (fun j => !q_any (fun k => decide (ow k = q) && (decide (L (42 + k) = 0) && decide (L (30 + k) = L 55 + (j : Int)))) t) z : Int)) (fun _ _ _ => rfl)) hB
      refine q_ok (M1 := M) k key (fun _ _ _ => rfl) ?_ q_mf.rf
      unfold f_X11_clear f_X11_clear_19
      rw [r_isP (n := n) (by exact hn) h6, f_bs, if_pos hp, if_pos (by decide), r_bad0 rfl, f_bs, if_neg (by decide), r_in, f_bs, if_pos hw, if_pos (by decide), r_bad0 rfl, f_bs, if_pos rfl]
      generalize e_up (e_up M 557 0 (q_bs (fun j => !q_any (fun k => decide (ow k = q) && (decide (L (42 + k) = 0) && decide (L (30 + k) = L 55 + (j : Int)))) t) z : Int)) 64 0 0 = M' at hB2 ⊢
      have hR : q_ml M' 532 L := hB2.2.2.2.2.2.1.2.1
      have hL1 := hLB.1
      have hL2 := hLB.2.1
      refine q_sB 20 (fun f s i => f_X11_clear_58 f (q : Int) (z : Int) s i M') (fun i => (q_bs (fun j => !q_any (fun k => decide (ow k = q) && (decide (L (42 + k) = 0) && decide (L (30 + k) = L 55 + (j : Int)))) t) i : Int)) z _ (fun f i hf hi => ?_) (fun f hf => ?_) F (by omega)
      · rw [f_X11_clear_58, if_neg (by omega), hR 55 (by omega), e_ws_ (x := L 55 + (i : Int)) (by omega) (by omega), r_kept hB2.1 hR f (by omega), f_bs, e_ws_ (x := (i : Int) + 1) (by omega) (by omega)]
        by_cases c : q_any (fun k => decide (ow k = q) && (decide (L (42 + k) = 0) && decide (L (30 + k) = L 55 + (i : Int)))) t = true
        · rw [if_pos c, if_neg (by decide), q_or0 (q_bs_31 (by omega)), q_bs_f (by rw [c]; rfl)]
        · rw [if_neg c, if_pos rfl, q_bs_t (c := fun j => !q_any (fun k => decide (ow k = q) && (decide (L (42 + k) = 0) && decide (L (30 + k) = L 55 + (j : Int)))) t) (by simpa using c) (by omega)]
      · rw [f_X11_clear_58, if_pos (by omega)]
    · refine q_ref1 (b := 0) (c := 2) k rfl (by decide) ?_ ?_
      · unfold f_X10_clear
        rw [r_np hT.2.2.2.1, if_pos hp, f_tl, r_nw, if_neg hw, f_tr]
      · unfold f_X11_clear f_X11_clear_19
        rw [r_isP (n := n) (by exact hn) h6, f_bs, if_pos hp, if_pos (by decide), r_bad0 rfl, f_bs, if_neg (by decide), r_in, f_bs, if_neg hw, if_neg (by decide), r_bada rfl (by decide), f_bs, if_neg (by decide)]
        rfl
  · refine q_ref0 (b := 0) (c := 1) k rfl (by decide) ?_ ?_
    · unfold f_X10_clear
      rw [r_np hT.2.2.2.1, if_neg hp, f_tr]
    · unfold f_X11_clear f_X11_clear_19
      rw [r_isP (n := n) (by exact hn) h6, f_bs, if_neg hp, if_neg (by decide), r_badm rfl (by decide), f_bs, if_pos (by decide)]
      rfl
theorem q_pc_bs {c : Nat → Bool} {n : Nat} (h : n ≤ 6) : q_pc (q_bs c n) = q_ct c n := by
  rw [q_pc_n (k := n) q_bs_lt (by omega)]
  exact q_ct_congr (fun i hi => q_bs_tbc hi)
theorem o_lone {F : Nat} (hF : 300 < F) : q_o1 (f_X10_lone F) (f_X11_lone F) := by
  intro M k
  have k' := k
  obtain ⟨n, m, t, wa, sk, wo, ow, fi, l, cw, cv, L, hB⟩ := k'
  have hT : q_T n m t wa sk wo ow fi M := hB.1
  have h6 := hT.1
  have hm := hT.2.1
  have ht12 := hT.2.2.1
  have hn := hT.2.2.2.2.2.2.1
  have hC : q_cn n t L M := hB.2.2.2.2.2.1.1
  have hLB : q_LB n t L := hB.2.2.2.2.2.1.2.2
  have hs : ∀ q, q < n → M 7 q = (sk q : Int) ∧ sk q < 2 ^ 31 := fun q hq => ⟨(hT.2.2.2.2.2.2.2.2.2.1 q hq).2.2.2.2.1, by have := q_sk6 hT hq; omega⟩
  have h26 : (2 : Nat) ^ n ≤ 2 ^ 6 := Nat.pow_le_pow_right (by omega) h6
  have hB2 := q_B_f (q_fr_b1 (M := M) (M1 := M) (fun _ _ _ => rfl)) hB
  refine q_ok1 (M1 := M) (v := (q_bs (fun d => decide (q_ct (fun p => (sk p).testBit d) n = 1)) m : Int)) k ?_ (fun _ _ _ => rfl) ?_ q_mf.rf
  · refine q_sB 20 (fun f s i => f_X10_lone_4 f s i M) (fun i => (q_bs (fun d => decide (q_ct (fun p => (sk p).testBit d) n = 1)) i : Int)) m _ (fun f i hf hi => ?_) (fun f hf => ?_) F (by omega)
    · have hlt : q_bs (fun p => (sk p).testBit i) n < 64 := Nat.lt_of_lt_of_le q_bs_lt h26
      rw [f_X10_lone_4, if_neg (by rw [hT.2.2.2.2.1]; omega), r_able hT.2.2.2.1 h6 (by omega) hs (by omega), f_bs, q_bc (by omega), f_bs, q_pc_bs h6, e_ws_ (x := (i : Int) + 1) (by omega) (by omega)]
      by_cases c : q_ct (fun p => (sk p).testBit i) n = 1
      · rw [if_neg (not_not_intro (by omega)), q_bs_t (c := fun d => decide (q_ct (fun p => (sk p).testBit d) n = 1)) (by simp [c]) (by omega)]
      · rw [if_pos (by omega), q_bs_f (by simp [c])]
    · rw [f_X10_lone_4, if_pos (by rw [hT.2.2.2.2.1]; omega)]
  · unfold f_X11_lone
    generalize e_up M 64 0 0 = M' at hB2 ⊢
    have hn' := hB2.1.2.2.2.2.2.2.1
    have hm' := hB2.1.2.2.2.2.2.2.2.1
    have hmul : m * (n + 2) ≤ 6 * 8 := Nat.mul_le_mul hm (by omega)
    obtain ⟨f, rfl⟩ : ∃ f, F = (f + 1) + m * (n + 2) := ⟨F - 1 - m * (n + 2), by omega⟩
    have e1 := q_seq 0 (n + 2) m (fun f s i => f_X11_lone_L9 f 0 s i 0 0 M') (fun i => (q_bs (fun d => decide (q_ct (fun p => (sk p).testBit d) n = 1)) i : Int)) (fun f i _ hi => by
      have e2 := q_seq 0 1 n (fun f s j => f_X11_lone_L9 f 1 (q_bs (fun d => decide (q_ct (fun p => (sk p).testBit d) n = 1)) i : Int) (i : Int) s j M') (fun j => (q_ct (fun p => (sk p).testBit i) j : Int)) (fun f j _ hj => by
        have hsj := (hB2.1.2.2.2.2.2.2.2.2.2.1 j hj).2.2.2.2.2.1
        rw [f_X11_lone_L9, if_neg (by decide), if_neg (by omega), if_pos (show 0 ≤ (j : Int) ∧ (j : Int) < 6 by omega), Int.toNat_natCast, hsj, r_has (by have := q_sk6 hT hj; omega) (by omega), f_bs, e_ws_ (x := (j : Int) + 1) (by omega) (by omega)]
        by_cases c : (sk j).testBit i = true
        · rw [if_pos c, if_neg (by decide), q_cti1 (c := fun p => (sk p).testBit i) (n := j) (by omega) c]
        · rw [if_neg c, if_pos rfl, q_cti0 (c := fun p => (sk p).testBit i) (n := j) (by omega) (by simpa using c)]) (f + 1) (by omega)
      rw [show f + (n + 2) = (f + 1 + n * 1) + 1 by omega, f_X11_lone_L9, if_pos rfl, if_neg (by omega)]
      refine e2.trans ?_
      rw [f_X11_lone_L9, if_neg (by decide), if_pos (by omega), e_ws_ (x := (i : Int) + 1) (by omega) (by omega)]
      by_cases c : q_ct (fun p => (sk p).testBit i) n = 1
      · rw [if_neg (not_not_intro (by omega)), q_bs_t (c := fun d => decide (q_ct (fun p => (sk p).testBit d) n = 1)) (by simp [c]) (by omega)]
      · rw [if_pos (by omega), q_or0 (q_bs_31 (by omega)), q_bs_f (by simp [c])]) (f + 1) (by omega)
    refine e1.trans ?_
    show f_X11_lone_L9 (f + 1) 0 _ (m : Int) 0 0 M' = _
    rw [f_X11_lone_L9, if_pos rfl, if_pos (by omega)]
