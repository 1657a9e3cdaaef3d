/-! OPERATIONS, 0: how one is put together -/
def q_B (n m t : Nat) (wa : Nat → Int) (sk : Nat → Nat) (wo : Nat → Int) (ow : Nat → Nat) (fi : Nat → Int) (l : Nat) (cw cv L : Nat → Int) (M : e_M) : Prop :=
  q_T n m t wa sk wo ow fi M ∧ q_K1 M ∧ q_K2 M ∧ q_La l cw cv M ∧ q_K5 n M ∧ q_Li n t L M ∧ q_K7 n t M ∧ q_K8 n t M
def q_sca (a : Nat) : Prop := a = 5 ∨ a = 10 ∨ (12 ≤ a ∧ a ≤ 19) ∨ (22 ≤ a ∧ a ≤ 27) ∨ a = 30 ∨ a = 31 ∨ (33 ≤ a ∧ a ≤ 35) ∨ (43 ≤ a ∧ a ≤ 54) ∨ a = 67 ∨ a = 69 ∨ a = 71 ∨ (73 ≤ a ∧ a ≤ 80) ∨ (87 ≤ a ∧ a ≤ 100) ∨ a = 113 ∨ (274 ≤ a ∧ a ≤ 435) ∨ (442 ≤ a ∧ a ≤ 531) ∨ a = 533 ∨ a = 534 ∨ a = 551 ∨ 555 ≤ a
theorem q_nsc {a j : Nat} (h : q_ft a j) : ¬ q_sca a := by
  simp only [q_ft, q_F1, q_F2, q_F3, q_F4, q_F5, q_F6, q_F7, q_F8] at h
  unfold q_sca
  omega
theorem q_n64 {j : Nat} (h : q_ft 64 j) : j = 1 ∨ j = 3 ∨ j = 21 ∨ (35 ≤ j ∧ j ≤ 38) := by
  simp only [q_ft, q_F1, q_F2, q_F3, q_F4, q_F5, q_F6, q_F7, q_F8] at h
  omega
theorem q_fr_sc {M N : e_M} (h : ∀ a j, ¬ q_sca a → N a j = M a j) : q_fr M N := fun a j hf => h a j (q_nsc hf)
section OK
variable {n m t : Nat} {wa : Nat → Int} {sk : Nat → Nat} {wo : Nat → Int} {ow : Nat → Nat} {fi : Nat → Int} {l : Nat} {cw cv L : Nat → Int} {M N : e_M}
theorem q_B_f (h : q_fr M N) (k : q_B n m t wa sk wo ow fi l cw cv L M) : q_B n m t wa sk wo ow fi l cw cv L N := by
  obtain ⟨a1, a2, a3, a4, a5, a6, a7, a8⟩ := k
  exact ⟨q_T_f (fun a j z => h a j (Or.inr (Or.inr (Or.inl z)))) a1, q_K1_f (fun a j z => h a j (Or.inl z)) a2, q_K2_f (fun a j z => h a j (Or.inr (Or.inl z))) a3, q_La_f (fun a j z => h a j (Or.inr (Or.inr (Or.inr (Or.inl z))))) a4, q_K5_f a1.1 (fun a j z => h a j (Or.inr (Or.inr (Or.inr (Or.inr (Or.inl z)))))) a5, q_Li_f (fun a j z => h a j (Or.inr (Or.inr (Or.inr (Or.inr (Or.inr (Or.inl z))))))) a6, q_K7_f (fun a j z => h a j (Or.inr (Or.inr (Or.inr (Or.inr (Or.inr (Or.inr (Or.inl z)))))))) a7, q_K8_f (fun a j z => h a j (Or.inr (Or.inr (Or.inr (Or.inr (Or.inr (Or.inr (Or.inr z)))))))) a8⟩
theorem q_B_K (k : q_B n m t wa sk wo ow fi l cw cv L M) : q_K M := ⟨n, m, t, wa, sk, wo, ow, fi, l, cw, cv, L, k⟩
/-- where the model's body begins: the class has changed rows that don't count, its answer is laid down, thrown is 0 -/
theorem q_fr_b {M1 : e_M} {v : Int} (f1 : ∀ a j, ¬ q_sca a → M1 a j = M a j) : q_fr M (e_up (e_up M1 557 0 v) 64 0 0) := fun a j hf => by
  have h1 := q_nsc hf
  by_cases h64 : a = 64
  · subst h64
    have := q_n64 hf
    rw [u_c (by omega), u_r (by decide)]
    exact f1 _ _ h1
  · rw [u_r h64, u_r (fun e => h1 (by rw [e]; unfold q_sca; omega))]
    exact f1 _ _ h1
theorem q_fr_b1 {M1 : e_M} (f1 : ∀ a j, ¬ q_sca a → M1 a j = M a j) : q_fr M (e_up M1 64 0 0) := fun a j hf => by
  have h1 := q_nsc hf
  by_cases h64 : a = 64
  · subst h64
    have := q_n64 hf
    rw [u_c (by omega)]
    exact f1 _ _ h1
  · rw [u_r h64]
    exact f1 _ _ h1
/-- what the model's body may change -/
def q_mf (M N : e_M) : Prop := ∀ a j, a ≠ 449 → a ≠ 450 → a ≠ 533 → a ≠ 555 → a ≠ 556 → (a = 64 → j ≠ 44 ∧ j ≠ 45 ∧ j ≠ 46) → N a j = M a j
theorem q_mf.rf : q_mf M M := fun _ _ _ _ _ _ _ _ => rfl
theorem q_mf_fr (h : q_mf M N) : q_fr M N := fun a j hf => by
  have h1 := q_nsc hf
  unfold q_sca at h1
  refine h a j (by omega) (by omega) (by omega) (by omega) (by omega) (fun e => ?_)
  subst e
  have := q_n64 hf
  omega
theorem q_ok {fx : e_M → Option ((Int ⊕ Nat) × e_M)} {fm : e_M → Option (Int × e_M)} {cd : Nat → Option Int} {v : Int} {M1 M2 : e_M} (k : q_K M) (h1 : fx M = some (.inl v, M1)) (f1 : ∀ a j, ¬ q_sca a → M1 a j = M a j) (h2 : fm (e_up M1 557 0 v) = some (v, M2)) (f2 : q_mf (e_up (e_up M1 557 0 v) 64 0 0) M2) :
    (∃ v M1 M2, fx M = some (.inl v, M1) ∧ fm (e_up M1 557 0 v) = some (v, M2) ∧ M2 64 0 = 0 ∧ M2 557 0 = v ∧ q_K M2) ∨ (∃ z c b M1 M2, cd z = some c ∧ c ≠ 0 ∧ fx M = some (.inr z, M1) ∧ fm M1 = some (b, M2) ∧ M2 64 0 = c ∧ q_K M2) := by
  refine Or.inl ⟨v, M1, M2, h1, h2, ?_, ?_, q_K_f (q_mf_fr f2) (q_K_f (q_fr_b f1) k)⟩
  · rw [f2 64 0 (by decide) (by decide) (by decide) (by decide) (by decide) (fun _ => by decide)]; rfl
  · rw [f2 557 0 (by decide) (by decide) (by decide) (by decide) (by decide) (fun e => absurd e (by decide))]; rfl
theorem q_ok1 {fx fm : e_M → Option (Int × e_M)} {v : Int} {M1 M2 : e_M} (k : q_K M) (h1 : fx M = some (v, M1)) (f1 : ∀ a j, ¬ q_sca a → M1 a j = M a j) (h2 : fm M1 = some (v, M2)) (f2 : q_mf (e_up M1 64 0 0) M2) : ∃ v M1 M2, fx M = some (v, M1) ∧ fm M1 = some (v, M2) ∧ q_K M2 :=
  ⟨v, M1, M2, h1, h2, q_K_f (q_mf_fr f2) (q_K_f (q_fr_b1 f1) k)⟩
theorem q_ref0 {fx : e_M → Option ((Int ⊕ Nat) × e_M)} {fm : e_M → Option (Int × e_M)} {cd : Nat → Option Int} {c b : Int} (k : q_K M) (hcd : cd 0 = some c) (hc : c ≠ 0) (h1 : fx M = some (.inr 0, e_up M 1 16 (e_w (M 1 16 + 1)))) (h2 : fm (e_up M 1 16 (e_w (M 1 16 + 1))) = some (b, e_up (e_up (e_up (e_up M 1 16 (e_w (M 1 16 + 1))) 64 0 0) 64 0 c) 66 0 (e_w (M 66 0 + 1)))) :
    (∃ v M1 M2, fx M = some (.inl v, M1) ∧ fm (e_up M1 557 0 v) = some (v, M2) ∧ M2 64 0 = 0 ∧ M2 557 0 = v ∧ q_K M2) ∨ (∃ z c b M1 M2, cd z = some c ∧ c ≠ 0 ∧ fx M = some (.inr z, M1) ∧ fm M1 = some (b, M2) ∧ M2 64 0 = c ∧ q_K M2) :=
  Or.inr ⟨0, c, b, _, _, hcd, hc, h1, h2, rfl, q_rf0 k⟩
theorem q_ref1 {fx : e_M → Option ((Int ⊕ Nat) × e_M)} {fm : e_M → Option (Int × e_M)} {cd : Nat → Option Int} {c b : Int} (k : q_K M) (hcd : cd 1 = some c) (hc : c ≠ 0) (h1 : fx M = some (.inr 1, e_up M 1 17 (e_w (M 1 17 + 1)))) (h2 : fm (e_up M 1 17 (e_w (M 1 17 + 1))) = some (b, e_up (e_up (e_up (e_up M 1 17 (e_w (M 1 17 + 1))) 64 0 0) 64 0 c) 66 1 (e_w (M 66 1 + 1)))) :
    (∃ v M1 M2, fx M = some (.inl v, M1) ∧ fm (e_up M1 557 0 v) = some (v, M2) ∧ M2 64 0 = 0 ∧ M2 557 0 = v ∧ q_K M2) ∨ (∃ z c b M1 M2, cd z = some c ∧ c ≠ 0 ∧ fx M = some (.inr z, M1) ∧ fm M1 = some (b, M2) ∧ M2 64 0 = c ∧ q_K M2) :=
  Or.inr ⟨1, c, b, _, _, hcd, hc, h1, h2, rfl, q_rf1 k⟩
end OK
theorem q_nat {p : Int} {n : Nat} (h : 0 ≤ p ∧ p < (n : Int)) : ∃ k : Nat, k < n ∧ p = (k : Int) := ⟨p.toNat, by omega, by omega⟩
/-! the first of them -/
theorem o_fault : q_o1 f_X10_fault f_X11_fault := by
  intro M k
  have k' := k
  obtain ⟨n, m, t, wa, sk, wo, ow, fi, l, cw, cv, L, a1, a2, a3, a4, a5, a6, a7, a8⟩ := k'
  refine q_ok1 (M1 := M) (M2 := e_up M 64 0 0) k rfl (fun _ _ _ => rfl) ?_ q_mf.rf
  unfold f_X11_fault
  rw [u_c (by decide), a2.2.2.2.1]
theorem o_status (p : Int) : q_o1 (f_X10_status p) (f_X11_status p) := by
  intro M k
  have k' := k
  obtain ⟨n, m, t, wa, sk, wo, ow, fi, l, cw, cv, L, a1, a2, a3, a4, a5, a6, a7, a8⟩ := k'
  refine q_ok1 (v := if p = 0 then M 1 16 else if p = 1 then M 1 17 else -1) (M1 := M) (M2 := e_up M 64 0 0) k ?_ (fun _ _ _ => rfl) ?_ q_mf.rf
  · unfold f_X10_status
    repeat' split
    all_goals rfl
  · unfold f_X11_status
    rw [r_in, f_bs]
    by_cases h0 : p = 0
    · subst h0
      rw [if_neg (by decide), if_pos (by decide), if_pos rfl, ← a2.2.2.2.2.1]; rfl
    · by_cases h1 : p = 1
      · subst h1
        rw [if_neg (by decide), if_pos (by decide), if_neg h0, if_pos rfl, ← a2.2.2.2.2.2.1]; rfl
      · rw [if_neg (show ¬ (0 ≤ p ∧ p ≤ 1) by omega), if_pos rfl, if_neg h0, if_neg h1]
theorem o_count (p : Int) : q_o1 (f_X10_count p) (f_X11_count p) := by
  intro M k
  have k' := k
  obtain ⟨n, m, t, wa, sk, wo, ow, fi, l, cw, cv, L, a1, a2, a3, a4, a5, a6, a7, a8⟩ := k'
  obtain ⟨h, -, b1, b2, -⟩ := a7
  obtain ⟨g, -, c1, c2, -⟩ := a8
  refine q_ok1 (v := if p = 0 then M 1 15 else if p = 1 then M 2 1 else if p = 2 then M 55 1 else -1) (M1 := M) (M2 := e_up M 64 0 0) k ?_ (fun _ _ _ => rfl) ?_ q_mf.rf
  · unfold f_X10_count
    repeat' split
    all_goals rfl
  · unfold f_X11_count
    rw [u_c (by decide), u_c (by decide), u_c (by decide), c2, a2.2.2.1, b2, c1, b1]
    by_cases h0 : p = 0
    · rw [if_neg (not_not_intro h0), if_pos h0]
    · rw [if_pos h0, if_neg h0]
      by_cases h1 : p = 1
      · rw [if_neg (not_not_intro h1), if_pos h1]
      · rw [if_pos h1, if_neg h1]
        by_cases h2 : p = 2
        · rw [if_neg (not_not_intro h2), if_pos h2]
        · rw [if_pos h2, if_neg h2]
theorem o_price {F : Nat} (hF : 300 < F) (p : Int) : q_o2 (f_X10_price F p) (f_X11_price F p) k_c0 := by
  intro M k
  have k' := k
  obtain ⟨n, m, t, wa, sk, wo, ow, fi, l, cw, cv, L, hB⟩ := k'
  have hT : q_T n m t wa sk wo ow fi M := hB.1
  have h6 := hT.1
  have hn := hT.2.2.2.2.2.2.1
  by_cases hp : 0 ≤ p ∧ p < (n : Int)
  · obtain ⟨q, hq, rfl⟩ := q_nat hp
    obtain ⟨M1, g1, g2⟩ := rn_price hq hT hB.2.2.2.1 hB.2.2.2.2.2.1.1
    have f1 : ∀ a j, ¬ q_sca a → M1 a j = M a j := fun a j ha => g2 a j (by unfold q_sca at ha; omega) (by unfold q_sca at ha; omega)
    have hB2 := q_B_f (q_fr_b (v := q_pr n t wa sk ow l cw cv L q) f1) hB
    obtain ⟨M2, i1, i2⟩ := r_priceOf (r := 532) hq hB2.1 hB2.2.2.2.1 hB2.2.2.2.2.2.1.2.1
    refine q_ok (M1 := M1) (M2 := M2) (v := q_pr n t wa sk ow l cw cv L q) k ?_ f1 ?_ (fun a j h1 h2 _ _ _ _ => i2 a j h1 h2)
    · unfold f_X10_price
      rw [r_np hT.2.2.2.1, if_pos hp, f_tl, g1 F hF, f_bs]
    · unfold f_X11_price
      rw [r_isP (n := n) (by exact hB2.1.2.2.2.2.2.2.1) h6, f_bs, if_pos hp, if_pos (by decide), r_bad0 rfl, f_bs, if_pos rfl, i1 F hF, f_bs]
  · refine q_ref0 (b := 0) (c := 1) k rfl (by decide) ?_ ?_
    · unfold f_X10_price
      rw [r_np hT.2.2.2.1, if_neg hp, f_tr]
    · unfold f_X11_price
      rw [r_isP (n := n) (by exact hn) h6, f_bs, if_neg hp, if_neg (by decide), r_badm rfl (by decide), f_bs, if_neg (by decide)]
      rfl
