/-! OPERATIONS, 15: year, span -/
section YS
variable {n m t : Nat} {wa : Nat → Int} {sk : Nat → Nat} {wo : Nat → Int} {ow : Nat → Nat} {fi : Nat → Int} {l : Nat} {cw cv L R : Nat → Int} {M : e_M}
theorem y_lw (hT : q_T n m t wa sk wo ow fi M) : 0 ≤ q_lw n m sk wo L ∧ q_lw n m sk wo L ≤ 18000 := by
  have hm := hT.2.1
  have h := q_sm_nn (c := fun d => if (q_an (2 ^ m - 1) (q_or (fun q => decide (L (18 + q) = -1)) sk n)).testBit d then wo d else 0) (n := m) hm (fun i hi => by
    have := hT.2.2.2.2.2.2.2.2.2.2.1 i hi
    show 0 ≤ (if (q_an (2 ^ m - 1) (q_or (fun q => decide (L (18 + q) = -1)) sk n)).testBit i then wo i else 0) ∧ (if (q_an (2 ^ m - 1) (q_or (fun q => decide (L (18 + q) = -1)) sk n)).testBit i then wo i else 0) ≤ 3000
    split <;> omega)
  unfold q_lw
  rw [h.1]
  omega
theorem y_ei {i : Nat} (h : i < 1000000) : e_w ((i : Int) + 1) = ((i + 1 : Nat) : Int) := by rw [e_ws_ (by omega) (by omega)]; rfl
theorem y_loop {w : Nat} {q r s0 : Int} (hw : w ≤ 96) : ∀ (j i : Nat) (L : Nat → Int) (s b : Int) (M : e_M), i + j = w → q_T n m t wa sk wo ow fi M → q_La l cw cv M → q_cr n t L M → M 54 1 = s → M 54 2 = b → 0 ≤ b → b ≤ (i : Int) → (∀ p, p < n → e_i32 (L (12 + p))) → 0 ≤ L 54 → L 54 + 18000 * (j : Int) ≤ 2000000 →
    ∃ (X : Nat → Int) (b' : Int) (M' : e_M), (L 54 ≤ X 54 ∧ X 54 ≤ 2000000) ∧ q_cr n t X M' ∧ M' 54 2 = b' ∧ (∀ a k, a ≠ 22 → a ≠ 23 → a < 43 ∨ 54 < a → M' a k = M a k) ∧ (∀ f, j + 310 < f → f_X9_liveFrom_33 f s0 (w : Int) q r (n : Int) (i : Int) M = some (0, M')) ∧
    ∀ (N : e_M) (R : Nat → Int), q_T n m t wa sk wo ow fi N → q_La l cw cv N → q_ml N 533 R → q_ag n t L R → N 64 45 = s → N 64 46 = b → ∃ (N' : e_M) (R' : Nat → Int), q_ml N' 533 R' ∧ q_ag n t X R' ∧ N' 64 46 = b' ∧ (∀ a k, a ≠ 449 → a ≠ 450 → a ≠ 533 → (a = 64 → k ≠ 45 ∧ k ≠ 46) → N' a k = N a k) ∧ ∀ f, j + 310 < f → f_X11_yearBy_24 f s0 (w : Int) q r (i : Int) N = some (0, N') := by
  intro j
  induction j with
  | zero =>
    intro i L s b M hi hT hLa hC hs hb hb0 hb1 hR hl0 hl1
    refine ⟨L, b, M, by omega, hC, hb, fun _ _ _ _ _ => rfl, fun f hf => ?_, fun N R hTN hLN hrN hag hsN hbN => ⟨N, R, hrN, hag, hbN, fun _ _ _ _ _ _ => rfl, fun f hf => ?_⟩⟩
    · obtain ⟨f', rfl⟩ : ∃ f', f = f' + 1 := ⟨f - 1, by omega⟩
      rw [f_X9_liveFrom_33, if_pos (by omega)]
    · obtain ⟨f', rfl⟩ : ∃ f', f = f' + 1 := ⟨f - 1, by omega⟩
      rw [f_X11_yearBy_24, if_pos (by omega)]
  | succ j ih =>
    intro i L s b M hi hT hLa hC hs hb hb0 hb1 hR hl0 hl1
    have h6 := hT.1
    have h12 := hT.2.2.1
    -- the trade, then the week
    have trade : ∃ (L1 : Nat → Int) (s1 b1 : Int) (M1 : e_M), (0 ≤ b1 ∧ b1 ≤ (i : Int) + 1) ∧ L1 54 = L 54 ∧ (∀ p, p < n → e_i32 (L1 (12 + p))) ∧ q_cr n t L1 M1 ∧ M1 54 1 = s1 ∧ M1 54 2 = b1 ∧ (∀ a k, a ≠ 22 → a ≠ 23 → a < 43 ∨ 54 < a → M1 a k = M a k) ∧ (∀ f, 300 < f → f_X9_liveFrom_33 (f + 1) s0 (w : Int) q r (n : Int) (i : Int) M = f_b (f_X3_passWeek_trial f M1) fun _ NN => f_X9_liveFrom_33 f s0 (w : Int) q r (n : Int) ((i + 1 : Nat) : Int) NN) ∧
        ∀ (N : e_M) (R : Nat → Int), q_T n m t wa sk wo ow fi N → q_La l cw cv N → q_ml N 533 R → q_ag n t L R → N 64 45 = s → N 64 46 = b → ∃ (N' : e_M) (R' : Nat → Int), q_ml N' 533 R' ∧ q_ag n t L1 R' ∧ N' 64 45 = s1 ∧ N' 64 46 = b1 ∧ (∀ a k, a ≠ 449 → a ≠ 450 → a ≠ 533 → (a = 64 → k ≠ 45 ∧ k ≠ 46) → N' a k = N a k) ∧ ∀ f, 300 < f → f_X11_yearBy_24 (f + 1) s0 (w : Int) q r (i : Int) N = f_b (f_X11_weekEnds 533 f N') fun _ NN => f_X11_yearBy_24 f s0 (w : Int) q r ((i + 1 : Nat) : Int) NN := by
      by_cases hn0 : n = 0
      · refine ⟨L, s, b, M, by omega, rfl, hR, hC, hs, hb, fun _ _ _ _ _ => rfl, fun f hf => ?_, fun N R hTN hLN hrN hag hsN hbN => ⟨N, R, hrN, hag, hsN, hbN, fun _ _ _ _ _ _ => rfl, fun f hf => ?_⟩⟩
        · rw [f_X9_liveFrom_33, if_neg (by omega), if_pos (by omega), y_ei (by omega)]
        · rw [f_X11_yearBy_24, if_neg (by omega), hTN.2.2.2.2.2.2.1, if_pos (by omega), y_ei (by omega)]
      · obtain ⟨L1, b1, M1, a1, a2, a3, a4, a5, a6, a7, a8, a9⟩ := y_A (q := q) (by omega : 0 < n) hT hLa hC hs hb (by omega) hR
        obtain ⟨L2, M2, c1, c2, c3, c4, c5, c6, c7, c8⟩ := y_B (r := r) (by omega : 0 < n) h6 a4 a5 a3
        refine ⟨L2, _, b1, M2, by omega, by rw [c1, a2], c2, c3, c4, by rw [c5, a6], fun a k x1 x2 x3 => by rw [c6 a k x3, a7 a k x1 x2 x3], fun f hf => ?_, fun N R hTN hLN hrN hag hsN hbN => ?_⟩
        · rw [f_X9_liveFrom_33, if_neg (by omega), if_neg (by omega), a8 f r hf, c7, f_bs, y_ei (by omega)]
        · obtain ⟨N1, R1, d1, d2, d3, d4, d5, d6⟩ := a9 N R hTN hLN hrN hag hsN hbN
          obtain ⟨N2, R2, e1, e2, e3, e4, e5⟩ := c8 N1 R1 (by rw [d5 68 0 (by decide) (by decide) (by decide) (by omega)]; exact hTN.2.2.2.2.2.2.1) d1 d2 d3
          refine ⟨N2, R2, e1, e2, e3, by rw [e4 64 46 (by decide) (by omega)]; exact d4, fun a k x1 x2 x3 x4 => by rw [e4 a k x3 (fun h => (x4 h).1), d5 a k x1 x2 x3 x4], fun f hf => ?_⟩
          rw [d6 f s0 (w : Int) r (i : Int) hf (by omega), e5, y_ei (by omega)]
    obtain ⟨L1, s1, b1, M1, t1, t2, t3, t4, t5, t6, t7, t8, t9⟩ := trade
    have hT1 : q_T n m t wa sk wo ow fi M1 := q_T_f (fun a j z => t7 a j (by unfold q_F3 at z; omega) (by unfold q_F3 at z; omega) (by unfold q_F3 at z; omega)) hT
    obtain ⟨M2, w1, w2, w3⟩ := rr_week hT1 t4 t3 (q_wkf_ok h6 h12)
    have hlw := y_lw (L := L1) hT
    have e54 : q_wkf n m t wa sk wo ow fi L1 54 = L 54 + q_lw n m sk wo L1 := by
      rw [(q_wkf_ok (wa := wa) (sk := sk) (wo := wo) (ow := ow) (fi := fi) (L := L1) (m := m) h6 h12).2.2.1, t2, e_ws_ (by omega) (by omega)]
    have fr2 : ∀ a k, a ≠ 22 → a ≠ 23 → a < 43 ∨ 54 < a → M2 a k = M a k := fun a k x1 x2 x3 => by rw [w3 a k (by omega), t7 a k x1 x2 x3]
    obtain ⟨X, b', M', i1, i2, i3, i4, i5, i6⟩ := ih (i + 1) (q_wkf n m t wa sk wo ow fi L1) s1 b1 M2 (by omega) (q_T_f (fun a j z => fr2 a j (by unfold q_F3 at z; omega) (by unfold q_F3 at z; omega) (by unfold q_F3 at z; omega)) hT) (q_La_f (fun a j z => fr2 a j (by unfold q_F4 at z; omega) (by unfold q_F4 at z; omega) (by unfold q_F4 at z; omega)) hLa) w2 (by rw [w3 54 1 (by omega)]; exact t5) (by rw [w3 54 2 (by omega)]; exact t6) t1.1 (by omega) (q_WK_r (q_wkf_ok h6 h12)) (by omega) (by omega)
    refine ⟨X, b', M', by omega, i2, i3, fun a k x1 x2 x3 => by rw [i4 a k x1 x2 x3, fr2 a k x1 x2 x3], fun f hf => ?_, fun N R hTN hLN hrN hag hsN hbN => ?_⟩
    · obtain ⟨f', rfl⟩ : ∃ f', f = f' + 1 := ⟨f - 1, by omega⟩
      rw [t8 f' (by omega), w1 f' (by omega), f_bs]
      exact i5 f' (by omega)
    · obtain ⟨N1, R1, d1, d2, d3, d4, d5, d6⟩ := t9 N R hTN hLN hrN hag hsN hbN
      have hT1 : q_T n m t wa sk wo ow fi N1 := q_T_f (fun a j z => d5 a j (by unfold q_F3 at z; omega) (by unfold q_F3 at z; omega) (by unfold q_F3 at z; omega) (by unfold q_F3 at z; omega)) hTN
      have hL1 : q_La l cw cv N1 := q_La_f (fun a j z => d5 a j (by unfold q_F4 at z; omega) (by unfold q_F4 at z; omega) (by unfold q_F4 at z; omega) (by unfold q_F4 at z; omega)) hLN
      obtain ⟨N2, k1, k2, k3⟩ := r_week hT1 d1 (by decide)
      obtain ⟨N3, R3, j1, j2, j3, j4, j5⟩ := i6 N2 (N2 533) (q_T_f (fun a j z => k3 a j (by unfold q_F3 at z; omega)) hT1) (q_La_f (fun a j z => k3 a j (by unfold q_F4 at z; omega)) hL1) (fun _ _ => rfl) (q_WK_ag (fun k hk => (hT.2.2.2.2.2.2.2.2.2.2.2 k hk).2.2.1) d2 (q_wkf_ok h6 h12) k2) (by rw [k3 64 45 (by decide)]; exact d3) (by rw [k3 64 46 (by decide)]; exact d4)
      refine ⟨N3, R3, j1, j2, j3, fun a k x1 x2 x3 x4 => by rw [j4 a k x1 x2 x3 x4, k3 a k x3, d5 a k x1 x2 x3 x4], fun f hf => ?_⟩
      obtain ⟨f', rfl⟩ : ∃ f', f = f' + 1 := ⟨f - 1, by omega⟩
      rw [d6 f' (by omega), k1 f' (by omega), f_bs]
      exact j5 f' (by omega)
theorem y_live {w : Nat} {s q r : Int} (hw : w ≤ 96) (hT : q_T n m t wa sk wo ow fi M) (hLa : q_La l cw cv M) (hC : q_cn n t L M) (hLB : q_LB n t L) :
    ∃ (X : Nat → Int) (b : Int) (M' : e_M), (L 54 ≤ X 54 ∧ X 54 ≤ 2000000) ∧ q_cr n t X M' ∧ M' 54 2 = b ∧ (∀ a k, a ≠ 22 → a ≠ 23 → a < 43 ∨ 54 < a → M' a k = M a k) ∧ (∀ f, 500 < f → f_X9_liveFrom f s (w : Int) q r M = some (0, M')) ∧
    ∀ (N : e_M), q_T n m t wa sk wo ow fi N → q_La l cw cv N → q_ml N 532 L → ∃ (N' : e_M) (R' : Nat → Int), q_ml N' 533 R' ∧ q_ag n t X R' ∧ N' 64 46 = b ∧ (∀ a k, a ≠ 449 → a ≠ 450 → a ≠ 533 → (a = 64 → k ≠ 45 ∧ k ≠ 46) → N' a k = N a k) ∧ ∀ f, 500 < f → f_X11_yearBy f s (w : Int) q r N = some (0, N') := by
  have h6 := hT.1
  have h12 := hT.2.2.1
  obtain ⟨M0, a1, a2, a3⟩ := rr_copy hC h6 h12
  have hLB1 := hLB.2.1
  have hLB2 := hLB.2.2.1
  have hLB3 := hLB.2.2.2.1
  have fr0 : ∀ a k, a < 43 ∨ 54 < a → (e_up (e_up M0 54 1 s) 54 2 0) a k = M a k := fun a k h => by rw [u_r (by omega), u_r (by omega), a3 a k (by omega)]
  have hC0 : q_cr n t L (e_up (e_up M0 54 1 s) 54 2 0) := ⟨fun p hp => a2.1 p hp, fun k hk => a2.2.1 k hk, a2.2.2.1, a2.2.2.2.1, a2.2.2.2.2⟩
  obtain ⟨X, b, M', i1, i2, i3, i4, i5, i6⟩ := y_loop (w := w) (q := q) (r := r) (s0 := s) hw w 0 L s 0 (e_up (e_up M0 54 1 s) 54 2 0) (by omega) (q_T_f (fun a j z => fr0 a j (by unfold q_F3 at z; omega)) hT) (q_La_f (fun a j z => fr0 a j (by unfold q_F4 at z; omega)) hLa) hC0 rfl rfl (Int.le_refl _) (Int.le_refl _) (q_LB_r hLB) (by omega) (by omega)
  refine ⟨X, b, M', i1, i2, i3, fun a k x1 x2 x3 => by rw [i4 a k x1 x2 x3, fr0 a k x3], fun f hf => ?_, fun N hTN hLN hrN => ?_⟩
  · unfold f_X9_liveFrom
    rw [a1, f_bs, fr0 4 0 (by omega), hT.2.2.2.1]
    exact i5 f (by omega)
  · obtain ⟨N0, c1, c2, c3⟩ := r_copies (M := N) (q0 := 532) (q1 := 533) (by decide)
    have frN : ∀ a k, a ≠ 533 → (a = 64 → k ≠ 45 ∧ k ≠ 46) → (e_up (e_up N0 64 45 s) 64 46 0) a k = N a k := fun a k h1 h2 => by
      by_cases ha : a = 64
      · subst ha
        rw [u_c (h2 rfl).2, u_c (h2 rfl).1, c3 64 k h1]
      · rw [u_r ha, u_r ha, c3 a k h1]
    obtain ⟨N', R', j1, j2, j3, j4, j5⟩ := i6 (e_up (e_up N0 64 45 s) 64 46 0) L (q_T_f (fun a j z => frN a j (by unfold q_F3 at z; omega) (by unfold q_F3 at z; omega)) hTN) (q_La_f (fun a j z => frN a j (by unfold q_F4 at z; omega) (by unfold q_F4 at z; omega)) hLN) (fun j hj => (c2 j hj).trans (hrN j hj)) q_ag.rf rfl rfl
    refine ⟨N', R', j1, j2, j3, fun a k x1 x2 x3 x4 => by rw [j4 a k x1 x2 x3 x4, frN a k x3 x4], fun f hf => ?_⟩
    unfold f_X11_yearBy
    rw [c1 f (by omega), f_bs]
    exact j5 f (by omega)
end YS
