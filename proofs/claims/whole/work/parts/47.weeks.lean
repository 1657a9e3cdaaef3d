/-! PURE 7: weeks on both sides -/
section WE
variable {n m t : Nat} {wa : Nat → Int} {sk : Nat → Nat} {wo : Nat → Int} {ow : Nat → Nat} {fi : Nat → Int} {L : Nat → Int} {M : e_M} {r : Nat}
theorem r_week (hT : q_T n m t wa sk wo ow fi M) (hr : q_ml M r L) (hrr : 113 < r) : ∃ M', (∀ f, 300 < f → f_X11_weekEnds r f M = some (0, M')) ∧ q_WK n m t wa sk wo ow fi L (M' r) ∧ ∀ a j, a ≠ r → M' a j = M a j := by
  have h6 := hT.1
  have hm := hT.2.1
  have ht12 := hT.2.2.1
  have h0 := hT.2.2.2.2.2.2.1
  have hmul : n * (t + 2) ≤ 6 * 14 := Nat.mul_le_mul h6 (by omega)
  have eL : q_or (fun q => decide (M r (18 + q) = -1)) sk n = q_or (fun q => decide (L (18 + q) = -1)) sk n := q_or_congr (fun i hi => ⟨by rw [hr (18 + i) (by omega)], fun _ => rfl⟩)
  have hlt : q_an (2 ^ m - 1) (q_or (fun q => decide (L (18 + q) = -1)) sk n) < 2147483648 := by
    have h1 : (2 : Nat) ^ m ≤ 2 ^ 6 := Nat.pow_le_pow_right (by omega) hm
    have h2 := q_an_lt (a := 2 ^ m - 1) (b := q_or (fun q => decide (L (18 + q) = -1)) sk n) (k := 6) (by have := Nat.two_pow_pos m; omega)
    omega
  have e0 : ∀ f, 300 < f → f_X11_weekEnds r f M = f_X11_weekEnds_L18 r f 0 0 0 0 (e_up M r 54 (e_w (M r 54 + q_lw n m sk wo L))) := by
    intro f hf
    unfold f_X11_weekEnds
    rw [r_left h0 h6 hT.2.2.2.2.2.2.2.1 hm (fun q hq => ⟨(hT.2.2.2.2.2.2.2.2.2.1 q hq).2.2.2.2.2.1, (hT.2.2.2.2.2.2.2.2.2.1 q hq).2.2.2.2.2.2⟩) (by omega), f_bs, eL, r_worth hlt hT.2.2.2.2.2.2.2.1 hm (fun d hd => (hT.2.2.2.2.2.2.2.2.2.2.1 d hd).2.1) (by omega), f_bs]
    rfl
  have hrun := q_run 0 (t + 2) n (fun f (N : e_M) p => f_X11_weekEnds_L18 r f 0 p 0 0 N) (fun p N => q_J n t wa ow fi L (e_w (L 54 + q_lw n m sk wo L)) M r p 0 0 N) (a := e_up M r 54 (e_w (M r 54 + q_lw n m sk wo L)))
  obtain ⟨N, hJ, he⟩ := hrun (by
    intro p N hp hJ
    obtain ⟨j1, j2, j3, j4, j5, j6, j7, j8, j9, j10⟩ := hJ
    have g0 : N 68 0 = (n : Int) := by rw [j1 68 0 (by omega)]; exact h0
    have g1 : N 68 2 = (t : Int) := by rw [j1 68 2 (by omega)]; exact hT.2.2.2.2.2.2.2.2.1
    have g2 : N (81 + p) 1 = wa p := by rw [j1 _ _ (by omega)]; exact (hT.2.2.2.2.2.2.2.2.2.1 p hp).2.1
    have k6 : N r p = L p := by rw [j6 p hp, if_neg (by omega), if_neg (by omega)]
    have k7 : N r (6 + p) = L (6 + p) := by rw [j7 p hp, if_neg (by omega)]
    have k8 : N r (12 + p) = L (12 + p) := by rw [j8 p hp, if_neg (by omega)]
    have hd : ∃ N1, q_J n t wa ow fi L (e_w (L 54 + q_lw n m sk wo L)) M r p 0 1 N1 ∧ ∀ f, f_X11_weekEnds_L18 r (f + 1) 0 (p : Int) 0 0 N = f_X11_weekEnds_L18 r f 1 (p : Int) (if L (18 + p) = -1 then 1 else 0) 0 N1 := by
      by_cases c : L (18 + p) = -1
      · refine ⟨e_up (e_up (e_up N r (6 + p) (e_w (N r (6 + p) + 7))) r (12 + p) (e_w (N r (12 + p) + 0))) r p (min 999 (e_w (N r p + wa p))), ⟨fun a j ha => by rw [u_r ha, u_r ha, u_r ha]; exact j1 a j ha, fun q hq => by rw [u_c (by omega), u_c (by omega), u_c (by omega)]; exact j2 q hq, fun q hq => by rw [u_c (by omega), u_c (by omega), u_c (by omega)]; exact j3 q hq, by rw [u_c (by omega), u_c (by omega), u_c (by omega)]; exact j4, by rw [u_c (by omega), u_c (by omega), u_c (by omega)]; exact j5, fun q hq => ?_, fun q hq => ?_, fun q hq => ?_, fun q hq => ?_, fun q hq => ?_⟩, fun f => ?_⟩
        · by_cases e0 : q = p
          · subst e0
            rw [u_s, if_neg (by omega), if_pos (by omega), if_pos c, k6]
          · rw [u_c e0, u_c (by omega), u_c (by omega), j6 q hq]
            by_cases e1 : q < p
            · rw [if_pos e1, if_pos e1]
            · rw [if_neg e1, if_neg e1, if_neg (by omega), if_neg (by omega)]
        · rw [u_c (by omega), u_c (by omega)]
          by_cases e0 : q = p
          · subst e0
            rw [u_s, if_pos (by omega), k7]
            unfold q_wl
            rw [if_pos c]
          · rw [u_c (by omega), j7 q hq]
            by_cases e1 : q < p
            · rw [if_pos (by omega), if_pos (by omega)]
            · rw [if_neg (by omega), if_neg (by omega)]
        · rw [u_c (by omega)]
          by_cases e0 : q = p
          · subst e0
            rw [u_s, if_pos (by omega), k8]
            unfold q_ws
            rw [if_pos c]
          · rw [u_c (by omega), u_c (by omega), j8 q hq]
            by_cases e1 : q < p
            · rw [if_pos (by omega), if_pos (by omega)]
            · rw [if_neg (by omega), if_neg (by omega)]
        · rw [u_c (by omega), u_c (by omega), u_c (by omega), j9 q hq]
          by_cases e1 : q < p
          · rw [if_pos e1, if_pos e1]
          · rw [if_neg e1, if_neg e1, if_neg (by omega)]
            by_cases e0 : q = p
            · subst e0
              rw [if_pos (by omega), if_pos c]
            · rw [if_neg (by omega)]
        · rw [u_c (by omega), u_c (by omega), u_c (by omega), j10 q hq]
          by_cases c5 : q_td L q = true ∧ L (18 + ow q) = -1
          · by_cases c4 : ow q < p
            · rw [if_pos ⟨by omega, c5⟩, if_pos ⟨by omega, c5⟩]
            · rw [if_neg (fun z => c4 (by omega)), if_neg (fun z => c4 (by omega))]
          · rw [if_neg (fun z => c5 z.2), if_neg (fun z => c5 z.2)]
        · rw [f_X11_weekEnds_L18, if_pos rfl, if_neg (by omega), r_sold (by omega), f_bs, j2 p (by omega), if_pos c, if_neg (by decide), e_ws_ (x := 6 + (p : Int)) (by omega) (by omega), e_ws_ (x := 12 + (p : Int)) (by omega) (by omega), if_pos (by omega), if_pos (by omega), if_pos (by omega), if_pos (by omega), q_w0 p (by omega), if_pos (by omega), if_pos (by omega), q_t6, q_t12, Int.toNat_natCast, r_less, f_bs, if_pos (by omega), if_pos c]
          rw [u_c (show 12 + p ≠ 6 + p by omega), u_c (show p ≠ 12 + p by omega), u_c (show p ≠ 6 + p by omega), u_r (show 81 + p ≠ r by omega), u_r (show 81 + p ≠ r by omega), g2]
      · refine ⟨e_up (e_up N r (6 + p) (e_w (N r (6 + p) + 6))) r (12 + p) (e_w (N r (12 + p) + 1)), ⟨fun a j ha => by rw [u_r ha, u_r ha]; exact j1 a j ha, fun q hq => by rw [u_c (by omega), u_c (by omega)]; exact j2 q hq, fun q hq => by rw [u_c (by omega), u_c (by omega)]; exact j3 q hq, by rw [u_c (by omega), u_c (by omega)]; exact j4, by rw [u_c (by omega), u_c (by omega)]; exact j5, fun q hq => ?_, fun q hq => ?_, fun q hq => ?_, fun q hq => ?_, fun q hq => ?_⟩, fun f => ?_⟩
        · rw [u_c (by omega), u_c (by omega), j6 q hq]
          by_cases e1 : q < p
          · rw [if_pos e1, if_pos e1]
          · rw [if_neg e1, if_neg e1, if_neg (by omega)]
            by_cases e0 : q = p
            · subst e0
              rw [if_pos (by omega), if_neg c]; rfl
            · rw [if_neg (by omega)]
        · rw [u_c (by omega)]
          by_cases e0 : q = p
          · subst e0
            rw [u_s, if_pos (by omega), k7]
            unfold q_wl
            rw [if_neg c]
          · rw [u_c (by omega), j7 q hq]
            by_cases e1 : q < p
            · rw [if_pos (by omega), if_pos (by omega)]
            · rw [if_neg (by omega), if_neg (by omega)]
        · by_cases e0 : q = p
          · subst e0
            rw [u_s, if_pos (by omega), k8]
            unfold q_ws
            rw [if_neg c]
          · rw [u_c (by omega), u_c (by omega), j8 q hq]
            by_cases e1 : q < p
            · rw [if_pos (by omega), if_pos (by omega)]
            · rw [if_neg (by omega), if_neg (by omega)]
        · rw [u_c (by omega), u_c (by omega), j9 q hq]
          by_cases e1 : q < p
          · rw [if_pos e1, if_pos e1]
          · rw [if_neg e1, if_neg e1, if_neg (by omega)]
            by_cases e0 : q = p
            · subst e0
              rw [if_pos (by omega), if_neg c]; rfl
            · rw [if_neg (by omega)]
        · rw [u_c (by omega), u_c (by omega), j10 q hq]
          by_cases c5 : q_td L q = true ∧ L (18 + ow q) = -1
          · by_cases c4 : ow q < p
            · rw [if_pos ⟨by omega, c5⟩, if_pos ⟨by omega, c5⟩]
            · rw [if_neg (fun z => c4 (by omega)), if_neg (fun z => c4 (by omega))]
          · rw [if_neg (fun z => c5 z.2), if_neg (fun z => c5 z.2)]
        · rw [f_X11_weekEnds_L18, if_pos rfl, if_neg (by omega), r_sold (by omega), f_bs, j2 p (by omega), if_neg c, if_pos (by decide), e_ws_ (x := 6 + (p : Int)) (by omega) (by omega), e_ws_ (x := 12 + (p : Int)) (by omega) (by omega), if_pos (by omega), if_pos (by omega), if_pos (by omega), if_pos (by omega), q_t6, q_t12, if_neg c]
          rw [u_c (show 12 + p ≠ 6 + p by omega)]
    obtain ⟨N1, hJ1, hh⟩ := hd
    have hin := q_run 0 1 t (fun f (N : e_M) k => f_X11_weekEnds_L18 r f 1 (p : Int) (if L (18 + p) = -1 then 1 else 0) k N) (fun k N => q_J n t wa ow fi L (e_w (L 54 + q_lw n m sk wo L)) M r p k 1 N) (a := N1) (fun k N hk hJk => q_J_uni hT hrr hp hk hJk _ rfl) hJ1
    obtain ⟨N2, hJ2, hi2⟩ := hin
    refine ⟨N2, q_J_next hJ2, fun f _ => ?_⟩
    have g3 : N2 68 2 = (t : Int) := by rw [hJ2.1 68 2 (by omega)]; exact hT.2.2.2.2.2.2.2.2.1
    rw [show f + (t + 2) = (f + 1 + t * 1) + 1 by omega, hh (f + 1 + t * 1), hi2 (f + 1) (by omega), f_X11_weekEnds_L18, if_neg (by decide), if_pos (by omega), e_ws_ (x := (p : Int) + 1) (by omega) (by omega)]) (by
    refine ⟨fun a j ha => u_r ha, fun q hq => by rw [u_c (by omega)]; exact hr _ (by omega), fun q hq => by rw [u_c (by omega)]; exact hr _ (by omega), by rw [u_c (by omega)]; exact hr _ (by omega), by rw [u_s, hr 54 (by omega)], fun q hq => ?_, fun q hq => ?_, fun q hq => ?_, fun q hq => ?_, fun q hq => ?_⟩
    · rw [u_c (by omega), if_neg (by omega), if_neg (by omega)]; exact hr _ (by omega)
    · rw [u_c (by omega), if_neg (by omega)]; exact hr _ (by omega)
    · rw [u_c (by omega), if_neg (by omega)]; exact hr _ (by omega)
    · rw [u_c (by omega), if_neg (by omega), if_neg (by omega)]; exact hr _ (by omega)
    · rw [u_c (by omega), if_neg (fun z => by omega)]; exact hr _ (by omega))
  obtain ⟨j1, j2, j3, j4, j5, j6, j7, j8, j9, j10⟩ := hJ
  have hend := q_run 0 1 6 (fun f (A : e_M) i => f_X11_weekEnds_218 r f i A) (fun i A => (∀ a j, a ≠ r → A a j = N a j) ∧ (∀ j, j < 18 ∨ 24 ≤ j → A r j = N r j) ∧ ∀ q, q < i → A r (18 + q) = -1) (a := N) (fun i A hi hA => by
    obtain ⟨a1, a2, a3⟩ := hA
    refine ⟨e_up A r (18 + i) (-1), ⟨fun a j ha => by rw [u_r ha]; exact a1 a j ha, fun j hj => by rw [u_c (by omega)]; exact a2 j hj, fun q hq => ?_⟩, fun f _ => ?_⟩
    · by_cases e : q = i
      · subst e; rw [u_s]
      · rw [u_c (by omega)]; exact a3 q (by omega)
    · rw [f_X11_weekEnds_218, if_neg (by omega), e_ws_ (x := 18 + (i : Int)) (by omega) (by omega), if_pos (by omega), q_t18, e_ws_ (x := (i : Int) + 1) (by omega) (by omega)]) ⟨fun _ _ _ => rfl, fun _ _ => rfl, fun q hq => absurd hq (Nat.not_lt_zero _)⟩
  obtain ⟨A, ⟨a1, a2, a3⟩, hA⟩ := hend
  have g0 : N 68 0 = (n : Int) := by rw [j1 68 0 (by omega)]; exact h0
  refine ⟨e_up A r 55 (e_w (A r 55 + 1)), fun f hf => ?_, ⟨fun p hp => ?_, fun k hk => ?_, ?_, ?_⟩, fun a j ha => ?_⟩
  · obtain ⟨f', hf'⟩ : ∃ f', f = (f' + 1 + 6 * 1 + 1) + n * (t + 2) := ⟨f - 8 - n * (t + 2), by omega⟩
    rw [e0 f hf, hf']
    refine (he (f' + 1 + 6 * 1 + 1) (by omega)).trans ?_
    show f_X11_weekEnds_L18 r (f' + 1 + 6 * 1 + 1) 0 (n : Int) 0 0 N = _
    rw [f_X11_weekEnds_L18, if_pos rfl, if_pos (by omega)]
    refine (hA (f' + 1) (by omega)).trans ?_
    show f_X11_weekEnds_218 r (f' + 1) ((6 : Nat) : Int) A = _
    rw [f_X11_weekEnds_218, if_pos (by omega)]
  · refine ⟨?_, ?_, ?_, ?_, ?_⟩
    · rw [u_c (by omega), a2 _ (by omega), j6 p hp, if_pos hp]
    · rw [u_c (by omega), a2 _ (by omega), j7 p hp, if_pos (by omega)]
    · rw [u_c (by omega), a2 _ (by omega), j8 p hp, if_pos (by omega)]
    · rw [u_c (by omega), a3 p (by omega)]
    · rw [u_c (by omega), a2 _ (by omega), j9 p hp, if_pos hp]
  · have hok := (hT.2.2.2.2.2.2.2.2.2.2.2 k hk).2.2.1
    refine ⟨?_, ?_⟩
    · rw [u_c (by omega), a2 _ (by omega), j3 k (by omega)]
    · rw [u_c (by omega), a2 _ (by omega), j10 k hk]
      by_cases c : q_td L k = true ∧ L (18 + ow k) = -1
      · rw [if_pos ⟨by omega, c⟩, if_pos c]
      · rw [if_neg (fun z => c z.2), if_neg c]
  · rw [u_c (by omega), a2 _ (by omega), j5]
  · rw [u_s, a2 _ (by omega), j4]
  · rw [u_r ha, a1 a j ha, j1 a j ha]
end WE
