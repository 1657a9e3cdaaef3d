/-! PURE 3: the LAW worked off -/
def q_by (w u v : Int) : Int := if w = 2 then e_w (u + v) else if w = 3 then e_w (u - v) else if w = 4 then e_w (u * v) else if w = 5 then (if v = 0 then 0 else e_w (Int.tdiv u v)) else if w = 6 then (if v = 0 then 0 else e_w (Int.tmod u v)) else if w = 7 then min u v else max u v
theorem r_by {M : e_M} {w u v : Int} : f_X11_by w u v M = some (q_by w u v, M) := by
  unfold f_X11_by q_by
  by_cases h2 : w = 2
  · rw [if_pos h2, if_pos h2]
  rw [if_neg h2, if_neg h2]
  by_cases h3 : w = 3
  · rw [if_pos h3, if_pos h3]
  rw [if_neg h3, if_neg h3]
  by_cases h4 : w = 4
  · rw [if_pos h4, if_pos h4]
  rw [if_neg h4, if_neg h4]
  by_cases h5 : w = 5
  · rw [if_pos h5, if_pos h5]
    by_cases hv : v = 0
    · rw [if_neg (not_not_intro hv), if_pos hv]
    · rw [if_pos hv, if_neg hv]
      by_cases hv1 : v = -1
      · rw [if_neg (not_not_intro hv1), hv1, Int.tdiv_neg, Int.tdiv_one]
      · rw [if_pos hv1, if_pos hv]
  rw [if_neg h5, if_neg h5]
  by_cases h6 : w = 6
  · rw [if_pos h6, if_pos h6]
    by_cases hv : v = 0
    · rw [if_pos hv, if_pos hv]
    · rw [if_neg hv, if_neg hv]
      by_cases hv1 : v = -1
      · rw [if_neg (not_not_intro hv1), hv1, Int.tmod_neg, Int.tmod_one]; rfl
      · rw [if_pos hv1, if_pos hv]
  rw [if_neg h6, if_neg h6]
  by_cases h7 : w = 7
  · rw [if_pos h7, if_pos h7, r_less]; rfl
  · rw [if_neg h7, if_neg h7, r_more]; rfl
theorem r_comb {M : e_M} {w u v : Int} (h1 : 2 ≤ w) (h9 : w ≤ 8) : f_X2_combined (1998 + w) u v M = some (q_by w u v, M) := by
  unfold f_X2_combined q_by
  by_cases h2 : w = 2
  · rw [if_pos (by omega), if_pos h2]
  rw [if_neg (by omega), if_neg h2]
  by_cases h3 : w = 3
  · rw [if_pos (by omega), if_pos h3]
  rw [if_neg (by omega), if_neg h3]
  by_cases h4 : w = 4
  · rw [if_pos (by omega), if_pos h4]
  rw [if_neg (by omega), if_neg h4]
  by_cases h5 : w = 5
  · rw [if_pos (by omega), if_pos h5]
    by_cases hv : v = 0
    · rw [if_neg (not_not_intro hv), if_pos hv]
    · rw [if_pos hv, if_neg hv, if_pos hv]
  rw [if_neg (by omega), if_neg h5]
  by_cases h6 : w = 6
  · rw [if_pos (by omega), if_pos h6]
    by_cases hv : v = 0
    · rw [if_neg (not_not_intro hv), if_pos hv]
    · rw [if_pos hv, if_neg hv, if_pos hv]
  rw [if_neg (by omega), if_neg h6]
  by_cases h7 : w = 7
  · rw [if_pos (by omega), if_pos h7]
    split
    · rw [Int.min_eq_right (by omega)]
    · rw [Int.min_eq_left (by omega)]
  · rw [if_neg (by omega), if_neg h7]
    split
    · rw [Int.max_eq_right (by omega)]
    · rw [Int.max_eq_left (by omega)]
/-- the stack ahead of each code -/
def q_st (cw cv kn : Nat → Int) : Nat → Nat → Int
  | 0 => fun _ => e_w (e_w (5 + e_w (3 * kn 1)) + kn 2)
  | k + 1 => fun j => if cw k < 2 then (if j = q_hg cw k then (if cw k = 0 then cv k else kn (cv k).toNat) else q_st cw cv kn k j) else (if j = q_hg cw k - 2 then q_by (cw k) (q_st cw cv kn k (q_hg cw k - 2)) (q_st cw cv kn k (q_hg cw k - 1)) else q_st cw cv kn k j)
def q_ev (l : Nat) (cw cv kn : Nat → Int) : Int := min 99 (max 0 (q_st cw cv kn l 0))
theorem q_ev_r {l : Nat} {cw cv kn : Nat → Int} : 0 ≤ q_ev l cw cv kn ∧ q_ev l cw cv kn ≤ 99 := by unfold q_ev; omega
theorem q_hg_le (w : Nat → Int) : ∀ k, q_hg w k ≤ k
  | 0 => Nat.le_refl _
  | k + 1 => by
    have := q_hg_le w k
    show (if w k < 2 then q_hg w k + 1 else q_hg w k - 1) ≤ k + 1
    split <;> omega
theorem q_hg_pos {w : Nat → Int} {l : Nat} (h : ∀ k, k < l → 2 ≤ w k → 2 ≤ q_hg w k) : ∀ k, k ≤ l → 0 < k → 0 < q_hg w k
  | 0, _, h0 => by omega
  | k + 1, hk, _ => by
    show 0 < (if w k < 2 then q_hg w k + 1 else q_hg w k - 1)
    split
    · omega
    · have := h k (by omega) (by omega)
      omega
theorem q_hg_s1 {w : Nat → Int} {k : Nat} (h : w k < 2) : q_hg w (k + 1) = q_hg w k + 1 := by
  show (if w k < 2 then q_hg w k + 1 else q_hg w k - 1) = _
  rw [if_pos h]
theorem q_hg_s2 {w : Nat → Int} {k : Nat} (h : ¬ w k < 2) : q_hg w (k + 1) = q_hg w k - 1 := by
  show (if w k < 2 then q_hg w k + 1 else q_hg w k - 1) = _
  rw [if_neg h]
/-- what the codes must be -/
def q_wf (l : Nat) (cw cv : Nat → Int) : Prop := l ≤ 150 ∧ ∀ k, k < l → ((cw k = 0 ∧ 0 ≤ cv k ∧ cv k ≤ 999) ∨ (cw k = 1 ∧ 0 ≤ cv k ∧ cv k < 8) ∨ (2 ≤ cw k ∧ cw k ≤ 8)) ∧ (2 ≤ cw k → 2 ≤ q_hg cw k)
theorem q_La_wf {l : Nat} {cw cv : Nat → Int} {M : e_M} (h : q_La l cw cv M) : q_wf l cw cv := by
  refine ⟨h.1, fun k hk => ⟨?_, (h.2.2.2 k hk).2.2.2⟩⟩
  have := (h.2.2.2 k hk).2.2.1
  unfold q_cd at this
  omega
theorem r_byLaw {M : e_M} {l : Nat} {cw cv kn : Nat → Int} (hw : q_wf l cw cv) (h1 : M 64 21 = (l : Int)) (h2 : ∀ k, k < l → M (114 + k) 0 = cw k ∧ M (114 + k) 1 = cv k) (h3 : ∀ j, j < 8 → M 450 j = kn j) : ∃ M', (∀ n, 151 < n → f_X11_byLaw n M = some (q_ev l cw cv kn, M')) ∧ ∀ a j, a ≠ 449 → M' a j = M a j := by
  obtain ⟨hl, hc⟩ := hw
  have hr := q_run 0 1 l (fun n (a : Int × e_M) i => f_X11_byLaw_27 n a.1 i a.2) (fun i a => a.1 = (q_hg cw i : Int) ∧ (∀ b j, b ≠ 449 → a.2 b j = M b j) ∧ ∀ j, j < q_hg cw i ∨ j = 0 → a.2 449 j = q_st cw cv kn i j) (a := (0, e_up M 449 0 (e_w ((e_w (5 + (e_w (3 * (M 450 1))))) + (M 450 2)))))
  obtain ⟨a', ⟨k1, k2, k3⟩, he⟩ := hr (by
    rintro i ⟨v1, N⟩ hi ⟨k1, k2, k3⟩
    dsimp only at k1 k2 k3
    have hc1 := hc i hi
    have hh := q_hg_le cw i
    have g1 : N 64 21 = (l : Int) := by rw [← h1]; exact k2 64 21 (by omega)
    have g2 : N (114 + i) 0 = cw i := by rw [← (h2 i hi).1]; exact k2 _ _ (by omega)
    have g3 : N (114 + i) 1 = cv i := by rw [← (h2 i hi).2]; exact k2 _ _ (by omega)
    subst k1
    by_cases c2 : cw i < 2
    · refine ⟨(((q_hg cw i + 1 : Nat) : Int), e_up N 449 (q_hg cw i) (if cw i = 0 then cv i else kn (cv i).toNat)), ⟨by rw [q_hg_s1 c2], fun b j hb => ?_, fun j hj => ?_⟩, fun n _ => ?_⟩
      · show e_up N 449 _ _ b j = M b j
        rw [u_r hb]; exact k2 b j hb
      · show e_up N 449 _ _ 449 j = _
        rw [q_hg_s1 c2] at hj
        show _ = (if cw i < 2 then (if j = q_hg cw i then (if cw i = 0 then cv i else kn (cv i).toNat) else q_st cw cv kn i j) else _)
        rw [if_pos c2]
        by_cases ej : j = q_hg cw i
        · rw [ej, u_s, if_pos rfl]
        · rw [u_c ej, if_neg ej]; exact k3 j (by omega)
      · show f_X11_byLaw_27 (n + 1) _ _ N = f_X11_byLaw_27 n _ _ _
        rw [f_X11_byLaw_27, if_neg (by omega), if_pos (by omega), Int.toNat_natCast, g2, if_neg (by omega), if_pos (by omega), g3, e_ws_ (x := (q_hg cw i : Int) + 1) (by omega) (by omega), e_ws_ (x := (i : Int) + 1) (by omega) (by omega), Int.toNat_natCast]
        by_cases c0 : cw i = 0
        · rw [if_neg (not_not_intro c0), if_pos (by omega), if_pos (by omega), if_pos c0]; rfl
        · have c1 : cw i = 1 ∧ 0 ≤ cv i ∧ cv i < 8 := by omega
          rw [if_pos c0, if_pos (by omega), if_pos (by omega), if_pos (by omega), if_neg c0, k2 450 _ (by omega), h3 _ (by omega)]; rfl
    · have h22 := hc1.2 (by omega)
      refine ⟨(((q_hg cw i - 1 : Nat) : Int), e_up N 449 (q_hg cw i - 2) (q_by (cw i) (q_st cw cv kn i (q_hg cw i - 2)) (q_st cw cv kn i (q_hg cw i - 1)))), ⟨by rw [q_hg_s2 c2], fun b j hb => ?_, fun j hj => ?_⟩, fun n _ => ?_⟩
      · show e_up N 449 _ _ b j = M b j
        rw [u_r hb]; exact k2 b j hb
      · show e_up N 449 _ _ 449 j = _
        rw [q_hg_s2 c2] at hj
        show _ = (if cw i < 2 then _ else (if j = q_hg cw i - 2 then q_by (cw i) (q_st cw cv kn i (q_hg cw i - 2)) (q_st cw cv kn i (q_hg cw i - 1)) else q_st cw cv kn i j))
        rw [if_neg c2]
        by_cases ej : j = q_hg cw i - 2
        · rw [ej, u_s, if_pos rfl]
        · rw [u_c ej, if_neg ej]; exact k3 j (by omega)
      · show f_X11_byLaw_27 (n + 1) _ _ N = f_X11_byLaw_27 n _ _ _
        rw [f_X11_byLaw_27, if_neg (by omega), if_pos (by omega), Int.toNat_natCast, g2, if_pos (by omega), if_pos (by omega), show e_w ((q_hg cw i : Int) + (-1)) = ((q_hg cw i - 1 : Nat) : Int) by rw [e_ws_ (by omega) (by omega)]; omega, show e_w (((q_hg cw i - 1 : Nat) : Int) - 1) = ((q_hg cw i - 2 : Nat) : Int) by rw [e_ws_ (by omega) (by omega)]; omega, show e_w ((i : Int) + 1) = (i : Int) + 1 from e_ws_ (by omega) (by omega), if_pos (by omega), if_pos (by omega), Int.toNat_natCast, Int.toNat_natCast, r_by, f_bs, if_pos (by omega), k3 _ (by omega), k3 _ (by omega)]) (by
    refine ⟨rfl, fun b j hb => u_r hb, fun j hj => ?_⟩
    have : j = 0 := by
      rcases hj with h | h
      · exact absurd h (Nat.not_lt_zero _)
      · exact h
    subst this
    dsimp only
    rw [u_s, h3 1 (by omega), h3 2 (by omega)]; rfl)
  have hl0 : a'.2 64 21 = (l : Int) := by rw [← h1]; exact k2 64 21 (by omega)
  refine ⟨a'.2, fun n hn => ?_, fun a j ha => k2 a j ha⟩
  obtain ⟨n', rfl⟩ : ∃ n', n = (n' + 1) + l * 1 := ⟨n - 1 - l, by omega⟩
  have e1 := he (n' + 1) (by omega)
  show f_X11_byLaw_27 (n' + 1 + l * 1) 0 0 (e_up M 449 0 (e_w ((e_w (5 + (e_w (3 * (M 450 1))))) + (M 450 2)))) = _
  refine e1.trans ?_
  show f_X11_byLaw_27 (n' + 1) _ _ _ = _
  rw [f_X11_byLaw_27, if_pos (by omega), r_more, f_bs, r_less, f_bs, k3 0 (Or.inr rfl)]; rfl
theorem r_seen {M : e_M} {l : Nat} {cw cv kn : Nat → Int} (hw : q_wf l cw cv) (h1 : M 20 1 = (l : Int)) (h2 : ∀ k, k < l → q_cd (M 21 k) (cw k) (cv k)) (h3 : ∀ j, j < 8 → M 23 j = kn j) : ∃ M', (∀ n, 151 < n → f_X2_priceOfSeen_law n M = some (q_ev l cw cv kn, M')) ∧ ∀ a j, a ≠ 22 → M' a j = M a j := by
  obtain ⟨hl, hc⟩ := hw
  have hr := q_run 0 1 l (fun n (a : Int × e_M) i => f_X2_priceOfSeen_law_22 n (e_w ((e_w (5 + (e_w ((M 23 1) * 3)))) + (M 23 2))) a.1 i a.2) (fun i a => a.1 = (q_hg cw i : Int) ∧ (∀ b j, b ≠ 22 → a.2 b j = M b j) ∧ ∀ j, j < q_hg cw i → a.2 22 j = q_st cw cv kn i j) (a := (0, M))
  obtain ⟨a', ⟨k1, k2, k3⟩, he⟩ := hr (by
    rintro i ⟨v1, N⟩ hi ⟨k1, k2, k3⟩
    dsimp only at k1 k2 k3
    have hc1 := hc i hi
    have hcd := h2 i hi
    have hh := q_hg_le cw i
    have g1 : N 20 1 = (l : Int) := by rw [← h1]; exact k2 20 1 (by omega)
    have g2 : N 21 i = M 21 i := k2 _ _ (by omega)
    subst k1
    unfold q_cd at hcd
    by_cases c2 : cw i < 2
    · refine ⟨(((q_hg cw i + 1 : Nat) : Int), e_up N 22 (q_hg cw i) (if cw i = 0 then cv i else kn (cv i).toNat)), ⟨by rw [q_hg_s1 c2], fun b j hb => ?_, fun j hj => ?_⟩, fun n _ => ?_⟩
      · show e_up N 22 _ _ b j = M b j
        rw [u_r hb]; exact k2 b j hb
      · show e_up N 22 _ _ 22 j = _
        rw [q_hg_s1 c2] at hj
        show _ = (if cw i < 2 then (if j = q_hg cw i then (if cw i = 0 then cv i else kn (cv i).toNat) else q_st cw cv kn i j) else _)
        rw [if_pos c2]
        by_cases ej : j = q_hg cw i
        · rw [ej, u_s, if_pos rfl]
        · rw [u_c ej, if_neg ej]; exact k3 j (by omega)
      · show f_X2_priceOfSeen_law_22 (n + 1) _ _ _ N = f_X2_priceOfSeen_law_22 n _ _ _ _
        have hv : f_X2_valueOf_law (M 21 i) N = some (if cw i = 0 then cv i else kn (cv i).toNat, N) := by
          unfold f_X2_valueOf_law
          by_cases c0 : cw i = 0
          · have : M 21 i = cv i ∧ 0 ≤ cv i ∧ cv i ≤ 999 := by omega
            rw [e_ws_ (by omega) (by omega), if_pos (by omega), if_pos c0, this.1]
          · have : M 21 i = 1000 + cv i ∧ 0 ≤ cv i ∧ cv i < 8 := by omega
            rw [e_ws_ (by omega) (by omega), if_neg (by omega), if_neg (by omega), if_pos (by omega), if_neg c0, k2 23 _ (by omega), h3 _ (by omega), this.1]
            congr 3
            omega
        rw [f_X2_priceOfSeen_law_22, if_neg (by omega), if_pos (by omega), Int.toNat_natCast, g2, if_pos (by omega), if_neg (by omega), hv, f_bs, if_pos (by omega), show e_w ((i : Int) + 1) = (i : Int) + 1 from e_ws_ (by omega) (by omega), e_ws_ (x := (q_hg cw i : Int) + 1) (by omega) (by omega), Int.toNat_natCast]; rfl
    · have h22 := hc1.2 (by omega)
      refine ⟨(((q_hg cw i - 1 : Nat) : Int), e_up N 22 (q_hg cw i - 2) (q_by (cw i) (q_st cw cv kn i (q_hg cw i - 2)) (q_st cw cv kn i (q_hg cw i - 1)))), ⟨by rw [q_hg_s2 c2], fun b j hb => ?_, fun j hj => ?_⟩, fun n _ => ?_⟩
      · show e_up N 22 _ _ b j = M b j
        rw [u_r hb]; exact k2 b j hb
      · show e_up N 22 _ _ 22 j = _
        rw [q_hg_s2 c2] at hj
        show _ = (if cw i < 2 then _ else (if j = q_hg cw i - 2 then q_by (cw i) (q_st cw cv kn i (q_hg cw i - 2)) (q_st cw cv kn i (q_hg cw i - 1)) else q_st cw cv kn i j))
        rw [if_neg c2]
        by_cases ej : j = q_hg cw i - 2
        · rw [ej, u_s, if_pos rfl]
        · rw [u_c ej, if_neg ej]; exact k3 j (by omega)
      · show f_X2_priceOfSeen_law_22 (n + 1) _ _ _ N = f_X2_priceOfSeen_law_22 n _ _ _ _
        have ec : M 21 i = 1998 + cw i := by omega
        rw [f_X2_priceOfSeen_law_22, if_neg (by omega), if_pos (by omega), Int.toNat_natCast, g2, if_neg (by omega), if_neg (by omega), show e_w ((q_hg cw i : Int) + (-1)) = ((q_hg cw i - 1 : Nat) : Int) by rw [e_ws_ (by omega) (by omega)]; omega, show e_w (((q_hg cw i - 1 : Nat) : Int) - 1) = ((q_hg cw i - 2 : Nat) : Int) by rw [e_ws_ (by omega) (by omega)]; omega, show e_w ((i : Int) + 1) = (i : Int) + 1 from e_ws_ (by omega) (by omega), if_pos (by omega), if_pos (by omega), Int.toNat_natCast, Int.toNat_natCast, ec, r_comb (by omega) (by omega), f_bs, if_pos (by omega), k3 _ (by omega), k3 _ (by omega)]) (by
    exact ⟨rfl, fun b j hb => rfl, fun j hj => absurd hj (Nat.not_lt_zero _)⟩)
  have hl0 : a'.2 20 1 = (l : Int) := by rw [← h1]; exact k2 20 1 (by omega)
  refine ⟨a'.2, fun n hn => ?_, fun a j ha => k2 a j ha⟩
  obtain ⟨n', rfl⟩ : ∃ n', n = (n' + 1) + l * 1 := ⟨n - 1 - l, by omega⟩
  have e1 := he (n' + 1) (by omega)
  refine e1.trans ?_
  show f_X2_priceOfSeen_law_22 (n' + 1) _ _ _ _ = _
  have hmm : ∀ x : Int, max 0 (min 99 x) = min 99 (max 0 x) := fun x => by omega
  rw [f_X2_priceOfSeen_law_22, if_pos (by omega), k1]
  unfold q_ev
  by_cases hz : l = 0
  · subst hz
    rw [if_pos (by show (0 : Int) ≤ 0; omega), hmm, h3 1 (by omega), h3 2 (by omega), Int.mul_comm]
    rfl
  · have := q_hg_pos (fun k hk => (hc k hk).2) l (Nat.le_refl _) (by omega)
    rw [if_neg (by omega), hmm, k3 0 this]
