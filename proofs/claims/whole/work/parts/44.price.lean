/-! PURE 4: prices -/
def q_kn (n t : Nat) (wa : Nat → Int) (sk ow : Nat → Nat) (L : Nat → Int) (p : Nat) : Nat → Int
  | 0 => L 55
  | 1 => (q_ct (fun q => !decide (q = p) && !decide (L (18 + q) = -1)) n : Int)
  | 2 => L (12 + p)
  | 3 => L p
  | 4 => wa p
  | 5 => (q_pc (q_an (sk p) (q_or (fun q => !decide (q = p) && decide (L (18 + q) = -1)) sk n)) : Int)
  | 6 => (q_ct (fun k => decide (ow k = p) && (decide (L (42 + k) = 0) && decide (L (30 + k) = L 55))) t : Int)
  | _ => (p : Int)
def q_pr (n t : Nat) (wa : Nat → Int) (sk ow : Nat → Nat) (l : Nat) (cw cv L : Nat → Int) (p : Nat) : Int := q_ev l cw cv (q_kn n t wa sk ow L p)
theorem q_pr_r {n t : Nat} {wa : Nat → Int} {sk ow : Nat → Nat} {l : Nat} {cw cv L : Nat → Int} {p : Nat} : 0 ≤ q_pr n t wa sk ow l cw cv L p ∧ q_pr n t wa sk ow l cw cv L p ≤ 99 := q_ev_r
theorem q_cti0 {c : Nat → Bool} {n : Nat} (hn : n < 1000) (h : c n = false) : e_w ((q_ct c n : Int) + 0) = (q_ct c (n + 1) : Int) := by
  have := q_ct_le c n
  show _ = ((q_ct c n + (if c n then 1 else 0) : Nat) : Int)
  rw [h, if_neg (by decide), e_ws_ (by omega) (by omega)]; omega
theorem q_cti1 {c : Nat → Bool} {n : Nat} (hn : n < 1000) (h : c n = true) : e_w ((q_ct c n : Int) + 1) = (q_ct c (n + 1) : Int) := by
  have := q_ct_le c n
  show _ = ((q_ct c n + (if c n then 1 else 0) : Nat) : Int)
  rw [h, if_pos rfl, e_ws_ (by omega) (by omega)]; omega
theorem q_ct_0 {c : Nat → Bool} {n : Nat} (h : c n = false) : q_ct c (n + 1) = q_ct c n := by
  show q_ct c n + (if c n then 1 else 0) = _
  rw [h]; rfl
theorem q_ct_1 {c : Nat → Bool} {n : Nat} (h : c n = true) : q_ct c (n + 1) = q_ct c n + 1 := by
  show q_ct c n + (if c n then 1 else 0) = _
  rw [h]; rfl
section PR
variable {n m t : Nat} {wa : Nat → Int} {sk : Nat → Nat} {wo : Nat → Int} {ow : Nat → Nat} {fi : Nat → Int} {l : Nat} {cw cv L : Nat → Int} {M : e_M}
theorem q_sk6 (hT : q_T n m t wa sk wo ow fi M) {q : Nat} (h : q < n) : sk q < 64 := by
  have h1 := (hT.2.2.2.2.2.2.2.2.2.1 q h).2.2.2.2.2.2
  have h2 : (2 : Nat) ^ m ≤ 2 ^ 6 := Nat.pow_le_pow_right (by omega) hT.2.1
  omega
theorem r_dbo {r p f : Nat} (hT : q_T n m t wa sk wo ow fi M) (hr : q_ml M r L) (hf : 6 < f) : f_X11_doneByOthers r f (p : Int) M = some ((q_or (fun q => !decide (q = p) && decide (L (18 + q) = -1)) sk n : Int), M) := by
  have h0 := hT.2.2.2.2.2.2.1
  have h6 := hT.1
  have h31 : ∀ i, i ≤ n → q_or (fun q => !decide (q = p) && decide (L (18 + q) = -1)) sk i < 2 ^ 31 := fun i hi => Nat.lt_of_lt_of_le (q_or_lt (k := 6) (fun j hj _ => q_sk6 hT (by omega))) (by decide)
  refine q_sq (fun f s i => f_X11_doneByOthers_5 r f (p : Int) s i M) (fun i => (q_or (fun q => !decide (q = p) && decide (L (18 + q) = -1)) sk i : Int)) n _ (fun f i hi => ?_) (fun f => ?_) f (by omega)
  · have hsi := (hT.2.2.2.2.2.2.2.2.2.1 i hi).2.2.2.2.2.1
    have hk := q_sk6 hT hi
    have hL := hr (18 + i) (by omega)
    rw [f_X11_doneByOthers_5, if_neg (by omega), e_ws_ (x := (i : Int) + 1) (by omega) (by omega)]
    by_cases hp : i = p
    · rw [if_pos (by omega), q_or0 (h31 i (by omega)), q_or_f (by simp [hp])]
    · rw [if_neg (by omega), r_sold (by omega), f_bs, hL]
      by_cases hc : L (18 + i) = -1
      · rw [if_pos hc, if_neg (by decide), if_pos (by omega), Int.toNat_natCast, hsi, q_or_t (by simp [hp, hc]) (h31 i (by omega)) (by omega)]
      · rw [if_neg hc, if_pos (by decide), q_or0 (h31 i (by omega)), q_or_f (by simp [hc])]
  · rw [f_X11_doneByOthers_5, if_pos (by omega)]
theorem r_priceOf {r p : Nat} (hp : p < n) (hT : q_T n m t wa sk wo ow fi M) (hLa : q_La l cw cv M) (hr : q_ml M r L) : ∃ M', (∀ f, 300 < f → f_X11_priceOf r f (p : Int) M = some (q_pr n t wa sk ow l cw cv L p, M')) ∧ ∀ a j, a ≠ 449 → a ≠ 450 → M' a j = M a j := by
  have h0 := hT.2.2.2.2.2.2.1
  have h6 := hT.1
  have ht := hT.2.2.2.2.2.2.2.2.1
  have ht12 := hT.2.2.1
  have hsk := hT.2.2.2.2.2.2.2.2.2.1 p hp
  have hk6 := q_sk6 hT hp
  obtain ⟨M', g1, g2⟩ := r_byLaw (M := e_up (e_up (e_up (e_up (e_up (e_up (e_up (e_up M 450 0 (M r 55)) 450 1 (q_kn n t wa sk ow L p 1)) 450 2 (M r (12 + p))) 450 3 (M r p)) 450 4 (M (81 + p) 1)) 450 5 (q_kn n t wa sk ow L p 5)) 450 6 (q_kn n t wa sk ow L p 6)) 450 7 (p : Int)) (l := l) (cw := cw) (cv := cv) (kn := q_kn n t wa sk ow L p) (q_La_wf hLa) hLa.2.2.1 (fun k hk => by
      have := hLa.2.2.2 k hk
      have e0 := hLa.1
      rw [u_r (by omega), u_r (by omega), u_r (by omega), u_r (by omega), u_r (by omega), u_r (by omega), u_r (by omega), u_r (by omega), u_r (by omega), u_r (by omega), u_r (by omega), u_r (by omega), u_r (by omega), u_r (by omega), u_r (by omega), u_r (by omega)]
      exact ⟨this.1, this.2.1⟩) (fun j hj => by
      have hc : j = 0 ∨ j = 1 ∨ j = 2 ∨ j = 3 ∨ j = 4 ∨ j = 5 ∨ j = 6 ∨ j = 7 := by omega
      rcases hc with rfl | rfl | rfl | rfl | rfl | rfl | rfl | rfl
      · exact hr 55 (by omega)
      · rfl
      · exact hr (12 + p) (by omega)
      · exact hr p (by omega)
      · exact hsk.2.1
      · rfl
      · rfl
      · rfl)
  refine ⟨M', fun f hf => ?_, fun a j h1 h2 => ?_⟩
  · obtain ⟨f', rfl⟩ : ∃ f', f = (f' + 1) + n * 1 := ⟨f - 1 - n, by omega⟩
    have e1 := q_seq 0 1 n (fun f s i => f_X11_priceOf_8 r f (p : Int) s 0 i M) (fun i => (q_ct (fun q => !decide (q = p) && !decide (L (18 + q) = -1)) i : Int)) (fun f i _ hi => by
      have hL := hr (18 + i) (by omega)
      rw [f_X11_priceOf_8, if_neg (by omega), e_ws_ (x := (i : Int) + 1) (by omega) (by omega)]
      by_cases hq : i = p
      · rw [if_pos (by omega), q_cti0 (c := fun q => !decide (q = p) && !decide (L (18 + q) = -1)) (n := i) (by omega) (by simp [hq])]
      · rw [if_neg (by omega), r_sold (by omega), f_bs, hL]
        by_cases hc : L (18 + i) = -1
        · rw [if_pos hc, if_pos rfl, q_cti0 (c := fun q => !decide (q = p) && !decide (L (18 + q) = -1)) (n := i) (by omega) (by simp [hc])]
        · rw [if_neg hc, if_neg (by decide), q_cti1 (c := fun q => !decide (q = p) && !decide (L (18 + q) = -1)) (n := i) (by omega) (by simp [hq, hc])]) (f' + 1) (by omega)
    obtain ⟨f'', rfl⟩ : ∃ f'', f' = (f'' + 1) + t * 1 := ⟨f' - 1 - t, by omega⟩
    have e2 := q_seq 0 1 t (fun f s i => f_X11_priceOf_51 r f (p : Int) (q_kn n t wa sk ow L p 1) s i M) (fun i => (q_ct (fun k => decide (ow k = p) && (decide (L (42 + k) = 0) && decide (L (30 + k) = L 55))) i : Int)) (fun f i _ hi => by
      have hk := (hT.2.2.2.2.2.2.2.2.2.2.2 i hi).2.1
      have hL1 := hr (42 + i) (by omega)
      have hL2 := hr (30 + i) (by omega)
      have hL3 := hr 55 (by omega)
      rw [f_X11_priceOf_51, if_neg (by omega), e_ws_ (x := (i : Int) + 1) (by omega) (by omega), if_pos (by omega), Int.toNat_natCast, hk]
      by_cases ho : ow i = p
      · rw [if_neg (not_not_intro (by omega)), r_today (by omega), f_bs, hL1, hL2, hL3]
        by_cases hc : L (42 + i) = 0 ∧ L (30 + i) = L 55
        · rw [if_pos hc, if_neg (by decide), q_cti1 (c := fun k => decide (ow k = p) && (decide (L (42 + k) = 0) && decide (L (30 + k) = L 55))) (n := i) (by omega) (by simp [ho, hc])]
        · rw [if_neg hc, if_pos rfl, q_cti0 (c := fun k => decide (ow k = p) && (decide (L (42 + k) = 0) && decide (L (30 + k) = L 55))) (n := i) (by omega) (by simp only [ho]; simpa using hc)]
      · rw [if_pos (by omega), q_cti0 (c := fun k => decide (ow k = p) && (decide (L (42 + k) = 0) && decide (L (30 + k) = L 55))) (n := i) (by omega) (by simp [ho])]) (f'' + 1) (by omega)
    refine e1.trans ?_
    show f_X11_priceOf_8 r (f'' + 1 + t * 1 + 1) (p : Int) _ 0 (n : Int) M = _
    rw [f_X11_priceOf_8, if_pos (by omega)]
    refine e2.trans ?_
    show f_X11_priceOf_51 r (f'' + 1) (p : Int) _ _ (t : Int) M = _
    rw [f_X11_priceOf_51, if_pos (by omega), e_ws_ (x := 12 + (p : Int)) (by omega) (by omega), if_pos (by omega), Int.zero_add, e_ws_ (x := (p : Int)) (by omega) (by omega), if_pos (by omega), if_pos (by omega), if_pos (by omega), r_dbo hT hr (by omega), f_bs, Int.toNat_natCast, hsk.2.2.2.2.2.1, q_andn (by omega), q_ones (by have := q_an_lt (a := sk p) (b := q_or (fun q => !decide (q = p) && decide (L (18 + q) = -1)) sk n) (k := 6) (by omega); omega) (by omega), f_bs, q_t12]
    unfold f_X11_priceBy
    exact congrArg (fun w => f_b (f_b w fun rr1 NN2 => some (rr1, NN2)) fun rr7 NN8 => some (rr7, NN8)) (g1 f'' (by omega))
  · rw [g2 a j h1, u_r h2, u_r h2, u_r h2, u_r h2, u_r h2, u_r h2, u_r h2, u_r h2]
end PR
