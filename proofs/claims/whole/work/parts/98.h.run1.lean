/-! A WORK IS DONE: bounds kept, one step on both sides -/
section RN
variable {n m t : Nat} {wa : Nat → Int} {sk : Nat → Nat} {wo : Nat → Int} {ow : Nat → Nat} {fi : Nat → Int} {l : Nat} {cw cv L R L' : Nat → Int} {M : e_M} {p : Nat}
theorem d_LB_ag (h : q_ag n t L R) (k : q_LB n t L) : q_LB n t R := by
  obtain ⟨h1, h2, h3, h4⟩ := h
  obtain ⟨k1, k2, k3, k4, k5, k6⟩ := k
  unfold q_LB
  rw [← h3, ← h4]
  refine ⟨k1, k2, k3, k4, fun p hp => ?_, fun k hk => ?_⟩
  · obtain ⟨e1, e2, e3, e4, e5⟩ := h1 p hp
    rw [← e1, ← e2, ← e3, ← e4]; exact k5 p hp
  · rw [← (h2 k hk).1]; exact k6 k hk
theorem d_LB_u {c d : Int} (h6 : n ≤ 6) (hp : p < n) (k : q_LB n t L) (hc : 0 ≤ c) (hd : -1 ≤ d) (hd2 : d ≤ 99) (hcd : c + d ≤ 999) (hc2 : c ≤ 999) : q_LB n t (q_u (q_u L p c) (18 + p) d) := by
  obtain ⟨k1, k2, k3, k4, k5, k6⟩ := k
  unfold q_LB
  rw [q_u_n (show 55 ≠ 18 + p by omega), q_u_n (show 55 ≠ p by omega), q_u_n (show 54 ≠ 18 + p by omega), q_u_n (show 54 ≠ p by omega)]
  refine ⟨k1, k2, k3, k4, fun q hq => ?_, fun k hk => ?_⟩
  · rw [q_u_n (show q ≠ 18 + p by omega), q_u_n (show 6 + q ≠ 18 + p by omega), q_u_n (show 12 + q ≠ 18 + p by omega), q_u_n (show 6 + q ≠ p by omega), q_u_n (show 12 + q ≠ p by omega)]
    have := k5 q hq
    by_cases e : q = p
    · subst e
      rw [q_u_s, q_u_s]; omega
    · rw [q_u_n e, q_u_n (show 18 + q ≠ 18 + p by omega), q_u_n (show 18 + q ≠ p by omega)]; exact this
  · rw [q_u_n (show 30 + k ≠ 18 + p by omega), q_u_n (show 30 + k ≠ p by omega)]; exact k6 k hk
theorem d_LB_bu (h6 : n ≤ 6) (hp : p < n) (k : q_LB n t L) (hc : q_ca n t wa sk ow l cw cv L p) : q_LB n t (q_bu n t wa sk ow l cw cv L p) := by
  rw [q_bu_eq]
  have h1 := k.2.2.2.2.1 p hp
  have h2 := q_pr_r (n := n) (t := t) (wa := wa) (sk := sk) (ow := ow) (l := l) (cw := cw) (cv := cv) (L := L) (p := p)
  have h3 := hc.2
  rw [e_ws_ (x := L p - q_pr n t wa sk ow l cw cv L p) (by omega) (by omega)]
  exact d_LB_u h6 hp k (by omega) (by omega) (by omega) (by omega) (by omega)
theorem d_LB_se (h6 : n ≤ 6) (hp : p < n) (k : q_LB n t L) (hc : L (18 + p) ≠ -1) : q_LB n t (q_se L p) := by
  have h1 := k.2.2.2.2.1 p hp
  unfold q_se
  have h2 : 0 ≤ Int.tdiv (L (18 + p)) 2 ∧ Int.tdiv (L (18 + p)) 2 ≤ L (18 + p) := by
    rw [Int.tdiv_eq_ediv_of_nonneg (by omega)]; omega
  rw [e_ws_ (x := Int.tdiv (L (18 + p)) 2) (by omega) (by omega), e_ws_ (x := L p + Int.tdiv (L (18 + p)) 2) (by omega) (by omega)]
  exact d_LB_u h6 hp k (by omega) (by omega) (by omega) (by omega) (by omega)
theorem d_sm {c : Nat → Int} : ∀ {m : Nat}, m ≤ 6 → (∀ i, i < m → 0 ≤ c i ∧ c i ≤ 30) → 0 ≤ q_sm c m ∧ q_sm c m ≤ 30 * (m : Int)
  | 0, _, _ => ⟨Int.le_refl _, by show (0 : Int) ≤ 30 * 0; decide⟩
  | m + 1, hm, h => by
    have ih := d_sm (c := c) (m := m) (by omega) (fun i hi => h i (by omega))
    have hc := h m (by omega)
    show 0 ≤ e_w (q_sm c m + c m) ∧ e_w (q_sm c m + c m) ≤ 30 * ((m + 1 : Nat) : Int)
    rw [e_ws_ (x := q_sm c m + c m) (by omega) (by omega)]
    omega
theorem d_lw (hT : q_T n m t wa sk wo ow fi M) : 0 ≤ q_lw n m sk wo L ∧ q_lw n m sk wo L ≤ 180 := by
  have hm := hT.2.1
  have := d_sm (c := fun d => if (q_an (2 ^ m - 1) (q_or (fun q => decide (L (18 + q) = -1)) sk n)).testBit d then wo d else 0) (m := m) hm (fun i hi => by
    have := hT.2.2.2.2.2.2.2.2.2.2.1 i hi
    show 0 ≤ (if (q_an (2 ^ m - 1) (q_or (fun q => decide (L (18 + q) = -1)) sk n)).testBit i then wo i else 0) ∧ (if (q_an (2 ^ m - 1) (q_or (fun q => decide (L (18 + q) = -1)) sk n)).testBit i then wo i else 0) ≤ 30
    split <;> omega)
  unfold q_lw
  omega
theorem d_fn (hf : ∀ k, k < t → 0 ≤ fi k) (h0 : 0 ≤ L p) (h9 : L p ≤ 999) : ∀ k, k ≤ t → 0 ≤ (q_fn ow fi L p k).1 ∧ (q_fn ow fi L p k).1 ≤ L p
  | 0, _ => ⟨h0, Int.le_refl _⟩
  | k + 1, hk => by
    have ih := d_fn hf h0 h9 k (by omega)
    have h1 := hf k (by omega)
    by_cases c : ow k = p ∧ q_td L k = true
    · rw [q_fn_1 c]
      show 0 ≤ e_w ((q_fn ow fi L p k).1 - min (fi k) (q_fn ow fi L p k).1) ∧ e_w ((q_fn ow fi L p k).1 - min (fi k) (q_fn ow fi L p k).1) ≤ L p
      rw [e_ws_ (x := (q_fn ow fi L p k).1 - min (fi k) (q_fn ow fi L p k).1) (by omega) (by omega)]
      omega
    · rw [q_fn_0 c]; exact ih
theorem d_LB_wk (hT : q_T n m t wa sk wo ow fi M) (k : q_LB n t L) (hW : q_WK n m t wa sk wo ow fi L L') (h55 : L 55 < 300) : q_LB n t L' := by
  obtain ⟨w1, w2, w3, w4⟩ := hW
  obtain ⟨k1, k2, k3, k4, k5, k6⟩ := k
  have hl := d_lw (L := L) hT
  unfold q_LB
  rw [w3, w4, e_ws_ (x := L 55 + 1) (by omega) (by omega), e_ws_ (x := L 54 + q_lw n m sk wo L) (by omega) (by omega)]
  refine ⟨by omega, by omega, by omega, by omega, fun p hp => ?_, fun k hk => by rw [(w2 k hk).1]; exact k6 k hk⟩
  obtain ⟨v1, v2, v3, v4, v5⟩ := w1 p hp
  have h5 := k5 p hp
  have hwa := hT.2.2.2.2.2.2.2.2.2.1 p hp
  have hfn := d_fn (ow := ow) (fi := fi) (L := L) (p := p) (t := t) (fun k hk => (hT.2.2.2.2.2.2.2.2.2.2.2 k hk).2.2.2.2.2.1) (by omega) (by omega) t (Nat.le_refl _)
  rw [v1, v2, v3, v4]
  unfold q_wc q_wl q_ws
  by_cases c : L (18 + p) = -1
  · rw [if_pos c, if_pos c, if_pos c, e_ws_ (x := L p + wa p) (by omega) (by omega), e_ws_ (x := L (6 + p) + 7) (by omega) (by omega), e_ws_ (x := L (12 + p) + 0) (by omega) (by omega)]
    omega
  · rw [if_neg c, if_neg c, if_neg c, e_ws_ (x := L (6 + p) + 6) (by omega) (by omega), e_ws_ (x := L (12 + p) + 1) (by omega) (by omega)]
    omega
theorem d_LB_la {k : Nat} (h12 : t ≤ 12) (hk : k < t) (h : q_LB n t L) (h60 : L (30 + k) < 60) (h6 : n ≤ 6) : q_LB n t (q_u L (30 + k) (L (30 + k) + 1)) := by
  obtain ⟨k1, k2, k3, k4, k5, k6⟩ := h
  unfold q_LB
  rw [q_u_n (show 55 ≠ 30 + k by omega), q_u_n (show 54 ≠ 30 + k by omega)]
  refine ⟨k1, k2, k3, k4, fun q hq => ?_, fun i hi => ?_⟩
  · rw [q_u_n (show q ≠ 30 + k by omega), q_u_n (show 6 + q ≠ 30 + k by omega), q_u_n (show 12 + q ≠ 30 + k by omega), q_u_n (show 18 + q ≠ 30 + k by omega)]; exact k5 q hq
  · have := k6 i hi
    by_cases e : i = k
    · subst e; rw [q_u_s]; omega
    · rw [q_u_n (show 30 + i ≠ 30 + k by omega)]; exact this
theorem d_la_ag {k : Nat} {v : Int} (h6 : n ≤ 6) (h12 : t ≤ 12) (hk : k < t) (h : q_ag n t L R) : q_ag n t (q_u L (30 + k) v) (q_u R (30 + k) v) := by
  obtain ⟨h1, h2, h3, h4⟩ := h
  refine ⟨fun q hq => ?_, fun i hi => ?_, ?_, ?_⟩
  · rw [q_u_n (show q ≠ 30 + k by omega), q_u_n (show 6 + q ≠ 30 + k by omega), q_u_n (show 12 + q ≠ 30 + k by omega), q_u_n (show 18 + q ≠ 30 + k by omega), q_u_n (show 24 + q ≠ 30 + k by omega), q_u_n (show q ≠ 30 + k by omega), q_u_n (show 6 + q ≠ 30 + k by omega), q_u_n (show 12 + q ≠ 30 + k by omega), q_u_n (show 18 + q ≠ 30 + k by omega), q_u_n (show 24 + q ≠ 30 + k by omega)]; exact h1 q hq
  · rw [q_u_n (show 42 + i ≠ 30 + k by omega), q_u_n (show 42 + i ≠ 30 + k by omega)]
    by_cases e : i = k
    · subst e; rw [q_u_s, q_u_s]; exact ⟨rfl, (h2 i hi).2⟩
    · rw [q_u_n (show 30 + i ≠ 30 + k by omega), q_u_n (show 30 + i ≠ 30 + k by omega)]; exact h2 i hi
  · rw [q_u_n (show 54 ≠ 30 + k by omega), q_u_n (show 54 ≠ 30 + k by omega)]; exact h3
  · rw [q_u_n (show 55 ≠ 30 + k by omega), q_u_n (show 55 ≠ 30 + k by omega)]; exact h4
/-- one step that is no loop -/
theorem d_stp {k v : Int} (hok : p_ok n t k v) (hT : q_T n m t wa sk wo ow fi M) (hLa : q_La l cw cv M) (hC : q_cn n t L M) (hLB : q_LB n t L) : ∃ (ok : Int) (L' : Nat → Int) (M' : e_M), (∀ f, 300 < f → f_X4_stepSucceeds f k v M = some (ok, M')) ∧ (ok = 0 ∨ ok = 1) ∧ q_cn n t L' M' ∧ q_LB n t L' ∧ (∀ a j, ¬ (a = 22 ∨ a = 23 ∨ (36 ≤ a ∧ a ≤ 42)) → M' a j = M a j) ∧ ∀ (N : e_M) (i : Nat) (R : Nat → Int), i < 80 → q_T n m t wa sk wo ow fi N → q_La l cw cv N → q_ml N 532 R → q_ag n t L R → N (452 + i) 0 = k → (k ≠ 3 → N (452 + i) 1 = v) → ∃ (N' : e_M) (R' : Nat → Int), (∀ f, 300 < f → f_X11_does 532 (452 + i) f N = some (ok, N')) ∧ q_ml N' 532 R' ∧ q_ag n t L' R' ∧ ∀ a j, ¬ (a = 449 ∨ a = 450 ∨ a = 532) → N' a j = N a j := by
  have h6 := hT.1
  have h12 := hT.2.2.1
  rcases hok with ⟨hk, v0, v1⟩ | ⟨rfl, v0, v1⟩ | rfl
  · obtain ⟨p, hp, rfl⟩ := q_nat (n := n) (p := v) ⟨v0, v1⟩
    rcases hk with rfl | rfl
    · by_cases hca : q_ca n t wa sk ow l cw cv L p
      · obtain ⟨M', a1, a2, a3⟩ := (rn_buy hp hT hLa hC).1 hca
        refine ⟨1, _, M', fun f hf => ?_, Or.inr rfl, a2, d_LB_bu h6 hp hLB hca, fun a j h => a3 a j (by omega) (by omega) (by omega) (by omega), fun N i R hi hTN hLN hr hag r0 r1 => ?_⟩
        · unfold f_X4_stepSucceeds
          rw [if_pos rfl, a1 f hf, f_bs, if_pos (Or.inr rfl)]
        · obtain ⟨N', b1, b2, b3⟩ := (r_buys hp hTN hLN hr (by decide)).1 ((q_ca_ag hp hag).mp hca)
          refine ⟨N', _, fun f hf => ?_, b2, q_bu_ag h6 hp hag, fun a j h => b3 a j (by omega) (by omega) (by omega)⟩
          unfold f_X11_does
          rw [r0, if_pos rfl, r1 (by decide), b1 f hf, f_bs, if_pos (Or.inr rfl)]
      · obtain ⟨M', a1, a2, a3⟩ := (rn_buy hp hT hLa hC).2 hca
        refine ⟨0, L, M', fun f hf => ?_, Or.inl rfl, a2, hLB, fun a j h => a3 a j (by omega) (by omega) (by omega) (by omega), fun N i R hi hTN hLN hr hag r0 r1 => ?_⟩
        · unfold f_X4_stepSucceeds
          rw [if_pos rfl, a1 f hf, f_bs, if_pos (Or.inl rfl)]
        · obtain ⟨N', b1, b2, b3⟩ := (r_buys hp hTN hLN hr (by decide)).2 (fun x => hca ((q_ca_ag hp hag).mpr x))
          refine ⟨N', R, fun f hf => ?_, b2, hag, fun a j h => b3 a j (by omega) (by omega) (by omega)⟩
          unfold f_X11_does
          rw [r0, if_pos rfl, r1 (by decide), b1 f hf, f_bs, if_pos (Or.inl rfl)]
    · by_cases hs : L (18 + p) = -1
      · have a1 := (rn_sell hp h6 hC).2 hs
        refine ⟨0, L, M, fun f hf => ?_, Or.inl rfl, hC, hLB, fun _ _ _ => rfl, fun N i R hi hTN hLN hr hag r0 r1 => ?_⟩
        · unfold f_X4_stepSucceeds
          rw [if_neg (show ¬ (1 : Int) = 0 by decide), if_pos rfl, a1, f_bs, if_pos (Or.inl rfl)]
        · have b1 := (r_sells (p := p) (by omega) hr).2 (by rw [← (hag.1 p hp).2.2.2.1]; exact hs)
          refine ⟨N, R, fun f hf => ?_, hr, hag, fun _ _ _ => rfl⟩
          unfold f_X11_does
          rw [r0, if_neg (show ¬ (1 : Int) = 0 by decide), if_pos rfl, r1 (by decide), b1, f_bs, if_pos (Or.inl rfl)]
      · obtain ⟨M', a1, a2, a3⟩ := (rn_sell hp h6 hC).1 hs
        refine ⟨1, _, M', fun f hf => ?_, Or.inr rfl, a2, d_LB_se h6 hp hLB hs, fun a j h => a3 a j (by omega) (by omega), fun N i R hi hTN hLN hr hag r0 r1 => ?_⟩
        · unfold f_X4_stepSucceeds
          rw [if_neg (show ¬ (1 : Int) = 0 by decide), if_pos rfl, a1, f_bs, if_pos (Or.inr rfl)]
        · obtain ⟨N', b1, b2, b3⟩ := (r_sells (p := p) (by omega) hr).1 (by rw [← (hag.1 p hp).2.2.2.1]; exact hs)
          refine ⟨N', _, fun f hf => ?_, b2, q_se_ag h6 hp hag, fun a j h => b3 a j (by omega)⟩
          unfold f_X11_does
          rw [r0, if_neg (show ¬ (1 : Int) = 0 by decide), if_pos rfl, r1 (by decide), b1, f_bs, if_pos (Or.inr rfl)]
  · -- later
    obtain ⟨k, hk, rfl⟩ := q_nat (n := t) (p := v) ⟨v0, v1⟩
    have hCk := hC.2.1 k hk
    have hD : q_bs (q_dn L) t < 2147483648 := Nat.lt_of_lt_of_le q_bs_lt (Nat.le_trans (Nat.pow_le_pow_right (by omega) h12) (by decide))
    have hah := rn_ahd (k := k) hC.2.2.2.2 hD (by omega)
    have hbit : (q_bs (q_dn L) t).testBit k = false ↔ L (42 + k) ≠ 1 := by
      constructor
      · intro h g
        have : (q_bs (q_dn L) t).testBit k = true := q_bs_tb.mpr ⟨hk, by unfold q_dn; exact decide_eq_true g⟩
        rw [h] at this; exact absurd this (by decide)
      · intro h
        refine Bool.eq_false_iff.mpr (fun g => h ?_)
        have := (q_bs_tb.mp g).2
        unfold q_dn at this
        exact of_decide_eq_true this
    rw [hCk.1, hC.2.2.1] at hah
    have hL60 := hLB.2.2.2.2.2 k hk
    have w30 : e_w (30 + (k : Int)) = ((30 + k : Nat) : Int) := by rw [e_ws_ (by omega) (by omega)]; omega
    have w42 : e_w (42 + (k : Int)) = ((42 + k : Nat) : Int) := by rw [e_ws_ (by omega) (by omega)]; omega
    have mdl : ∀ (N : e_M) (i : Nat) (R : Nat → Int), q_ml N 532 R → q_ag n t L R → N (452 + i) 0 = 2 → N (452 + i) 1 = (k : Int) → ∀ f, f_X11_does 532 (452 + i) f N = if L (42 + k) = 1 then some (0, N) else if L (30 + k) < L 55 then some (0, N) else if ¬ L (30 + k) = 60 then some (1, e_up N 532 (30 + k) (L (30 + k) + 1)) else some (0, N) := fun N i R hr hag r0 r1 f => by
      unfold f_X11_does
      rw [r0, if_neg (show ¬ (2 : Int) = 0 by decide), if_neg (show ¬ (2 : Int) = 1 by decide), if_pos rfl, r1, w42, w30, if_pos (show 0 ≤ ((42 + k : Nat) : Int) ∧ ((42 + k : Nat) : Int) < 56 by omega), if_pos (show 0 ≤ ((30 + k : Nat) : Int) ∧ ((30 + k : Nat) : Int) < 56 by omega), if_pos (show 0 ≤ ((30 + k : Nat) : Int) ∧ ((30 + k : Nat) : Int) < 56 by omega), if_pos (show 0 ≤ ((30 + k : Nat) : Int) ∧ ((30 + k : Nat) : Int) < 56 by omega), if_pos (show 0 ≤ ((30 + k : Nat) : Int) ∧ ((30 + k : Nat) : Int) < 56 by omega), Int.toNat_natCast, Int.toNat_natCast, hr (42 + k) (by omega), hr (30 + k) (by omega), hr 55 (by omega), ← (hag.2.1 k hk).1, ← (hag.2.1 k hk).2, ← hag.2.2.2, e_ws_ (x := L (30 + k) + 1) (by omega) (by omega)]
    by_cases hgo : L (42 + k) ≠ 1 ∧ L 55 ≤ L (30 + k) ∧ L (30 + k) < 60
    · refine ⟨1, q_u L (30 + k) (L (30 + k) + 1), e_up M 42 k (L (30 + k) + 1), fun f hf => ?_, Or.inr rfl, ⟨fun q hq => ?_, fun i hi => ?_, ?_, ?_, ?_⟩, d_LB_la h12 hk hLB hgo.2.2 h6, fun a j h => u_r (by omega), fun N i R hi hTN hLN hr hag r0 r1 => ?_⟩
      · unfold f_X4_stepSucceeds f_X3_putOff_now
        rw [if_neg (show ¬ (2 : Int) = 0 by decide), if_neg (show ¬ (2 : Int) = 1 by decide), if_pos rfl, hah, if_pos ⟨hbit.mpr hgo.1, hgo.2.1⟩, f_bs, if_neg (show ¬ (1 : Int) = 0 by decide), if_pos (show 0 ≤ (k : Int) ∧ (k : Int) < 12 by omega), Int.toNat_natCast, hCk.1, if_pos hgo.2.2, if_pos (show 0 ≤ (k : Int) ∧ (k : Int) < 12 by omega), if_pos (show 0 ≤ (k : Int) ∧ (k : Int) < 12 by omega), e_ws_ (x := L (30 + k) + 1) (by omega) (by omega), f_bs, if_pos (Or.inr rfl)]
      · rw [u_r (by decide), u_r (by decide), u_r (by decide), u_r (by decide), u_r (by decide), q_u_n (show q ≠ 30 + k by omega), q_u_n (show 6 + q ≠ 30 + k by omega), q_u_n (show 12 + q ≠ 30 + k by omega), q_u_n (show 18 + q ≠ 30 + k by omega), q_u_n (show 24 + q ≠ 30 + k by omega)]; exact hC.1 q hq
      · rw [q_u_n (show 42 + i ≠ 30 + k by omega)]
        refine ⟨?_, (hC.2.1 i hi).2⟩
        by_cases e : i = k
        · subst e; rw [u_s, q_u_s]
        · rw [u_c e, q_u_n (show 30 + i ≠ 30 + k by omega)]; exact (hC.2.1 i hi).1
      · rw [u_r (by decide), q_u_n (show 55 ≠ 30 + k by omega)]; exact hC.2.2.1
      · rw [u_r (by decide), q_u_n (show 54 ≠ 30 + k by omega)]; exact hC.2.2.2.1
      · rw [u_r (by decide), hC.2.2.2.2, q_bs_congr (c := q_dn L) (d := q_dn (q_u L (30 + k) (L (30 + k) + 1))) (fun i hi => by unfold q_dn; rw [q_u_n (show 42 + i ≠ 30 + k by omega)])]
      · refine ⟨e_up N 532 (30 + k) (L (30 + k) + 1), q_u R (30 + k) (L (30 + k) + 1), fun f hf => ?_, fun j hj => ?_, d_la_ag h6 h12 hk hag, fun a j h => u_r (by omega)⟩
        · rw [mdl N i R hr hag r0 (r1 (by decide)) f, if_neg hgo.1, if_neg (by omega), if_pos (by omega)]
        · rw [u_i]
          by_cases e : j = 30 + k
          · rw [if_pos e, e, q_u_s]
          · rw [if_neg e, q_u_n e]; exact hr j hj
    · refine ⟨0, L, M, fun f hf => ?_, Or.inl rfl, hC, hLB, fun _ _ _ => rfl, fun N i R hi hTN hLN hr hag r0 r1 => ⟨N, R, fun f hf => ?_, hr, hag, fun _ _ _ => rfl⟩⟩
      · unfold f_X4_stepSucceeds f_X3_putOff_now
        rw [if_neg (show ¬ (2 : Int) = 0 by decide), if_neg (show ¬ (2 : Int) = 1 by decide), if_pos rfl, hah]
        by_cases c : (q_bs (q_dn L) t).testBit k = false ∧ L 55 ≤ L (30 + k)
        · rw [if_pos c, f_bs, if_neg (show ¬ (1 : Int) = 0 by decide), if_pos (show 0 ≤ (k : Int) ∧ (k : Int) < 12 by omega), Int.toNat_natCast, hCk.1, if_neg (fun x => hgo ⟨hbit.mp c.1, c.2, x⟩), f_bs, if_pos (Or.inl rfl)]
        · rw [if_neg c, f_bs, if_pos rfl, f_bs, if_pos (Or.inl rfl)]
      · rw [mdl N i R hr hag r0 (r1 (by decide)) f]
        by_cases d1 : L (42 + k) = 1
        · rw [if_pos d1]
        · rw [if_neg d1]
          by_cases d2 : L (30 + k) < L 55
          · rw [if_pos d2]
          · rw [if_neg d2, if_neg (fun x => hgo ⟨d1, by omega, by omega⟩)]
  · -- a week
    by_cases h3 : L 55 < 300
    · have hW := q_wkf_ok (m := m) (wa := wa) (sk := sk) (wo := wo) (ow := ow) (fi := fi) (L := L) h6 h12
      obtain ⟨M', a1, a2, a3⟩ := rn_week hT hC (q_LB_r hLB) hW
      refine ⟨1, _, M', fun f hf => ?_, Or.inr rfl, a2, d_LB_wk hT hLB hW h3, fun a j h => a3 a j (by omega), fun N i R hi hTN hLN hr hag r0 r1 => ?_⟩
      · unfold f_X4_stepSucceeds f_X3_passWeekByWork_now
        rw [if_neg (show ¬ (3 : Int) = 0 by decide), if_neg (show ¬ (3 : Int) = 1 by decide), if_neg (show ¬ (3 : Int) = 2 by decide), if_pos rfl, hC.2.2.1, if_pos h3, a1 f hf, f_bs, f_bs, if_pos (Or.inr rfl)]
      · obtain ⟨N', b1, b2, b3⟩ := r_week hTN hr (by decide)
        refine ⟨N', N' 532, fun f hf => ?_, fun _ _ => rfl, q_WK_ag (fun k hk => (hT.2.2.2.2.2.2.2.2.2.2.2 k hk).2.2.1) hag hW b2, fun a j h => b3 a j (by omega)⟩
        unfold f_X11_does
        rw [r0, if_neg (show ¬ (3 : Int) = 0 by decide), if_neg (show ¬ (3 : Int) = 1 by decide), if_neg (show ¬ (3 : Int) = 2 by decide), hr 55 (by omega), ← hag.2.2.2, if_pos h3, b1 f hf, f_bs]
    · refine ⟨0, L, M, fun f hf => ?_, Or.inl rfl, hC, hLB, fun _ _ _ => rfl, fun N i R hi hTN hLN hr hag r0 r1 => ⟨N, R, fun f hf => ?_, hr, hag, fun _ _ _ => rfl⟩⟩
      · unfold f_X4_stepSucceeds f_X3_passWeekByWork_now
        rw [if_neg (show ¬ (3 : Int) = 0 by decide), if_neg (show ¬ (3 : Int) = 1 by decide), if_neg (show ¬ (3 : Int) = 2 by decide), if_pos rfl, hC.2.2.1, if_neg h3, f_bs, if_pos (Or.inl rfl)]
      · unfold f_X11_does
        rw [r0, if_neg (show ¬ (3 : Int) = 0 by decide), if_neg (show ¬ (3 : Int) = 1 by decide), if_neg (show ¬ (3 : Int) = 2 by decide), hr 55 (by omega), ← hag.2.2.2, if_neg h3]
end RN
