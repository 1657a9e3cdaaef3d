/-! PURE 10: lives that agree where it counts -/
def q_ag (n t : Nat) (L R : Nat → Int) : Prop := (∀ p, p < n → L p = R p ∧ L (6 + p) = R (6 + p) ∧ L (12 + p) = R (12 + p) ∧ L (18 + p) = R (18 + p) ∧ L (24 + p) = R (24 + p)) ∧ (∀ k, k < t → L (30 + k) = R (30 + k) ∧ L (42 + k) = R (42 + k)) ∧ L 54 = R 54 ∧ L 55 = R 55
theorem q_ag.rf {n t : Nat} {L : Nat → Int} : q_ag n t L L := ⟨fun _ _ => ⟨rfl, rfl, rfl, rfl, rfl⟩, fun _ _ => ⟨rfl, rfl⟩, rfl, rfl⟩
section AG
variable {n m t : Nat} {wa : Nat → Int} {sk : Nat → Nat} {wo : Nat → Int} {ow : Nat → Nat} {fi : Nat → Int} {l : Nat} {cw cv L R L' R' : Nat → Int} {M : e_M} {p : Nat}
theorem q_ag_dn (h : q_ag n t L R) : q_bs (q_dn L) t = q_bs (q_dn R) t := q_bs_congr (fun k hk => by unfold q_dn; rw [(h.2.1 k hk).2])
theorem q_cn_ag (h : q_ag n t L R) (hC : q_cn n t L M) : q_cn n t R M := by
  obtain ⟨c1, c2, c3, c4, c5⟩ := hC
  refine ⟨fun p hp => ?_, fun k hk => ?_, c3.trans h.2.2.2, c4.trans h.2.2.1, by rw [c5, q_ag_dn h]⟩
  · obtain ⟨a1, a2, a3, a4, a5⟩ := h.1 p hp
    obtain ⟨b1, b2, b3, b4, b5⟩ := c1 p hp
    exact ⟨b1.trans a1, b2.trans a2, b3.trans a3, b4.trans a4, b5.trans a5⟩
  · obtain ⟨a1, a2⟩ := h.2.1 k hk
    obtain ⟨b1, b2⟩ := c2 k hk
    exact ⟨b1.trans a1, by rw [← a2]; exact b2⟩
theorem q_cr_ag (h : q_ag n t L R) (hC : q_cr n t L M) : q_cr n t R M := by
  obtain ⟨c1, c2, c3, c4, c5⟩ := hC
  refine ⟨fun p hp => ?_, fun k hk => ?_, c3.trans h.2.2.2, c4.trans h.2.2.1, by rw [c5, q_ag_dn h]⟩
  · obtain ⟨a1, a2, a3, a4, a5⟩ := h.1 p hp
    obtain ⟨b1, b2, b3, b4, b5⟩ := c1 p hp
    exact ⟨b1.trans a1, b2.trans a2, b3.trans a3, b4.trans a4, b5.trans a5⟩
  · obtain ⟨a1, a2⟩ := h.2.1 k hk
    obtain ⟨b1, b2⟩ := c2 k hk
    exact ⟨b1.trans a1, by rw [← a2]; exact b2⟩
theorem q_td_ag (h : q_ag n t L R) {k : Nat} (hk : k < t) : q_td L k = q_td R k := by
  unfold q_td
  rw [(h.2.1 k hk).1, (h.2.1 k hk).2, h.2.2.2]
theorem q_fn_ag (h : q_ag n t L R) (hp : p < n) : ∀ k, k ≤ t → q_fn ow fi L p k = q_fn ow fi R p k
  | 0, _ => by
    show (L p, L (24 + p)) = (R p, R (24 + p))
    rw [(h.1 p hp).1, (h.1 p hp).2.2.2.2]
  | k + 1, hk => by
    have ih := q_fn_ag h hp k (by omega)
    by_cases c : ow k = p ∧ q_td L k = true
    · rw [q_fn_1 c, q_fn_1 (by rw [← q_td_ag h (by omega)]; exact c), ih]
    · rw [q_fn_0 c, q_fn_0 (by rw [← q_td_ag h (by omega)]; exact c), ih]
theorem q_lw_ag (h : q_ag n t L R) : q_lw n m sk wo L = q_lw n m sk wo R := by
  unfold q_lw
  rw [q_or_congr (c := fun q => decide (L (18 + q) = -1)) (d := fun q => decide (R (18 + q) = -1)) (s := sk) (t := sk) (fun i hi => ⟨by rw [(h.1 i hi).2.2.2.1], fun _ => rfl⟩)]
theorem q_WK_ag (ho : ∀ k, k < t → ow k < n) (h : q_ag n t L R) (h1 : q_WK n m t wa sk wo ow fi L L') (h2 : q_WK n m t wa sk wo ow fi R R') : q_ag n t L' R' := by
  refine ⟨fun p hp => ?_, fun k hk => ?_, ?_, ?_⟩
  · obtain ⟨a1, a2, a3, a4, a5⟩ := h.1 p hp
    obtain ⟨b1, b2, b3, b4, b5⟩ := h1.1 p hp
    obtain ⟨c1, c2, c3, c4, c5⟩ := h2.1 p hp
    refine ⟨?_, ?_, ?_, ?_, ?_⟩
    · rw [b1, c1]; unfold q_wc; rw [a4, a1, q_fn_ag h hp t (Nat.le_refl _)]
    · rw [b2, c2]; unfold q_wl; rw [a4, a2]
    · rw [b3, c3]; unfold q_ws; rw [a4, a3]
    · rw [b4, c4]
    · rw [b5, c5]; unfold q_wf1; rw [a4, a5, q_fn_ag h hp t (Nat.le_refl _)]
  · obtain ⟨b1, b2⟩ := h1.2.1 k hk
    obtain ⟨c1, c2⟩ := h2.2.1 k hk
    refine ⟨by rw [b1, c1]; exact (h.2.1 k hk).1, ?_⟩
    rw [b2, c2, q_td_ag h hk, (h.1 _ (ho k hk)).2.2.2.1, (h.2.1 k hk).2]
  · rw [h1.2.2.1, h2.2.2.1, h.2.2.1, q_lw_ag h]
  · rw [h1.2.2.2, h2.2.2.2, h.2.2.2]
theorem q_pr_ag (hp : p < n) (h : q_ag n t L R) : q_pr n t wa sk ow l cw cv L p = q_pr n t wa sk ow l cw cv R p := by
  unfold q_pr
  have e : q_kn n t wa sk ow L p = q_kn n t wa sk ow R p := by
    funext j
    obtain ⟨a1, a2, a3, a4, a5⟩ := h.1 p hp
    match j with
    | 0 => exact h.2.2.2
    | 1 =>
      show ((q_ct _ n : Nat) : Int) = ((q_ct _ n : Nat) : Int)
      rw [q_ct_congr (fun i hi => by rw [(h.1 i hi).2.2.2.1])]
    | 2 => exact a3
    | 3 => exact a1
    | 4 => rfl
    | 5 =>
      show ((q_pc (q_an (sk p) (q_or _ sk n)) : Nat) : Int) = ((q_pc (q_an (sk p) (q_or _ sk n)) : Nat) : Int)
      rw [q_or_congr (c := fun q => !decide (q = p) && decide (L (18 + q) = -1)) (d := fun q => !decide (q = p) && decide (R (18 + q) = -1)) (s := sk) (t := sk) (fun i hi => ⟨by rw [(h.1 i hi).2.2.2.1], fun _ => rfl⟩)]
    | 6 =>
      show ((q_ct _ t : Nat) : Int) = ((q_ct _ t : Nat) : Int)
      rw [q_ct_congr (fun k hk => by rw [(h.2.1 k hk).1, (h.2.1 k hk).2, h.2.2.2])]
    | _ + 7 => rfl
  rw [e]
theorem q_ca_ag (hp : p < n) (h : q_ag n t L R) : q_ca n t wa sk ow l cw cv L p ↔ q_ca n t wa sk ow l cw cv R p := by
  unfold q_ca
  rw [q_pr_ag hp h, (h.1 p hp).2.2.2.1, (h.1 p hp).1]
theorem q_u2_ag {c d : Int} (h6 : n ≤ 6) (hp : p < n) (h : q_ag n t L R) : q_ag n t (q_u (q_u L p c) (18 + p) d) (q_u (q_u R p c) (18 + p) d) := by
  refine ⟨fun q hq => ?_, fun k hk => ?_, ?_, ?_⟩
  · obtain ⟨a1, a2, a3, a4, a5⟩ := h.1 q hq
    unfold q_u
    refine ⟨?_, ?_, ?_, ?_, ?_⟩
    · rw [a1]
    · rw [a2]
    · rw [a3]
    · rw [a4]
    · rw [a5]
  · unfold q_u; rw [(h.2.1 k hk).1, (h.2.1 k hk).2]; exact ⟨rfl, rfl⟩
  · unfold q_u; rw [h.2.2.1]
  · unfold q_u; rw [h.2.2.2]
theorem q_bu_eq : q_bu n t wa sk ow l cw cv L p = q_u (q_u L p (e_w (L p - q_pr n t wa sk ow l cw cv L p))) (18 + p) (q_pr n t wa sk ow l cw cv L p) := by
  unfold q_bu
  funext i
  by_cases e1 : i = p
  · rw [e1, q_u_s, q_u_n (by omega), q_u_s]
  · by_cases e2 : i = 18 + p
    · rw [e2, q_u_n (by omega), q_u_s, q_u_s]
    · rw [q_u_n e1, q_u_n e2, q_u_n e2, q_u_n e1]
theorem q_bu_ag (h6 : n ≤ 6) (hp : p < n) (h : q_ag n t L R) : q_ag n t (q_bu n t wa sk ow l cw cv L p) (q_bu n t wa sk ow l cw cv R p) := by
  rw [q_bu_eq, q_bu_eq, q_pr_ag hp h, (h.1 p hp).1]
  exact q_u2_ag h6 hp h
theorem q_se_ag (h6 : n ≤ 6) (hp : p < n) (h : q_ag n t L R) : q_ag n t (q_se L p) (q_se R p) := by
  unfold q_se
  rw [(h.1 p hp).1, (h.1 p hp).2.2.2.1]
  exact q_u2_ag h6 hp h
/-- the life behind a week, as a function -/
def q_wkf (n m t : Nat) (wa : Nat → Int) (sk : Nat → Nat) (wo : Nat → Int) (ow : Nat → Nat) (fi L : Nat → Int) : Nat → Int := fun j => if j < 6 then q_wc t wa ow fi L j else if j < 12 then q_wl L (j - 6) else if j < 18 then q_ws L (j - 12) else if j < 24 then -1 else if j < 30 then q_wf1 t ow fi L (j - 24) else if j < 42 then L j else if j < 54 then (if q_td L (j - 42) = true ∧ L (18 + ow (j - 42)) = -1 then 1 else L j) else if j = 54 then e_w (L 54 + q_lw n m sk wo L) else e_w (L 55 + 1)
theorem q_wkf_ok (h6 : n ≤ 6) (h12 : t ≤ 12) : q_WK n m t wa sk wo ow fi L (q_wkf n m t wa sk wo ow fi L) := by
  refine ⟨fun p hp => ⟨?_, ?_, ?_, ?_, ?_⟩, fun k hk => ⟨?_, ?_⟩, ?_, ?_⟩
  · unfold q_wkf; rw [if_pos (by omega)]
  · unfold q_wkf; rw [if_neg (by omega), if_pos (by omega), show 6 + p - 6 = p by omega]
  · unfold q_wkf; rw [if_neg (by omega), if_neg (by omega), if_pos (by omega), show 12 + p - 12 = p by omega]
  · unfold q_wkf; rw [if_neg (by omega), if_neg (by omega), if_neg (by omega), if_pos (by omega)]
  · unfold q_wkf; rw [if_neg (by omega), if_neg (by omega), if_neg (by omega), if_neg (by omega), if_pos (by omega), show 24 + p - 24 = p by omega]
  · unfold q_wkf; rw [if_neg (by omega), if_neg (by omega), if_neg (by omega), if_neg (by omega), if_neg (by omega), if_pos (by omega)]
  · unfold q_wkf; rw [if_neg (by omega), if_neg (by omega), if_neg (by omega), if_neg (by omega), if_neg (by omega), if_neg (by omega), if_pos (by omega), show 42 + k - 42 = k by omega]
  · rfl
  · rfl
theorem q_WK_r (h : q_WK n m t wa sk wo ow fi L L') : ∀ p, p < n → e_i32 (L' (12 + p)) := fun p hp => by
  rw [(h.1 p hp).2.2.1]
  unfold q_ws
  split <;> exact e_w_r _
theorem q_u_r {c d : Int} (hp : p < n) (h6 : n ≤ 6) (h : ∀ p, p < n → e_i32 (L (12 + p))) : ∀ q, q < n → e_i32 (q_u (q_u L p c) (18 + p) d (12 + q)) := fun q hq => by
  rw [q_u_n (by omega), q_u_n (by omega)]
  exact h q hq
theorem q_LB_r (h : q_LB n t L) : ∀ p, p < n → e_i32 (L (12 + p)) := fun p hp => by
  have h1 := h.2.2.2.2.1 p hp
  have h2 := h.2.1
  unfold e_i32
  omega
/-- trial becomes now -/
theorem rr_copy (hC : q_cn n t L M) (h6 : n ≤ 6) (h12 : t ≤ 12) : ∃ M', f_X3_copyFrom_trial M = some (0, M') ∧ q_cr n t L M' ∧ ∀ a j, a < 43 ∨ 49 < a → M' a j = M a j := by
  refine ⟨_, rfl, ⟨fun p hp => ?_, fun k hk => ?_, ?_, ?_, ?_⟩, fun a j ha => ?_⟩
  · obtain ⟨c1, c2, c3, c4, c5⟩ := hC.1 p hp
    have hp6 : 0 ≤ p ∧ p < 0 + 6 := by omega
    refine ⟨?_, ?_, ?_, ?_, ?_⟩
    all_goals simp [e_cp, e_up, show p < 6 by omega]
    · exact c1
    · exact c2
    · exact c3
    · exact c4
    · exact c5
  · refine ⟨?_, (hC.2.1 k hk).2⟩
    simp [e_cp, e_up, show k < 12 by omega]
    exact (hC.2.1 k hk).1
  · exact hC.2.2.1
  · exact hC.2.2.2.1
  · exact hC.2.2.2.2
  · simp only [e_cp, e_up]
    repeat rw [if_neg (by omega)]
theorem r_copies {q0 q1 : Nat} (hne : q0 ≠ q1) : ∃ M', (∀ f, 56 < f → f_X11_copies q0 q1 f M = some (0, M')) ∧ (∀ j, j < 56 → M' q1 j = M q0 j) ∧ ∀ a j, a ≠ q1 → M' a j = M a j := by
  obtain ⟨A, ⟨a1, a2⟩, hA⟩ := q_run 0 1 56 (fun f (A : e_M) i => f_X11_copies_2 q0 q1 f i A) (fun i A => (∀ j, j < i → A q1 j = M q0 j) ∧ ∀ a j, a ≠ q1 → A a j = M a j) (a := M) (fun i A hi hA => by
    refine ⟨e_up A q1 i (A q0 i), ⟨fun j hj => ?_, fun a j ha => by rw [u_r ha]; exact hA.2 a j ha⟩, fun f _ => ?_⟩
    · by_cases e : j = i
      · subst e; rw [u_s]; exact hA.2 _ _ hne
      · rw [u_c e]; exact hA.1 j (by omega)
    · rw [f_X11_copies_2, if_neg (by omega), if_pos (by omega), if_pos (by omega), Int.toNat_natCast, e_ws_ (x := (i : Int) + 1) (by omega) (by omega)]) ⟨fun j hj => absurd hj (Nat.not_lt_zero _), fun _ _ _ => rfl⟩
  refine ⟨A, fun f hf => ?_, a1, a2⟩
  obtain ⟨f', rfl⟩ : ∃ f', f = (f' + 1) + 56 * 1 := ⟨f - 57, by omega⟩
  refine (hA (f' + 1) (by omega)).trans ?_
  show f_X11_copies_2 q0 q1 (f' + 1) ((56 : Nat) : Int) A = _
  rw [f_X11_copies_2, if_pos (by omega)]
end AG
