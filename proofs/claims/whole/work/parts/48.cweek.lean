/-! PURE 8: a week on the class's side -/
theorem q_bs_ins {c : Nat → Bool} {t k : Nat} (hk : k < t) (ht : t ≤ 30) : e_or (q_bs c t : Int) (e_shl 1 (k : Int)) = (q_bs (fun j => c j || decide (j = k)) t : Int) := by
  have h1 : (2 : Nat) ^ k < 2 ^ 31 := Nat.pow_lt_pow_right (by omega) (by omega)
  rw [q_sh (by omega), b_or (q_bs_31 (by omega)) h1]
  congr 1
  apply q_tbx
  intro j
  rw [Nat.testBit_or, Bool.or_eq_true, q_bs_tb, q_bs_tb, Nat.testBit_two_pow, Bool.or_eq_true, decide_eq_true_eq, decide_eq_true_eq]
  constructor
  · rintro (⟨h1, h2⟩ | h)
    · exact ⟨h1, Or.inl h2⟩
    · subst h; exact ⟨hk, Or.inr rfl⟩
  · rintro ⟨h1, h2 | h2⟩
    · exact Or.inl ⟨h1, h2⟩
    · exact Or.inr h2.symm
theorem q_bs_congr {c d : Nat → Bool} {n : Nat} (h : ∀ i, i < n → c i = d i) : q_bs c n = q_bs d n := q_or_congr (fun i hi => ⟨h i hi, fun _ => rfl⟩)
section CW
variable {n m t : Nat} {wa : Nat → Int} {sk : Nat → Nat} {wo : Nat → Int} {ow : Nat → Nat} {fi : Nat → Int} {L L' : Nat → Int} {M : e_M}
/-- tasks done by now, behind k tasks of this Monday -/
def q_dk (ow : Nat → Nat) (L : Nat → Int) (k j : Nat) : Bool := q_dn L j || (decide (j < k) && (q_td L j && decide (L (18 + ow j) = -1)))
theorem rn_pay {k f : Nat} (hk : k < 12) (hf : f < 6) (h1 : M 9 k = (f : Int)) : f_X3_payFine_now (k : Int) M = some (min (M 37 f) (M 11 k), e_up (e_up M 37 f (e_w (M 37 f - min (M 37 f) (M 11 k)))) 41 f (e_w (M 41 f + min (M 37 f) (M 11 k)))) := by
  unfold f_X3_payFine_now
  rw [Int.toNat_natCast, h1, if_pos (by omega), if_pos (by omega), if_pos (by omega), if_pos (by omega), if_pos (by omega), if_pos (by omega), if_pos (by omega), Int.toNat_natCast, u_r (show (41 : Nat) ≠ 37 by omega)]
/-- behind k tasks -/
def qn_P (n t : Nat) (ow : Nat → Nat) (fi L : Nat → Int) (x3 : Int) (M : e_M) (k : Nat) (N : e_M) : Prop :=
  (∀ a j, a < 36 ∨ 42 < a → N a j = M a j) ∧ (∀ q, q < n → N 37 q = if L (18 + q) = -1 then L q else (q_fn ow fi L q k).1) ∧ (∀ q, q < n → N 38 q = L (6 + q)) ∧ (∀ q, q < n → N 39 q = L (12 + q)) ∧ (∀ q, q < n → N 40 q = L (18 + q)) ∧
  (∀ q, q < n → N 41 q = if L (18 + q) = -1 then L (24 + q) else (q_fn ow fi L q k).2) ∧ (∀ q, q < t → N 42 q = L (30 + q)) ∧ N 36 2 = L 55 ∧ N 36 3 = x3 ∧ N 36 4 = (q_bs (q_dk ow L k) t : Int)
theorem qn_P_s {x3 : Int} {k : Nat} {N : e_M} (hT : q_T n m t wa sk wo ow fi M) (hd : ∀ k, k < t → L (42 + k) = 0 ∨ L (42 + k) = 1) (hk : k < t) (h : qn_P n t ow fi L x3 M k N) : ∃ N', qn_P n t ow fi L x3 M (k + 1) N' ∧ ∀ f, 0 ≤ f → f_X3_passWeek_now_23 (f + 1) (k : Int) N = f_X3_passWeek_now_23 f ((k : Int) + 1) N' := by
  have h6 := hT.1
  have ht12 := hT.2.2.1
  have hk1 := hT.2.2.2.2.2.2.2.2.2.2.2 k hk
  obtain ⟨p1, p2, p3, p4, p5, p6, p7, p8, p9, p10⟩ := h
  have g1 : N 4 2 = (t : Int) := by rw [p1 4 2 (by omega)]; exact hT.2.2.2.2.2.1
  have g2 : N 9 k = (ow k : Int) := by rw [p1 9 k (by omega)]; exact hk1.1
  have g3 : N 11 k = fi k := by rw [p1 11 k (by omega)]; exact hk1.2.2.2.1
  have hbl : q_bs (q_dk ow L k) t < 2147483648 := Nat.lt_of_lt_of_le q_bs_lt (Nat.le_trans (Nat.pow_le_pow_right (by omega) ht12) (by decide))
  have hdk : q_dk ow L k k = q_dn L k := by unfold q_dk; simp
  have hdd := hd k hk
  have hcond : (N 42 k = N 36 2 ∧ (q_bs (q_dk ow L k) t).testBit k = false) ↔ q_td L k = true := by
    rw [p7 k hk, p8, q_bs_tbc hk, hdk, q_td_t]
    unfold q_dn
    rw [decide_eq_false_iff_not]
    omega
  have w1 : ∀ f, f_X3_passWeek_now_23 (f + 1) (k : Int) N = if q_td L k = true then (if L (18 + ow k) = -1 then f_X3_passWeek_now_23 f ((k : Int) + 1) (e_up N 36 4 (e_or (N 36 4) (e_shl 1 (k : Int)))) else f_X3_passWeek_now_23 f ((k : Int) + 1) (e_up (e_up N 37 (ow k) (e_w (N 37 (ow k) - min (N 37 (ow k)) (fi k)))) 41 (ow k) (e_w (N 41 (ow k) + min (N 37 (ow k)) (fi k))))) else f_X3_passWeek_now_23 f ((k : Int) + 1) N := by
    intro f
    rw [f_X3_passWeek_now_23, if_neg (by omega), rn_falls p10 hbl (by omega), f_bs, e_ws_ (x := (k : Int) + 1) (by omega) (by omega)]
    by_cases c : q_td L k = true
    · rw [if_pos (hcond.mpr c), if_neg (by decide), if_pos (by omega), Int.toNat_natCast, g2, rn_hb (by omega), f_bs, p5 _ (by omega), if_pos c]
      by_cases c2 : L (18 + ow k) = -1
      · rw [if_pos c2, if_pos rfl, if_pos c2]
      · rw [if_neg c2, if_neg (by decide), if_neg c2, rn_pay (by omega) (by omega) g2, f_bs, g3]
    · rw [if_neg (fun z => c (hcond.mp z)), if_pos rfl, if_neg c]
  have hfo : ∀ q, (q ≠ ow k ∨ ¬ q_td L k = true) → q_fn ow fi L q (k + 1) = q_fn ow fi L q k := fun q hq => q_fn_0 (fun z => hq.elim (fun h => h z.1.symm) (fun h => h z.2))
  by_cases c : q_td L k = true
  · by_cases c2 : L (18 + ow k) = -1
    · refine ⟨e_up N 36 4 (e_or (N 36 4) (e_shl 1 (k : Int))), ⟨fun a j ha => by rw [u_r (by omega)]; exact p1 a j ha, fun q hq => ?_, fun q hq => p3 q hq, fun q hq => p4 q hq, fun q hq => p5 q hq, fun q hq => ?_, fun q hq => p7 q hq, p8, p9, ?_⟩, fun f _ => by rw [w1, if_pos c, if_pos c2]⟩
      · show N 37 q = _
        rw [p2 q hq]
        by_cases e : L (18 + q) = -1
        · rw [if_pos e, if_pos e]
        · rw [if_neg e, if_neg e, hfo q (Or.inl (fun z => e (by rw [z]; exact c2)))]
      · show N 41 q = _
        rw [p6 q hq]
        by_cases e : L (18 + q) = -1
        · rw [if_pos e, if_pos e]
        · rw [if_neg e, if_neg e, hfo q (Or.inl (fun z => e (by rw [z]; exact c2)))]
      · rw [u_s, p10, q_bs_ins hk (by omega)]
        congr 1
        apply q_bs_congr
        intro j hj
        unfold q_dk
        by_cases e : j = k
        · subst e
          simp [c, c2]
        · have e1 : decide (j < k + 1) = decide (j < k) := by
            by_cases z : j < k
            · simp [z]; omega
            · simp [z]; omega
          rw [e1]
          simp [e]
    · refine ⟨e_up (e_up N 37 (ow k) (e_w (N 37 (ow k) - min (N 37 (ow k)) (fi k)))) 41 (ow k) (e_w (N 41 (ow k) + min (N 37 (ow k)) (fi k))), ⟨fun a j ha => by rw [u_r (by omega), u_r (by omega)]; exact p1 a j ha, fun q hq => ?_, fun q hq => p3 q hq, fun q hq => p4 q hq, fun q hq => p5 q hq, fun q hq => ?_, fun q hq => p7 q hq, p8, p9, ?_⟩, fun f _ => by rw [w1, if_pos c, if_neg c2]⟩
      · rw [u_r (show (37 : Nat) ≠ 41 by omega)]
        by_cases e0 : q = ow k
        · rw [e0, u_s, if_neg c2, q_fn_1 ⟨rfl, c⟩, p2 _ (by omega), if_neg c2, Int.min_comm]
        · rw [u_c e0, p2 q hq, hfo q (Or.inl e0)]
      · by_cases e0 : q = ow k
        · rw [e0, u_s, if_neg c2, q_fn_1 ⟨rfl, c⟩, p2 _ (by omega), p6 _ (by omega), if_neg c2, if_neg c2, Int.min_comm]
        · rw [u_c e0, u_r (show (41 : Nat) ≠ 37 by omega), p6 q hq, hfo q (Or.inl e0)]
      · show N 36 4 = _
        rw [p10]
        congr 1
        apply q_bs_congr
        intro j hj
        unfold q_dk
        by_cases e : j = k
        · subst e
          simp [c2]
        · have e1 : decide (j < k + 1) = decide (j < k) := by
            by_cases z : j < k
            · simp [z]; omega
            · simp [z]; omega
          rw [e1]
  · refine ⟨N, ⟨p1, fun q hq => ?_, p3, p4, p5, fun q hq => ?_, p7, p8, p9, ?_⟩, fun f _ => by rw [w1, if_neg c]⟩
    · rw [p2 q hq, hfo q (Or.inr c)]
    · rw [p6 q hq, hfo q (Or.inr c)]
    · rw [p10]
      congr 1
      apply q_bs_congr
      intro j hj
      unfold q_dk
      by_cases e : j = k
      · subst e
        simp [c]
      · have e1 : decide (j < k + 1) = decide (j < k) := by
          by_cases z : j < k
          · simp [z]; omega
          · simp [z]; omega
        rw [e1]
theorem rn_week (hT : q_T n m t wa sk wo ow fi M) (hC : q_cn n t L M) (hR : ∀ p, p < n → e_i32 (L (12 + p))) (hW : q_WK n m t wa sk wo ow fi L L') : ∃ M', (∀ f, 300 < f → f_X3_passWeek_now f M = some (0, M')) ∧ q_cn n t L' M' ∧ ∀ a j, a < 36 ∨ 42 < a → M' a j = M a j := by
  have h6 := hT.1
  have hm := hT.2.1
  have ht12 := hT.2.2.1
  have h0 := hT.2.2.2.1
  have hs : ∀ q, q < n → M 7 q = (sk q : Int) ∧ sk q < 2 ^ 6 := fun q hq => ⟨(hT.2.2.2.2.2.2.2.2.2.1 q hq).2.2.2.2.1, q_sk6 hT hq⟩
  have hB : q_bs (fun p => decide (M 40 p = -1)) n < 2147483648 := Nat.lt_of_lt_of_le q_bs_lt (Nat.le_trans (Nat.pow_le_pow_right (by omega) h6) (by decide))
  have eL : q_or (fun q => (q_bs (fun p => decide (M 40 p = -1)) n).testBit q) sk n = q_or (fun q => decide (L (18 + q) = -1)) sk n := q_or_congr (fun i hi => ⟨by rw [q_bs_tbc hi, (hC.1 i hi).2.2.2.1], fun _ => rfl⟩)
  have hlt : q_an (2 ^ m - 1) (q_or (fun q => decide (L (18 + q) = -1)) sk n) < 2147483648 := by
    have h1 : (2 : Nat) ^ m ≤ 2 ^ 6 := Nat.pow_le_pow_right (by omega) hm
    have h2 := q_an_lt (a := 2 ^ m - 1) (b := q_or (fun q => decide (L (18 + q) = -1)) sk n) (k := 6) (by have := Nat.two_pow_pos m; omega)
    omega
  have e0 : ∀ f, 300 < f → f_X3_passWeek_now f M = f_X3_passWeek_now_23 f 0 (e_up M 36 3 (e_w (M 36 3 + q_lw n m sk wo L))) := by
    intro f hf
    unfold f_X3_passWeek_now
    rw [rn_sb h0 h6 (by omega), f_bs, rn_lb h0 h6 hT.2.2.2.2.1 hm hB hs (by omega), f_bs, eL, rn_worth hlt hT.2.2.2.2.1 hm (fun d hd => (hT.2.2.2.2.2.2.2.2.2.2.1 d hd).1) (by omega), f_bs]
    rfl
  have hrun := q_run 0 1 t (fun f (N : e_M) k => f_X3_passWeek_now_23 f k N) (fun k N => qn_P n t ow fi L (e_w (L 54 + q_lw n m sk wo L)) M k N) (a := e_up M 36 3 (e_w (M 36 3 + q_lw n m sk wo L))) (fun k N hk hP => qn_P_s hT (fun k hk => (hC.2.1 k hk).2) hk hP)
  obtain ⟨N, hP, he⟩ := hrun (by
    refine ⟨fun a j ha => u_r (by omega), fun q hq => ?_, fun q hq => (hC.1 q hq).2.1, fun q hq => (hC.1 q hq).2.2.1, fun q hq => (hC.1 q hq).2.2.2.1, fun q hq => ?_, fun q hq => (hC.2.1 q hq).1, hC.2.2.1, ?_, ?_⟩
    · show M 37 q = _
      rw [(hC.1 q hq).1]
      split <;> rfl
    · show M 41 q = _
      rw [(hC.1 q hq).2.2.2.2]
      split <;> rfl
    · rw [u_s, hC.2.2.2.1]
    · show M 36 4 = _
      rw [hC.2.2.2.2]
      congr 1
      apply q_bs_congr
      intro j hj
      unfold q_dk
      simp)
  obtain ⟨p1, p2, p3, p4, p5, p6, p7, p8, p9, p10⟩ := hP
  have hrun2 := q_run 0 1 n (fun f (A : e_M) k => f_X3_passWeek_now_87 f k A) (fun p A => (∀ a j, a < 36 ∨ 42 < a → A a j = M a j) ∧ (∀ q, q < n → A 37 q = if q < p then q_wc t wa ow fi L q else N 37 q) ∧ (∀ q, q < n → A 38 q = if q < p then q_wl L q else L (6 + q)) ∧ (∀ q, q < n → A 39 q = if q < p then q_ws L q else L (12 + q)) ∧ (∀ q, q < n → A 40 q = if q < p then -1 else L (18 + q)) ∧ (∀ q, q < n → A 41 q = N 41 q) ∧ (∀ q, q < t → A 42 q = L (30 + q)) ∧ A 36 2 = L 55 ∧ A 36 3 = N 36 3 ∧ A 36 4 = N 36 4) (a := N) (fun p A hp hA => by
    obtain ⟨a1, a2, a3, a4, a5, a6, a7, a8, a9, a10⟩ := hA
    have g0 : A 4 0 = (n : Int) := by rw [a1 4 0 (by omega)]; exact h0
    have g1 : A 6 p = wa p := by rw [a1 6 p (by omega)]; exact (hT.2.2.2.2.2.2.2.2.2.1 p hp).1
    have k2 : A 37 p = N 37 p := by rw [a2 p hp, if_neg (by omega)]
    have k3 : A 38 p = L (6 + p) := by rw [a3 p hp, if_neg (by omega)]
    have k4 : A 39 p = L (12 + p) := by rw [a4 p hp, if_neg (by omega)]
    have k5 : A 40 p = L (18 + p) := by rw [a5 p hp, if_neg (by omega)]
    have hlt1 : ∀ q, q ≠ p → ((q < p + 1) = (q < p)) := fun q hq => by apply propext; omega
    by_cases c : L (18 + p) = -1
    · refine ⟨e_up (e_up A 38 p (e_w (A 38 p + 7))) 37 p (min 999 (e_w (A 37 p + wa p))), ⟨fun a j ha => by rw [u_r (by omega), u_r (by omega)]; exact a1 a j ha, fun q hq => ?_, fun q hq => ?_, fun q hq => ?_, fun q hq => ?_, a6, a7, a8, a9, a10⟩, fun f _ => ?_⟩
      · by_cases e : q = p
        · subst e
          rw [u_s, if_pos (by omega), k2, p2 q hp, if_pos c]
          unfold q_wc
          rw [if_pos c]
        · rw [u_c e, u_r (show (37 : Nat) ≠ 38 by omega), a2 q hq]
          simp only [hlt1 q e]
      · rw [u_r (show (38 : Nat) ≠ 37 by omega)]
        by_cases e : q = p
        · subst e
          rw [u_s, if_pos (by omega), k3]
          unfold q_wl
          rw [if_pos c]
        · rw [u_c e, a3 q hq]
          simp only [hlt1 q e]
      · show A 39 q = _
        by_cases e : q = p
        · subst e
          rw [k4, if_pos (by omega)]
          unfold q_ws
          rw [if_pos c, Int.add_zero, e_w_id (hR q hp)]
        · rw [a4 q hq]
          simp only [hlt1 q e]
      · show A 40 q = _
        by_cases e : q = p
        · subst e
          rw [k5, if_pos (by omega), c]
        · rw [a5 q hq]
          simp only [hlt1 q e]
      · rw [f_X3_passWeek_now_87, if_neg (by omega), rn_hb (by omega), f_bs, k5, if_pos c, if_pos rfl, if_pos (by omega), if_pos (by omega), if_pos (by omega), if_pos (by omega), if_pos (by omega), Int.toNat_natCast, e_ws_ (x := (p : Int) + 1) (by omega) (by omega), u_r (show (37 : Nat) ≠ 38 by omega), u_r (show (6 : Nat) ≠ 38 by omega), g1]
    · refine ⟨e_up (e_up (e_up A 38 p (e_w (A 38 p + 6))) 39 p (e_w (A 39 p + 1))) 40 p (-1), ⟨fun a j ha => by rw [u_r (by omega), u_r (by omega), u_r (by omega)]; exact a1 a j ha, fun q hq => ?_, fun q hq => ?_, fun q hq => ?_, fun q hq => ?_, a6, a7, a8, a9, a10⟩, fun f _ => ?_⟩
      · show A 37 q = _
        by_cases e : q = p
        · subst e
          rw [if_pos (by omega), k2, p2 q hp, if_neg c]
          unfold q_wc
          rw [if_neg c]
        · rw [a2 q hq]
          simp only [hlt1 q e]
      · rw [u_r (show (38 : Nat) ≠ 40 by omega), u_r (show (38 : Nat) ≠ 39 by omega)]
        by_cases e : q = p
        · subst e
          rw [u_s, if_pos (by omega), k3]
          unfold q_wl
          rw [if_neg c]
        · rw [u_c e, a3 q hq]
          simp only [hlt1 q e]
      · rw [u_r (show (39 : Nat) ≠ 40 by omega)]
        by_cases e : q = p
        · subst e
          rw [u_s, if_pos (by omega), k4]
          unfold q_ws
          rw [if_neg c]
        · rw [u_c e, u_r (show (39 : Nat) ≠ 38 by omega), a4 q hq]
          simp only [hlt1 q e]
      · by_cases e : q = p
        · subst e
          rw [u_s, if_pos (by omega)]
        · rw [u_c e, u_r (show (40 : Nat) ≠ 39 by omega), u_r (show (40 : Nat) ≠ 38 by omega), a5 q hq]
          simp only [hlt1 q e]
      · rw [f_X3_passWeek_now_87, if_neg (by omega), rn_hb (by omega), f_bs, k5, if_neg c, if_neg (by decide), if_pos (by omega), if_pos (by omega), if_pos (by omega), if_pos (by omega), if_pos (by omega), Int.toNat_natCast, e_ws_ (x := (p : Int) + 1) (by omega) (by omega), u_r (show (39 : Nat) ≠ 38 by omega)])
  obtain ⟨A, ⟨a1, a2, a3, a4, a5, a6, a7, a8, a9, a10⟩, hA⟩ := hrun2 ⟨p1, fun q hq => by rw [if_neg (by omega)], fun q hq => by rw [if_neg (by omega)]; exact p3 q hq, fun q hq => by rw [if_neg (by omega)]; exact p4 q hq, fun q hq => by rw [if_neg (by omega)]; exact p5 q hq, fun q hq => rfl, p7, p8, rfl, rfl⟩
  have g0 : A 4 0 = (n : Int) := by rw [a1 4 0 (by omega)]; exact h0
  have g2 : N 4 2 = (t : Int) := by rw [p1 4 2 (by omega)]; exact hT.2.2.2.2.2.1
  refine ⟨e_up A 36 2 (e_w (A 36 2 + 1)), fun f hf => ?_, ⟨fun q hq => ?_, fun k hk => ?_, ?_, ?_, ?_⟩, fun a j ha => ?_⟩
  · obtain ⟨f', hf'⟩ : ∃ f', f = (f' + 1 + n * 1 + 1) + t * 1 := ⟨f - 2 - n - t, by omega⟩
    rw [e0 f hf, hf']
    refine (he (f' + 1 + n * 1 + 1) (by omega)).trans ?_
    show f_X3_passWeek_now_23 (f' + 1 + n * 1 + 1) (t : Int) N = _
    rw [f_X3_passWeek_now_23, if_pos (by omega)]
    refine (hA (f' + 1) (by omega)).trans ?_
    show f_X3_passWeek_now_87 (f' + 1) (n : Int) A = _
    rw [f_X3_passWeek_now_87, if_pos (by omega)]
  · obtain ⟨w1, w2, w3, w4, w5⟩ := hW.1 q hq
    refine ⟨?_, ?_, ?_, ?_, ?_⟩
    · show A 37 q = _
      rw [a2 q hq, if_pos hq, w1]
    · show A 38 q = _
      rw [a3 q hq, if_pos hq, w2]
    · show A 39 q = _
      rw [a4 q hq, if_pos hq, w3]
    · show A 40 q = _
      rw [a5 q hq, if_pos hq, w4]
    · show A 41 q = _
      rw [a6 q hq, p6 q hq, w5]; rfl
  · have hw := hW.2.1 k hk
    have hd := (hC.2.1 k hk).2
    refine ⟨?_, ?_⟩
    · show A 42 k = _
      rw [a7 k hk, hw.1]
    · rw [hw.2]
      split
      · exact Or.inr rfl
      · exact hd
  · rw [u_s, a8, hW.2.2.2]
  · show A 36 3 = _
    rw [a9, p9, hW.2.2.1]
  · show A 36 4 = _
    rw [a10, p10]
    congr 1
    apply q_bs_congr
    intro j hj
    have hw := (hW.2.1 j hj).2
    unfold q_dk q_dn
    rw [hw]
    by_cases c : q_td L j = true ∧ L (18 + ow j) = -1
    · rw [if_pos c]; simp [hj, c.1, c.2]
    · rw [if_neg c]
      by_cases c1 : q_td L j = true
      · have c2 : ¬ L (18 + ow j) = -1 := fun z => c ⟨c1, z⟩
        simp [c2]
      · simp [c1]
  · rw [u_r (by omega)]; exact a1 a j ha
theorem rr_pay {k f : Nat} (hk : k < 12) (hf : f < 6) (h1 : M 9 k = (f : Int)) : f_X3_payFine_trial (k : Int) M = some (min (M 44 f) (M 11 k), e_up (e_up M 44 f (e_w (M 44 f - min (M 44 f) (M 11 k)))) 48 f (e_w (M 48 f + min (M 44 f) (M 11 k)))) := by
  unfold f_X3_payFine_trial
  rw [Int.toNat_natCast, h1, if_pos (by omega), if_pos (by omega), if_pos (by omega), if_pos (by omega), if_pos (by omega), if_pos (by omega), if_pos (by omega), Int.toNat_natCast, u_r (show (48 : Nat) ≠ 44 by omega)]
/-- behind k tasks -/
def qr_P (n t : Nat) (ow : Nat → Nat) (fi L : Nat → Int) (x3 : Int) (M : e_M) (k : Nat) (N : e_M) : Prop :=
  (∀ a j, a < 43 ∨ 49 < a → N a j = M a j) ∧ (∀ q, q < n → N 44 q = if L (18 + q) = -1 then L q else (q_fn ow fi L q k).1) ∧ (∀ q, q < n → N 45 q = L (6 + q)) ∧ (∀ q, q < n → N 46 q = L (12 + q)) ∧ (∀ q, q < n → N 47 q = L (18 + q)) ∧
  (∀ q, q < n → N 48 q = if L (18 + q) = -1 then L (24 + q) else (q_fn ow fi L q k).2) ∧ (∀ q, q < t → N 49 q = L (30 + q)) ∧ N 43 2 = L 55 ∧ N 43 3 = x3 ∧ N 43 4 = (q_bs (q_dk ow L k) t : Int)
theorem qr_P_s {x3 : Int} {k : Nat} {N : e_M} (hT : q_T n m t wa sk wo ow fi M) (hd : ∀ k, k < t → L (42 + k) = 0 ∨ L (42 + k) = 1) (hk : k < t) (h : qr_P n t ow fi L x3 M k N) : ∃ N', qr_P n t ow fi L x3 M (k + 1) N' ∧ ∀ f, 0 ≤ f → f_X3_passWeek_trial_23 (f + 1) (k : Int) N = f_X3_passWeek_trial_23 f ((k : Int) + 1) N' := by
  have h6 := hT.1
  have ht12 := hT.2.2.1
  have hk1 := hT.2.2.2.2.2.2.2.2.2.2.2 k hk
  obtain ⟨p1, p2, p3, p4, p5, p6, p7, p8, p9, p10⟩ := h
  have g1 : N 4 2 = (t : Int) := by rw [p1 4 2 (by omega)]; exact hT.2.2.2.2.2.1
  have g2 : N 9 k = (ow k : Int) := by rw [p1 9 k (by omega)]; exact hk1.1
  have g3 : N 11 k = fi k := by rw [p1 11 k (by omega)]; exact hk1.2.2.2.1
  have hbl : q_bs (q_dk ow L k) t < 2147483648 := Nat.lt_of_lt_of_le q_bs_lt (Nat.le_trans (Nat.pow_le_pow_right (by omega) ht12) (by decide))
  have hdk : q_dk ow L k k = q_dn L k := by unfold q_dk; simp
  have hdd := hd k hk
  have hcond : (N 49 k = N 43 2 ∧ (q_bs (q_dk ow L k) t).testBit k = false) ↔ q_td L k = true := by
    rw [p7 k hk, p8, q_bs_tbc hk, hdk, q_td_t]
    unfold q_dn
    rw [decide_eq_false_iff_not]
    omega
  have w1 : ∀ f, f_X3_passWeek_trial_23 (f + 1) (k : Int) N = if q_td L k = true then (if L (18 + ow k) = -1 then f_X3_passWeek_trial_23 f ((k : Int) + 1) (e_up N 43 4 (e_or (N 43 4) (e_shl 1 (k : Int)))) else f_X3_passWeek_trial_23 f ((k : Int) + 1) (e_up (e_up N 44 (ow k) (e_w (N 44 (ow k) - min (N 44 (ow k)) (fi k)))) 48 (ow k) (e_w (N 48 (ow k) + min (N 44 (ow k)) (fi k))))) else f_X3_passWeek_trial_23 f ((k : Int) + 1) N := by
    intro f
    rw [f_X3_passWeek_trial_23, if_neg (by omega), rr_falls p10 hbl (by omega), f_bs, e_ws_ (x := (k : Int) + 1) (by omega) (by omega)]
    by_cases c : q_td L k = true
    · rw [if_pos (hcond.mpr c), if_neg (by decide), if_pos (by omega), Int.toNat_natCast, g2, rr_hb (by omega), f_bs, p5 _ (by omega), if_pos c]
      by_cases c2 : L (18 + ow k) = -1
      · rw [if_pos c2, if_pos rfl, if_pos c2]
      · rw [if_neg c2, if_neg (by decide), if_neg c2, rr_pay (by omega) (by omega) g2, f_bs, g3]
    · rw [if_neg (fun z => c (hcond.mp z)), if_pos rfl, if_neg c]
  have hfo : ∀ q, (q ≠ ow k ∨ ¬ q_td L k = true) → q_fn ow fi L q (k + 1) = q_fn ow fi L q k := fun q hq => q_fn_0 (fun z => hq.elim (fun h => h z.1.symm) (fun h => h z.2))
  by_cases c : q_td L k = true
  · by_cases c2 : L (18 + ow k) = -1
    · refine ⟨e_up N 43 4 (e_or (N 43 4) (e_shl 1 (k : Int))), ⟨fun a j ha => by rw [u_r (by omega)]; exact p1 a j ha, fun q hq => ?_, fun q hq => p3 q hq, fun q hq => p4 q hq, fun q hq => p5 q hq, fun q hq => ?_, fun q hq => p7 q hq, p8, p9, ?_⟩, fun f _ => by rw [w1, if_pos c, if_pos c2]⟩
      · show N 44 q = _
        rw [p2 q hq]
        by_cases e : L (18 + q) = -1
        · rw [if_pos e, if_pos e]
        · rw [if_neg e, if_neg e, hfo q (Or.inl (fun z => e (by rw [z]; exact c2)))]
      · show N 48 q = _
        rw [p6 q hq]
        by_cases e : L (18 + q) = -1
        · rw [if_pos e, if_pos e]
        · rw [if_neg e, if_neg e, hfo q (Or.inl (fun z => e (by rw [z]; exact c2)))]
      · rw [u_s, p10, q_bs_ins hk (by omega)]
        congr 1
        apply q_bs_congr
        intro j hj
        unfold q_dk
        by_cases e : j = k
        · subst e
          simp [c, c2]
        · have e1 : decide (j < k + 1) = decide (j < k) := by
            by_cases z : j < k
            · simp [z]; omega
            · simp [z]; omega
          rw [e1]
          simp [e]
    · refine ⟨e_up (e_up N 44 (ow k) (e_w (N 44 (ow k) - min (N 44 (ow k)) (fi k)))) 48 (ow k) (e_w (N 48 (ow k) + min (N 44 (ow k)) (fi k))), ⟨fun a j ha => by rw [u_r (by omega), u_r (by omega)]; exact p1 a j ha, fun q hq => ?_, fun q hq => p3 q hq, fun q hq => p4 q hq, fun q hq => p5 q hq, fun q hq => ?_, fun q hq => p7 q hq, p8, p9, ?_⟩, fun f _ => by rw [w1, if_pos c, if_neg c2]⟩
      · rw [u_r (show (44 : Nat) ≠ 48 by omega)]
        by_cases e0 : q = ow k
        · rw [e0, u_s, if_neg c2, q_fn_1 ⟨rfl, c⟩, p2 _ (by omega), if_neg c2, Int.min_comm]
        · rw [u_c e0, p2 q hq, hfo q (Or.inl e0)]
      · by_cases e0 : q = ow k
        · rw [e0, u_s, if_neg c2, q_fn_1 ⟨rfl, c⟩, p2 _ (by omega), p6 _ (by omega), if_neg c2, if_neg c2, Int.min_comm]
        · rw [u_c e0, u_r (show (48 : Nat) ≠ 44 by omega), p6 q hq, hfo q (Or.inl e0)]
      · show N 43 4 = _
        rw [p10]
        congr 1
        apply q_bs_congr
        intro j hj
        unfold q_dk
        by_cases e : j = k
        · subst e
          simp [c2]
        · have e1 : decide (j < k + 1) = decide (j < k) := by
            by_cases z : j < k
            · simp [z]; omega
            · simp [z]; omega
          rw [e1]
  · refine ⟨N, ⟨p1, fun q hq => ?_, p3, p4, p5, fun q hq => ?_, p7, p8, p9, ?_⟩, fun f _ => by rw [w1, if_neg c]⟩
    · rw [p2 q hq, hfo q (Or.inr c)]
    · rw [p6 q hq, hfo q (Or.inr c)]
    · rw [p10]
      congr 1
      apply q_bs_congr
      intro j hj
      unfold q_dk
      by_cases e : j = k
      · subst e
        simp [c]
      · have e1 : decide (j < k + 1) = decide (j < k) := by
          by_cases z : j < k
          · simp [z]; omega
          · simp [z]; omega
        rw [e1]
theorem rr_week (hT : q_T n m t wa sk wo ow fi M) (hC : q_cr n t L M) (hR : ∀ p, p < n → e_i32 (L (12 + p))) (hW : q_WK n m t wa sk wo ow fi L L') : ∃ M', (∀ f, 300 < f → f_X3_passWeek_trial f M = some (0, M')) ∧ q_cr n t L' M' ∧ ∀ a j, a < 43 ∨ 49 < a → M' a j = M a j := by
  have h6 := hT.1
  have hm := hT.2.1
  have ht12 := hT.2.2.1
  have h0 := hT.2.2.2.1
  have hs : ∀ q, q < n → M 7 q = (sk q : Int) ∧ sk q < 2 ^ 6 := fun q hq => ⟨(hT.2.2.2.2.2.2.2.2.2.1 q hq).2.2.2.2.1, q_sk6 hT hq⟩
  have hB : q_bs (fun p => decide (M 47 p = -1)) n < 2147483648 := Nat.lt_of_lt_of_le q_bs_lt (Nat.le_trans (Nat.pow_le_pow_right (by omega) h6) (by decide))
  have eL : q_or (fun q => (q_bs (fun p => decide (M 47 p = -1)) n).testBit q) sk n = q_or (fun q => decide (L (18 + q) = -1)) sk n := q_or_congr (fun i hi => ⟨by rw [q_bs_tbc hi, (hC.1 i hi).2.2.2.1], fun _ => rfl⟩)
  have hlt : q_an (2 ^ m - 1) (q_or (fun q => decide (L (18 + q) = -1)) sk n) < 2147483648 := by
    have h1 : (2 : Nat) ^ m ≤ 2 ^ 6 := Nat.pow_le_pow_right (by omega) hm
    have h2 := q_an_lt (a := 2 ^ m - 1) (b := q_or (fun q => decide (L (18 + q) = -1)) sk n) (k := 6) (by have := Nat.two_pow_pos m; omega)
    omega
  have e0 : ∀ f, 300 < f → f_X3_passWeek_trial f M = f_X3_passWeek_trial_23 f 0 (e_up M 43 3 (e_w (M 43 3 + q_lw n m sk wo L))) := by
    intro f hf
    unfold f_X3_passWeek_trial
    rw [rr_sb h0 h6 (by omega), f_bs, rr_lb h0 h6 hT.2.2.2.2.1 hm hB hs (by omega), f_bs, eL, rr_worth hlt hT.2.2.2.2.1 hm (fun d hd => (hT.2.2.2.2.2.2.2.2.2.2.1 d hd).1) (by omega), f_bs]
    rfl
  have hrun := q_run 0 1 t (fun f (N : e_M) k => f_X3_passWeek_trial_23 f k N) (fun k N => qr_P n t ow fi L (e_w (L 54 + q_lw n m sk wo L)) M k N) (a := e_up M 43 3 (e_w (M 43 3 + q_lw n m sk wo L))) (fun k N hk hP => qr_P_s hT (fun k hk => (hC.2.1 k hk).2) hk hP)
  obtain ⟨N, hP, he⟩ := hrun (by
    refine ⟨fun a j ha => u_r (by omega), fun q hq => ?_, fun q hq => (hC.1 q hq).2.1, fun q hq => (hC.1 q hq).2.2.1, fun q hq => (hC.1 q hq).2.2.2.1, fun q hq => ?_, fun q hq => (hC.2.1 q hq).1, hC.2.2.1, ?_, ?_⟩
    · show M 44 q = _
      rw [(hC.1 q hq).1]
      split <;> rfl
    · show M 48 q = _
      rw [(hC.1 q hq).2.2.2.2]
      split <;> rfl
    · rw [u_s, hC.2.2.2.1]
    · show M 43 4 = _
      rw [hC.2.2.2.2]
      congr 1
      apply q_bs_congr
      intro j hj
      unfold q_dk
      simp)
  obtain ⟨p1, p2, p3, p4, p5, p6, p7, p8, p9, p10⟩ := hP
  have hrun2 := q_run 0 1 n (fun f (A : e_M) k => f_X3_passWeek_trial_87 f k A) (fun p A => (∀ a j, a < 43 ∨ 49 < a → A a j = M a j) ∧ (∀ q, q < n → A 44 q = if q < p then q_wc t wa ow fi L q else N 44 q) ∧ (∀ q, q < n → A 45 q = if q < p then q_wl L q else L (6 + q)) ∧ (∀ q, q < n → A 46 q = if q < p then q_ws L q else L (12 + q)) ∧ (∀ q, q < n → A 47 q = if q < p then -1 else L (18 + q)) ∧ (∀ q, q < n → A 48 q = N 48 q) ∧ (∀ q, q < t → A 49 q = L (30 + q)) ∧ A 43 2 = L 55 ∧ A 43 3 = N 43 3 ∧ A 43 4 = N 43 4) (a := N) (fun p A hp hA => by
    obtain ⟨a1, a2, a3, a4, a5, a6, a7, a8, a9, a10⟩ := hA
    have g0 : A 4 0 = (n : Int) := by rw [a1 4 0 (by omega)]; exact h0
    have g1 : A 6 p = wa p := by rw [a1 6 p (by omega)]; exact (hT.2.2.2.2.2.2.2.2.2.1 p hp).1
    have k2 : A 44 p = N 44 p := by rw [a2 p hp, if_neg (by omega)]
    have k3 : A 45 p = L (6 + p) := by rw [a3 p hp, if_neg (by omega)]
    have k4 : A 46 p = L (12 + p) := by rw [a4 p hp, if_neg (by omega)]
    have k5 : A 47 p = L (18 + p) := by rw [a5 p hp, if_neg (by omega)]
    have hlt1 : ∀ q, q ≠ p → ((q < p + 1) = (q < p)) := fun q hq => by apply propext; omega
    by_cases c : L (18 + p) = -1
    · refine ⟨e_up (e_up A 45 p (e_w (A 45 p + 7))) 44 p (min 999 (e_w (A 44 p + wa p))), ⟨fun a j ha => by rw [u_r (by omega), u_r (by omega)]; exact a1 a j ha, fun q hq => ?_, fun q hq => ?_, fun q hq => ?_, fun q hq => ?_, a6, a7, a8, a9, a10⟩, fun f _ => ?_⟩
      · by_cases e : q = p
        · subst e
          rw [u_s, if_pos (by omega), k2, p2 q hp, if_pos c]
          unfold q_wc
          rw [if_pos c]
        · rw [u_c e, u_r (show (44 : Nat) ≠ 45 by omega), a2 q hq]
          simp only [hlt1 q e]
      · rw [u_r (show (45 : Nat) ≠ 44 by omega)]
        by_cases e : q = p
        · subst e
          rw [u_s, if_pos (by omega), k3]
          unfold q_wl
          rw [if_pos c]
        · rw [u_c e, a3 q hq]
          simp only [hlt1 q e]
      · show A 46 q = _
        by_cases e : q = p
        · subst e
          rw [k4, if_pos (by omega)]
          unfold q_ws
          rw [if_pos c, Int.add_zero, e_w_id (hR q hp)]
        · rw [a4 q hq]
          simp only [hlt1 q e]
      · show A 47 q = _
        by_cases e : q = p
        · subst e
          rw [k5, if_pos (by omega), c]
        · rw [a5 q hq]
          simp only [hlt1 q e]
      · rw [f_X3_passWeek_trial_87, if_neg (by omega), rr_hb (by omega), f_bs, k5, if_pos c, if_pos rfl, if_pos (by omega), if_pos (by omega), if_pos (by omega), if_pos (by omega), if_pos (by omega), Int.toNat_natCast, e_ws_ (x := (p : Int) + 1) (by omega) (by omega), u_r (show (44 : Nat) ≠ 45 by omega), u_r (show (6 : Nat) ≠ 45 by omega), g1]
    · refine ⟨e_up (e_up (e_up A 45 p (e_w (A 45 p + 6))) 46 p (e_w (A 46 p + 1))) 47 p (-1), ⟨fun a j ha => by rw [u_r (by omega), u_r (by omega), u_r (by omega)]; exact a1 a j ha, fun q hq => ?_, fun q hq => ?_, fun q hq => ?_, fun q hq => ?_, a6, a7, a8, a9, a10⟩, fun f _ => ?_⟩
      · show A 44 q = _
        by_cases e : q = p
        · subst e
          rw [if_pos (by omega), k2, p2 q hp, if_neg c]
          unfold q_wc
          rw [if_neg c]
        · rw [a2 q hq]
          simp only [hlt1 q e]
      · rw [u_r (show (45 : Nat) ≠ 47 by omega), u_r (show (45 : Nat) ≠ 46 by omega)]
        by_cases e : q = p
        · subst e
          rw [u_s, if_pos (by omega), k3]
          unfold q_wl
          rw [if_neg c]
        · rw [u_c e, a3 q hq]
          simp only [hlt1 q e]
      · rw [u_r (show (46 : Nat) ≠ 47 by omega)]
        by_cases e : q = p
        · subst e
          rw [u_s, if_pos (by omega), k4]
          unfold q_ws
          rw [if_neg c]
        · rw [u_c e, u_r (show (46 : Nat) ≠ 45 by omega), a4 q hq]
          simp only [hlt1 q e]
      · by_cases e : q = p
        · subst e
          rw [u_s, if_pos (by omega)]
        · rw [u_c e, u_r (show (47 : Nat) ≠ 46 by omega), u_r (show (47 : Nat) ≠ 45 by omega), a5 q hq]
          simp only [hlt1 q e]
      · rw [f_X3_passWeek_trial_87, if_neg (by omega), rr_hb (by omega), f_bs, k5, if_neg c, if_neg (by decide), if_pos (by omega), if_pos (by omega), if_pos (by omega), if_pos (by omega), if_pos (by omega), Int.toNat_natCast, e_ws_ (x := (p : Int) + 1) (by omega) (by omega), u_r (show (46 : Nat) ≠ 45 by omega)])
  obtain ⟨A, ⟨a1, a2, a3, a4, a5, a6, a7, a8, a9, a10⟩, hA⟩ := hrun2 ⟨p1, fun q hq => by rw [if_neg (by omega)], fun q hq => by rw [if_neg (by omega)]; exact p3 q hq, fun q hq => by rw [if_neg (by omega)]; exact p4 q hq, fun q hq => by rw [if_neg (by omega)]; exact p5 q hq, fun q hq => rfl, p7, p8, rfl, rfl⟩
  have g0 : A 4 0 = (n : Int) := by rw [a1 4 0 (by omega)]; exact h0
  have g2 : N 4 2 = (t : Int) := by rw [p1 4 2 (by omega)]; exact hT.2.2.2.2.2.1
  refine ⟨e_up A 43 2 (e_w (A 43 2 + 1)), fun f hf => ?_, ⟨fun q hq => ?_, fun k hk => ?_, ?_, ?_, ?_⟩, fun a j ha => ?_⟩
  · obtain ⟨f', hf'⟩ : ∃ f', f = (f' + 1 + n * 1 + 1) + t * 1 := ⟨f - 2 - n - t, by omega⟩
    rw [e0 f hf, hf']
    refine (he (f' + 1 + n * 1 + 1) (by omega)).trans ?_
    show f_X3_passWeek_trial_23 (f' + 1 + n * 1 + 1) (t : Int) N = _
    rw [f_X3_passWeek_trial_23, if_pos (by omega)]
    refine (hA (f' + 1) (by omega)).trans ?_
    show f_X3_passWeek_trial_87 (f' + 1) (n : Int) A = _
    rw [f_X3_passWeek_trial_87, if_pos (by omega)]
  · obtain ⟨w1, w2, w3, w4, w5⟩ := hW.1 q hq
    refine ⟨?_, ?_, ?_, ?_, ?_⟩
    · show A 44 q = _
      rw [a2 q hq, if_pos hq, w1]
    · show A 45 q = _
      rw [a3 q hq, if_pos hq, w2]
    · show A 46 q = _
      rw [a4 q hq, if_pos hq, w3]
    · show A 47 q = _
      rw [a5 q hq, if_pos hq, w4]
    · show A 48 q = _
      rw [a6 q hq, p6 q hq, w5]; rfl
  · have hw := hW.2.1 k hk
    have hd := (hC.2.1 k hk).2
    refine ⟨?_, ?_⟩
    · show A 49 k = _
      rw [a7 k hk, hw.1]
    · rw [hw.2]
      split
      · exact Or.inr rfl
      · exact hd
  · rw [u_s, a8, hW.2.2.2]
  · show A 43 3 = _
    rw [a9, p9, hW.2.2.1]
  · show A 43 4 = _
    rw [a10, p10]
    congr 1
    apply q_bs_congr
    intro j hj
    have hw := (hW.2.1 j hj).2
    unfold q_dk q_dn
    rw [hw]
    by_cases c : q_td L j = true ∧ L (18 + ow j) = -1
    · rw [if_pos c]; simp [hj, c.1, c.2]
    · rw [if_neg c]
      by_cases c1 : q_td L j = true
      · have c2 : ¬ L (18 + ow j) = -1 := fun z => c ⟨c1, z⟩
        simp [c2]
      · simp [c1]
  · rw [u_r (by omega)]; exact a1 a j ha
end CW
