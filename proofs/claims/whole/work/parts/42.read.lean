/-! PURE 2: what reads -/
theorem q_bs_f {c : Nat → Bool} {i : Nat} (hc : c i = false) : q_bs c (i + 1) = q_bs c i := q_or_f hc
theorem q_bs_tbc {c : Nat → Bool} {N q : Nat} (h : q < N) : (q_bs c N).testBit q = c q := by
  have := q_bs_tb (c := c) (n := N) (j := q)
  cases h1 : (q_bs c N).testBit q <;> cases h2 : c q <;> simp_all
theorem q_an_all {c : Nat → Bool} {N : Nat} : q_an (2 ^ N - 1) (q_bs c N) = q_bs (fun p => !c p) N := by
  apply q_tbx
  intro j
  rw [q_an_tb, q_bs_tb, Nat.testBit_two_pow_sub_one, Bool.and_eq_true, decide_eq_true_eq]
  constructor
  · rintro ⟨h1, h2⟩
    rw [q_bs_tbc h1] at h2
    exact ⟨h1, h2⟩
  · rintro ⟨h1, h2⟩
    rw [q_bs_tbc h1]
    exact ⟨h1, h2⟩
theorem q_sm_r (c : Nat → Int) : ∀ n, e_i32 (q_sm c n)
  | 0 => e_00
  | n + 1 => e_w_r _
theorem q_sm_0 {c : Nat → Int} {n : Nat} (h : c n = 0) : q_sm c (n + 1) = q_sm c n := by
  show e_w (q_sm c n + c n) = _
  rw [h, Int.add_zero, e_w_id (q_sm_r c n)]
theorem q_sm_1 {c : Nat → Int} {n : Nat} : q_sm c (n + 1) = e_w (q_sm c n + c n) := rfl
theorem r_np {M : e_M} {n : Nat} {p : Int} (h : M 4 0 = (n : Int)) : f_X10_needPerson p M = if 0 ≤ p ∧ p < (n : Int) then some (.inl 0, M) else some (.inr 0, e_up M 1 16 (e_w (M 1 16 + 1))) := by
  unfold f_X10_needPerson f_X10_refuseMissing
  rw [h]
  by_cases h1 : p < 0
  · rw [if_pos h1, if_neg (by omega)]; rfl
  · by_cases h2 : p < (n : Int)
    · rw [if_neg h1, if_pos h2, if_pos (by omega)]
    · rw [if_neg h1, if_neg h2, if_neg (by omega)]; rfl
theorem r_nd {M : e_M} {n : Nat} {p : Int} (h : M 4 1 = (n : Int)) : f_X10_needDuty p M = if 0 ≤ p ∧ p < (n : Int) then some (.inl 0, M) else some (.inr 0, e_up M 1 16 (e_w (M 1 16 + 1))) := by
  unfold f_X10_needDuty f_X10_refuseMissing
  rw [h]
  by_cases h1 : p < 0
  · rw [if_pos h1, if_neg (by omega)]; rfl
  · by_cases h2 : p < (n : Int)
    · rw [if_neg h1, if_pos h2, if_pos (by omega)]
    · rw [if_neg h1, if_neg h2, if_neg (by omega)]; rfl
theorem r_nt {M : e_M} {n : Nat} {p : Int} (h : M 4 2 = (n : Int)) : f_X10_needTask p M = if 0 ≤ p ∧ p < (n : Int) then some (.inl 0, M) else some (.inr 0, e_up M 1 16 (e_w (M 1 16 + 1))) := by
  unfold f_X10_needTask f_X10_refuseMissing
  rw [h]
  by_cases h1 : p < 0
  · rw [if_pos h1, if_neg (by omega)]; rfl
  · by_cases h2 : p < (n : Int)
    · rw [if_neg h1, if_pos h2, if_pos (by omega)]
    · rw [if_neg h1, if_neg h2, if_neg (by omega)]; rfl
theorem r_nw {M : e_M} {p a b : Int} : f_X10_needWithin p a b M = if a ≤ p ∧ p ≤ b then some (.inl 0, M) else some (.inr 1, e_up M 1 17 (e_w (M 1 17 + 1))) := by
  unfold f_X10_needWithin f_X10_refuseArgument
  by_cases h1 : p < a
  · rw [if_pos h1, if_neg (by omega)]; rfl
  · by_cases h2 : p ≤ b
    · rw [if_neg h1, if_pos h2, if_pos (by omega)]
    · rw [if_neg h1, if_neg h2, if_neg (by omega)]; rfl
theorem r_in {M : e_M} {p a b : Int} : f_X11_in p a b M = some (if a ≤ p ∧ p ≤ b then 1 else 0, M) := by
  unfold f_X11_in
  by_cases h1 : p < a
  · rw [if_pos h1, if_neg (by omega)]
  · by_cases h2 : b < p
    · rw [if_neg h1, if_pos h2, if_neg (by omega)]
    · rw [if_neg h1, if_neg h2, if_pos (by omega)]
theorem r_isP {M : e_M} {n : Nat} {p : Int} (h : M 68 0 = (n : Int)) (hn : n ≤ 6) : f_X11_isPerson p M = some (if 0 ≤ p ∧ p < (n : Int) then 1 else 0, M) := by
  unfold f_X11_isPerson
  rw [r_in, h, e_ws_ (by omega) (by omega), f_bs]
  by_cases h1 : 0 ≤ p ∧ p < (n : Int)
  · rw [if_pos (show 0 ≤ p ∧ p ≤ (n : Int) - 1 by omega), if_pos h1]; rfl
  · rw [if_neg (show ¬ (0 ≤ p ∧ p ≤ (n : Int) - 1) by omega), if_neg h1]; rfl
theorem r_bad0 {M : e_M} {w r : Int} (h : M 64 0 = 0) : f_X11_bad 0 w r M = some (0, M) := by
  unfold f_X11_bad
  rw [if_pos rfl, if_pos h]
theorem r_badm {M : e_M} {w : Int} (h : M 64 0 = 0) (hw : w ≠ 0) : f_X11_bad 1 w 0 M = some (1, e_up (e_up M 64 0 w) 66 0 (e_w (M 66 0 + 1))) := by
  unfold f_X11_bad
  rw [if_neg (by decide), if_neg (not_not_intro h), if_pos (by decide), if_pos (by decide)]
  have e1 : (e_up M 64 0 w) 66 (0 : Int).toNat = M 66 0 := rfl
  rw [e1, if_neg]
  · rfl
  · exact hw
theorem r_bada {M : e_M} {w : Int} (h : M 64 0 = 0) (hw : w ≠ 0) : f_X11_bad 1 w 1 M = some (1, e_up (e_up M 64 0 w) 66 1 (e_w (M 66 1 + 1))) := by
  unfold f_X11_bad
  rw [if_neg (by decide), if_neg (not_not_intro h), if_pos (by decide), if_pos (by decide)]
  have e1 : (e_up M 64 0 w) 66 (1 : Int).toNat = M 66 1 := rfl
  rw [e1, if_neg]
  · rfl
  · exact hw
theorem r_has {M : e_M} {x k : Nat} (hx : x < 2147483648) (hk : k < 32) : f_X11_has (x : Int) (k : Int) M = some (if x.testBit k then 1 else 0, M) := by
  unfold f_X11_has
  rw [q_tb hx hk]
  by_cases h : x.testBit k = true
  · rw [if_pos h]; rfl
  · rw [if_neg h]; rfl
theorem r_less {M : e_M} {a b : Int} : f_X11_less a b M = some (min a b, M) := by
  unfold f_X11_less
  split
  · rw [Int.min_eq_right (by omega)]
  · rw [Int.min_eq_left (by omega)]
theorem r_more {M : e_M} {a b : Int} : f_X11_more a b M = some (max a b, M) := by
  unfold f_X11_more
  split
  · rw [Int.max_eq_right (by omega)]
  · rw [Int.max_eq_left (by omega)]
theorem r_sold {M : e_M} {r p : Nat} (hp : p < 6) : f_X11_isSold r (p : Int) M = some (if M r (18 + p) = -1 then 0 else 1, M) := by
  unfold f_X11_isSold
  rw [e_ws_ (by omega) (by omega), if_pos (by omega), q_t18]
  split <;> rfl
theorem r_today {M : e_M} {r k : Nat} (hk : k < 12) : f_X11_isToday r (k : Int) M = some (if M r (42 + k) = 0 ∧ M r (30 + k) = M r 55 then 1 else 0, M) := by
  unfold f_X11_isToday
  rw [e_ws_ (by omega) (by omega), e_ws_ (by omega) (by omega), if_pos (by omega), q_t42, q_t30]
  by_cases h1 : M r (42 + k) = 0
  · rw [if_neg (not_not_intro h1), if_pos (by omega)]
    by_cases h2 : M r (30 + k) = M r 55
    · rw [if_neg (not_not_intro h2), if_pos ⟨h1, h2⟩]
    · rw [if_pos h2, if_neg (fun q => h2 q.2)]
  · rw [if_pos h1, if_neg (fun q => h1 q.1)]
theorem r_sumOf {M : e_M} {r a N n : Nat} (h0 : M 68 0 = (N : Int)) (h6 : N ≤ 6) (ha : a ≤ 24) (hn : 6 < n) : f_X11_sumOf r n (a : Int) M = some (q_sm (fun p => M r (a + p)) N, M) := by
  refine q_sq (fun n s i => f_X11_sumOf_5 r n (a : Int) s i M) (q_sm (fun p => M r (a + p))) N _ (fun n i hi => ?_) (fun n => ?_) n (by omega)
  · rw [f_X11_sumOf_5, if_neg (by omega), e_ws_ (x := (a : Int) + (i : Int)) (by omega) (by omega), if_pos (by omega), e_ws_ (x := (i : Int) + 1) (by omega) (by omega), show ((a : Int) + (i : Int)).toNat = a + i by omega]
    rfl
  · rw [f_X11_sumOf_5, if_pos (by omega)]
theorem r_worth {M : e_M} {x m n : Nat} {wo : Nat → Int} (hx : x < 2147483648) (h0 : M 68 1 = (m : Int)) (h6 : m ≤ 6) (hw : ∀ d, d < m → M 70 d = wo d) (hn : 6 < n) : f_X11_worthOf n (x : Int) M = some (q_sm (fun d => if x.testBit d then wo d else 0) m, M) := by
  refine q_sq (fun n s i => f_X11_worthOf_4 n (x : Int) s i M) (q_sm (fun d => if x.testBit d then wo d else 0)) m _ (fun n i hi => ?_) (fun n => ?_) n (by omega)
  · rw [f_X11_worthOf_4, if_neg (by omega), r_has hx (by omega), f_bs, e_ws_ (x := (i : Int) + 1) (by omega) (by omega)]
    by_cases hc : x.testBit i = true
    · rw [if_pos hc, if_neg (by decide), if_pos (by omega), Int.toNat_natCast, hw i hi, q_sm_1, if_pos hc]
    · rw [if_neg hc, if_pos rfl, q_sm_1, if_neg hc]
  · rw [f_X11_worthOf_4, if_pos (by omega)]
theorem r_left {M : e_M} {r N m n : Nat} {sk : Nat → Nat} (h0 : M 68 0 = (N : Int)) (h6 : N ≤ 6) (h1 : M 68 1 = (m : Int)) (hm : m ≤ 6) (hs : ∀ q, q < N → M 72 q = (sk q : Int) ∧ sk q < 2 ^ m) (hn : 6 < n) : f_X11_leftIn r n M = some (((q_an (2 ^ m - 1) (q_or (fun q => decide (M r (18 + q) = -1)) sk N) : Nat) : Int), M) := by
  have h31 : ∀ i, i ≤ N → q_or (fun q => decide (M r (18 + q) = -1)) sk i < 2 ^ 31 := fun i hi => Nat.lt_of_lt_of_le (q_or_lt (k := m) (fun j hj _ => (hs j (by omega)).2)) (Nat.pow_le_pow_right (by omega) (by omega))
  refine q_sq (fun n s i => f_X11_leftIn_4 r n s i M) (fun i => (q_or (fun q => decide (M r (18 + q) = -1)) sk i : Int)) N _ (fun n i hi => ?_) (fun n => ?_) n (by omega)
  · have hsi := hs i hi
    have hk : sk i < 2 ^ 31 := Nat.lt_of_lt_of_le hsi.2 (Nat.pow_le_pow_right (by omega) (by omega))
    rw [f_X11_leftIn_4, if_neg (by omega), r_sold (by omega), f_bs, e_ws_ (x := (i : Int) + 1) (by omega) (by omega)]
    by_cases hc : M r (18 + i) = -1
    · rw [if_pos hc, if_pos rfl, if_pos (by omega), Int.toNat_natCast, hsi.1, q_or_t (by simp [hc]) (h31 i (by omega)) hk]
    · rw [if_neg hc, if_neg (by decide), q_or0 (h31 i (by omega)), q_or_f (by simp [hc])]
  · have hp : (2 : Nat) ^ m ≤ 2 ^ 6 := Nat.pow_le_pow_right (by omega) hm
    rw [f_X11_leftIn_4, if_pos (by omega), h1, q_bb (by omega), q_andn (by omega)]
theorem r_able {M : e_M} {x N n : Nat} {sk : Nat → Nat} (h0 : M 4 0 = (N : Int)) (h6 : N ≤ 6) (hx : x < 32) (hs : ∀ q, q < N → M 7 q = (sk q : Int) ∧ sk q < 2 ^ 31) (hn : 6 < n) : f_X8_ableBits_town n (x : Int) M = some ((q_bs (fun p => (sk p).testBit x) N : Int), M) := by
  refine q_sq (fun n s i => f_X8_ableBits_town_4 n (x : Int) s i M) (fun i => (q_bs (fun p => (sk p).testBit x) i : Int)) N _ (fun n i hi => ?_) (fun n => ?_) n (by omega)
  · have hsi := hs i hi
    rw [f_X8_ableBits_town_4, if_neg (by omega), if_pos (by omega), Int.toNat_natCast, hsi.1, q_tb (by omega) hx, e_ws_ (x := (i : Int) + 1) (by omega) (by omega)]
    by_cases hc : (sk i).testBit x = true
    · rw [if_pos hc, if_neg (by decide), q_bs_t (c := fun p => (sk p).testBit x) hc (by omega)]
    · rw [if_neg hc, if_pos rfl, q_bs_f (by simpa using hc)]
  · rw [f_X8_ableBits_town_4, if_pos (by omega)]
theorem r_skof {M : e_M} {x N n : Nat} {sk : Nat → Nat} (h0 : M 4 0 = (N : Int)) (h6 : N ≤ 6) (hx : x < 2147483648) (hs : ∀ q, q < N → M 7 q = (sk q : Int) ∧ sk q < 2 ^ 6) (hn : 6 < n) : f_X8_skillsOf_town n (x : Int) M = some ((q_or (fun q => x.testBit q) sk N : Int), M) := by
  have h31 : ∀ i, i ≤ N → q_or (fun q => x.testBit q) sk i < 2 ^ 31 := fun i hi => Nat.lt_of_lt_of_le (q_or_lt (k := 6) (fun j hj _ => (hs j (by omega)).2)) (by decide)
  refine q_sq (fun n s i => f_X8_skillsOf_town_4 n (x : Int) s i M) (fun i => (q_or (fun q => x.testBit q) sk i : Int)) N _ (fun n i hi => ?_) (fun n => ?_) n (by omega)
  · have hsi := hs i hi
    rw [f_X8_skillsOf_town_4, if_neg (by omega), q_tb hx (by omega), e_ws_ (x := (i : Int) + 1) (by omega) (by omega)]
    by_cases hc : x.testBit i = true
    · rw [if_pos hc, if_neg (by decide), if_pos (by omega), Int.toNat_natCast, hsi.1, q_or_t hc (h31 i (by omega)) (by omega)]
    · rw [if_neg hc, if_pos rfl, q_or_f (by simpa using hc)]
  · rw [f_X8_skillsOf_town_4, if_pos (by omega)]
theorem rn_hb {M : e_M} {p : Nat} (hp : p < 6) : f_X3_hasBought_now (p : Int) M = some (if M 40 p = -1 then 0 else 1, M) := by
  unfold f_X3_hasBought_now
  rw [if_pos (by omega), Int.toNat_natCast]
  split <;> rfl
theorem rn_bb {M : e_M} {N n : Nat} (h0 : M 4 0 = (N : Int)) (h6 : N ≤ 6) (hn : 6 < n) : f_X3_boughtBits_now n M = some ((q_bs (fun p => !decide (M 40 p = -1)) N : Int), M) := by
  refine q_sq (fun n a i => f_X3_boughtBits_now_4 n a i M) (fun i => (q_bs (fun p => !decide (M 40 p = -1)) i : Int)) N _ (fun n i hi => ?_) (fun n => ?_) n (by omega)
  · rw [f_X3_boughtBits_now_4, if_neg (by omega), if_pos (by omega), Int.toNat_natCast, e_ws_ (x := (i : Int) + 1) (by omega) (by omega)]
    by_cases hc : M 40 i = -1
    · rw [if_pos hc, q_bs_f (by simp [hc])]
    · rw [if_neg hc, q_bs_t (by simp [hc]) (by omega)]
  · rw [f_X3_boughtBits_now_4, if_pos (by omega)]
theorem rn_sb {M : e_M} {N n : Nat} (h0 : M 4 0 = (N : Int)) (h6 : N ≤ 6) (hn : 6 < n) : f_X3_stayingBits_now n M = some ((q_bs (fun p => decide (M 40 p = -1)) N : Int), M) := by
  unfold f_X3_stayingBits_now f_X10_bitsBelow
  have hp : (2 : Nat) ^ N ≤ 2 ^ 6 := Nat.pow_le_pow_right (by omega) h6
  rw [f_bs, rn_bb h0 h6 hn, f_bs, h0, q_bb (by omega), q_andn (by omega), q_an_all]
  simp only [Bool.not_not]
theorem rn_lb {M : e_M} {x N m n : Nat} {sk : Nat → Nat} (h0 : M 4 0 = (N : Int)) (h6 : N ≤ 6) (h1 : M 4 1 = (m : Int)) (hm : m ≤ 6) (hx : x < 2147483648) (hs : ∀ q, q < N → M 7 q = (sk q : Int) ∧ sk q < 2 ^ 6) (hn : 6 < n) : f_X3_leftBy_now n (x : Int) M = some (((q_an (2 ^ m - 1) (q_or (fun q => x.testBit q) sk N) : Nat) : Int), M) := by
  unfold f_X3_leftBy_now f_X10_bitsBelow
  have hp : (2 : Nat) ^ m ≤ 2 ^ 6 := Nat.pow_le_pow_right (by omega) hm
  rw [f_bs, r_skof h0 h6 hx hs hn, f_bs, h1, q_bb (by omega), q_andn (by omega)]
theorem rn_coins {M : e_M} {N n : Nat} (h0 : M 4 0 = (N : Int)) (h6 : N ≤ 6) (hn : 6 < n) : f_X3_coinsOfAll_now n M = some (q_sm (M 37) N, M) := by
  refine q_sq (fun n a i => f_X3_coinsOfAll_now_4 n a i M) (q_sm (M 37)) N _ (fun n i hi => ?_) (fun n => ?_) n (by omega)
  · rw [f_X3_coinsOfAll_now_4, if_neg (by omega), if_pos (by omega), Int.toNat_natCast, e_ws_ (x := (i : Int) + 1) (by omega) (by omega)]
    rfl
  · rw [f_X3_coinsOfAll_now_4, if_pos (by omega)]
theorem rn_worth {M : e_M} {x m n : Nat} {wo : Nat → Int} (hx : x < 2147483648) (h0 : M 4 1 = (m : Int)) (h6 : m ≤ 6) (hw : ∀ d, d < m → M 8 d = wo d) (hn : 6 < n) : f_X3_worthOf_now n (x : Int) M = some (q_sm (fun d => if x.testBit d then wo d else 0) m, M) := by
  refine q_sq (fun n s i => f_X3_worthOf_now_4 n (x : Int) s i M) (q_sm (fun d => if x.testBit d then wo d else 0)) m _ (fun n i hi => ?_) (fun n => ?_) n (by omega)
  · rw [f_X3_worthOf_now_4, if_neg (by omega), q_tb hx (by omega), e_ws_ (x := (i : Int) + 1) (by omega) (by omega)]
    by_cases hc : x.testBit i = true
    · rw [if_pos hc, if_neg (by decide), if_pos (by omega), Int.toNat_natCast, hw i hi, q_sm_1, if_pos hc]
    · rw [if_neg hc, if_pos rfl, q_sm_0 (by rw [if_neg hc])]
  · rw [f_X3_worthOf_now_4, if_pos (by omega)]
theorem rn_isDone {M : e_M} {D k : Nat} (h : M 36 4 = (D : Int)) (hD : D < 2147483648) (hk : k < 32) : f_X3_isDone_now (k : Int) M = some (if D.testBit k then 1 else 0, M) := by
  unfold f_X3_isDone_now
  rw [h, q_tb hD hk]
  by_cases h : D.testBit k = true
  · rw [if_pos h]; rfl
  · rw [if_neg h]; rfl
theorem rn_falls {M : e_M} {D k : Nat} (h : M 36 4 = (D : Int)) (hD : D < 2147483648) (hk : k < 12) : f_X3_fallsNow_now (k : Int) M = some (if M 42 k = M 36 2 ∧ D.testBit k = false then 1 else 0, M) := by
  unfold f_X3_fallsNow_now
  rw [h, q_tb hD (by omega), if_pos (by omega), Int.toNat_natCast]
  by_cases h1 : M 42 k = M 36 2
  · rw [if_neg (not_not_intro h1)]
    by_cases h2 : D.testBit k = true
    · rw [if_pos h2, if_pos (by decide), if_neg (fun q => by rw [h2] at q; cases q.2)]
    · rw [if_neg h2, if_neg (by decide), if_pos ⟨h1, by simpa using h2⟩]
  · rw [if_pos h1, if_neg (fun q => h1 q.1)]
theorem rr_hb {M : e_M} {p : Nat} (hp : p < 6) : f_X3_hasBought_trial (p : Int) M = some (if M 47 p = -1 then 0 else 1, M) := by
  unfold f_X3_hasBought_trial
  rw [if_pos (by omega), Int.toNat_natCast]
  split <;> rfl
theorem rr_bb {M : e_M} {N n : Nat} (h0 : M 4 0 = (N : Int)) (h6 : N ≤ 6) (hn : 6 < n) : f_X3_boughtBits_trial n M = some ((q_bs (fun p => !decide (M 47 p = -1)) N : Int), M) := by
  refine q_sq (fun n a i => f_X3_boughtBits_trial_4 n a i M) (fun i => (q_bs (fun p => !decide (M 47 p = -1)) i : Int)) N _ (fun n i hi => ?_) (fun n => ?_) n (by omega)
  · rw [f_X3_boughtBits_trial_4, if_neg (by omega), if_pos (by omega), Int.toNat_natCast, e_ws_ (x := (i : Int) + 1) (by omega) (by omega)]
    by_cases hc : M 47 i = -1
    · rw [if_pos hc, q_bs_f (by simp [hc])]
    · rw [if_neg hc, q_bs_t (by simp [hc]) (by omega)]
  · rw [f_X3_boughtBits_trial_4, if_pos (by omega)]
theorem rr_sb {M : e_M} {N n : Nat} (h0 : M 4 0 = (N : Int)) (h6 : N ≤ 6) (hn : 6 < n) : f_X3_stayingBits_trial n M = some ((q_bs (fun p => decide (M 47 p = -1)) N : Int), M) := by
  unfold f_X3_stayingBits_trial f_X10_bitsBelow
  have hp : (2 : Nat) ^ N ≤ 2 ^ 6 := Nat.pow_le_pow_right (by omega) h6
  rw [f_bs, rr_bb h0 h6 hn, f_bs, h0, q_bb (by omega), q_andn (by omega), q_an_all]
  simp only [Bool.not_not]
theorem rr_lb {M : e_M} {x N m n : Nat} {sk : Nat → Nat} (h0 : M 4 0 = (N : Int)) (h6 : N ≤ 6) (h1 : M 4 1 = (m : Int)) (hm : m ≤ 6) (hx : x < 2147483648) (hs : ∀ q, q < N → M 7 q = (sk q : Int) ∧ sk q < 2 ^ 6) (hn : 6 < n) : f_X3_leftBy_trial n (x : Int) M = some (((q_an (2 ^ m - 1) (q_or (fun q => x.testBit q) sk N) : Nat) : Int), M) := by
  unfold f_X3_leftBy_trial f_X10_bitsBelow
  have hp : (2 : Nat) ^ m ≤ 2 ^ 6 := Nat.pow_le_pow_right (by omega) hm
  rw [f_bs, r_skof h0 h6 hx hs hn, f_bs, h1, q_bb (by omega), q_andn (by omega)]
theorem rr_coins {M : e_M} {N n : Nat} (h0 : M 4 0 = (N : Int)) (h6 : N ≤ 6) (hn : 6 < n) : f_X3_coinsOfAll_trial n M = some (q_sm (M 44) N, M) := by
  refine q_sq (fun n a i => f_X3_coinsOfAll_trial_4 n a i M) (q_sm (M 44)) N _ (fun n i hi => ?_) (fun n => ?_) n (by omega)
  · rw [f_X3_coinsOfAll_trial_4, if_neg (by omega), if_pos (by omega), Int.toNat_natCast, e_ws_ (x := (i : Int) + 1) (by omega) (by omega)]
    rfl
  · rw [f_X3_coinsOfAll_trial_4, if_pos (by omega)]
theorem rr_worth {M : e_M} {x m n : Nat} {wo : Nat → Int} (hx : x < 2147483648) (h0 : M 4 1 = (m : Int)) (h6 : m ≤ 6) (hw : ∀ d, d < m → M 8 d = wo d) (hn : 6 < n) : f_X3_worthOf_trial n (x : Int) M = some (q_sm (fun d => if x.testBit d then wo d else 0) m, M) := by
  refine q_sq (fun n s i => f_X3_worthOf_trial_4 n (x : Int) s i M) (q_sm (fun d => if x.testBit d then wo d else 0)) m _ (fun n i hi => ?_) (fun n => ?_) n (by omega)
  · rw [f_X3_worthOf_trial_4, if_neg (by omega), q_tb hx (by omega), e_ws_ (x := (i : Int) + 1) (by omega) (by omega)]
    by_cases hc : x.testBit i = true
    · rw [if_pos hc, if_neg (by decide), if_pos (by omega), Int.toNat_natCast, hw i hi, q_sm_1, if_pos hc]
    · rw [if_neg hc, if_pos rfl, q_sm_0 (by rw [if_neg hc])]
  · rw [f_X3_worthOf_trial_4, if_pos (by omega)]
theorem rr_isDone {M : e_M} {D k : Nat} (h : M 43 4 = (D : Int)) (hD : D < 2147483648) (hk : k < 32) : f_X3_isDone_trial (k : Int) M = some (if D.testBit k then 1 else 0, M) := by
  unfold f_X3_isDone_trial
  rw [h, q_tb hD hk]
  by_cases h : D.testBit k = true
  · rw [if_pos h]; rfl
  · rw [if_neg h]; rfl
theorem rr_falls {M : e_M} {D k : Nat} (h : M 43 4 = (D : Int)) (hD : D < 2147483648) (hk : k < 12) : f_X3_fallsNow_trial (k : Int) M = some (if M 49 k = M 43 2 ∧ D.testBit k = false then 1 else 0, M) := by
  unfold f_X3_fallsNow_trial
  rw [h, q_tb hD (by omega), if_pos (by omega), Int.toNat_natCast]
  by_cases h1 : M 49 k = M 43 2
  · rw [if_neg (not_not_intro h1)]
    by_cases h2 : D.testBit k = true
    · rw [if_pos h2, if_pos (by decide), if_neg (fun q => by rw [h2] at q; cases q.2)]
    · rw [if_neg h2, if_neg (by decide), if_pos ⟨h1, by simpa using h2⟩]
  · rw [if_pos h1, if_neg (fun q => h1 q.1)]
