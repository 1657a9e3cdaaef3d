/-! OPERATIONS, 19: skips -/
/-- is a set x of Mondays paid for, from the Monday i on (j of them left, c bought, coins k) -/
def w_p (pr : Nat → Nat → Int → Int) (bz : Nat → Bool) (wg : Int) (x : Nat) : Nat → Nat → Nat → Int → Bool
  | 0, _, _, _ => true
  | j + 1, i, c, k => if x.testBit i then (if bz i then false else if pr i c k ≤ k then w_p pr bz wg x j (i + 1) (c + 1) (k - pr i c k) else false) else w_p pr bz wg x j (i + 1) c (min 999 (k + wg))
/-- a is as good as b -/
def w_le (a b : Nat) : Prop := q_pc b < q_pc a ∨ (q_pc b = q_pc a ∧ a ≤ b)
theorem w_le_rf {a : Nat} : w_le a a := Or.inr ⟨rfl, Nat.le_refl _⟩
theorem w_le_tr {a b c : Nat} (h : w_le a b) (g : w_le b c) : w_le a c := by unfold w_le at *; omega
theorem w_le_as {a b : Nat} (h : w_le a b) (g : w_le b a) : a = b := by unfold w_le at *; omega
theorem q_pc_or {s i : Nat} (hs : s < 2 ^ i) (hi : i < 16) : q_pc (s ||| 2 ^ i) = q_pc s + 1 := by
  have h1 : s ||| 2 ^ i < 2 ^ (i + 1) := Nat.or_lt_two_pow (Nat.lt_trans hs (Nat.pow_lt_pow_right (by omega) (by omega))) (Nat.pow_lt_pow_right (by omega) (by omega))
  rw [q_pc_n h1 (by omega), q_pc_n hs (by omega), q_ct_1 (by rw [Nat.testBit_or, Nat.testBit_two_pow_self, Bool.or_true])]
  refine congrArg (· + 1) (q_ct_congr (fun b hb => ?_))
  rw [Nat.testBit_or, Nat.testBit_two_pow_of_ne (by omega), Bool.or_false]
/-- the sets that go on from s -/
def w_S (pr : Nat → Nat → Int → Int) (bz : Nat → Bool) (wg : Int) (z j i s : Nat) (k : Int) (x : Nat) : Prop := x < 2 ^ z ∧ (∀ q, q < i → x.testBit q = s.testBit q) ∧ w_p pr bz wg x j i (q_pc s) k = true
theorem w_S0 {pr : Nat → Nat → Int → Int} {bz : Nat → Bool} {wg : Int} {z s : Nat} {k : Int} {x : Nat} (hs : s < 2 ^ z) : w_S pr bz wg z 0 z s k x ↔ x = s := by
  constructor
  · rintro ⟨h1, h2, _⟩
    refine Nat.eq_of_testBit_eq (fun q => ?_)
    by_cases c : q < z
    · exact h2 q c
    · rw [q_tlt h1 (by omega), q_tlt hs (by omega)]
  · rintro rfl
    exact ⟨hs, fun _ _ => rfl, rfl⟩
theorem w_S1 {pr : Nat → Nat → Int → Int} {bz : Nat → Bool} {wg : Int} {z j i s : Nat} {k : Int} {x : Nat} (hs : s < 2 ^ i) (hi : i < 16) : w_S pr bz wg z (j + 1) i s k x ↔ w_S pr bz wg z j (i + 1) s (min 999 (k + wg)) x ∨ (bz i = false ∧ pr i (q_pc s) k ≤ k ∧ w_S pr bz wg z j (i + 1) (s ||| 2 ^ i) (k - pr i (q_pc s) k) x) := by
  have hsi : s.testBit i = false := q_tlt hs (Nat.le_refl _)
  constructor
  · rintro ⟨h1, h2, h3⟩
    unfold w_p at h3
    by_cases c : x.testBit i = true
    · rw [if_pos c] at h3
      right
      by_cases c2 : bz i = true
      · rw [if_pos c2] at h3; exact absurd h3 (by decide)
      · rw [if_neg c2] at h3
        by_cases c3 : pr i (q_pc s) k ≤ k
        · rw [if_pos c3] at h3
          refine ⟨by simpa using c2, c3, h1, fun q hq => ?_, by rw [q_pc_or hs hi]; exact h3⟩
          rw [Nat.testBit_or]
          by_cases e : q = i
          · rw [e, c, Nat.testBit_two_pow_self, Bool.or_true]
          · rw [Nat.testBit_two_pow_of_ne (by omega), Bool.or_false]; exact h2 q (by omega)
        · rw [if_neg c3] at h3; exact absurd h3 (by decide)
    · rw [if_neg c] at h3
      left
      refine ⟨h1, fun q hq => ?_, h3⟩
      by_cases e : q = i
      · rw [e, hsi]; simpa using c
      · exact h2 q (by omega)
  · rintro (⟨h1, h2, h3⟩ | ⟨c2, c3, h1, h2, h3⟩)
    · have c : ¬ x.testBit i = true := by rw [h2 i (by omega), hsi]; decide
      refine ⟨h1, fun q hq => h2 q (by omega), ?_⟩
      unfold w_p
      rw [if_neg c]; exact h3
    · have c : x.testBit i = true := by rw [h2 i (by omega), Nat.testBit_or, Nat.testBit_two_pow_self, Bool.or_true]
      refine ⟨h1, fun q hq => ?_, ?_⟩
      · rw [h2 q (by omega), Nat.testBit_or, Nat.testBit_two_pow_of_ne (by omega), Bool.or_false]
      · unfold w_p
        rw [if_pos c, if_neg (by rw [c2]; decide), if_pos c3]
        rw [q_pc_or hs hi] at h3; exact h3
def w_kn (L wa : Nat → Int) (nd p i c : Nat) (k : Int) : Nat → Int
  | 0 => L 55 + (i : Int)
  | 1 => 0
  | 2 => L (12 + p) + (c : Int)
  | 3 => k
  | 4 => wa p
  | 5 => (nd : Int)
  | 6 => 0
  | _ => (p : Int)
def w_pr (l : Nat) (cw cv L wa : Nat → Int) (nd p : Nat) (i c : Nat) (k : Int) : Int := q_ev l cw cv (w_kn L wa nd p i c k)
/-- the class's search stands ready -/
def w_C (l : Nat) (cw cv L wa : Nat → Int) (nd p z bb : Nat) (A : e_M) : Prop := A 53 2 = (p : Int) ∧ A 53 3 = (z : Int) ∧ A 53 4 = L 55 ∧ A 53 5 = L (12 + p) ∧ A 53 6 = (bb : Int) ∧ A 6 p = wa p ∧ A 23 1 = 0 ∧ A 23 4 = wa p ∧ A 23 5 = (nd : Int) ∧ A 23 6 = 0 ∧ A 23 7 = (p : Int) ∧ A 20 1 = (l : Int) ∧ ∀ k, k < l → q_cd (A 21 k) (cw k) (cv k)
theorem w_cl {l : Nat} {cw cv L wa : Nat → Int} {nd p z bb : Nat} (hw : q_wf l cw cv) (hp : p < 6) (hz : z ≤ 10) (hL1 : 0 ≤ L 55 ∧ L 55 ≤ 300) (hL2 : 0 ≤ L (12 + p) ∧ L (12 + p) ≤ 300) (hwa : 0 ≤ wa p ∧ wa p ≤ 30) (hbb : bb < 2147483648) : ∀ (j i s b : Nat) (k : Int) (A : e_M), i + j = z → s < 2 ^ i → 0 ≤ k → k ≤ 999 → w_C l cw cv L wa nd p z bb A → A 53 7 = (q_pc b : Int) → A 53 8 = (b : Int) →
    ∃ (b' : Nat) (A' : e_M), (∀ f K g, 200 < f → j < K → g_X6_searchFrom f K g (i : Int) (s : Int) k A = some (0, A')) ∧ w_C l cw cv L wa nd p z bb A' ∧ (∀ a k, a ≠ 22 → a ≠ 23 → a ≠ 53 → A' a k = A a k) ∧ A' 53 7 = (q_pc b' : Int) ∧ A' 53 8 = (b' : Int) ∧ (b' = b ∨ w_S (w_pr l cw cv L wa nd p) bb.testBit (wa p) z j i s k b') ∧ w_le b' b ∧ ∀ x, w_S (w_pr l cw cv L wa nd p) bb.testBit (wa p) z j i s k x → w_le b' x := by
  intro j
  induction j with
  | zero =>
    intro i s b k A hi hs hk0 hk1 hC h7 h8
    have ei : i = z := by omega
    subst ei
    have h2z : (2 : Nat) ^ i ≤ 2 ^ 10 := Nat.pow_le_pow_right (by omega) hz
    have est : ∀ f K g, 200 < f → 0 < K → g_X6_searchFrom f K g (i : Int) (s : Int) k A = if (q_pc b : Int) < (q_pc s : Int) then some (0, e_up (e_up A 53 7 (q_pc s : Int)) 53 8 (s : Int)) else if ¬ (q_pc s : Int) = (q_pc b : Int) then some (0, A) else if (b : Int) ≤ (s : Int) then some (0, A) else some (0, e_up (e_up A 53 7 (q_pc s : Int)) 53 8 (s : Int)) := by
      intro f K g hf hK
      obtain ⟨K', rfl⟩ : ∃ K', K = K' + 1 := ⟨K - 1, by omega⟩
      show f_X6_searchFrom (g_X6_searchFrom f K' 0) f (i : Int) (s : Int) k A = _
      unfold f_X6_searchFrom f_X6_noteSet
      rw [hC.2.1, if_neg (by omega), q_bc (by omega), f_bs, h7, h8]
      by_cases c1 : (q_pc b : Int) < (q_pc s : Int)
      · rw [if_pos c1, f_bs]
      · rw [if_neg c1]
        by_cases c2 : (q_pc s : Int) = (q_pc b : Int)
        · rw [if_neg (not_not_intro c2)]
          by_cases c3 : (b : Int) ≤ (s : Int)
          · rw [if_pos c3, f_bs]
          · rw [if_neg c3, f_bs]
        · rw [if_pos c2, f_bs]
    have hCu : w_C l cw cv L wa nd p i bb (e_up (e_up A 53 7 (q_pc s : Int)) 53 8 (s : Int)) := hC
    have fru : ∀ a k, a ≠ 22 → a ≠ 23 → a ≠ 53 → (e_up (e_up A 53 7 (q_pc s : Int)) 53 8 (s : Int)) a k = A a k := fun a k _ _ h => by rw [u_r h, u_r h]
    by_cases c1 : q_pc b < q_pc s
    · refine ⟨s, e_up (e_up A 53 7 (q_pc s : Int)) 53 8 (s : Int), fun f K g hf hK => by rw [est f K g hf hK, if_pos (by omega)], hCu, fru, rfl, rfl, Or.inr ((w_S0 hs).mpr rfl), Or.inl c1, fun x hx => by rw [(w_S0 hs).mp hx]; exact w_le_rf⟩
    · by_cases c2 : q_pc s = q_pc b
      · by_cases c3 : b ≤ s
        · refine ⟨b, A, fun f K g hf hK => by rw [est f K g hf hK, if_neg (by omega), if_neg (not_not_intro (by omega)), if_pos (by omega)], hC, fun _ _ _ _ _ => rfl, h7, h8, Or.inl rfl, w_le_rf, fun x hx => by rw [(w_S0 hs).mp hx]; exact Or.inr ⟨c2, c3⟩⟩
        · refine ⟨s, e_up (e_up A 53 7 (q_pc s : Int)) 53 8 (s : Int), fun f K g hf hK => by rw [est f K g hf hK, if_neg (by omega), if_neg (not_not_intro (by omega)), if_neg (by omega)], hCu, fru, rfl, rfl, Or.inr ((w_S0 hs).mpr rfl), Or.inr ⟨c2.symm, by omega⟩, fun x hx => by rw [(w_S0 hs).mp hx]; exact w_le_rf⟩
      · refine ⟨b, A, fun f K g hf hK => by rw [est f K g hf hK, if_neg (by omega), if_pos (by omega)], hC, fun _ _ _ _ _ => rfl, h7, h8, Or.inl rfl, w_le_rf, fun x hx => by rw [(w_S0 hs).mp hx]; exact Or.inl (by omega)⟩
  | succ j ih =>
    intro i s b k A hi hs hk0 hk1 hC h7 h8
    have h2i : (2 : Nat) ^ i ≤ 2 ^ 9 := Nat.pow_le_pow_right (by omega) (by omega)
    have hs1 : s < 2 ^ (i + 1) := Nat.lt_trans hs (Nat.pow_lt_pow_right (by omega) (by omega))
    have hpc : q_pc s ≤ 16 := q_ct_le _ _
    obtain ⟨b1, A1, g1, g2, g3, g4, g5, g6, g7, g8⟩ := ih (i + 1) s b (min 999 (k + wa p)) A (by omega) hs1 (by omega) (by omega) hC h7 h8
    have e1 : ∀ f K g, 200 < f → j + 1 < K → g_X6_searchFrom f K g (i : Int) (s : Int) k A = (if bb.testBit i = true then some (0, A1) else (f_b (f_X2_priceOfSeen_law f (e_up (e_up (e_up A1 23 0 (L 55 + (i : Int))) 23 2 (L (12 + p) + (q_pc s : Int))) 23 3 k)) fun rr7 NN8 => (if k < rr7 then (some (0, NN8)) else (f_b (g_X6_searchFrom f (K - 1) 0 ((i + 1 : Nat) : Int) ((s ||| 2 ^ i : Nat) : Int) (e_w (k - rr7)) NN8) fun _ NN10 => (some (0, NN10)))))) := by
      intro f K g hf hK
      obtain ⟨K', rfl⟩ : ∃ K', K = K' + 1 := ⟨K - 1, by omega⟩
      show f_X6_searchFrom (g_X6_searchFrom f K' 0) f (i : Int) (s : Int) k A = _
      unfold f_X6_searchFrom
      rw [hC.2.1, hC.1, if_pos (by omega), if_pos (show 0 ≤ (p : Int) ∧ (p : Int) < 6 by omega), Int.toNat_natCast, hC.2.2.2.2.2.1, y_ei (by omega), e_ws_ (x := k + wa p) (by omega) (by omega), g1 f K' 0 hf (by omega), f_bs, g2.2.2.2.2.1, q_tb hbb (by omega)]
      by_cases c : bb.testBit i = true
      · rw [if_pos c, if_neg (by decide), if_pos c]
      · rw [if_neg c, if_pos rfl, if_neg c, q_bc (by omega), f_bs, u_r (show (53 : Nat) ≠ 23 by decide), g2.2.2.1, g2.2.2.2.1, e_ws_ (x := L 55 + (i : Int)) (by omega) (by omega), e_ws_ (x := L (12 + p) + (q_pc s : Int)) (by omega) (by omega), q_sh (by omega), b_or (by omega) (by omega)]
        rfl
    by_cases c : bb.testBit i = true
    · refine ⟨b1, A1, fun f K g hf hK => by rw [e1 f K g hf hK, if_pos c], g2, g3, g4, g5, ?_, g7, fun x hx => ?_⟩
      · rcases g6 with h | h
        · exact Or.inl h
        · exact Or.inr ((w_S1 hs (by omega)).mpr (Or.inl h))
      · rcases (w_S1 hs (by omega)).mp hx with h | ⟨h, _⟩
        · exact g8 x h
        · rw [c] at h; exact absurd h (by decide)
    · have cf : bb.testBit i = false := by simpa using c
      obtain ⟨A2, p1, p2⟩ := r_seen (M := e_up (e_up (e_up A1 23 0 (L 55 + (i : Int))) 23 2 (L (12 + p) + (q_pc s : Int))) 23 3 k) (l := l) (cw := cw) (cv := cv) (kn := w_kn L wa nd p i (q_pc s) k) hw (by exact g2.2.2.2.2.2.2.2.2.2.2.2.1) (by exact g2.2.2.2.2.2.2.2.2.2.2.2.2) (fun j hj => by
        have hc : j = 0 ∨ j = 1 ∨ j = 2 ∨ j = 3 ∨ j = 4 ∨ j = 5 ∨ j = 6 ∨ j = 7 := by omega
        rcases hc with rfl | rfl | rfl | rfl | rfl | rfl | rfl | rfl
        · rfl
        · exact g2.2.2.2.2.2.2.1
        · rfl
        · rfl
        · exact g2.2.2.2.2.2.2.2.1
        · exact g2.2.2.2.2.2.2.2.2.1
        · exact g2.2.2.2.2.2.2.2.2.2.1
        · exact g2.2.2.2.2.2.2.2.2.2.2.1)
      have hpr : 0 ≤ w_pr l cw cv L wa nd p i (q_pc s) k ∧ w_pr l cw cv L wa nd p i (q_pc s) k ≤ 99 := q_ev_r
      have p1' : ∀ f, 200 < f → f_X2_priceOfSeen_law f (e_up (e_up (e_up A1 23 0 (L 55 + (i : Int))) 23 2 (L (12 + p) + (q_pc s : Int))) 23 3 k) = some (w_pr l cw cv L wa nd p i (q_pc s) k, A2) := fun f hf => p1 f (by omega)
      have fr2 : ∀ a k, a ≠ 22 → a ≠ 23 → A2 a k = A1 a k := fun a k h1 h2 => by rw [p2 a k h1, u_r h2, u_r h2, u_r h2]
      have hC2 : w_C l cw cv L wa nd p z bb A2 := by
        obtain ⟨q1, q2, q3, q4, q5, q6, q7, q8, q9, qa, qb, qc, qd⟩ := g2
        refine ⟨?_, ?_, ?_, ?_, ?_, ?_, ?_, ?_, ?_, ?_, ?_, ?_, fun k hk => ?_⟩
        · rw [fr2 53 2 (by decide) (by decide)]; exact q1
        · rw [fr2 53 3 (by decide) (by decide)]; exact q2
        · rw [fr2 53 4 (by decide) (by decide)]; exact q3
        · rw [fr2 53 5 (by decide) (by decide)]; exact q4
        · rw [fr2 53 6 (by decide) (by decide)]; exact q5
        · rw [fr2 6 p (by decide) (by decide)]; exact q6
        · rw [p2 23 1 (by decide)]; exact q7
        · rw [p2 23 4 (by decide)]; exact q8
        · rw [p2 23 5 (by decide)]; exact q9
        · rw [p2 23 6 (by decide)]; exact qa
        · rw [p2 23 7 (by decide)]; exact qb
        · rw [fr2 20 1 (by decide) (by decide)]; exact qc
        · rw [fr2 21 k (by decide) (by decide)]; exact qd k hk
      have h72 : A2 53 7 = (q_pc b1 : Int) := by rw [fr2 53 7 (by decide) (by decide)]; exact g4
      have h82 : A2 53 8 = (b1 : Int) := by rw [fr2 53 8 (by decide) (by decide)]; exact g5
      by_cases c2 : w_pr l cw cv L wa nd p i (q_pc s) k ≤ k
      · obtain ⟨b2, A3, l1, l2, l3, l4, l5, l6, l7, l8⟩ := ih (i + 1) (s ||| 2 ^ i) b1 (k - w_pr l cw cv L wa nd p i (q_pc s) k) A2 (by omega) (Nat.or_lt_two_pow hs1 (Nat.pow_lt_pow_right (by omega) (by omega))) (by omega) (by omega) hC2 h72 h82
        refine ⟨b2, A3, fun f K g hf hK => ?_, l2, fun a k h1 h2 h3 => by rw [l3 a k h1 h2 h3, fr2 a k h1 h2, g3 a k h1 h2 h3], l4, l5, ?_, w_le_tr l7 g7, fun x hx => ?_⟩
        · rw [e1 f K g hf hK, if_neg c, p1' f hf, f_bs, if_neg (by omega), e_ws_ (x := k - w_pr l cw cv L wa nd p i (q_pc s) k) (by omega) (by omega), l1 f (K - 1) 0 hf (by omega), f_bs]
        · rcases l6 with h | h
          · rcases g6 with h' | h'
            · exact Or.inl (by rw [h, h'])
            · rw [h]; exact Or.inr ((w_S1 hs (by omega)).mpr (Or.inl h'))
          · exact Or.inr ((w_S1 hs (by omega)).mpr (Or.inr ⟨cf, c2, h⟩))
        · rcases (w_S1 hs (by omega)).mp hx with h | ⟨_, _, h⟩
          · exact w_le_tr l7 (g8 x h)
          · exact l8 x h
      · refine ⟨b1, A2, fun f K g hf hK => by rw [e1 f K g hf hK, if_neg c, p1' f hf, f_bs, if_pos (by omega)], hC2, fun a k h1 h2 h3 => by rw [fr2 a k h1 h2, g3 a k h1 h2 h3], h72, h82, ?_, g7, fun x hx => ?_⟩
        · rcases g6 with h | h
          · exact Or.inl h
          · exact Or.inr ((w_S1 hs (by omega)).mpr (Or.inl h))
        · rcases (w_S1 hs (by omega)).mp hx with h | ⟨_, h, _⟩
          · exact g8 x h
          · exact absurd h c2
