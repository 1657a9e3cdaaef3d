/-! THE TOWN'S TEXT: its clauses, both sides -/
theorem u_i {M : e_M} {a k j : Nat} {v : Int} : e_up M a k v a j = if j = k then v else M a j := by simp [e_up]
theorem x_ba {α : Type} {A : Option (Int × e_M)} {g : e_M → Option (Int × e_M)} {K : e_M → Option α} : (f_b A fun _ N => f_b (g N) fun _ P => K P) = f_b (f_b A fun _ N => g N) fun _ P => K P := by
  cases A with
  | none => rfl
  | some x => rfl
def x_B (n m t : Nat) (M : e_M) : Prop := n ≤ 6 ∧ m ≤ 6 ∧ t ≤ 12 ∧ M 12 0 = (n : Int) ∧ M 12 1 = (m : Int) ∧ M 12 2 = (t : Int) ∧ (∀ p, p < n → 0 ≤ M 13 p ∧ M 13 p ≤ 500 ∧ 0 ≤ M 14 p ∧ M 14 p ≤ 30 ∧ ∃ s : Nat, M 15 p = (s : Int) ∧ s < 2 ^ m) ∧ (∀ d, d < m → 1 ≤ M 16 d ∧ M 16 d ≤ 30) ∧ (∀ k, k < t → ∃ o : Nat, M 17 k = (o : Int) ∧ o < n ∧ 0 ≤ M 18 k ∧ M 18 k ≤ 60 ∧ 0 ≤ M 19 k ∧ M 19 k ≤ 60)
def x_R (n m t : Nat) (M N : e_M) : Prop := N 67 0 = (n : Int) ∧ N 67 1 = (m : Int) ∧ N 67 2 = (t : Int) ∧ (∀ p, p < n → N (74 + p) 0 = M 13 p ∧ N (74 + p) 1 = M 14 p ∧ N 71 p = M 15 p) ∧ (∀ p, n ≤ p → p < 6 → N 71 p = 0) ∧ (∀ d, d < m → N 69 d = M 16 d) ∧ (∀ k, k < t → N (88 + k) 0 = M 17 k ∧ N (88 + k) 1 = M 18 k ∧ N (88 + k) 2 = M 19 k)
def x_FC (M N : e_M) : Prop := ∀ r j, ¬ (r = 2 ∧ 3 ≤ j ∧ j ≤ 6) → ¬ (12 ≤ r ∧ r ≤ 19) → N r j = M r j
def x_FM (M N : e_M) : Prop := ∀ r j, ¬ (r = 64 ∧ 4 ≤ j ∧ j ≤ 7) → ¬ (r = 67 ∨ r = 69 ∨ r = 71 ∨ (74 ≤ r ∧ r ≤ 79) ∨ (88 ≤ r ∧ r ≤ 99)) → N r j = M r j
def x_J (T : Nat → Int) (e n m t a : Nat) (w v1 w0 : Int) (M : e_M) : Prop := ∃ (n' m' t' a' : Nat) (fl fp : Int) (M' : e_M), (∀ f, 701 < f → (f_b (f_X8_readClause f w M) fun _ NN => f_X7_expectSign f 59 NN) = some (0, M')) ∧ t_C T e a' fl fp M' ∧ a' ≤ e ∧ (fl = 0 → fp = -1 ∧ x_B n' m' t' M') ∧ x_FC M M' ∧ ∀ N, t_m T e a 0 (-1) N → x_R n m t M N → ∃ N', (∀ f, 701 < f → f_X11_clause_95 f v1 w0 N = some (0, N')) ∧ t_m T e a' fl fp N' ∧ (fl = 0 → x_R n' m' t' M' N') ∧ x_FM N N' ∧ N' 64 7 = N 64 7
theorem x_280 {N N' : e_M} {κ : Nat} {fl w0 : Int} (hk : κ < 3) (hs : ∀ f, 601 < f → f_X11_sign f 59 N = some (0, N')) (h5 : N' 64 5 = fl) : ∀ f, 601 < f → f_X11_clause_280 f (κ : Int) w0 N = some (0, e_up N' 67 κ (if fl = 0 then e_w (N' 67 κ + 1) else e_w (N' 67 κ + 0))) := by
  intro f hf
  unfold f_X11_clause_280
  rw [hs f hf, f_bs, if_neg (show ¬ (3 : Int) ≤ (κ : Int) by omega), if_pos (show 0 ≤ (κ : Int) ∧ (κ : Int) < 3 by omega), h5, Int.toNat_natCast]
  by_cases c : fl = 0
  · rw [if_neg (not_not_intro c), if_pos (show 0 ≤ (κ : Int) ∧ (κ : Int) < 3 by omega), if_pos c]
  · rw [if_pos c, if_pos (show 0 ≤ (κ : Int) ∧ (κ : Int) < 3 by omega), if_neg c]
theorem x_per {T : Nat → Int} {e n m t a : Nat} {M : e_M} (hT : ∀ j, j < 600 → 0 ≤ T j ∧ T j ≤ 255) (he : e ≤ 600) (ha : a ≤ e) (hC : t_C T e a 0 (-1) M) (hB : x_B n m t M) (hn : n < 6) : x_J T e n m t a 0 0 (n : Int) M := by
  unfold x_J
  obtain ⟨b1, b2, b3, b4, b5, b6, b7, b8, b9⟩ := hB
  obtain ⟨v, a1, f1, p1, M1, r1, C1, _, l1, F1, z1, m1⟩ := x_rn (lo := 0) (hi := 500) hT he (by decide) ha hC
  obtain ⟨w, a2, f2, p2, M2, r2, C2, _, l2, F2, z2, m2⟩ := x_rn (lo := 0) (hi := 30) hT he (by decide) l1 C1
  have FF := F1.tr F2
  have n2 : M2 12 0 = (n : Int) := by rw [FF 12 0 (by omega)]; exact b4
  have hlt : (0 ≤ (n : Int) ∧ (n : Int) < 6) := by omega
  by_cases hf : f2 = 0
  · subst hf
    obtain ⟨y1, y2, y3, y4, _⟩ := z2 rfl
    subst y1
    obtain ⟨_, x2, x3, x4, _⟩ := z1 rfl
    subst y2; subst x2
    have C3 : t_C T e a2 0 (-1) (e_up (e_up (e_up (e_up M2 13 n v) 14 n w) 15 n 0) 12 0 ((n + 1 : Nat) : Int)) := t_C_u (by decide) (by decide) (t_C_u (by decide) (by decide) (t_C_u (by decide) (by decide) (t_C_u (by decide) (by decide) C2)))
    obtain ⟨a3, f3, p3, M4, r3, C4, _, l3, F3, z3, m3⟩ := x_es (c := 59) hT he (by decide) l2 C3
    have e12 : M4 12 0 = ((n + 1 : Nat) : Int) := by rw [F3 12 0 (by omega), u_s]
    have e12' : ∀ j, j ≠ 0 → M4 12 j = M 12 j := fun j hj => by rw [F3 12 j (by omega), u_c hj, u_r (by decide), u_r (by decide), u_r (by decide), FF 12 j (by omega)]
    have e13 : ∀ q, M4 13 q = if q = n then v else M 13 q := fun q => by rw [F3 13 q (by omega), u_r (by decide), u_r (by decide), u_r (by decide), u_i, FF 13 q (by omega)]
    have e14 : ∀ q, M4 14 q = if q = n then w else M 14 q := fun q => by rw [F3 14 q (by omega), u_r (by decide), u_r (by decide), u_i, u_r (by decide), FF 14 q (by omega)]
    have e15 : ∀ q, M4 15 q = if q = n then 0 else M 15 q := fun q => by rw [F3 15 q (by omega), u_r (by decide), u_i, u_r (by decide), u_r (by decide), FF 15 q (by omega)]
    have eo : ∀ r j, ¬ (r = 2 ∧ 3 ≤ j ∧ j ≤ 6) → ¬ (12 ≤ r ∧ r ≤ 15) → M4 r j = M r j := fun r j h1 h2 => by rw [F3 r j h1, u_r (by omega), u_r (by omega), u_r (by omega), u_r (by omega), FF r j h1]
    refine ⟨n + 1, m, t, a3, f3, p3, M4, fun f hf => ?_, C4, l3, fun hz => ⟨(z3 hz).2.1, by omega, b2, b3, e12, by rw [e12' 1 (by decide)]; exact b5, by rw [e12' 2 (by decide)]; exact b6, fun q hq => ?_, fun d hd => ?_, fun k hk => ?_⟩, fun r j h1 h2 => eo r j h1 (by omega), fun N hN hR => ?_⟩
    · unfold f_X8_readClause f_X8_readPerson f_X8_readPerson_18
      rw [if_pos rfl, b4, if_pos hlt.2, r1 f (by omega), f_bs, r2 f (by omega), f_bs, t_fd C2, f_bs, if_pos rfl, if_neg (show ¬ ¬ (0 : Int) = 0 by decide)]
      simp only [n2, u_r (show (12 : Nat) ≠ 13 by decide), u_r (show (12 : Nat) ≠ 14 by decide), u_r (show (12 : Nat) ≠ 15 by decide), Int.toNat_natCast, eq_true hlt, ↓reduceIte, f_bs, y_ei (show n < 1000000 by omega)]
      exact r3 f (by omega)
    · rw [e13, e14, e15]
      by_cases c : q = n
      · rw [if_pos c, if_pos c, if_pos c]
        exact ⟨x3, x4, y3, y4, 0, rfl, Nat.two_pow_pos m⟩
      · rw [if_neg c, if_neg c, if_neg c]
        exact b7 q (by omega)
    · rw [eo 16 d (by omega) (by omega)]; exact b8 d hd
    · obtain ⟨o, o1, o2, o3⟩ := b9 k hk
      rw [eo 17 k (by omega) (by omega), eo 18 k (by omega) (by omega), eo 19 k (by omega) (by omega)]
      exact ⟨o, o1, by omega, o3⟩
    · obtain ⟨c1, c2, c3, c4, c5, c6, c7⟩ := hR
      obtain ⟨N1, s1, t1, g1⟩ := m1 N hN
      obtain ⟨N2, s2, t2, g2⟩ := m2 (e_up N1 (74 + n) 0 v) (t_m_u (by omega) (by omega) t1)
      obtain ⟨N3, s3, t3, g3⟩ := m3 (e_up N2 (74 + n) 1 w) (t_m_u (by omega) (by omega) t2)
      rw [if_pos rfl] at s1 s2
      have hk := x_280 (κ := 0) (w0 := (n : Int)) (by decide) s3 t3.2.2.1
      have GG : ∀ r j, ¬ (r = 64 ∧ 4 ≤ j ∧ j ≤ 6) → r ≠ 74 + n → N3 r j = N r j := fun r j h1 h2 => by rw [g3 r j h1, u_r h2, g2 r j h1, u_r h2, g1 r j h1]
      have k0 : N3 (74 + n) 0 = v := by rw [g3 _ 0 (by omega), u_c (by decide), g2 _ 0 (by omega), u_s]
      have k1 : N3 (74 + n) 1 = w := by rw [g3 _ 1 (by omega), u_s]
      refine ⟨_, fun f hf => Eq.trans ?_ (hk f (by omega)), t_m_u (by decide) (by decide) t3, fun hz => ⟨?_, ?_, ?_, fun q hq => ?_, fun q h1 h2 => ?_, fun d hd => ?_, fun k hk => ?_⟩, fun r j h1 h2 => ?_, ?_⟩
      · unfold f_X11_clause_95
        rw [if_pos rfl, if_pos hlt, s1 f (by omega), f_bs, if_pos hlt, Int.toNat_natCast, s2 f (by omega), f_bs]
        first | done | rfl
      · rw [if_pos hz, u_s, GG 67 0 (by omega) (by omega), c1, y_ei (by omega)]
      · rw [u_c (by decide), GG 67 1 (by omega) (by omega)]; exact c2
      · rw [u_c (by decide), GG 67 2 (by omega) (by omega)]; exact c3
      · rw [u_r (by omega), u_r (by omega), u_r (by omega), e13, e14, e15]
        by_cases c : q = n
        · rw [c, if_pos rfl, if_pos rfl, if_pos rfl]
          refine ⟨k0, k1, ?_⟩
          rw [GG 71 n (by omega) (by omega)]; exact c5 n (by omega) (by omega)
        · rw [if_neg c, if_neg c, if_neg c, GG _ 0 (by omega) (by omega), GG _ 1 (by omega) (by omega), GG 71 q (by omega) (by omega)]
          exact c4 q (by omega)
      · rw [u_r (by omega), GG 71 q (by omega) (by omega)]; exact c5 q (by omega) h2
      · rw [u_r (by omega), GG 69 d (by omega) (by omega), eo 16 d (by omega) (by omega)]; exact c6 d hd
      · rw [u_r (by omega), u_r (by omega), u_r (by omega), GG _ 0 (by omega) (by omega), GG _ 1 (by omega) (by omega), GG _ 2 (by omega) (by omega), eo 17 k (by omega) (by omega), eo 18 k (by omega) (by omega), eo 19 k (by omega) (by omega)]; exact c7 k hk
      · rw [u_r (by omega), GG r j (by omega) (by omega)]
      · rw [u_r (by decide), GG 64 7 (by omega) (by omega)]
  · refine ⟨0, 0, 0, a2, f2, p2, M2, fun f hf2 => ?_, C2, l2, fun hz => absurd hz hf, fun r j h1 _ => FF r j h1, fun N hN hR => ?_⟩
    · unfold f_X8_readClause f_X8_readPerson f_X8_readPerson_18
      rw [if_pos rfl, b4, if_pos hlt.2, r1 f (by omega), f_bs, r2 f (by omega), f_bs, t_fd C2, f_bs, if_neg hf, if_pos (show ¬ (1 : Int) = 0 by decide), f_bs, f_bs]
      exact t_es2 hf C2
    · obtain ⟨N1, s1, t1, g1⟩ := m1 N hN
      obtain ⟨N2, s2, t2, g2⟩ := m2 (e_up N1 (74 + n) 0 (if f1 = 0 then v else 0)) (t_m_u (by omega) (by omega) t1)
      have t3 : t_m T e a2 f2 p2 (e_up N2 (74 + n) 1 (if f2 = 0 then w else 0)) := t_m_u (by omega) (by omega) t2
      have hk := x_280 (κ := 0) (w0 := (n : Int)) (by decide) (fun f _ => t_ms2 hf t3) t3.2.2.1
      refine ⟨_, fun f hf => Eq.trans ?_ (hk f (by omega)), t_m_u (by decide) (by decide) t3, fun hz => absurd hz hf, fun r j h1 h2 => ?_, ?_⟩
      · unfold f_X11_clause_95
        rw [if_pos rfl, if_pos hlt, s1 f (by omega), f_bs, if_pos hlt, Int.toNat_natCast, s2 f (by omega), f_bs]
        first | done | rfl
      · rw [u_r (by omega), u_r (by omega), g2 r j (by omega), u_r (by omega), g1 r j (by omega)]
      · rw [u_r (by decide), u_r (by omega), g2 64 7 (by omega), u_r (by omega), g1 64 7 (by omega)]
theorem x_dut {T : Nat → Int} {e n m t a : Nat} {M : e_M} (hT : ∀ j, j < 600 → 0 ≤ T j ∧ T j ≤ 255) (he : e ≤ 600) (ha : a ≤ e) (hC : t_C T e a 0 (-1) M) (hB : x_B n m t M) (hn : m < 6) : x_J T e n m t a 1 1 (m : Int) M := by
  unfold x_J
  obtain ⟨b1, b2, b3, b4, b5, b6, b7, b8, b9⟩ := hB
  obtain ⟨v, a2, f2, p2, M2, r2, C2, _, l2, FF, z2, m2⟩ := x_rn (lo := 1) (hi := 30) hT he (by decide) ha hC
  have n2 : M2 12 1 = (m : Int) := by rw [FF 12 1 (by omega)]; exact b5
  have hlt : (0 ≤ (m : Int) ∧ (m : Int) < 6) := by omega
  by_cases hf : f2 = 0
  · subst hf
    obtain ⟨y1, y2, y3, y4, _⟩ := z2 rfl
    subst y2
    have C3 : t_C T e a2 0 (-1) (e_up (e_up M2 16 m v) 12 1 ((m + 1 : Nat) : Int)) := t_C_u (by decide) (by decide) (t_C_u (by decide) (by decide) C2)
    obtain ⟨a3, f3, p3, M4, r3, C4, _, l3, F3, z3, m3⟩ := x_es (c := 59) hT he (by decide) l2 C3
    have e12 : M4 12 1 = ((m + 1 : Nat) : Int) := by rw [F3 12 1 (by omega), u_s]
    have e12' : ∀ j, j ≠ 1 → M4 12 j = M 12 j := fun j hj => by rw [F3 12 j (by omega), u_c hj, u_r (by decide), FF 12 j (by omega)]
    have e16 : ∀ q, M4 16 q = if q = m then v else M 16 q := fun q => by rw [F3 16 q (by omega), u_r (by decide), u_i, FF 16 q (by omega)]
    have eo : ∀ r j, ¬ (r = 2 ∧ 3 ≤ j ∧ j ≤ 6) → r ≠ 12 → r ≠ 16 → M4 r j = M r j := fun r j h1 h2 h3 => by rw [F3 r j h1, u_r (by omega), u_r (by omega), FF r j h1]
    refine ⟨n, m + 1, t, a3, f3, p3, M4, fun f hf => ?_, C4, l3, fun hz => ⟨(z3 hz).2.1, b1, by omega, b3, by rw [e12' 0 (by decide)]; exact b4, e12, by rw [e12' 2 (by decide)]; exact b6, fun q hq => ?_, fun d hd => ?_, fun k hk => ?_⟩, fun r j h1 h2 => eo r j h1 (by omega) (by omega), fun N hN hR => ?_⟩
    · unfold f_X8_readClause f_X8_readDuty f_X8_readDuty_18
      rw [if_neg (show ¬ (1 : Int) = 0 by decide), if_pos rfl, b5, if_pos hlt.2, r2 f (by omega), f_bs, t_fd C2, f_bs, if_pos rfl, if_neg (show ¬ ¬ (0 : Int) = 0 by decide)]
      simp only [n2, u_r (show (12 : Nat) ≠ 16 by decide), Int.toNat_natCast, eq_true hlt, ↓reduceIte, f_bs, y_ei (show m < 1000000 by omega)]
      exact r3 f (by omega)
    · obtain ⟨s, s1, s2⟩ := (b7 q hq).2.2.2.2
      rw [eo 13 q (by omega) (by omega) (by omega), eo 14 q (by omega) (by omega) (by omega), eo 15 q (by omega) (by omega) (by omega)]
      exact ⟨(b7 q hq).1, (b7 q hq).2.1, (b7 q hq).2.2.1, (b7 q hq).2.2.2.1, s, s1, Nat.lt_trans s2 (Nat.pow_lt_pow_right (by omega) (by omega))⟩
    · rw [e16]
      by_cases c : d = m
      · rw [if_pos c]; exact ⟨y3, y4⟩
      · rw [if_neg c]; exact b8 d (by omega)
    · rw [eo 17 k (by omega) (by omega) (by omega), eo 18 k (by omega) (by omega) (by omega), eo 19 k (by omega) (by omega) (by omega)]
      exact b9 k hk
    · obtain ⟨c1, c2, c3, c4, c5, c6, c7⟩ := hR
      obtain ⟨N2, s2, t2, g2⟩ := m2 N hN
      obtain ⟨N3, s3, t3, g3⟩ := m3 (e_up N2 69 m v) (t_m_u (by omega) (by omega) t2)
      rw [if_pos rfl] at s2
      have hk := x_280 (κ := 1) (w0 := (m : Int)) (by decide) s3 t3.2.2.1
      have GG : ∀ r j, ¬ (r = 64 ∧ 4 ≤ j ∧ j ≤ 6) → r ≠ 69 → N3 r j = N r j := fun r j h1 h2 => by rw [g3 r j h1, u_r h2, g2 r j h1]
      have k0 : ∀ d, N3 69 d = if d = m then v else N 69 d := fun d => by rw [g3 _ d (by omega), u_i, g2 _ d (by omega)]
      refine ⟨_, fun f hf => Eq.trans ?_ (hk f (by omega)), t_m_u (by decide) (by decide) t3, fun hz => ⟨?_, ?_, ?_, fun q hq => ?_, fun q h1 h2 => ?_, fun d hd => ?_, fun k hk => ?_⟩, fun r j h1 h2 => ?_, ?_⟩
      · unfold f_X11_clause_95
        rw [if_neg (show ¬ (1 : Int) = 0 by decide), if_pos rfl, s2 f (by omega), f_bs, if_pos hlt, Int.toNat_natCast]
        first | done | rfl
      · rw [u_c (by decide), GG 67 0 (by omega) (by omega)]; exact c1
      · rw [if_pos hz, u_s, GG 67 1 (by omega) (by omega), c2, y_ei (by omega)]
      · rw [u_c (by decide), GG 67 2 (by omega) (by omega)]; exact c3
      · rw [u_r (by omega), u_r (by omega), u_r (by omega), GG _ 0 (by omega) (by omega), GG _ 1 (by omega) (by omega), GG 71 q (by omega) (by omega), eo 13 q (by omega) (by omega) (by omega), eo 14 q (by omega) (by omega) (by omega), eo 15 q (by omega) (by omega) (by omega)]
        exact c4 q hq
      · rw [u_r (by omega), GG 71 q (by omega) (by omega)]; exact c5 q h1 h2
      · rw [u_r (by omega), k0, e16]
        by_cases c : d = m
        · rw [if_pos c, if_pos c]
        · rw [if_neg c, if_neg c]; exact c6 d (by omega)
      · rw [u_r (by omega), u_r (by omega), u_r (by omega), GG _ 0 (by omega) (by omega), GG _ 1 (by omega) (by omega), GG _ 2 (by omega) (by omega), eo 17 k (by omega) (by omega) (by omega), eo 18 k (by omega) (by omega) (by omega), eo 19 k (by omega) (by omega) (by omega)]; exact c7 k hk
      · rw [u_r (by omega), GG r j (by omega) (by omega)]
      · rw [u_r (by decide), GG 64 7 (by omega) (by omega)]
  · refine ⟨0, 0, 0, a2, f2, p2, M2, fun f hf2 => ?_, C2, l2, fun hz => absurd hz hf, fun r j h1 _ => FF r j h1, fun N hN hR => ?_⟩
    · unfold f_X8_readClause f_X8_readDuty f_X8_readDuty_18
      rw [if_neg (show ¬ (1 : Int) = 0 by decide), if_pos rfl, b5, if_pos hlt.2, r2 f (by omega), f_bs, t_fd C2, f_bs, if_neg hf, if_pos (show ¬ (1 : Int) = 0 by decide), f_bs, f_bs]
      exact t_es2 hf C2
    · obtain ⟨N2, s2, t2, g2⟩ := m2 N hN
      have t3 : t_m T e a2 f2 p2 (e_up N2 69 m (if f2 = 0 then v else 0)) := t_m_u (by omega) (by omega) t2
      have hk := x_280 (κ := 1) (w0 := (m : Int)) (by decide) (fun f _ => t_ms2 hf t3) t3.2.2.1
      refine ⟨_, fun f hf => Eq.trans ?_ (hk f (by omega)), t_m_u (by decide) (by decide) t3, fun hz => absurd hz hf, fun r j h1 h2 => ?_, ?_⟩
      · unfold f_X11_clause_95
        rw [if_neg (show ¬ (1 : Int) = 0 by decide), if_pos rfl, s2 f (by omega), f_bs, if_pos hlt, Int.toNat_natCast]
        first | done | rfl
      · rw [u_r (by omega), u_r (by omega), g2 r j (by omega)]
      · rw [u_r (by decide), u_r (by omega), g2 64 7 (by omega)]
