/-! OPERATIONS, 18: given, giver, asked -/
section GW
variable {n m t : Nat} {wa : Nat → Int} {sk : Nat → Nat} {wo : Nat → Int} {ow : Nat → Nat} {fi : Nat → Int} {L : Nat → Int} {M : e_M}
theorem v_key {d f P : Nat} (h1 : P ≤ 512) (h2 : 520 * (d + 1) + 30 < f) : ∃ f', f = ((f' + 1) + P) + 1 ∧ 520 * d + 30 < f' ∧ 20 ≤ f' := ⟨f - 2 - P, by omega, by omega, by omega⟩
theorem v_L : ∀ (d : Nat) (M : e_M), d ≤ m → q_T n m t wa sk wo ow fi M → v_tb n m sk wo d M → ∃ M', (∀ f, 520 * d + 30 < f → f_X1_fillBest_L52 f 0 ((2 ^ n - 1 : Nat) : Int) ((d : Int) - 1) 0 0 0 M = some (0, M')) ∧ v_tb n m sk wo 0 M' ∧ ∀ a k, a ≠ 51 → M' a k = M a k := by
  intro d
  induction d with
  | zero =>
    intro M hd hT h
    refine ⟨M, fun f hf => ?_, h, fun _ _ _ => rfl⟩
    obtain ⟨f', rfl⟩ : ∃ f', f = f' + 1 := ⟨f - 1, by omega⟩
    rw [f_X1_fillBest_L52, if_pos rfl, if_pos (by decide)]
  | succ d ih =>
    intro M hd hT h
    have h6 := hT.1
    have hm := hT.2.1
    have h2n : (2 : Nat) ^ n ≤ 2 ^ 6 := Nat.pow_le_pow_right (by omega) h6
    have h2p := Nat.two_pow_pos n
    have hw : ∀ d, d < m → 1 ≤ wo d ∧ wo d ≤ 30 := fun d hd => (hT.2.2.2.2.2.2.2.2.2.2.1 d hd).2.2
    have inner : ∀ (y : Nat) (A : e_M), y < 2 ^ n → q_T n m t wa sk wo ow fi A → (∀ x, x < 2 ^ n → A 51 (64 * (d + 1) + x) = v_o n sk wo (m - (d + 1)) (d + 1) x) → ∀ f, 20 ≤ f → f_X1_fillBest_L52 (f + (n + 2)) 1 ((2 ^ n - 1 : Nat) : Int) (d : Int) (y : Int) 0 0 A = f_X1_fillBest_L52 f 1 ((2 ^ n - 1 : Nat) : Int) (d : Int) ((y : Int) + 1) 0 0 (e_up A 51 (64 * d + y) (v_o n sk wo (m - d) d y)) := by
      intro y A hy hTA hA f hf
      have hi1 := v_idx (d := d + 1) (y := y) (by omega) (by omega)
      have hi0 := v_idx (d := d) (y := y) (by omega) (by omega)
      have hr := v_o_r (n := n) (sk := sk) hw (m - (d + 1)) (d + 1) y (by omega)
      have e1 := q_seq 0 1 n (fun f (s : Int) i => f_X1_fillBest_L52 f 2 ((2 ^ n - 1 : Nat) : Int) (d : Int) (y : Int) s i A) (fun i => max (v_o n sk wo (m - (d + 1)) (d + 1) y) (v_b (v_c n sk wo (m - (d + 1)) d y) i)) (fun f i _ hin => by
        rw [f_X1_fillBest_L52, if_neg (by decide), if_neg (by decide), hTA.2.2.2.1, if_neg (by omega), v_wb hTA (by omega) hin hy hA, f_bs, e_ws_ (x := (i : Int) + 1) (by omega) (by omega), v_b_1]
        rw [show max (max (v_o n sk wo (m - (d + 1)) (d + 1) y) (v_b (v_c n sk wo (m - (d + 1)) d y) i)) (v_c n sk wo (m - (d + 1)) d y i) = max (v_o n sk wo (m - (d + 1)) (d + 1) y) (max (v_b (v_c n sk wo (m - (d + 1)) d y) i) (v_c n sk wo (m - (d + 1)) d y i)) by omega]) (f + 1) (Nat.zero_le _)
      rw [Nat.mul_one] at e1
      rw [show f + (n + 2) = (f + 1 + n) + 1 by omega, f_X1_fillBest_L52, if_neg (by decide), if_pos rfl, if_neg (by omega), y_ei (by omega), if_pos hi1.1, hi1.2, hA y hy]
      have e0 : max (v_o n sk wo (m - (d + 1)) (d + 1) y) (v_b (v_c n sk wo (m - (d + 1)) d y) 0) = v_o n sk wo (m - (d + 1)) (d + 1) y := by
        show max (v_o n sk wo (m - (d + 1)) (d + 1) y) (-1) = _
        omega
      rw [e0] at e1
      refine Eq.trans e1 ?_
      rw [f_X1_fillBest_L52, if_neg (by decide), if_neg (by decide), hTA.2.2.2.1, if_pos (by omega), if_pos hi0.1, hi0.2, e_ws_ (x := (y : Int) + 1) (by omega) (by omega), show m - d = (m - (d + 1)) + 1 by omega, v_o_1]
      rw [show max (v_o n sk wo (m - (d + 1)) (d + 1) y) (v_b (v_c n sk wo (m - (d + 1)) d y) n) = max (v_b (v_c n sk wo (m - (d + 1)) d y) n) (v_o n sk wo (m - (d + 1)) (d + 1) y) by omega]
    obtain ⟨A, ⟨a1, a2, a3⟩, hA⟩ := q_run 20 (n + 2) (2 ^ n) (fun f (A : e_M) i => f_X1_fillBest_L52 f 1 ((2 ^ n - 1 : Nat) : Int) (d : Int) i 0 0 A) (fun i A => (∀ a k, a ≠ 51 → A a k = M a k) ∧ (∀ k, 64 * (d + 1) ≤ k → A 51 k = M 51 k) ∧ ∀ y, y < i → A 51 (64 * d + y) = v_o n sk wo (m - d) d y) (a := M) (fun i A hi hA => by
      obtain ⟨a1, a2, a3⟩ := hA
      refine ⟨e_up A 51 (64 * d + i) (v_o n sk wo (m - d) d i), ⟨fun a k ha => by rw [u_r ha, a1 a k ha], fun k hk => by rw [u_c (by omega), a2 k hk], fun y hy => ?_⟩, fun f hf => inner i A hi (q_T_f (fun a j z => a1 a j (by unfold q_F3 at z; omega)) hT) (fun x hx => by rw [a2 _ (by omega)]; exact h (d + 1) (Nat.le_refl _) hd x hx) f hf⟩
      by_cases e : y = i
      · rw [e, u_s]
      · rw [u_c (by omega), a3 y (by omega)]) ⟨fun _ _ _ => rfl, fun _ _ => rfl, fun y hy => absurd hy (by omega)⟩
    have hTA : q_T n m t wa sk wo ow fi A := q_T_f (fun a j z => a1 a j (by unfold q_F3 at z; omega)) hT
    obtain ⟨M', k1, k2, k3⟩ := ih A (by omega) hTA (fun d' h1 h2 y hy => by
      by_cases e : d' = d
      · rw [e]; exact a3 y hy
      · rw [a2 _ (by omega)]; exact h d' (by omega) h2 y hy)
    refine ⟨M', fun f hf => ?_, k2, fun a k ha => by rw [k3 a k ha, a1 a k ha]⟩
    have hle : 2 ^ n * (n + 2) ≤ 512 := Nat.le_trans (Nat.mul_le_mul h2n (show n + 2 ≤ 8 by omega)) (by decide)
    obtain ⟨f', hf', hf2, hf3⟩ := v_key hle hf
    clear hle
    rw [hf', f_X1_fillBest_L52, if_pos rfl, if_neg (by omega), show ((d + 1 : Nat) : Int) - 1 = (d : Int) by omega]
    refine Eq.trans (hA (f' + 1) (Nat.le_succ_of_le hf3)) ?_
    show f_X1_fillBest_L52 (f' + 1) 1 ((2 ^ n - 1 : Nat) : Int) (d : Int) ((2 ^ n : Nat) : Int) 0 0 A = _
    rw [f_X1_fillBest_L52, if_neg (by decide), if_pos rfl, if_pos (by omega), e_ws_ (x := (d : Int) + (-1)) (by omega) (by omega)]
    exact k1 f' hf2
theorem v_fill (hT : q_T n m t wa sk wo ow fi M) : ∃ M', (∀ f, 3500 < f → f_X1_fillBest f M = some (0, M')) ∧ v_tb n m sk wo 0 M' ∧ ∀ a k, a ≠ 51 → M' a k = M a k := by
  have h6 := hT.1
  have hm := hT.2.1
  have h2n : (2 : Nat) ^ n ≤ 2 ^ 6 := Nat.pow_le_pow_right (by omega) h6
  have h2p := Nat.two_pow_pos n
  obtain ⟨A, ⟨a1, a2⟩, hA⟩ := q_run 0 1 (2 ^ n) (fun f (A : e_M) i => f_X1_fillBest_13 f ((2 ^ n - 1 : Nat) : Int) i A) (fun i A => (∀ a k, a ≠ 51 → A a k = M a k) ∧ ∀ y, y < i → A 51 (64 * m + y) = 0) (a := M) (fun i A hi hA => by
    obtain ⟨a1, a2⟩ := hA
    have hx := v_idx (d := m) (y := i) (by omega) (by omega)
    refine ⟨e_up A 51 (64 * m + i) 0, ⟨fun a k ha => by rw [u_r ha, a1 a k ha], fun y hy => ?_⟩, fun f hf => ?_⟩
    · by_cases e : y = i
      · rw [e, u_s]
      · rw [u_c (by omega), a2 y (by omega)]
    · rw [f_X1_fillBest_13, if_neg (by omega), a1 4 1 (by decide), hT.2.2.2.2.1, if_pos hx.1, hx.2, e_ws_ (x := (i : Int) + 1) (by omega) (by omega)]) ⟨fun _ _ _ => rfl, fun y hy => absurd hy (by omega)⟩
  have hTA : q_T n m t wa sk wo ow fi A := q_T_f (fun a j z => a1 a j (by unfold q_F3 at z; omega)) hT
  obtain ⟨M', k1, k2, k3⟩ := v_L m A (Nat.le_refl _) hTA (fun d h1 h2 y hy => by
    have e : d = m := by omega
    rw [e, a2 y hy, Nat.sub_self]
    rfl)
  refine ⟨M', fun f hf => ?_, k2, fun a k ha => by rw [k3 a k ha, a1 a k ha]⟩
  unfold f_X1_fillBest f_X10_bitsBelow
  rw [f_bs, hT.2.2.2.1, q_bb (by omega)]
  obtain ⟨f', hf'⟩ : ∃ f', f = (f' + 1) + 2 ^ n * 1 := ⟨f - 1 - 2 ^ n, by omega⟩
  rw [hf']
  refine Eq.trans (hA (f' + 1) (by omega)) ?_
  show f_X1_fillBest_13 (f' + 1) ((2 ^ n - 1 : Nat) : Int) ((2 ^ n : Nat) : Int) A = _
  rw [f_X1_fillBest_13, if_pos (by omega), hTA.2.2.2.2.1, e_ws_ (x := (m : Int) - 1) (by omega) (by omega)]
  exact k1 f' (by omega)
/-- the search: what it leaves behind -/
def v_R (n m : Nat) (sk : Nat → Nat) (wo : Nat → Int) (j d y : Nat) (S B : Int) (N N' : e_M) : Prop := (∀ a k, a ≠ 555 → a ≠ 556 → ¬ (a = 64 ∧ k = 44) → N' a k = N a k) ∧ (∀ i, i < d → N' 555 i = N 555 i) ∧ ((B < S + v_o n sk wo j d y ∧ N' 64 44 = S + v_o n sk wo j d y ∧ (∀ i, i < d → N' 556 i = N 555 i) ∧ ∀ i, d ≤ i → i < m → N' 556 i = v_s n sk wo j d y i) ∨ (S + v_o n sk wo j d y ≤ B ∧ N' 64 44 = B ∧ ∀ i, N' 556 i = N 556 i))
theorem v_cpy {rc : Int → Int → Int → e_M → Option (Int × e_M)} (hm : m ≤ 6) (x S : Int) (N : e_M) : ∃ N', (∀ f, 10 < f → f_X11_givesFrom_27 rc f (m : Int) x S 0 N = some (0, N')) ∧ (∀ i, i < m → N' 556 i = N 555 i) ∧ ∀ a k, a ≠ 556 → N' a k = N a k := by
  obtain ⟨A, ⟨a1, a2⟩, hA⟩ := q_run 0 1 m (fun f (A : e_M) i => f_X11_givesFrom_27 rc f (m : Int) x S i A) (fun i A => (∀ k, k < i → A 556 k = N 555 k) ∧ ∀ a k, a ≠ 556 → A a k = N a k) (a := N) (fun i A hi hA => by
    obtain ⟨a1, a2⟩ := hA
    refine ⟨e_up A 556 i (A 555 i), ⟨fun k hk => ?_, fun a k ha => by rw [u_r ha, a2 a k ha]⟩, fun f hf => ?_⟩
    · by_cases e : k = i
      · rw [e, u_s, a2 555 i (by decide)]
      · rw [u_c e, a1 k (by omega)]
    · rw [f_X11_givesFrom_27, if_neg (by omega), if_pos (show 0 ≤ (i : Int) ∧ (i : Int) < 6 by omega), if_pos (show 0 ≤ (i : Int) ∧ (i : Int) < 6 by omega), Int.toNat_natCast, e_ws_ (x := (i : Int) + 1) (by omega) (by omega)]) ⟨fun k hk => absurd hk (by omega), fun _ _ _ => rfl⟩
  refine ⟨A, fun f hf => ?_, a1, a2⟩
  obtain ⟨f', rfl⟩ : ∃ f', f = (f' + 1) + m * 1 := ⟨f - 1 - m, by omega⟩
  refine Eq.trans (hA (f' + 1) (by omega)) ?_
  show f_X11_givesFrom_27 rc (f' + 1) (m : Int) x S (m : Int) A = _
  rw [f_X11_givesFrom_27, if_pos (by omega)]
def v_I (n m : Nat) (sk : Nat → Nat) (wo : Nat → Int) (j d y : Nat) (S B : Int) (N : e_M) (i : Nat) (A : e_M) : Prop := (∀ a k, a ≠ 555 → a ≠ 556 → ¬ (a = 64 ∧ k = 44) → A a k = N a k) ∧ (∀ k, k < d → A 555 k = N 555 k) ∧ ((0 ≤ v_b (v_c n sk wo j d y) i ∧ B < S + v_b (v_c n sk wo j d y) i ∧ A 64 44 = S + v_b (v_c n sk wo j d y) i ∧ (∀ k, k < d → A 556 k = N 555 k) ∧ A 556 d = v_i (v_c n sk wo j d y) i ∧ ∀ k, d < k → k < m → A 556 k = v_s n sk wo j (d + 1) (q_an y (2 ^ (v_i (v_c n sk wo j d y) i).toNat)) k) ∨ ((v_b (v_c n sk wo j d y) i < 0 ∨ S + v_b (v_c n sk wo j d y) i ≤ B) ∧ A 64 44 = B ∧ ∀ k, A 556 k = N 556 k))
theorem v_27 (rc rc' : Int → Int → Int → e_M → Option (Int × e_M)) : ∀ (f : Nat) (a b c v : Int) (M : e_M), f_X11_givesFrom_27 rc f a b c v M = f_X11_givesFrom_27 rc' f a b c v M
  | 0, _, _, _, _, _ => rfl
  | f + 1, a, b, c, v, M => by rw [f_X11_givesFrom_27, f_X11_givesFrom_27, v_27 rc rc' f]
theorem v_m : ∀ (j d x y : Nat) (S B : Int) (N : e_M), j + d = m → x < 2 ^ n → y < 2 ^ n → (∀ p, p < n → y.testBit p = (!x.testBit p && decide (L (18 + p) = -1))) → 0 ≤ S → S ≤ 30 * (d : Int) → N 64 44 = B → q_T n m t wa sk wo ow fi N → q_ml N 532 L → ∃ N', (∀ f k g, 10 < f → j < k → g_X11_givesFrom f k g (d : Int) (x : Int) S N = some (0, N')) ∧ v_R n m sk wo j d y S B N N' := by
  intro j
  induction j with
  | zero =>
    intro d x y S B N hd hx hy hxy hS0 hS1 hB hT hr
    have h6 := hT.1
    have hm := hT.2.1
    have ed : d = m := by omega
    subst ed
    have e0 : v_o n sk wo 0 d y = 0 := rfl
    by_cases c : B < S
    · obtain ⟨N', k1, k2, k3⟩ := v_cpy (m := d) hm (x : Int) S (e_up N 64 44 S) (rc := fun _ _ _ _ => none)
      have k1' : ∀ (rc : Int → Int → Int → e_M → Option (Int × e_M)) f, 10 < f → f_X11_givesFrom_27 rc f (d : Int) (x : Int) S 0 (e_up N 64 44 S) = some (0, N') := by
        intro rc f hf
        rw [← k1 f hf]
        exact v_27 _ _ _ _ _ _ _ _
      refine ⟨N', fun f k g hf hk => ?_, fun a k h1 h2 h3 => ?_, fun i hi => by rw [k3 555 i (by decide), u_r (by decide)], Or.inl ⟨by omega, ?_, fun i hi => by rw [k2 i hi, u_r (by decide)], fun i h1 h2 => absurd h2 (by omega)⟩⟩
      · obtain ⟨k', rfl⟩ : ∃ k', k = k' + 1 := ⟨k - 1, by omega⟩
        show f_X11_givesFrom (fun x1 x2 x3 N => g_X11_givesFrom f k' 0 x1 x2 x3 N) f (d : Int) (x : Int) S N = _
        unfold f_X11_givesFrom
        rw [hT.2.2.2.2.2.2.2.1, if_neg (not_not_intro rfl), hB, if_pos c]
        exact k1' _ f hf
      · rw [k3 a k h2]
        by_cases ha : a = 64
        · subst ha
          exact u_c (fun h => h3 ⟨rfl, h⟩)
        · exact u_r ha
      · rw [k3 64 44 (by decide), u_s, e0]; omega
    · refine ⟨N, fun f k g hf hk => ?_, fun _ _ _ _ _ => rfl, fun _ _ => rfl, Or.inr ⟨by omega, hB, fun _ => rfl⟩⟩
      obtain ⟨k', rfl⟩ : ∃ k', k = k' + 1 := ⟨k - 1, by omega⟩
      show f_X11_givesFrom (fun x1 x2 x3 N => g_X11_givesFrom f k' 0 x1 x2 x3 N) f (d : Int) (x : Int) S N = _
      unfold f_X11_givesFrom
      rw [hT.2.2.2.2.2.2.2.1, if_neg (not_not_intro rfl), hB, if_neg c]
  | succ j ih =>
    intro d x y S B N hd hx hy hxy hS0 hS1 hB hT hr
    have h6 := hT.1
    have hm := hT.2.1
    have h2n : (2 : Nat) ^ n ≤ 2 ^ 6 := Nat.pow_le_pow_right (by omega) h6
    have h2m : (2 : Nat) ^ m ≤ 2 ^ 6 := Nat.pow_le_pow_right (by omega) hm
    have hw : ∀ d, d < m → 1 ≤ wo d ∧ wo d ≤ 30 := fun d hd => (hT.2.2.2.2.2.2.2.2.2.2.1 d hd).2.2
    have hwd := hw d (by omega)
    have hvo := v_o_r (n := n) (sk := sk) hw j (d + 1) y (by omega)
    have skip : ∀ i, v_c n sk wo j d y i = -1 → v_b (v_c n sk wo j d y) (i + 1) = v_b (v_c n sk wo j d y) i ∧ v_i (v_c n sk wo j d y) (i + 1) = v_i (v_c n sk wo j d y) i := fun i hi => by
      have h1 := v_b_ge (c := v_c n sk wo j d y) i
      refine ⟨by rw [v_b_1]; omega, ?_⟩
      show (if v_b (v_c n sk wo j d y) i < v_c n sk wo j d y i then (i : Int) else v_i (v_c n sk wo j d y) i) = _
      rw [if_neg (by omega)]
    -- over the persons
    have run : ∀ i, i ≤ n → ∃ A, v_I n m sk wo j d y S B N i A ∧ ∀ F k' f, 10 < F → j < k' → f_X11_givesFrom_57 (fun x1 x2 x3 N => g_X11_givesFrom F k' 0 x1 x2 x3 N) (f + i) (d : Int) (x : Int) S 0 N = f_X11_givesFrom_57 (fun x1 x2 x3 N => g_X11_givesFrom F k' 0 x1 x2 x3 N) f (d : Int) (x : Int) S (i : Int) A := by
      intro i
      induction i with
      | zero =>
        intro _
        exact ⟨N, ⟨fun _ _ _ _ _ => rfl, fun _ _ => rfl, Or.inr ⟨Or.inl (by show (-1 : Int) < 0; decide), hB, fun _ => rfl⟩⟩, fun _ _ _ _ _ => rfl⟩
      | succ i ihi =>
        intro hi
        obtain ⟨A, ⟨a1, a2, a3⟩, hA⟩ := ihi (by omega)
        have hTA : q_T n m t wa sk wo ow fi A := q_T_f (fun a j z => a1 a j (by unfold q_F3 at z; omega) (by unfold q_F3 at z; omega) (by unfold q_F3 at z; omega)) hT
        have hrA : q_ml A 532 L := fun k hk => by rw [a1 532 k (by decide) (by decide) (by omega)]; exact hr k hk
        have hTi := hTA.2.2.2.2.2.2.2.2.2.1 i (by omega)
        have est : ∀ F k' f, f_X11_givesFrom_57 (fun x1 x2 x3 N => g_X11_givesFrom F k' 0 x1 x2 x3 N) (f + 1) (d : Int) (x : Int) S (i : Int) A = if y.testBit i && (sk i).testBit d then (f_b (g_X11_givesFrom F k' 0 ((d + 1 : Nat) : Int) ((x ||| 2 ^ i : Nat) : Int) (S + wo d) (e_up A 555 d (i : Int))) fun _ NN8 => (f_X11_givesFrom_57 (fun x1 x2 x3 N => g_X11_givesFrom F k' 0 x1 x2 x3 N) f (d : Int) (x : Int) S ((i + 1 : Nat) : Int) NN8)) else f_X11_givesFrom_57 (fun x1 x2 x3 N => g_X11_givesFrom F k' 0 x1 x2 x3 N) f (d : Int) (x : Int) S ((i + 1 : Nat) : Int) A := by
          intro F k' f
          rw [f_X11_givesFrom_57, hTA.2.2.2.2.2.2.1, if_neg (by omega), r_has (by omega) (by omega), f_bs, y_ei (by omega), hxy i (by omega)]
          by_cases c1 : x.testBit i = true
          · rw [if_pos c1, if_pos (by decide), c1]
            rfl
          · have c1' : x.testBit i = false := by simpa using c1
            rw [if_neg c1, if_neg (by decide), r_sold (by omega), f_bs, hrA (18 + i) (by omega), c1']
            by_cases c2 : L (18 + i) = -1
            · rw [if_pos c2, if_neg (by decide), if_pos (show 0 ≤ (i : Int) ∧ (i : Int) < 6 by omega), Int.toNat_natCast, hTi.2.2.2.2.2.1, r_has (by omega) (by omega), f_bs, decide_eq_true c2]
              by_cases c3 : (sk i).testBit d = true
              · rw [if_pos c3, if_pos (by decide), if_pos (show 0 ≤ (d : Int) ∧ (d : Int) < 6 by omega), if_pos (show 0 ≤ (d : Int) ∧ (d : Int) < 6 by omega), y_ei (by omega), Int.toNat_natCast, u_r (show (70 : Nat) ≠ 555 by decide), (hTA.2.2.2.2.2.2.2.2.2.2.1 d (by omega)).2.1, e_ws_ (x := S + wo d) (by omega) (by omega), q_sh (by omega), b_or (by omega) (Nat.pow_lt_pow_right (by omega) (by omega)), c3]
                rfl
              · have c3' : (sk i).testBit d = false := by simpa using c3
                rw [if_neg c3, if_neg (by decide), c3']
                rfl
            · rw [if_neg c2, if_pos (by decide), decide_eq_false c2]
              rfl
        by_cases c : (y.testBit i && (sk i).testBit d) = true
        · have hyi : y.testBit i = true := by
            rw [Bool.and_eq_true] at c; exact c.1
          have hvc : v_c n sk wo j d y i = wo d + v_o n sk wo j (d + 1) (q_an y (2 ^ i)) := if_pos c
          have hvo2 := v_o_r (n := n) (sk := sk) hw j (d + 1) (q_an y (2 ^ i)) (by omega)
          have h2i : (2 : Nat) ^ i < 2 ^ n := Nat.pow_lt_pow_right (by omega) (by omega)
          have hTA1 : q_T n m t wa sk wo ow fi (e_up A 555 d (i : Int)) := q_T_f (fun a j z => u_r (by unfold q_F3 at z; omega)) hTA
          obtain ⟨A', g1, g2, g3, g4⟩ := ih (d + 1) (x ||| 2 ^ i) (q_an y (2 ^ i)) (S + wo d) (A 64 44) (e_up A 555 d (i : Int)) (by omega) (Nat.or_lt_two_pow hx h2i) (q_an_lt hy) (fun p hp => by
            rw [q_an_tb, Nat.testBit_or, hxy p hp, Nat.testBit_two_pow]
            cases x.testBit p <;> cases decide (L (18 + p) = -1) <;> cases decide (i = p) <;> rfl) (by omega) (by omega) rfl hTA1 (fun k hk => by rw [u_r (by decide)]; exact hrA k hk)
          have hge := v_b_ge (c := v_c n sk wo j d y) i
          refine ⟨A', ⟨fun a k h1 h2 h3 => by rw [g2 a k h1 h2 h3, u_r h1, a1 a k h1 h2 h3], fun k hk => by rw [g3 k (by omega), u_c (by omega), a2 k hk], ?_⟩, fun F k' f hF hk => ?_⟩
          · by_cases u : v_b (v_c n sk wo j d y) i < v_c n sk wo j d y i
            · have eb : v_b (v_c n sk wo j d y) (i + 1) = v_c n sk wo j d y i := by rw [v_b_1]; omega
              have ei2 : v_i (v_c n sk wo j d y) (i + 1) = (i : Int) := if_pos u
              rw [eb, ei2]
              rcases g4 with ⟨l1, l2, l3, l4⟩ | ⟨l1, l2, l3⟩
              · refine Or.inl ⟨by omega, ?_, by rw [l2]; omega, fun k hk => by rw [l3 k (by omega), u_c (by omega), a2 k hk], by rw [l3 d (by omega), u_s], fun k h1 h2 => by rw [l4 k (by omega) h2]; rfl⟩
                rcases a3 with ⟨b1, b2, b3, _⟩ | ⟨b1, b2, _⟩ <;> omega
              · rcases a3 with ⟨b1, b2, b3, _⟩ | ⟨b1, b2, b3⟩
                · exfalso; omega
                · exact Or.inr ⟨by omega, by omega, fun k => by rw [l3 k, u_r (by decide), b3 k]⟩
            · have eb : v_b (v_c n sk wo j d y) (i + 1) = v_b (v_c n sk wo j d y) i := by rw [v_b_1]; omega
              have ei2 : v_i (v_c n sk wo j d y) (i + 1) = v_i (v_c n sk wo j d y) i := if_neg u
              rw [eb, ei2]
              rcases g4 with ⟨l1, l2, l3, l4⟩ | ⟨l1, l2, l3⟩
              · rcases a3 with ⟨b1, b2, b3, _⟩ | ⟨b1, b2, b3⟩
                · exfalso; omega
                · exfalso; omega
              · rcases a3 with ⟨b1, b2, b3, b4, b5, b6⟩ | ⟨b1, b2, b3⟩
                · exact Or.inl ⟨b1, b2, by rw [l2, b3], fun k hk => by rw [l3 k, u_r (by decide), b4 k hk], by rw [l3 d, u_r (by decide), b5], fun k h1 h2 => by rw [l3 k, u_r (by decide), b6 k h1 h2]⟩
                · exact Or.inr ⟨b1, by rw [l2, b2], fun k => by rw [l3 k, u_r (by decide), b3 k]⟩
          · rw [show f + (i + 1) = (f + 1) + i by omega, hA F k' (f + 1) hF hk, est F k' f, if_pos c, g1 F k' 0 hF hk, f_bs]
        · have hvc : v_c n sk wo j d y i = -1 := if_neg c
          have hs := skip i hvc
          refine ⟨A, ⟨a1, a2, ?_⟩, fun F k' f hF hk => ?_⟩
          · rw [hs.1, hs.2]; exact a3
          · rw [show f + (i + 1) = (f + 1) + i by omega, hA F k' (f + 1) hF hk, est F k' f, if_neg c]
    obtain ⟨A, ⟨a1, a2, a3⟩, hA⟩ := run n (Nat.le_refl _)
    have hTA : q_T n m t wa sk wo ow fi A := q_T_f (fun a j z => a1 a j (by unfold q_F3 at z; omega) (by unfold q_F3 at z; omega) (by unfold q_F3 at z; omega)) hT
    have hTA1 : q_T n m t wa sk wo ow fi (e_up A 555 d (-1)) := q_T_f (fun a j z => u_r (by unfold q_F3 at z; omega)) hTA
    obtain ⟨A', g1, g2, g3, g4⟩ := ih (d + 1) x y S (A 64 44) (e_up A 555 d (-1)) (by omega) hx hy hxy (by omega) (by omega) rfl hTA1 (fun k hk => by rw [u_r (by decide), a1 532 k (by decide) (by decide) (by omega)]; exact hr k hk)
    have hge := v_b_ge (c := v_c n sk wo j d y) n
    refine ⟨A', fun f k g hf hk => ?_, fun a k h1 h2 h3 => by rw [g2 a k h1 h2 h3, u_r h1, a1 a k h1 h2 h3], fun k hk => by rw [g3 k (by omega), u_c (by omega), a2 k hk], ?_⟩
    · obtain ⟨k', rfl⟩ : ∃ k', k = k' + 1 := ⟨k - 1, by omega⟩
      show f_X11_givesFrom (fun x1 x2 x3 N => g_X11_givesFrom f k' 0 x1 x2 x3 N) f (d : Int) (x : Int) S N = _
      unfold f_X11_givesFrom
      rw [hT.2.2.2.2.2.2.2.1, if_pos (by omega)]
      have h := hA f k' (f - n) hf (by omega)
      rw [show f - n + n = f by omega] at h
      rw [h]
      obtain ⟨f', hf'⟩ : ∃ f', f - n = f' + 1 := ⟨f - n - 1, by omega⟩
      rw [hf', f_X11_givesFrom_57, hTA.2.2.2.2.2.2.1, if_pos (by omega), if_pos (show 0 ≤ (d : Int) ∧ (d : Int) < 6 by omega), y_ei (by omega), Int.toNat_natCast, g1 f k' 0 hf (by omega), f_bs]
    · rw [v_o_1]
      by_cases u : v_o n sk wo j (d + 1) y ≤ v_b (v_c n sk wo j d y) n
      · have ef : v_f n sk wo j d y = v_i (v_c n sk wo j d y) n := if_pos u
        obtain ⟨q, e1, e2, _, _⟩ := v_i_ok (c := v_c n sk wo j d y) n (by omega)
        have en : v_n n sk wo j d y = q_an y (2 ^ (v_i (v_c n sk wo j d y) n).toNat) := by
          unfold v_n
          rw [ef, if_neg (by omega)]
        rw [show max (v_b (v_c n sk wo j d y) n) (v_o n sk wo j (d + 1) y) = v_b (v_c n sk wo j d y) n by omega]
        rcases g4 with ⟨l1, l2, l3, l4⟩ | ⟨l1, l2, l3⟩
        · rcases a3 with ⟨b1, b2, b3, _⟩ | ⟨b1, b2, b3⟩
          · exfalso; omega
          · exfalso; omega
        · rcases a3 with ⟨b1, b2, b3, b4, b5, b6⟩ | ⟨b1, b2, b3⟩
          · refine Or.inl ⟨b2, by rw [l2, b3], fun k hk => by rw [l3 k, u_r (by decide), b4 k hk], fun k h1 h2 => ?_⟩
            show A' 556 k = if k = d then v_f n sk wo j d y else v_s n sk wo j (d + 1) (v_n n sk wo j d y) k
            rw [l3 k, u_r (by decide)]
            by_cases e : k = d
            · rw [if_pos e, e, b5, ef]
            · rw [if_neg e, b6 k (by omega) h2, en]
          · exact Or.inr ⟨by omega, by rw [l2, b2], fun k => by rw [l3 k, u_r (by decide), b3 k]⟩
      · have ef : v_f n sk wo j d y = -1 := if_neg u
        have en : v_n n sk wo j d y = y := by
          unfold v_n
          rw [if_pos ef]
        rw [show max (v_b (v_c n sk wo j d y) n) (v_o n sk wo j (d + 1) y) = v_o n sk wo j (d + 1) y by omega]
        rcases g4 with ⟨l1, l2, l3, l4⟩ | ⟨l1, l2, l3⟩
        · refine Or.inl ⟨?_, l2, fun k hk => by rw [l3 k (by omega), u_c (by omega), a2 k hk], fun k h1 h2 => ?_⟩
          · rcases a3 with ⟨b1, b2, b3, _⟩ | ⟨b1, b2, b3⟩ <;> omega
          · show A' 556 k = if k = d then v_f n sk wo j d y else v_s n sk wo j (d + 1) (v_n n sk wo j d y) k
            by_cases e : k = d
            · rw [if_pos e, e, l3 d (by omega), u_s, ef]
            · rw [if_neg e, l4 k (by omega) h2, en]
        · rcases a3 with ⟨b1, b2, b3, _⟩ | ⟨b1, b2, b3⟩
          · exfalso; omega
          · exact Or.inr ⟨by omega, by rw [l2, b2], fun k => by rw [l3 k, u_r (by decide), b3 k]⟩
end GW
theorem v_gv {M : e_M} {n m t : Nat} {wa : Nat → Int} {sk : Nat → Nat} {wo : Nat → Int} {ow : Nat → Nat} {fi L : Nat → Int} (hT : q_T n m t wa sk wo ow fi M) (hC : q_cn n t L M) : ∃ z : Nat, z < 2 ^ n ∧ (∀ p, p < n → z.testBit p = (!(0 : Nat).testBit p && decide (L (18 + p) = -1))) ∧ (∀ f, 6 < f → f_X3_stayingBits_now f M = some ((z : Int), M)) ∧ ∃ M', (∀ f, 3500 < f → f_X1_giveTo f (z : Int) M = some (v_o n sk wo m 0 z, M')) ∧ (∀ i, i < m → M' 52 i = v_s n sk wo m 0 z i) ∧ ∀ a k, a ≠ 51 → a ≠ 52 → M' a k = M a k := by
  have h6 := hT.1
  have hm := hT.2.1
  refine ⟨q_bs (fun p => decide (M 40 p = -1)) n, q_bs_lt, fun p hp => ?_, fun f hf => rn_sb hT.2.2.2.1 h6 hf, ?_⟩
  · rw [q_bs_tbc hp, (hC.1 p hp).2.2.2.1, Nat.zero_testBit]
    rfl
  · obtain ⟨A, a1, a2, a3⟩ := v_fill hT
    obtain ⟨M', k1, _, k2, k3⟩ := v_gt (z := q_bs (fun p => decide (M 40 p = -1)) n) q_bs_lt m 0 (q_bs (fun p => decide (M 40 p = -1)) n) A (by omega) q_bs_lt (q_T_f (fun a j z => a3 a j (by unfold q_F3 at z; omega)) hT) a2
    refine ⟨M', fun f hf => ?_, fun i hi => k2 i (Nat.zero_le _) hi, fun a k h1 h2 => by rw [k3 a k h2, a3 a k h1]⟩
    unfold f_X1_giveTo
    rw [a1 f hf, f_bs]
    exact k1 f (by omega)
theorem v_gm {N : e_M} {n m t z : Nat} {wa : Nat → Int} {sk : Nat → Nat} {wo : Nat → Int} {ow : Nat → Nat} {fi L : Nat → Int} (hT : q_T n m t wa sk wo ow fi N) (hr : q_ml N 532 L) (hz : z < 2 ^ n) (hzt : ∀ p, p < n → z.testBit p = (!(0 : Nat).testBit p && decide (L (18 + p) = -1))) : ∃ N', (∀ f, 10 < f → f_k_X11_givesFrom f 0 0 0 (e_up N 64 44 (-1)) = some (0, N')) ∧ N' 64 44 = v_o n sk wo m 0 z ∧ (∀ i, i < m → N' 556 i = v_s n sk wo m 0 z i) ∧ ∀ a k, a ≠ 555 → a ≠ 556 → ¬ (a = 64 ∧ k = 44) → N' a k = N a k := by
  have hm := hT.2.1
  have hw : ∀ d, d < m → 1 ≤ wo d ∧ wo d ≤ 30 := fun d hd => (hT.2.2.2.2.2.2.2.2.2.2.1 d hd).2.2
  have hvo := v_o_r (n := n) (sk := sk) hw m 0 z (by omega)
  obtain ⟨N', k1, k2, _, k4⟩ := v_m (n := n) (m := m) m 0 0 z 0 (-1) (e_up N 64 44 (-1)) (by omega) (Nat.two_pow_pos n) hz hzt (Int.le_refl _) (by omega) (u_s _ _ _ _) (q_T_f (fun a j z => u_r (by unfold q_F3 at z; omega)) hT) (fun k hk => by rw [u_r (by decide)]; exact hr k hk)
  refine ⟨N', fun f hf => k1 f 8 0 hf (by omega), ?_, ?_, fun a k h1 h2 h3 => ?_⟩
  · rcases k4 with ⟨_, l2, _⟩ | ⟨l1, _⟩
    · rw [l2]; omega
    · exfalso; omega
  · rcases k4 with ⟨_, _, _, l4⟩ | ⟨l1, _⟩
    · exact fun i hi => l4 i (Nat.zero_le _) hi
    · exfalso; omega
  · rw [k2 a k h1 h2 h3]
    by_cases ha : a = 64
    · subst ha
      exact u_c (fun h => h3 ⟨rfl, h⟩)
    · exact u_r ha
theorem o_given {F : Nat} (hF : 4000 < F) : q_o1 (f_X10_given F) (f_X11_given F) := by
  intro M k
  have k' := k
  obtain ⟨n, m, t, wa, sk, wo, ow, fi, l, cw, cv, L, hB⟩ := k'
  have hT : q_T n m t wa sk wo ow fi M := hB.1
  have h6 := hT.1
  have hm := hT.2.1
  have ht12 := hT.2.2.1
  have hn := hT.2.2.2.2.2.2.1
  have hC : q_cn n t L M := hB.2.2.2.2.2.1.1
  have hLB : q_LB n t L := hB.2.2.2.2.2.1.2.2
  obtain ⟨z, z1, z2, z3, M1, g1, g2, g3⟩ := v_gv hT hC
  have f1 : ∀ a j, ¬ q_sca a → M1 a j = M a j := fun a j ha => g3 a j (by unfold q_sca at ha; omega) (by unfold q_sca at ha; omega)
  have hB2 := q_B_f (q_fr_b1 f1) hB
  obtain ⟨N, k1, k2, k3, k4⟩ := v_gm hB2.1 hB2.2.2.2.2.2.1.2.1 z1 z2
  refine q_ok1 (M1 := M1) (M2 := N) (v := v_o n sk wo m 0 z) k ?_ f1 ?_ (fun a j h1 h2 h3 h4 h5 h6 => k4 a j h4 h5 (fun h => (h6 h.1).1 h.2))
  · unfold f_X10_given
    rw [z3 F (by omega), f_bs, g1 F (by omega), f_bs]
  · unfold f_X11_given
    rw [k1 F (by omega), f_bs, k2]
theorem o_giver {F : Nat} (hF : 4000 < F) (p : Int) : q_o2 (f_X10_giver F p) (f_X11_giver F p) k_c0 := by
  intro M k
  have k' := k
  obtain ⟨n, m, t, wa, sk, wo, ow, fi, l, cw, cv, L, hB⟩ := k'
  have hT : q_T n m t wa sk wo ow fi M := hB.1
  have h6 := hT.1
  have hm := hT.2.1
  have ht12 := hT.2.2.1
  have hn := hT.2.2.2.2.2.2.1
  have hC : q_cn n t L M := hB.2.2.2.2.2.1.1
  have hLB : q_LB n t L := hB.2.2.2.2.2.1.2.2
  have hmm := hT.2.2.2.2.2.2.2.1
  by_cases hp : ¬ (0 ≤ p ∧ p < (m : Int))
  · refine q_ref0 (b := 0) (c := 1) k rfl (by decide) ?_ ?_
    · unfold f_X10_giver
      rw [r_nd hT.2.2.2.2.1, if_neg hp, f_tr]
    · unfold f_X11_giver f_X11_giver_27
      rw [u_r (show (68 : Nat) ≠ 64 by decide), u_r (show (68 : Nat) ≠ 1 by decide), hmm, e_ws_ (x := (m : Int) - 1) (by omega) (by omega), r_in, f_bs, if_neg (show ¬ (0 ≤ p ∧ p ≤ (m : Int) - 1) by omega), if_neg (by decide), r_badm rfl (by decide), f_bs, if_neg (by decide)]
      rfl
  replace hp := Classical.not_not.mp hp
  obtain ⟨a, ha, rfl⟩ := q_nat hp
  obtain ⟨z, z1, z2, z3, M1, g1, g2, g3⟩ := v_gv hT hC
  have f1 : ∀ a j, ¬ q_sca a → M1 a j = M a j := fun a j ha => g3 a j (by unfold q_sca at ha; omega) (by unfold q_sca at ha; omega)
  have hB2 := q_B_f (q_fr_b (v := v_s n sk wo m 0 z a) f1) hB
  obtain ⟨N, k1, k2, k3, k4⟩ := v_gm hB2.1 hB2.2.2.2.2.2.1.2.1 z1 z2
  refine q_ok (M1 := M1) (M2 := N) (v := v_s n sk wo m 0 z a) k ?_ f1 ?_ (fun a j h1 h2 h3 h4 h5 h6 => k4 a j h4 h5 (fun h => (h6 h.1).1 h.2))
  · unfold f_X10_giver
    rw [r_nd hT.2.2.2.2.1, if_pos hp, f_tl, z3 F (by omega), f_bs, g1 F (by omega), f_bs, if_pos (show 0 ≤ (a : Int) ∧ (a : Int) < 6 by omega), Int.toNat_natCast, g2 a ha]
  · unfold f_X11_giver f_X11_giver_27
    rw [hB2.1.2.2.2.2.2.2.2.1, e_ws_ (x := (m : Int) - 1) (by omega) (by omega), r_in, f_bs, if_pos (show 0 ≤ (a : Int) ∧ (a : Int) ≤ (m : Int) - 1 by omega), if_pos (by decide), r_bad0 rfl, f_bs, if_pos rfl, k1 F (by omega), f_bs, if_pos (show 0 ≤ (a : Int) ∧ (a : Int) < 6 by omega), Int.toNat_natCast, k3 a ha]
