/-! OPERATIONS, 17: given, giver -/
/-- the most among c 0 .. (-1: none), and the first place of it -/
def v_b (c : Nat → Int) : Nat → Int
  | 0 => -1
  | p + 1 => max (v_b c p) (c p)
def v_i (c : Nat → Int) : Nat → Int
  | 0 => -1
  | p + 1 => if v_b c p < c p then (p : Int) else v_i c p
theorem v_b_1 {c : Nat → Int} {p : Nat} : v_b c (p + 1) = max (v_b c p) (c p) := rfl
theorem v_b_ge {c : Nat → Int} : ∀ p, -1 ≤ v_b c p
  | 0 => by show (-1 : Int) ≤ -1; decide
  | p + 1 => by have := v_b_ge (c := c) p; rw [v_b_1]; omega
theorem v_b_le {c : Nat → Int} {p : Nat} : ∀ n, p < n → c p ≤ v_b c n
  | 0, h => absurd h (by omega)
  | n + 1, h => by
    rw [v_b_1]
    by_cases e : p = n
    · subst e; omega
    · have := v_b_le (c := c) n (p := p) (by omega)
      omega
theorem v_b_ub {c : Nat → Int} {b : Int} (hb : 0 ≤ b) : ∀ n, (∀ p, p < n → c p ≤ b) → v_b c n ≤ b
  | 0, _ => by show (-1 : Int) ≤ b; omega
  | n + 1, h => by
    have h1 := v_b_ub (c := c) hb n (fun p hp => h p (by omega))
    have h2 := h n (by omega)
    rw [v_b_1]; omega
theorem v_b_congr {c d : Nat → Int} : ∀ n, (∀ p, p < n → c p = d p) → v_b c n = v_b d n
  | 0, _ => rfl
  | n + 1, h => by rw [v_b_1, v_b_1, v_b_congr n (fun p hp => h p (by omega)), h n (by omega)]
theorem v_i_ok {c : Nat → Int} : ∀ n, 0 ≤ v_b c n → ∃ q : Nat, v_i c n = (q : Int) ∧ q < n ∧ c q = v_b c n ∧ ∀ q', q' < q → c q' ≠ v_b c n
  | 0, h => absurd h (by show ¬ (0 : Int) ≤ -1; decide)
  | n + 1, h => by
    by_cases e : v_b c n < c n
    · refine ⟨n, if_pos e, by omega, by rw [v_b_1]; omega, fun q' hq => ?_⟩
      have := v_b_le (c := c) n hq
      rw [v_b_1]; omega
    · have e2 : v_b c (n + 1) = v_b c n := by rw [v_b_1]; omega
      rw [e2] at h
      obtain ⟨q, h1, h2, h3, h4⟩ := v_i_ok n h
      refine ⟨q, ?_, by omega, by rw [e2]; exact h3, by rw [e2]; exact h4⟩
      show (if v_b c n < c n then (n : Int) else v_i c n) = _
      rw [if_neg e, h1]
def v_o (n : Nat) (sk : Nat → Nat) (wo : Nat → Int) : Nat → Nat → Nat → Int
  | 0, _, _ => 0
  | j + 1, d, y => max (v_b (fun p => if y.testBit p && (sk p).testBit d then wo d + v_o n sk wo j (d + 1) (q_an y (2 ^ p)) else -1) n) (v_o n sk wo j (d + 1) y)
def v_c (n : Nat) (sk : Nat → Nat) (wo : Nat → Int) (j d y p : Nat) : Int := if y.testBit p && (sk p).testBit d then wo d + v_o n sk wo j (d + 1) (q_an y (2 ^ p)) else -1
theorem v_o_1 {n : Nat} {sk : Nat → Nat} {wo : Nat → Int} {j d y : Nat} : v_o n sk wo (j + 1) d y = max (v_b (v_c n sk wo j d y) n) (v_o n sk wo j (d + 1) y) := rfl
def v_f (n : Nat) (sk : Nat → Nat) (wo : Nat → Int) (j d y : Nat) : Int := if v_o n sk wo j (d + 1) y ≤ v_b (v_c n sk wo j d y) n then v_i (v_c n sk wo j d y) n else -1
def v_n (n : Nat) (sk : Nat → Nat) (wo : Nat → Int) (j d y : Nat) : Nat := if v_f n sk wo j d y = -1 then y else q_an y (2 ^ (v_f n sk wo j d y).toNat)
def v_s (n : Nat) (sk : Nat → Nat) (wo : Nat → Int) : Nat → Nat → Nat → Nat → Int
  | 0, _, _, _ => -1
  | j + 1, d, y, i => if i = d then v_f n sk wo j d y else v_s n sk wo j (d + 1) (v_n n sk wo j d y) i
section GV
variable {n m t : Nat} {wa : Nat → Int} {sk : Nat → Nat} {wo : Nat → Int} {ow : Nat → Nat} {fi : Nat → Int} {L : Nat → Int} {M : e_M}
theorem v_o_r (hw : ∀ d, d < m → 1 ≤ wo d ∧ wo d ≤ 30) : ∀ j d y, j + d ≤ m → 0 ≤ v_o n sk wo j d y ∧ v_o n sk wo j d y ≤ 30 * (j : Int)
  | 0, d, y, h => by show (0 : Int) ≤ 0 ∧ (0 : Int) ≤ 30 * ((0 : Nat) : Int); omega
  | j + 1, d, y, h => by
    have h1 := v_o_r hw j (d + 1) y (by omega)
    have h2 := v_b_ub (c := v_c n sk wo j d y) (b := 30 * ((j + 1 : Nat) : Int)) (by omega) n (fun p hp => by
      unfold v_c
      have h3 := v_o_r hw j (d + 1) (q_an y (2 ^ p)) (by omega)
      have h4 := hw d (by omega)
      split <;> omega)
    rw [v_o_1]
    omega
theorem v_c_r (hw : ∀ d, d < m → 1 ≤ wo d ∧ wo d ≤ 30) {j d y p : Nat} (h : j + d < m) : v_c n sk wo j d y p = -1 ∨ (0 ≤ v_c n sk wo j d y p ∧ v_c n sk wo j d y p ≤ 30 * (j : Int) + 30) := by
  unfold v_c
  have h3 := v_o_r (n := n) (sk := sk) hw j (d + 1) (q_an y (2 ^ p)) (by omega)
  have h4 := hw d (by omega)
  split
  · right; omega
  · left; rfl
/-- the table holds what may come from the duty d0 on -/
def v_tb (n m : Nat) (sk : Nat → Nat) (wo : Nat → Int) (d0 : Nat) (M : e_M) : Prop := ∀ d, d0 ≤ d → d ≤ m → ∀ y, y < 2 ^ n → M 51 (64 * d + y) = v_o n sk wo (m - d) d y
theorem v_idx {d y : Nat} (hd : d ≤ 6) (hy : y < 64) : (0 ≤ (e_w ((e_w ((d : Int) * 64)) + (y : Int))) ∧ (e_w ((e_w ((d : Int) * 64)) + (y : Int))) < 448) ∧ (e_w ((e_w ((d : Int) * 64)) + (y : Int))).toNat = 64 * d + y := by
  rw [e_ws_ (x := (d : Int) * 64) (by omega) (by omega), e_ws_ (x := (d : Int) * 64 + (y : Int)) (by omega) (by omega)]
  omega
theorem v_wb {d p y : Nat} (hT : q_T n m t wa sk wo ow fi M) (hd : d < m) (hp : p < n) (hy : y < 2 ^ n) (h : ∀ x, x < 2 ^ n → M 51 (64 * (d + 1) + x) = v_o n sk wo (m - (d + 1)) (d + 1) x) : f_X1_worthBy (d : Int) (p : Int) (y : Int) M = some (v_c n sk wo (m - (d + 1)) d y p, M) := by
  have h6 := hT.1
  have hm := hT.2.1
  have h2n : (2 : Nat) ^ n ≤ 2 ^ 6 := Nat.pow_le_pow_right (by omega) h6
  have hTp := hT.2.2.2.2.2.2.2.2.2.1 p hp
  have hTd := hT.2.2.2.2.2.2.2.2.2.2.1 d hd
  have h2m : (2 : Nat) ^ m ≤ 2 ^ 6 := Nat.pow_le_pow_right (by omega) hm
  have hx : q_an y (2 ^ p) < 2 ^ n := q_an_lt hy
  have hi := v_idx (d := d + 1) (y := q_an y (2 ^ p)) (by omega) (by omega)
  have hr := v_o_r (n := n) (sk := sk) (wo := wo) (m := m) (fun d hd => (hT.2.2.2.2.2.2.2.2.2.2.1 d hd).2.2) (m - (d + 1)) (d + 1) (q_an y (2 ^ p)) (by omega)
  unfold f_X1_worthBy v_c
  rw [q_tb (by omega) (by omega)]
  by_cases c1 : y.testBit p = true
  · rw [if_pos c1, if_neg (by decide), if_pos (show 0 ≤ (p : Int) ∧ (p : Int) < 6 by omega), Int.toNat_natCast, hTp.2.2.2.2.1, q_tb (by omega) (by omega)]
    by_cases c2 : (sk p).testBit d = true
    · rw [if_pos c2, if_pos (by decide), if_pos (show 0 ≤ (d : Int) ∧ (d : Int) < 6 by omega), y_ei (by omega), q_sh (by omega), q_andn (by omega), if_pos hi.1, hi.2, h _ hx, Int.toNat_natCast, hTd.1, e_ws_ (by omega) (by omega), c1, c2]
      rfl
    · have c2' : (sk p).testBit d = false := by simpa using c2
      rw [if_neg c2, if_neg (by decide), c1, c2']
      rfl
  · have c1' : y.testBit p = false := by simpa using c1
    rw [if_neg c1, if_pos rfl, c1']
    rfl
theorem v_fg {d y : Nat} (hT : q_T n m t wa sk wo ow fi M) (hd : d < m) (hy : y < 2 ^ n) (h : v_tb n m sk wo 0 M) : ∀ f, 10 < f → f_X1_firstGiver f (d : Int) (y : Int) M = some (v_f n sk wo (m - (d + 1)) d y, M) := by
  intro f hf
  have h6 := hT.1
  have hm := hT.2.1
  have h2n : (2 : Nat) ^ n ≤ 2 ^ 6 := Nat.pow_le_pow_right (by omega) h6
  have hw : ∀ d, d < m → 1 ≤ wo d ∧ wo d ≤ 30 := fun d hd => (hT.2.2.2.2.2.2.2.2.2.2.1 d hd).2.2
  have hi := v_idx (d := d) (y := y) (by omega) (by omega)
  have h1 := h d (Nat.zero_le _) (by omega) y hy
  have hr := v_o_r (n := n) (sk := sk) hw (m - (d + 1)) (d + 1) y (by omega)
  have hst : ∀ f i, i < n → f_X1_firstGiver_2 (f + 1) (d : Int) (y : Int) (i : Int) M = if ¬ v_c n sk wo (m - (d + 1)) d y i = max (v_b (v_c n sk wo (m - (d + 1)) d y) n) (v_o n sk wo (m - (d + 1)) (d + 1) y) then f_X1_firstGiver_2 f (d : Int) (y : Int) ((i : Int) + 1) M else some ((i : Int), M) := by
    intro f i hin
    rw [f_X1_firstGiver_2, hT.2.2.2.1, if_neg (by omega), v_wb hT hd hin hy (fun x hx => h (d + 1) (by omega) (by omega) x hx), f_bs, if_pos hi.1, hi.2, h1, e_ws_ (x := (i : Int) + 1) (by omega) (by omega), show m - d = (m - (d + 1)) + 1 by omega, v_o_1]
  unfold f_X1_firstGiver v_f
  by_cases c : v_o n sk wo (m - (d + 1)) (d + 1) y ≤ v_b (v_c n sk wo (m - (d + 1)) d y) n
  · rw [if_pos c]
    obtain ⟨q, e1, e2, e3, e4⟩ := v_i_ok (c := v_c n sk wo (m - (d + 1)) d y) n (by omega)
    rw [e1]
    refine q_sB 0 (fun f (_ : Unit) i => f_X1_firstGiver_2 f (d : Int) (y : Int) i M) (fun _ => ()) q _ (fun f i _ hi2 => ?_) (fun f _ => ?_) f (by omega)
    · rw [hst f i (by omega), if_pos (by have := e4 i hi2; omega)]
    · rw [hst f q e2, if_neg (not_not_intro (by omega))]
  · rw [if_neg c]
    refine q_sB 0 (fun f (_ : Unit) i => f_X1_firstGiver_2 f (d : Int) (y : Int) i M) (fun _ => ()) n _ (fun f i _ hi2 => ?_) (fun f _ => ?_) f (by omega)
    · have := v_b_le (c := v_c n sk wo (m - (d + 1)) d y) n hi2
      rw [hst f i hi2, if_pos (by omega)]
    · rw [f_X1_firstGiver_2, hT.2.2.2.1, if_pos (by omega)]
theorem v_f_r {j d y : Nat} (hw : ∀ d, d < m → 1 ≤ wo d ∧ wo d ≤ 30) (h : j + d < m) : v_f n sk wo j d y = -1 ∨ ∃ q : Nat, q < n ∧ v_f n sk wo j d y = (q : Int) := by
  unfold v_f
  have hr := v_o_r (n := n) (sk := sk) hw j (d + 1) y (by omega)
  split
  · rename_i c
    obtain ⟨q, e1, e2, _, _⟩ := v_i_ok (c := v_c n sk wo j d y) n (by omega)
    exact Or.inr ⟨q, e2, e1⟩
  · exact Or.inl rfl
theorem v_n_lt {j d y : Nat} (hy : y < 2 ^ n) : v_n n sk wo j d y < 2 ^ n := by
  unfold v_n
  split
  · exact hy
  · exact q_an_lt hy
theorem v_gt {z : Nat} (hz : z < 2 ^ n) : ∀ (j d y : Nat) (M : e_M), j + d = m → y < 2 ^ n → q_T n m t wa sk wo ow fi M → v_tb n m sk wo 0 M → ∃ M', (∀ f, j + 20 < f → f_X1_giveTo_8 f (z : Int) (y : Int) (d : Int) M = some (v_o n sk wo m 0 z, M')) ∧ (∀ i, i < d → M' 52 i = M 52 i) ∧ (∀ i, d ≤ i → i < m → M' 52 i = v_s n sk wo j d y i) ∧ ∀ a k, a ≠ 52 → M' a k = M a k := by
  intro j
  induction j with
  | zero =>
    intro d y M hd hy hT h
    have h6 := hT.1
    have h2n : (2 : Nat) ^ n ≤ 2 ^ 6 := Nat.pow_le_pow_right (by omega) h6
    refine ⟨M, fun f hf => ?_, fun _ _ => rfl, fun i h1 h2 => absurd h2 (by omega), fun _ _ _ => rfl⟩
    obtain ⟨f', rfl⟩ : ∃ f', f = f' + 1 := ⟨f - 1, by omega⟩
    have h0 := h 0 (Nat.le_refl _) (Nat.zero_le _) z hz
    rw [Nat.mul_zero, Nat.zero_add, Nat.sub_zero] at h0
    rw [f_X1_giveTo_8, hT.2.2.2.2.1, if_pos (by omega), if_pos (show 0 ≤ (z : Int) ∧ (z : Int) < 448 by omega), Int.toNat_natCast, h0]
  | succ j ih =>
    intro d y M hd hy hT h
    have h6 := hT.1
    have hm := hT.2.1
    have h2n : (2 : Nat) ^ n ≤ 2 ^ 6 := Nat.pow_le_pow_right (by omega) h6
    have hw : ∀ d, d < m → 1 ≤ wo d ∧ wo d ≤ 30 := fun d hd => (hT.2.2.2.2.2.2.2.2.2.2.1 d hd).2.2
    have ej : m - (d + 1) = j := by omega
    have hfg := v_fg hT (d := d) (by omega) hy h
    rw [ej] at hfg
    have hT1 : q_T n m t wa sk wo ow fi (e_up M 52 d (v_f n sk wo j d y)) := q_T_f (fun a j z => u_r (by unfold q_F3 at z; omega)) hT
    have ht1 : v_tb n m sk wo 0 (e_up M 52 d (v_f n sk wo j d y)) := fun d' h1 h2 x hx => by rw [u_r (by decide)]; exact h d' h1 h2 x hx
    obtain ⟨M', k1, k2, k3, k4⟩ := ih (d + 1) (v_n n sk wo j d y) (e_up M 52 d (v_f n sk wo j d y)) (by omega) (v_n_lt hy) hT1 ht1
    refine ⟨M', fun f hf => ?_, fun i hi => by rw [k2 i (by omega), u_c (by omega)], fun i h1 h2 => ?_, fun a k ha => by rw [k4 a k ha, u_r ha]⟩
    · obtain ⟨f', rfl⟩ : ∃ f', f = f' + 1 := ⟨f - 1, by omega⟩
      rw [f_X1_giveTo_8, hT.2.2.2.2.1, if_neg (by omega), hfg f' (by omega), f_bs, if_pos (show 0 ≤ (d : Int) ∧ (d : Int) < 6 by omega), if_pos (show 0 ≤ (d : Int) ∧ (d : Int) < 6 by omega), if_pos (show 0 ≤ (d : Int) ∧ (d : Int) < 6 by omega), Int.toNat_natCast, u_s, y_ei (by omega)]
      have hk := k1 f' (by omega)
      rcases v_f_r (n := n) (sk := sk) (j := j) (d := d) (y := y) hw (by omega) with e | ⟨q, e1, e2⟩
      · have en : v_n n sk wo j d y = y := by unfold v_n; rw [if_pos e]
        rw [en] at hk
        rw [if_pos e]
        exact hk
      · have en : v_n n sk wo j d y = q_an y (2 ^ q) := by unfold v_n; rw [if_neg (by omega), e2]; rfl
        rw [en] at hk
        rw [if_neg (by omega), show e_shl 1 (v_f n sk wo j d y) = ((2 ^ q : Nat) : Int) by rw [e2, q_sh (by omega)], q_andn (by omega)]
        exact hk
    · show M' 52 i = if i = d then v_f n sk wo j d y else v_s n sk wo j (d + 1) (v_n n sk wo j d y) i
      by_cases e : i = d
      · rw [if_pos e, e, k2 d (by omega), u_s]
      · rw [if_neg e]
        exact k3 i (by omega) h2
end GV
