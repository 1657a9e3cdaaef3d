/-! TEXTS, 1: blanks, signs, numbers, on both sides -/
/-- behind blanks -/
def t_sk (T : Nat → Int) (n : Nat) : Nat → Nat → Nat
  | 0, a => a
  | j + 1, a => if a < n ∧ T a = 32 then t_sk T n j (a + 1) else a
def t_s (T : Nat → Int) (n a : Nat) : Nat := t_sk T n (n - a) a
theorem t_s_0 {T : Nat → Int} {n a : Nat} (h : ¬ (a < n ∧ T a = 32)) : t_s T n a = a := by
  unfold t_s
  cases n - a with
  | zero => rfl
  | succ j => show (if a < n ∧ T a = 32 then t_sk T n j (a + 1) else a) = a; rw [if_neg h]
theorem t_s_1 {T : Nat → Int} {n a : Nat} (h : a < n ∧ T a = 32) : t_s T n a = t_s T n (a + 1) := by
  unfold t_s
  obtain ⟨j, hj⟩ : ∃ j, n - a = j + 1 := ⟨n - a - 1, by omega⟩
  rw [hj, show n - (a + 1) = j by omega]
  show (if a < n ∧ T a = 32 then t_sk T n j (a + 1) else a) = _
  rw [if_pos h]
theorem t_s_p {T : Nat → Int} {n : Nat} : ∀ (j a : Nat), n - a = j → a ≤ t_s T n a ∧ (a ≤ n → t_s T n a ≤ n) ∧ ¬ (t_s T n a < n ∧ T (t_s T n a) = 32) := by
  intro j
  induction j with
  | zero =>
    intro a h
    have hn : ¬ (a < n ∧ T a = 32) := by omega
    rw [t_s_0 hn]
    exact ⟨Nat.le_refl _, fun h => h, hn⟩
  | succ j ih =>
    intro a h
    by_cases c : a < n ∧ T a = 32
    · rw [t_s_1 c]
      have := ih (a + 1) (by omega)
      exact ⟨by omega, fun _ => this.2.1 (by omega), this.2.2⟩
    · rw [t_s_0 c]
      exact ⟨Nat.le_refl _, fun h => h, c⟩
theorem t_ss {T : Nat → Int} {n a : Nat} : t_s T n (t_s T n a) = t_s T n a := t_s_0 (t_s_p (n - a) a rfl).2.2
/-- a byte is read: -1 at the end -/
def t_b (T : Nat → Int) (n a : Nat) : Int := if a < n then T a else -1
/-- the end of the digits from a on, and their value -/
def t_de (T : Nat → Int) (n : Nat) : Nat → Nat → Nat
  | 0, a => a
  | j + 1, a => if a < n ∧ 48 ≤ T a ∧ T a ≤ 57 then t_de T n j (a + 1) else a
def t_dv (T : Nat → Int) (n : Nat) : Nat → Nat → Int → Int
  | 0, _, v => v
  | j + 1, a, v => if a < n ∧ 48 ≤ T a ∧ T a ≤ 57 then t_dv T n j (a + 1) (min 1000000 (v * 10 + T a - 48)) else v
def t_C (T : Nat → Int) (n a : Nat) (fl fp : Int) (M : e_M) : Prop := M 2 2 = (n : Int) ∧ M 2 3 = (a : Int) ∧ M 2 4 = fl ∧ M 2 5 = fp ∧ ∀ j, j < 600 → M 3 j = q_sb (T j)
def t_m (T : Nat → Int) (n a : Nat) (fl fp : Int) (M : e_M) : Prop := M 64 2 = (n : Int) ∧ M 64 4 = (a : Int) ∧ M 64 5 = fl ∧ M 64 6 = fp ∧ ∀ j, j < 600 → M 65 j = T j
/-- only the reader's own cells change -/
def t_fC (M N : e_M) : Prop := ∀ a j, ¬ (a = 2 ∧ 3 ≤ j ∧ j ≤ 6) → N a j = M a j
def t_fm (M N : e_M) : Prop := ∀ a j, ¬ (a = 64 ∧ 4 ≤ j ∧ j ≤ 6) → N a j = M a j
theorem t_fC.rf {M : e_M} : t_fC M M := fun _ _ _ => rfl
theorem t_fm.rf {M : e_M} : t_fm M M := fun _ _ _ => rfl
theorem t_fC.tr {M N P : e_M} (h : t_fC M N) (g : t_fC N P) : t_fC M P := fun a j x => (g a j x).trans (h a j x)
theorem t_fm.tr {M N P : e_M} (h : t_fm M N) (g : t_fm N P) : t_fm M P := fun a j x => (g a j x).trans (h a j x)
theorem t_C_at {T : Nat → Int} {n a b : Nat} {fl fp : Int} {M : e_M} (h : t_C T n a fl fp M) : t_C T n b fl fp (e_up M 2 3 (b : Int)) ∧ t_fC M (e_up M 2 3 (b : Int)) := by
  obtain ⟨h1, h2, h3, h4, h5⟩ := h
  refine ⟨⟨by rw [u_c (by decide)]; exact h1, u_s _ _ _ _, by rw [u_c (by decide)]; exact h3, by rw [u_c (by decide)]; exact h4, fun j hj => by rw [u_r (by decide)]; exact h5 j hj⟩, fun c j x => ?_⟩
  by_cases e : c = 2
  · subst e; exact u_c (by omega)
  · exact u_r e
theorem t_m_at {T : Nat → Int} {n a b : Nat} {fl fp : Int} {M : e_M} (h : t_m T n a fl fp M) : t_m T n b fl fp (e_up M 64 4 (b : Int)) ∧ t_fm M (e_up M 64 4 (b : Int)) := by
  obtain ⟨h1, h2, h3, h4, h5⟩ := h
  refine ⟨⟨by rw [u_c (by decide)]; exact h1, u_s _ _ _ _, by rw [u_c (by decide)]; exact h3, by rw [u_c (by decide)]; exact h4, fun j hj => by rw [u_r (by decide)]; exact h5 j hj⟩, fun c j x => ?_⟩
  by_cases e : c = 64
  · subst e; exact u_c (by omega)
  · exact u_r e
theorem t_C_fl {T : Nat → Int} {n a : Nat} {fp k p : Int} {M : e_M} (h : t_C T n a 0 fp M) : f_X7_noteFlaw k p M = some (0, e_up (e_up M 2 4 k) 2 5 p) ∧ t_C T n a k p (e_up (e_up M 2 4 k) 2 5 p) ∧ t_fC M (e_up (e_up M 2 4 k) 2 5 p) := by
  obtain ⟨h1, h2, h3, h4, h5⟩ := h
  refine ⟨?_, ⟨by rw [u_c (by decide), u_c (by decide)]; exact h1, by rw [u_c (by decide), u_c (by decide)]; exact h2, by rw [u_c (by decide), u_s], u_s _ _ _ _, fun j hj => by rw [u_r (by decide), u_r (by decide)]; exact h5 j hj⟩, fun c j x => ?_⟩
  · unfold f_X7_noteFlaw
    rw [h3, if_neg (by decide)]
  · by_cases e : c = 2
    · subst e; rw [u_c (by omega), u_c (by omega)]
    · rw [u_r e, u_r e]
theorem t_m_fl {T : Nat → Int} {n a : Nat} {fp k p : Int} {M : e_M} (h : t_m T n a 0 fp M) : f_X11_wrong k p M = some (0, e_up (e_up M 64 5 k) 64 6 p) ∧ t_m T n a k p (e_up (e_up M 64 5 k) 64 6 p) ∧ t_fm M (e_up (e_up M 64 5 k) 64 6 p) := by
  obtain ⟨h1, h2, h3, h4, h5⟩ := h
  refine ⟨?_, ⟨by rw [u_c (by decide), u_c (by decide)]; exact h1, by rw [u_c (by decide), u_c (by decide)]; exact h2, by rw [u_c (by decide), u_s], u_s _ _ _ _, fun j hj => by rw [u_r (by decide), u_r (by decide)]; exact h5 j hj⟩, fun c j x => ?_⟩
  · unfold f_X11_wrong
    rw [h3, if_neg (by decide)]
  · by_cases e : c = 64
    · subst e; rw [u_c (by omega), u_c (by omega)]
    · rw [u_r e, u_r e]
theorem t_m_f2 {T : Nat → Int} {n a : Nat} {fl fp k p : Int} {M : e_M} (hf : fl ≠ 0) (h : t_m T n a fl fp M) : f_X11_wrong k p M = some (0, M) := by
  unfold f_X11_wrong
  rw [h.2.2.1, if_pos hf]
theorem t_C_f2 {T : Nat → Int} {n a : Nat} {fl fp k p : Int} {M : e_M} (hf : fl ≠ 0) (h : t_C T n a fl fp M) : f_X7_noteFlaw k p M = some (0, M) := by
  unfold f_X7_noteFlaw
  rw [h.2.2.1, if_pos hf]
section TX
variable {T : Nat → Int} {n : Nat}
theorem t_peek (hT : ∀ j, j < 600 → 0 ≤ T j ∧ T j ≤ 255) (hn : n ≤ 600) : ∀ (j a : Nat) (fl fp : Int) (M : e_M), n - a = j → a ≤ n → t_C T n a fl fp M → ∃ M', (∀ f, j < f → f_X7_peekSign f M = some (t_b T n (t_s T n a), M')) ∧ t_C T n (t_s T n a) fl fp M' ∧ t_fC M M' := by
  intro j
  induction j with
  | zero =>
    intro a fl fp M hj ha h
    refine ⟨M, fun f hf => ?_, by rw [t_s_0 (by omega)]; exact h, t_fC.rf⟩
    obtain ⟨f', rfl⟩ : ∃ f', f = f' + 1 := ⟨f - 1, by omega⟩
    show f_X7_peekSign_0 (f' + 1) M = _
    rw [f_X7_peekSign_0, h.1, h.2.1, if_pos (by omega), if_pos (by omega), t_s_0 (by omega)]
    unfold t_b
    rw [if_neg (by omega)]
  | succ j ih =>
    intro a fl fp M hj ha h
    have hb := h.2.2.2.2 a (by omega)
    have hTa := hT a (by omega)
    by_cases c : T a = 32
    · obtain ⟨k1, k2⟩ := t_C_at (b := a + 1) h
      obtain ⟨M', l1, l2, l3⟩ := ih (a + 1) fl fp (e_up M 2 3 ((a + 1 : Nat) : Int)) (by omega) (by omega) k1
      rw [t_s_1 ⟨by omega, c⟩]
      refine ⟨M', fun f hf => ?_, l2, k2.tr l3⟩
      obtain ⟨f', rfl⟩ : ∃ f', f = f' + 1 := ⟨f - 1, by omega⟩
      show f_X7_peekSign_0 (f' + 1) M = _
      rw [f_X7_peekSign_0, h.1, h.2.1, if_neg (by omega), if_pos (by omega), Int.toNat_natCast, hb, if_neg (not_not_intro (by unfold q_sb; rw [c]; decide)), y_ei (by omega)]
      exact l1 f' (by omega)
    · rw [t_s_0 (fun h => c h.2)]
      refine ⟨M, fun f hf => ?_, h, t_fC.rf⟩
      obtain ⟨f', rfl⟩ : ∃ f', f = f' + 1 := ⟨f - 1, by omega⟩
      show f_X7_peekSign_0 (f' + 1) M = _
      rw [f_X7_peekSign_0, h.1, h.2.1, if_neg (show ¬ (n : Int) ≤ (a : Int) by omega), if_pos (show 0 ≤ (a : Int) ∧ (a : Int) < 600 by omega), if_pos (show 0 ≤ (a : Int) ∧ (a : Int) < 600 by omega), if_neg (show ¬ (n : Int) ≤ (a : Int) by omega), Int.toNat_natCast, hb, if_pos (by unfold q_sb; split <;> omega), x_and]
      unfold t_b q_sb
      rw [if_pos (show a < n by omega)]
      split
      · rw [show T a % 256 = T a by omega]
      · rw [show (T a - 256) % 256 = T a by omega]
theorem t_by (hT : ∀ j, j < 600 → 0 ≤ T j ∧ T j ≤ 255) (hn : n ≤ 600) {a : Nat} {fl fp : Int} {M : e_M} (ha : a ≤ n) (h : t_m T n a fl fp M) : f_X11_byteAt (a : Int) M = some (t_b T n a, M) := by
  have _ := hT
  unfold f_X11_byteAt t_b
  rw [h.1]
  by_cases c : a < n
  · rw [if_pos (show (a : Int) < (n : Int) by omega), if_pos (show 0 ≤ (a : Int) ∧ (a : Int) < 600 by omega), Int.toNat_natCast, h.2.2.2.2 a (by omega), if_pos c]
  · rw [if_neg (show ¬ (a : Int) < (n : Int) by omega), if_neg c]
theorem t_bl (hT : ∀ j, j < 600 → 0 ≤ T j ∧ T j ≤ 255) (hn : n ≤ 600) : ∀ (j a : Nat) (fl fp : Int) (M : e_M), n - a = j → a ≤ n → t_m T n a fl fp M → ∃ M', (∀ f, j < f → f_X11_blanks f M = some (0, M')) ∧ t_m T n (t_s T n a) fl fp M' ∧ t_fm M M' := by
  intro j
  induction j with
  | zero =>
    intro a fl fp M hj ha h
    refine ⟨M, fun f hf => ?_, by rw [t_s_0 (by omega)]; exact h, t_fm.rf⟩
    obtain ⟨f', rfl⟩ : ∃ f', f = f' + 1 := ⟨f - 1, by omega⟩
    show f_X11_blanks_0 (f' + 1) M = _
    rw [f_X11_blanks_0, h.2.1, t_by hT hn ha h, f_bs]
    unfold t_b
    rw [if_neg (show ¬ a < n by omega), if_pos (by decide)]
  | succ j ih =>
    intro a fl fp M hj ha h
    by_cases c : T a = 32
    · obtain ⟨k1, k2⟩ := t_m_at (b := a + 1) h
      obtain ⟨M', l1, l2, l3⟩ := ih (a + 1) fl fp (e_up M 64 4 ((a + 1 : Nat) : Int)) (by omega) (by omega) k1
      rw [t_s_1 ⟨by omega, c⟩]
      refine ⟨M', fun f hf => ?_, l2, k2.tr l3⟩
      obtain ⟨f', rfl⟩ : ∃ f', f = f' + 1 := ⟨f - 1, by omega⟩
      show f_X11_blanks_0 (f' + 1) M = _
      rw [f_X11_blanks_0, h.2.1, t_by hT hn ha h, f_bs]
      unfold t_b
      rw [if_pos (show a < n by omega), if_neg (not_not_intro c), h.2.1, y_ei (by omega)]
      exact l1 f' (by omega)
    · rw [t_s_0 (fun h => c h.2)]
      refine ⟨M, fun f hf => ?_, h, t_fm.rf⟩
      obtain ⟨f', rfl⟩ : ∃ f', f = f' + 1 := ⟨f - 1, by omega⟩
      show f_X11_blanks_0 (f' + 1) M = _
      rw [f_X11_blanks_0, h.2.1, t_by hT hn ha h, f_bs]
      unfold t_b
      rw [if_pos (show a < n by omega), if_pos c]
end TX
