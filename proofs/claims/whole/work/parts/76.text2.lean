/-! TEXTS, 2: numbers and signs -/
theorem t_de_1 {T : Nat → Int} {n j a : Nat} (h : a < n ∧ 48 ≤ T a ∧ T a ≤ 57) : t_de T n (j + 1) a = t_de T n j (a + 1) := if_pos h
theorem t_de_0 {T : Nat → Int} {n j a : Nat} (h : ¬ (a < n ∧ 48 ≤ T a ∧ T a ≤ 57)) : t_de T n j a = a := by
  cases j with
  | zero => rfl
  | succ j => exact if_neg h
theorem t_dv_1 {T : Nat → Int} {n j a : Nat} {v : Int} (h : a < n ∧ 48 ≤ T a ∧ T a ≤ 57) : t_dv T n (j + 1) a v = t_dv T n j (a + 1) (min 1000000 (v * 10 + T a - 48)) := if_pos h
theorem t_dv_0 {T : Nat → Int} {n j a : Nat} {v : Int} (h : ¬ (a < n ∧ 48 ≤ T a ∧ T a ≤ 57)) : t_dv T n j a v = v := by
  cases j with
  | zero => rfl
  | succ j => exact if_neg h
theorem t_de_r {T : Nat → Int} {n : Nat} : ∀ (j a : Nat), n - a = j → a ≤ n → a ≤ t_de T n j a ∧ t_de T n j a ≤ n
  | 0, a, h, ha => ⟨Nat.le_refl _, ha⟩
  | j + 1, a, h, ha => by
    by_cases c : a < n ∧ 48 ≤ T a ∧ T a ≤ 57
    · rw [t_de_1 c]
      have := t_de_r (T := T) (n := n) j (a + 1) (by omega) (by omega)
      omega
    · rw [t_de_0 c]
      exact ⟨Nat.le_refl _, ha⟩
theorem t_dg {x : Int} (h : 0 ≤ x ∧ x ≤ 255) : (48 ≤ q_sb x ∧ q_sb x ≤ 57) ↔ (48 ≤ x ∧ x ≤ 57) := by
  unfold q_sb
  split <;> omega
theorem t_isd {x : Int} {M : e_M} : f_X7_isDigit x M = some (if 48 ≤ x ∧ x ≤ 57 then 1 else 0, M) := by
  unfold f_X7_isDigit
  by_cases c : x < 48
  · rw [if_pos c, if_neg (by omega)]
  · rw [if_neg c]
    by_cases d : 57 < x
    · rw [if_pos d, if_neg (by omega)]
    · rw [if_neg d, if_pos (by omega)]
theorem t_ism {x : Int} {M : e_M} : f_X11_isDigit x M = some (if 48 ≤ x ∧ x ≤ 57 then 1 else 0, M) := by
  unfold f_X11_isDigit
  by_cases c : x < 48
  · rw [if_pos c, if_neg (by omega)]
  · rw [if_neg c]
    by_cases d : 57 < x
    · rw [if_pos d, if_neg (by omega)]
    · rw [if_neg d, if_pos (by omega)]
section TN
variable {T : Nat → Int} {n : Nat} {lo hi : Int}
theorem t_n37e {V fp : Int} {a s : Nat} {M : e_M} (h : t_C T n a 0 fp M) (h6 : M 2 6 = (s : Int)) : ∃ M', (if V < lo then (f_b (f_X7_noteFlaw 2 (M 2 6) M) fun _ NN10 => (some ((-1 : Int), NN10))) else (if V ≤ hi then (some (V, M)) else (f_b (f_X7_noteFlaw 2 (M 2 6) M) fun _ NN8 => (some ((-1), NN8))))) = some (if lo ≤ V ∧ V ≤ hi then V else -1, M') ∧ t_C T n a (if lo ≤ V ∧ V ≤ hi then 0 else 2) (if lo ≤ V ∧ V ≤ hi then fp else (s : Int)) M' ∧ M' 2 6 = (s : Int) ∧ t_fC M M' := by
  by_cases c : lo ≤ V ∧ V ≤ hi
  · refine ⟨M, ?_, by rw [if_pos c, if_pos c]; exact h, h6, t_fC.rf⟩
    rw [if_neg (by omega), if_pos c.2, if_pos c]
  · obtain ⟨k1, k2, k3⟩ := t_C_fl (k := 2) (p := (s : Int)) h
    refine ⟨_, ?_, by rw [if_neg c, if_neg c]; exact k2, by rw [u_c (by decide), u_c (by decide)]; exact h6, k3⟩
    rw [h6, k1, if_neg c, f_bs]
    by_cases d : V < lo
    · rw [if_pos d]
    · rw [if_neg d, if_neg (by omega)]
theorem t_n37 (hT : ∀ j, j < 600 → 0 ≤ T j ∧ T j ≤ 255) (hn : n ≤ 600) {fp : Int} {s : Nat} : ∀ (j a : Nat) (v : Int) (M : e_M), n - a = j → a ≤ n → 0 ≤ v → v ≤ 1000000 → t_C T n a 0 fp M → M 2 6 = (s : Int) → ∃ M', (∀ f, j < f → f_X7_readNumber_37 f lo hi v M = some (if lo ≤ t_dv T n j a v ∧ t_dv T n j a v ≤ hi then t_dv T n j a v else -1, M')) ∧ t_C T n (t_de T n j a) (if lo ≤ t_dv T n j a v ∧ t_dv T n j a v ≤ hi then 0 else 2) (if lo ≤ t_dv T n j a v ∧ t_dv T n j a v ≤ hi then fp else (s : Int)) M' ∧ M' 2 6 = (s : Int) ∧ t_fC M M' := by
  intro j
  induction j with
  | zero =>
    intro a v M hj ha hv0 hv1 h h6
    obtain ⟨M', k1, k2, k3, k4⟩ := t_n37e (lo := lo) (hi := hi) (V := v) h h6
    refine ⟨M', fun f hf => ?_, k2, k3, k4⟩
    obtain ⟨f', rfl⟩ : ∃ f', f = f' + 1 := ⟨f - 1, by omega⟩
    rw [f_X7_readNumber_37, h.1, h.2.1, if_pos (show (n : Int) ≤ (a : Int) by omega)]
    exact k1
  | succ j ih =>
    intro a v M hj ha hv0 hv1 h h6
    have hb := h.2.2.2.2 a (by omega)
    have hTa := hT a (by omega)
    by_cases c : a < n ∧ 48 ≤ T a ∧ T a ≤ 57
    · obtain ⟨k1, k2⟩ := t_C_at (b := a + 1) h
      obtain ⟨M', l1, l2, l3, l4⟩ := ih (a + 1) (min 1000000 (v * 10 + T a - 48)) (e_up M 2 3 ((a + 1 : Nat) : Int)) (by omega) (by omega) (by omega) (by omega) k1 (by rw [u_c (by decide)]; exact h6)
      rw [t_dv_1 c, t_de_1 c]
      refine ⟨M', fun f hf => ?_, l2, l3, k2.tr l4⟩
      obtain ⟨f', rfl⟩ : ∃ f', f = f' + 1 := ⟨f - 1, by omega⟩
      have eq : q_sb (T a) = T a := by unfold q_sb; rw [if_pos (by omega)]
      rw [f_X7_readNumber_37, h.1, h.2.1, if_neg (show ¬ (n : Int) ≤ (a : Int) by omega), if_pos (show 0 ≤ (a : Int) ∧ (a : Int) < 600 by omega), Int.toNat_natCast, hb, eq, t_isd, f_bs, if_pos (show 48 ≤ T a ∧ T a ≤ 57 by omega), if_neg (by decide), h.2.1, if_pos (show 0 ≤ (a : Int) ∧ (a : Int) < 600 by omega), Int.toNat_natCast, hb, eq, e_ws_ (x := v * 10) (by omega) (by omega), e_ws_ (x := v * 10 + T a) (by omega) (by omega), e_ws_ (x := v * 10 + T a - 48) (by omega) (by omega), y_ei (by omega)]
      exact l1 f' (by omega)
    · rw [t_dv_0 c, t_de_0 c]
      obtain ⟨M', k1, k2, k3, k4⟩ := t_n37e (lo := lo) (hi := hi) (V := v) h h6
      refine ⟨M', fun f hf => ?_, k2, k3, k4⟩
      obtain ⟨f', rfl⟩ : ∃ f', f = f' + 1 := ⟨f - 1, by omega⟩
      rw [f_X7_readNumber_37, h.1, h.2.1, if_neg (show ¬ (n : Int) ≤ (a : Int) by omega), if_pos (show 0 ≤ (a : Int) ∧ (a : Int) < 600 by omega), Int.toNat_natCast, hb, t_isd, f_bs, if_neg (show ¬ (48 ≤ q_sb (T a) ∧ q_sb (T a) ≤ 57) by rw [t_dg hTa]; omega), if_pos rfl]
      exact k1
theorem t_n44e (hT : ∀ j, j < 600 → 0 ≤ T j ∧ T j ≤ 255) (hn : n ≤ 600) (hh : hi < 100000) {fp V : Int} {a s : Nat} {M : e_M} (ha : a ≤ n) (hd : ¬ (a < n ∧ 48 ≤ T a ∧ T a ≤ 57)) (h : t_m T n a 0 fp M) : ∃ M', (∀ f, 0 < f → f_X11_number_44 f lo hi (s : Int) (min V 100000) M = some (if lo ≤ V ∧ V ≤ hi then V else 0, M')) ∧ t_m T n a (if lo ≤ V ∧ V ≤ hi then 0 else 2) (if lo ≤ V ∧ V ≤ hi then fp else (s : Int)) M' ∧ t_fm M M' := by
  have hnd : ¬ (48 ≤ t_b T n a ∧ t_b T n a ≤ 57) := by
    unfold t_b
    split <;> omega
  by_cases c : lo ≤ V ∧ V ≤ hi
  · refine ⟨M, fun f hf => ?_, by rw [if_pos c, if_pos c]; exact h, t_fm.rf⟩
    obtain ⟨f', rfl⟩ : ∃ f', f = f' + 1 := ⟨f - 1, by omega⟩
    rw [f_X11_number_44, h.2.1, t_by hT hn ha h, f_bs, t_ism, f_bs, if_neg hnd, if_pos rfl, show min V 100000 = V by omega, r_in, f_bs, if_pos c, if_pos (by decide), h.2.2.1, if_neg (by decide), if_pos c]
  · obtain ⟨k1, k2, k3⟩ := t_m_fl (k := 2) (p := (s : Int)) h
    refine ⟨_, fun f hf => ?_, by rw [if_neg c, if_neg c]; exact k2, k3⟩
    obtain ⟨f', rfl⟩ : ∃ f', f = f' + 1 := ⟨f - 1, by omega⟩
    rw [f_X11_number_44, h.2.1, t_by hT hn ha h, f_bs, t_ism, f_bs, if_neg hnd, if_pos rfl, r_in, f_bs, if_neg (show ¬ (lo ≤ min V 100000 ∧ min V 100000 ≤ hi) by omega), if_neg (by decide), k1, f_bs, k2.2.2.1, if_pos (by decide), if_neg c]
theorem t_n44 (hT : ∀ j, j < 600 → 0 ≤ T j ∧ T j ≤ 255) (hn : n ≤ 600) (hh : hi < 100000) {fp : Int} {s : Nat} : ∀ (j a : Nat) (v : Int) (M : e_M), n - a = j → a ≤ n → 0 ≤ v → v ≤ 1000000 → t_m T n a 0 fp M → ∃ M', (∀ f, j < f → f_X11_number_44 f lo hi (s : Int) (min v 100000) M = some (if lo ≤ t_dv T n j a v ∧ t_dv T n j a v ≤ hi then t_dv T n j a v else 0, M')) ∧ t_m T n (t_de T n j a) (if lo ≤ t_dv T n j a v ∧ t_dv T n j a v ≤ hi then 0 else 2) (if lo ≤ t_dv T n j a v ∧ t_dv T n j a v ≤ hi then fp else (s : Int)) M' ∧ t_fm M M' := by
  intro j
  induction j with
  | zero =>
    intro a v M hj ha hv0 hv1 h
    obtain ⟨M', k1, k2, k3⟩ := t_n44e (lo := lo) (s := s) hT hn hh (V := v) ha (by omega) h
    exact ⟨M', k1, k2, k3⟩
  | succ j ih =>
    intro a v M hj ha hv0 hv1 h
    have hTa := hT a (by omega)
    by_cases c : a < n ∧ 48 ≤ T a ∧ T a ≤ 57
    · obtain ⟨k1, k2⟩ := t_m_at (b := a + 1) h
      obtain ⟨M', l1, l2, l4⟩ := ih (a + 1) (min 1000000 (v * 10 + T a - 48)) (e_up M 64 4 ((a + 1 : Nat) : Int)) (by omega) (by omega) (by omega) (by omega) k1
      rw [t_dv_1 c, t_de_1 c]
      refine ⟨M', fun f hf => ?_, l2, k2.tr l4⟩
      obtain ⟨f', rfl⟩ : ∃ f', f = f' + 1 := ⟨f - 1, by omega⟩
      have hb : t_b T n a = T a := by unfold t_b; rw [if_pos c.1]
      have l1' := l1 f' (by omega)
      rw [f_X11_number_44, h.2.1, t_by hT hn ha h, f_bs, t_ism, f_bs, hb, if_pos (show 48 ≤ T a ∧ T a ≤ 57 by omega), if_neg (by decide), h.2.1, t_by hT hn ha h, f_bs, hb, e_ws_ (x := 10 * min v 100000) (by omega) (by omega), e_ws_ (x := 10 * min v 100000 + T a) (by omega) (by omega), e_ws_ (x := 10 * min v 100000 + T a - 48) (by omega) (by omega), h.2.1, y_ei (by omega)]
      by_cases d : 10 * min v 100000 + T a - 48 ≤ 100000
      · rw [if_pos d, show 10 * min v 100000 + T a - 48 = min (min 1000000 (v * 10 + T a - 48)) 100000 by omega]
        exact l1'
      · rw [if_neg d]
        rw [show min (min 1000000 (v * 10 + T a - 48)) 100000 = 100000 by omega] at l1'
        exact l1'
    · rw [t_dv_0 c, t_de_0 c]
      obtain ⟨M', k1, k2, k3⟩ := t_n44e (lo := lo) (s := s) hT hn hh (V := v) ha c h
      exact ⟨M', fun f hf => k1 f (by omega), k2, k3⟩
end TN
/-- a number is read: its flaw (0 none), its end, its value -/
def t_nf (T : Nat → Int) (n : Nat) (lo hi : Int) (s : Nat) : Int := if s < n ∧ 48 ≤ T s ∧ T s ≤ 57 then (if lo ≤ t_dv T n (n - s) s 0 ∧ t_dv T n (n - s) s 0 ≤ hi then 0 else 2) else 1
def t_na (T : Nat → Int) (n s : Nat) : Nat := if s < n ∧ 48 ≤ T s ∧ T s ≤ 57 then t_de T n (n - s) s else s
def t_nv (T : Nat → Int) (n s : Nat) : Int := t_dv T n (n - s) s 0
section TO
variable {T : Nat → Int} {n : Nat} {lo hi : Int}
theorem t_rn (hT : ∀ j, j < 600 → 0 ≤ T j ∧ T j ≤ 255) (hn : n ≤ 600) {fp : Int} {a : Nat} {M : e_M} (ha : a ≤ n) (h : t_C T n a 0 fp M) : ∃ M', (∀ f, 601 < f → f_X7_readNumber f lo hi M = some (if t_nf T n lo hi (t_s T n a) = 0 then t_nv T n (t_s T n a) else -1, M')) ∧ t_C T n (t_na T n (t_s T n a)) (t_nf T n lo hi (t_s T n a)) (if t_nf T n lo hi (t_s T n a) = 0 then fp else (t_s T n a : Int)) M' ∧ (t_nf T n lo hi (t_s T n a) = 0 → M' 2 6 = (t_s T n a : Int)) ∧ t_fC M M' := by
  obtain ⟨M1, k1, k2, k3⟩ := t_peek hT hn (n - a) a 0 fp M rfl ha h
  have hs := t_s_p (T := T) (n - a) a rfl
  have hsn := hs.2.1 ha
  generalize t_s T n a = s at *
  by_cases c : s < n ∧ 48 ≤ T s ∧ T s ≤ 57
  · have hb : t_b T n s = T s := by unfold t_b; rw [if_pos c.1]
    have k2' : t_C T n s 0 fp (e_up M1 2 6 (s : Int)) := ⟨by rw [u_c (by decide)]; exact k2.1, by rw [u_c (by decide)]; exact k2.2.1, by rw [u_c (by decide)]; exact k2.2.2.1, by rw [u_c (by decide)]; exact k2.2.2.2.1, fun j hj => by rw [u_r (by decide)]; exact k2.2.2.2.2 j hj⟩
    have k3' : t_fC M1 (e_up M1 2 6 (s : Int)) := fun c j x => by
      by_cases e : c = 2
      · subst e; exact u_c (by omega)
      · exact u_r e
    obtain ⟨M2, l1, l2, l3, l4⟩ := t_n37 (lo := lo) (hi := hi) hT hn (n - s) s 0 (e_up M1 2 6 (s : Int)) rfl hsn (by omega) (by omega) k2' (u_s _ _ _ _)
    have enf : t_nf T n lo hi s = if lo ≤ t_dv T n (n - s) s 0 ∧ t_dv T n (n - s) s 0 ≤ hi then 0 else 2 := if_pos c
    have ena : t_na T n s = t_de T n (n - s) s := if_pos c
    rw [enf, ena]
    unfold t_nv
    refine ⟨M2, fun f hf => ?_, ?_, fun _ => l3, k3.tr (k3'.tr l4)⟩
    · unfold f_X7_readNumber f_X7_atDigit
      rw [h.2.2.1, if_pos rfl, k1 f (by omega), f_bs, hb, t_isd, f_bs, if_pos (show 48 ≤ T s ∧ T s ≤ 57 by omega), if_pos (by decide), f_bs, if_pos (by decide), k2.2.1, l1 f (by omega)]
      by_cases d : lo ≤ t_dv T n (n - s) s 0 ∧ t_dv T n (n - s) s 0 ≤ hi
      · rw [if_pos d, if_pos d, if_pos rfl]
      · rw [if_neg d, if_neg d, if_neg (by decide)]
    · by_cases d : lo ≤ t_dv T n (n - s) s 0 ∧ t_dv T n (n - s) s 0 ≤ hi
      · rw [if_pos d, if_pos d] at l2
        rw [if_pos d, if_pos rfl]; exact l2
      · rw [if_neg d, if_neg d] at l2
        rw [if_neg d, if_neg (by decide)]; exact l2
  · have enf : t_nf T n lo hi s = 1 := if_neg c
    have ena : t_na T n s = s := if_neg c
    rw [enf, ena]
    obtain ⟨l1, l2, l3⟩ := t_C_fl (k := 1) (p := (s : Int)) k2
    have hnd : ¬ (48 ≤ t_b T n s ∧ t_b T n s ≤ 57) := by
      unfold t_b
      split <;> omega
    refine ⟨_, fun f hf => ?_, by rw [if_neg (by decide)]; exact l2, fun h => absurd h (by decide), k3.tr l3⟩
    unfold f_X7_readNumber f_X7_atDigit
    rw [h.2.2.1, if_pos rfl, k1 f (by omega), f_bs, t_isd, f_bs, if_neg hnd, if_pos (by decide), f_bs, if_neg (by decide), k2.2.1, l1, f_bs, if_neg (by decide)]
theorem t_mn (hT : ∀ j, j < 600 → 0 ≤ T j ∧ T j ≤ 255) (hn : n ≤ 600) (hh : hi < 100000) {fp : Int} {a : Nat} {M : e_M} (ha : a ≤ n) (h : t_m T n a 0 fp M) : ∃ M', (∀ f, 601 < f → f_X11_number f lo hi M = some (if t_nf T n lo hi (t_s T n a) = 0 then t_nv T n (t_s T n a) else 0, M')) ∧ t_m T n (t_na T n (t_s T n a)) (t_nf T n lo hi (t_s T n a)) (if t_nf T n lo hi (t_s T n a) = 0 then fp else (t_s T n a : Int)) M' ∧ t_fm M M' := by
  obtain ⟨M1, k1, k2, k3⟩ := t_bl hT hn (n - a) a 0 fp M rfl ha h
  have hs := t_s_p (T := T) (n - a) a rfl
  have hsn := hs.2.1 ha
  generalize t_s T n a = s at *
  by_cases c : s < n ∧ 48 ≤ T s ∧ T s ≤ 57
  · have hb : t_b T n s = T s := by unfold t_b; rw [if_pos c.1]
    obtain ⟨M2, l1, l2, l4⟩ := t_n44 (lo := lo) (hi := hi) (s := s) hT hn hh (n - s) s 0 M1 rfl hsn (by omega) (by omega) k2
    have enf : t_nf T n lo hi s = if lo ≤ t_dv T n (n - s) s 0 ∧ t_dv T n (n - s) s 0 ≤ hi then 0 else 2 := if_pos c
    have ena : t_na T n s = t_de T n (n - s) s := if_pos c
    rw [enf, ena]
    unfold t_nv
    refine ⟨M2, fun f hf => ?_, ?_, k3.tr l4⟩
    · have l1' := l1 f (by omega)
      rw [show min (0 : Int) 100000 = 0 by decide] at l1'
      unfold f_X11_number
      rw [h.2.2.1, if_pos rfl, k1 f (by omega), f_bs, k2.2.1, t_by hT hn hsn k2, f_bs, hb, t_ism, f_bs, if_pos (show 48 ≤ T s ∧ T s ≤ 57 by omega), if_pos (by decide), l1']
      by_cases d : lo ≤ t_dv T n (n - s) s 0 ∧ t_dv T n (n - s) s 0 ≤ hi
      · rw [if_pos d, if_pos d, if_pos rfl]
      · rw [if_neg d, if_neg d, if_neg (by decide)]
    · by_cases d : lo ≤ t_dv T n (n - s) s 0 ∧ t_dv T n (n - s) s 0 ≤ hi
      · rw [if_pos d, if_pos d] at l2
        rw [if_pos d, if_pos rfl]; exact l2
      · rw [if_neg d, if_neg d] at l2
        rw [if_neg d, if_neg (by decide)]; exact l2
  · have enf : t_nf T n lo hi s = 1 := if_neg c
    have ena : t_na T n s = s := if_neg c
    rw [enf, ena]
    obtain ⟨l1, l2, l3⟩ := t_m_fl (k := 1) (p := (s : Int)) k2
    have hnd : ¬ (48 ≤ t_b T n s ∧ t_b T n s ≤ 57) := by
      unfold t_b
      split <;> omega
    refine ⟨_, fun f hf => ?_, by rw [if_neg (by decide)]; exact l2, k3.tr l3⟩
    obtain ⟨f', rfl⟩ : ∃ f', f = f' + 1 := ⟨f - 1, by omega⟩
    unfold f_X11_number
    rw [h.2.2.1, if_pos rfl, k1 (f' + 1) (by omega), f_bs, k2.2.1, t_by hT hn hsn k2, f_bs, t_ism, f_bs, if_neg hnd, if_neg (by decide), k2.2.1, l1, f_bs, f_X11_number_44, l2.2.1, t_by hT hn hsn l2, f_bs, t_ism, f_bs, if_neg hnd, if_pos rfl, r_in, f_bs, if_neg (show ¬ (1 : Int) = 0 by decide)]
    by_cases d : lo ≤ 0 ∧ 0 ≤ hi
    · rw [if_pos d, if_pos (by decide), l2.2.2.1, if_pos (by decide)]
    · rw [if_neg d, if_neg (by decide), t_m_f2 (by decide) l2, f_bs, l2.2.2.1, if_pos (by decide)]
/-- a sign is expected -/
def t_gf (T : Nat → Int) (n : Nat) (c : Int) (s : Nat) : Int := if t_b T n s = c then 0 else 1
def t_ga (T : Nat → Int) (n : Nat) (c : Int) (s : Nat) : Nat := if t_b T n s = c then s + 1 else s
theorem t_es (hT : ∀ j, j < 600 → 0 ≤ T j ∧ T j ≤ 255) (hn : n ≤ 600) {fp c : Int} {a : Nat} {M : e_M} (ha : a ≤ n) (h : t_C T n a 0 fp M) : ∃ M', (∀ f, 601 < f → f_X7_expectSign f c M = some (0, M')) ∧ t_C T n (t_ga T n c (t_s T n a)) (t_gf T n c (t_s T n a)) (if t_gf T n c (t_s T n a) = 0 then fp else (t_s T n a : Int)) M' ∧ t_fC M M' := by
  obtain ⟨M1, k1, k2, k3⟩ := t_peek hT hn (n - a) a 0 fp M rfl ha h
  have hs := t_s_p (T := T) (n - a) a rfl
  have hsn := hs.2.1 ha
  generalize t_s T n a = s at *
  unfold t_gf t_ga
  by_cases d : t_b T n s = c
  · obtain ⟨l1, l2⟩ := t_C_at (b := s + 1) k2
    rw [if_pos d, if_pos d, if_pos rfl]
    refine ⟨_, fun f hf => ?_, l1, k3.tr l2⟩
    unfold f_X7_expectSign
    rw [h.2.2.1, if_neg (by decide), k1 f (by omega), f_bs, if_pos d, k2.2.1, y_ei (by omega)]
  · obtain ⟨l1, l2, l3⟩ := t_C_fl (k := 1) (p := (s : Int)) k2
    rw [if_neg d, if_neg d, if_neg (by decide)]
    refine ⟨_, fun f hf => ?_, l2, k3.tr l3⟩
    unfold f_X7_expectSign
    rw [h.2.2.1, if_neg (by decide), k1 f (by omega), f_bs, if_neg d, k2.2.1, l1, f_bs]
theorem t_ms (hT : ∀ j, j < 600 → 0 ≤ T j ∧ T j ≤ 255) (hn : n ≤ 600) {fp c : Int} {a : Nat} {M : e_M} (ha : a ≤ n) (h : t_m T n a 0 fp M) : ∃ M', (∀ f, 601 < f → f_X11_sign f c M = some (0, M')) ∧ t_m T n (t_ga T n c (t_s T n a)) (t_gf T n c (t_s T n a)) (if t_gf T n c (t_s T n a) = 0 then fp else (t_s T n a : Int)) M' ∧ t_fm M M' := by
  obtain ⟨M1, k1, k2, k3⟩ := t_bl hT hn (n - a) a 0 fp M rfl ha h
  have hs := t_s_p (T := T) (n - a) a rfl
  have hsn := hs.2.1 ha
  generalize t_s T n a = s at *
  unfold t_gf t_ga
  by_cases d : t_b T n s = c
  · obtain ⟨l1, l2⟩ := t_m_at (b := s + 1) k2
    rw [if_pos d, if_pos d, if_pos rfl]
    refine ⟨_, fun f hf => ?_, l1, k3.tr l2⟩
    unfold f_X11_sign
    rw [h.2.2.1, if_pos rfl, k1 f (by omega), f_bs, k2.2.1, t_by hT hn hsn k2, f_bs, if_neg (not_not_intro d), k2.2.1, y_ei (by omega)]
  · obtain ⟨l1, l2, l3⟩ := t_m_fl (k := 1) (p := (s : Int)) k2
    rw [if_neg d, if_neg d, if_neg (by decide)]
    refine ⟨_, fun f hf => ?_, l2, k3.tr l3⟩
    unfold f_X11_sign
    rw [h.2.2.1, if_pos rfl, k1 f (by omega), f_bs, k2.2.1, t_by hT hn hsn k2, f_bs, if_pos d, k2.2.1, l1, f_bs]
end TO
