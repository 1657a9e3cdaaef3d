/-! TEXTS, 12: the words of a law and of a work, by the model -/
theorem t_tk {T : Nat → Int} {n s j i len : Nat} {fp V c1 c2 c3 c4 c5 c6 : Int} {M : e_M} (hT : ∀ j, j < 600 → 0 ≤ T j ∧ T j ≤ 255) (hn : n ≤ 600) (hs : s ≤ n) (hss : t_s T n s = s) (h : t_m T n s 0 fp M) (hl : len ≤ 6) (hw : ∀ k, k < len → 97 ≤ e_sg j (i + k) ∧ e_sg j (i + k) ≤ 122) (hV : t_cw (e_sg j) i len = V) (h6 : ∀ N : e_M, f_X11_six c1 c2 c3 c4 c5 c6 N = some (V, N)) : ∃ M', (∀ f, 601 < f → f_X11_takes f c1 c2 c3 c4 c5 c6 M = some (if t_mt j T s (t_we T n (n - s) s) i len = true then 1 else 0, M')) ∧ t_m T n (if t_mt j T s (t_we T n (n - s) s) i len = true then t_we T n (n - s) s else s) 0 fp M' ∧ t_fm M M' := by
  obtain ⟨M1, a1, a2, a3⟩ := t_isw hT hn hs h hl hw hV h6
  rw [hss] at a1 a2
  by_cases c : t_mt j T s (t_we T n (n - s) s) i len = true
  · obtain ⟨M2, b1, b2, b3⟩ := t_skw hT hn (n - s) s M1 rfl hs a2
    rw [if_pos c] at a1
    rw [if_pos c, if_pos c]
    refine ⟨M2, fun f hf => ?_, b2, a3.tr b3⟩
    unfold f_X11_takes
    rw [a1 f hf, f_bs, if_neg (show ¬ (1 : Int) = 0 by decide), b1 f (by omega), f_bs, if_pos (Or.inr rfl)]
  · rw [if_neg c] at a1
    rw [if_neg c, if_neg c]
    refine ⟨M1, fun f hf => ?_, a2, a3⟩
    unfold f_X11_takes
    rw [a1 f hf, f_bs, if_pos rfl, if_pos (Or.inl rfl)]
theorem t_s7 {T : Nat → Int} {n s : Nat} {fl fp p1 p2 : Int} {M M2 : e_M} (hT : ∀ j, j < 600 → 0 ≤ T j ∧ T j ≤ 255) (hn : n ≤ 600) (h : t_m T n s fl fp M) (hsk : ∀ f, 601 < f → f_X11_skipWord f M = some (0, M2)) : ∀ (j k : Nat), n - (s + k) = j → s + k ≤ n → (∀ i, i < k → 97 ≤ T (s + i) ∧ T (s + i) ≤ 122) → ∀ f, j + 602 < f → f_X11_isSeven_18 f p1 p2 (t_cw T s (min k 6)) (k : Int) M = some (if t_we T n j (s + k) = s + 7 ∧ t_cw T s 6 = p1 ∧ T (s + 6) = p2 then (1, M2) else (0, M)) := by
  intro j
  have stop : ∀ (j k : Nat), s + k ≤ n → ¬ (s + k < n ∧ 97 ≤ T (s + k) ∧ T (s + k) ≤ 122) → ∀ f, 601 < f → f_X11_isSeven_18 (f + 1) p1 p2 (t_cw T s (min k 6)) (k : Int) M = some (if t_we T n j (s + k) = s + 7 ∧ t_cw T s 6 = p1 ∧ T (s + 6) = p2 then (1, M2) else (0, M)) := by
    intro j k hk c f hf
    have hnb : ¬ (97 ≤ t_b T n (s + k) ∧ t_b T n (s + k) ≤ 122) := by
      unfold t_b
      split <;> omega
    rw [f_X11_isSeven_18, h.2.1, show e_w ((s : Int) + (k : Int)) = ((s + k : Nat) : Int) from z_w (by omega), t_by2 hn hk h, f_bs, t_sml, f_bs, if_neg hnb, if_pos rfl, t_we_0 c]
    by_cases d : k = 7
    · subst d
      rw [if_neg (show ¬ ¬ ((7 : Nat) : Int) = 7 by decide), show min 7 6 = 6 from rfl]
      by_cases d1 : t_cw T s 6 = p1
      · have hb : t_b T n (s + 6) = T (s + 6) := by unfold t_b; rw [if_pos (by omega)]
        rw [if_neg (not_not_intro d1), h.2.1, show e_w ((s : Int) + 6) = ((s + 6 : Nat) : Int) from z_w (c := 6) (by omega), t_by2 hn (by omega) h, f_bs, hb]
        by_cases d2 : T (s + 6) = p2
        · rw [if_neg (not_not_intro d2), hsk f hf, f_bs, if_pos ⟨rfl, d1, d2⟩]
        · rw [if_pos d2, if_neg (fun x => d2 x.2.2)]
      · rw [if_pos d1, if_neg (fun x => d1 x.2.1)]
    · rw [if_pos (show ¬ (k : Int) = 7 by omega), if_neg (fun x => d (by omega))]
  induction j with
  | zero =>
    intro k hj hk hl f hf
    obtain ⟨f', rfl⟩ : ∃ f', f = f' + 1 := ⟨f - 1, by omega⟩
    exact stop 0 k hk (by omega) f' (by omega)
  | succ j ih =>
    intro k hj hk hl f hf
    obtain ⟨f', rfl⟩ : ∃ f', f = f' + 1 := ⟨f - 1, by omega⟩
    by_cases c : s + k < n ∧ 97 ≤ T (s + k) ∧ T (s + k) ≤ 122
    · have hb : t_b T n (s + k) = T (s + k) := by unfold t_b; rw [if_pos c.1]
      have hi := ih (k + 1) (by omega) (by omega) (fun i hi => by
        by_cases e : i = k
        · rw [e]; exact c.2
        · exact hl i (by omega)) f' (by omega)
      rw [t_we_1 c, f_X11_isSeven_18, h.2.1, show e_w ((s : Int) + (k : Int)) = ((s + k : Nat) : Int) from z_w (by omega), t_by2 hn hk h, f_bs, t_sml, f_bs, hb, if_pos c.2, if_neg (show ¬ (1 : Int) = 0 by decide)]
      by_cases d : 6 ≤ k
      · rw [if_pos (show (6 : Int) ≤ (k : Int) by omega), y_ei (by omega), show min k 6 = min (k + 1) 6 by omega]
        exact hi
      · have hr := t_cw_r (T := T) (s := s) k hl
        have h5 := t_cb5 (k := k) (by omega)
        rw [if_neg (show ¬ (6 : Int) ≤ (k : Int) by omega), h.2.1, show e_w ((s : Int) + (k : Int)) = ((s + k : Nat) : Int) from z_w (by omega), t_by2 hn hk h, f_bs, hb, y_ei (by omega), show min k 6 = k by omega, e_ws_ (x := 27 * t_cw T s k) (by omega) (by omega), e_ws_ (x := 27 * t_cw T s k + T (s + k)) (by omega) (by omega), e_ws_ (x := 27 * t_cw T s k + T (s + k) - 97) (by omega) (by omega), e_ws_ (x := 27 * t_cw T s k + T (s + k) - 97 + 1) (by omega) (by omega)]
        rw [show min (k + 1) 6 = k + 1 by omega] at hi
        rw [show 27 * t_cw T s k + T (s + k) - 97 + 1 = t_cw T s (k + 1) by show _ = 27 * t_cw T s k + (T (s + k) - 96); omega]
        exact hi
    · exact stop (j + 1) k hk c f' (by omega)
theorem t_is7 {T : Nat → Int} {n s : Nat} {fp : Int} {M : e_M} (hT : ∀ j, j < 600 → 0 ≤ T j ∧ T j ≤ 255) (hn : n ≤ 600) (hs : s ≤ n) (hss : t_s T n s = s) (h : t_m T n s 0 fp M) : ∃ M', (∀ f, 1203 < f → f_X11_isSeven f 278664332 100 M = some (if t_mt 2 T s (t_we T n (n - s) s) 10 7 = true then 1 else 0, M')) ∧ t_m T n (if t_mt 2 T s (t_we T n (n - s) s) 10 7 = true then t_we T n (n - s) s else s) 0 fp M' ∧ t_fm M M' := by
  obtain ⟨M1, k1, k2, k3⟩ := t_bl hT hn (n - s) s 0 fp M rfl hs h
  rw [hss] at k2
  obtain ⟨M2, b1, b2, b3⟩ := t_skw hT hn (n - s) s M1 rfl hs k2
  have hE := t_we_r (T := T) (n := n) (n - s) s rfl hs
  have hLt := t_we_l (T := T) (n := n) (n - s) s rfl
  have h7 := t_s7 (p1 := 278664332) (p2 := 100) hT hn k2 (fun f hf => b1 f (by omega)) (n - s) 0 rfl hs (fun i hi => absurd hi (by omega))
  rw [Nat.add_zero] at h7
  generalize t_we T n (n - s) s = E at *
  have hiff : (E = s + 7 ∧ t_cw T s 6 = 278664332 ∧ T (s + 6) = 100) ↔ t_mt 2 T s E 10 7 = true := by
    constructor
    · rintro ⟨x1, x2, x3⟩
      refine decide_eq_true ⟨x1, fun k hk => ?_⟩
      by_cases e : k = 6
      · subst e; rw [x3]; rfl
      · exact (t_cw_inj (T := T) (U := e_sg 2) (s := s) (u := 10) 6 6 (fun q hq => hLt (s + q) (by omega) (by omega)) (by decide) (x2.trans (by decide))).2 k (by omega)
    · intro x
      obtain ⟨x1, x2⟩ := of_decide_eq_true x
      refine ⟨x1, ?_, (x2 6 (by omega)).trans rfl⟩
      have : ∀ k, k ≤ 6 → t_cw T s k = t_cw (e_sg 2) 10 k := by
        intro k
        induction k with
        | zero => intro _; rfl
        | succ k ih =>
          intro hk
          show 27 * t_cw T s k + (T (s + k) - 96) = 27 * t_cw (e_sg 2) 10 k + (e_sg 2 (10 + k) - 96)
          rw [ih (by omega), x2 k (by omega)]
      rw [this 6 (Nat.le_refl _)]
      decide
  by_cases c : t_mt 2 T s E 10 7 = true
  · rw [if_pos c, if_pos c]
    refine ⟨M2, fun f hf => ?_, b2, k3.tr b3⟩
    have := h7 f (by omega)
    rw [if_pos (hiff.mpr c)] at this
    unfold f_X11_isSeven
    rw [h.2.2.1, if_pos rfl, k1 f (by omega), f_bs]
    exact this
  · rw [if_neg c, if_neg c]
    refine ⟨M1, fun f hf => ?_, k2, k3⟩
    have := h7 f (by omega)
    rw [if_neg (fun x => c (hiff.mp x))] at this
    unfold f_X11_isSeven
    rw [h.2.2.1, if_pos rfl, k1 f (by omega), f_bs]
    exact this
theorem t_kno {T : Nat → Int} {n s : Nat} {fp : Int} {M : e_M} (hT : ∀ j, j < 600 → 0 ≤ T j ∧ T j ≤ 255) (hn : n ≤ 600) (hs : s ≤ n) (hss : t_s T n s = s) (h : t_m T n s 0 fp M) : ∃ M', (∀ f, 1203 < f → f_X11_knownHere f M = some (if t_i2 T s (t_we T n (n - s) s) < 8 then t_i2 T s (t_we T n (n - s) s) else -1, M')) ∧ t_m T n (if 0 ≤ t_i2 T s (t_we T n (n - s) s) ∧ t_i2 T s (t_we T n (n - s) s) < 8 then t_we T n (n - s) s else s) 0 fp M' ∧ t_fm M M' := by
  obtain ⟨M0, a0, b0, d0⟩ := t_tk (j := 2) (i := 0) (len := 4) (V := 456500) (c1 := 23) (c2 := 5) (c3 := 5) (c4 := 11) (c5 := 0) (c6 := 0) hT hn hs hss h (by decide) (by decide) (by decide) (fun _ => rfl)
  by_cases c0 : t_mt 2 T s (t_we T n (n - s) s) 0 4 = true
  · have ev : t_i2 T s (t_we T n (n - s) s) = 0 := by unfold t_i2; rw [if_pos c0]
    rw [if_pos c0] at a0 b0
    rw [ev, if_pos (show (0 : Int) < 8 by decide), if_pos (show 0 ≤ (0 : Int) ∧ (0 : Int) < 8 by decide)]
    refine ⟨M0, fun f hf => ?_, b0, d0⟩
    unfold f_X11_knownHere
    rw [a0 f (by omega), f_bs, if_neg (show ¬ (1 : Int) = 0 by decide)]
  · rw [if_neg c0] at a0 b0
    obtain ⟨M1, a1, b1, d1⟩ := t_tk (j := 2) (i := 5) (len := 4) (V := 385240) (c1 := 19) (c2 := 15) (c3 := 12) (c4 := 4) (c5 := 0) (c6 := 0) hT hn hs hss b0 (by decide) (by decide) (by decide) (fun _ => rfl)
    by_cases c1 : t_mt 2 T s (t_we T n (n - s) s) 5 4 = true
    · have ev : t_i2 T s (t_we T n (n - s) s) = 1 := by unfold t_i2; rw [if_neg c0, if_pos c1]
      rw [if_pos c1] at a1 b1
      rw [ev, if_pos (show (1 : Int) < 8 by decide), if_pos (show 0 ≤ (1 : Int) ∧ (1 : Int) < 8 by decide)]
      refine ⟨M1, fun f hf => ?_, b1, d0.tr d1⟩
      unfold f_X11_knownHere
      rw [a0 f (by omega), f_bs, if_pos rfl, a1 f (by omega), f_bs, if_neg (show ¬ (1 : Int) = 0 by decide)]
    · rw [if_neg c1] at a1 b1
      obtain ⟨M2, a2, b2, d2⟩ := t_is7 hT hn hs hss b1
      by_cases c2 : t_mt 2 T s (t_we T n (n - s) s) 10 7 = true
      · have ev : t_i2 T s (t_we T n (n - s) s) = 2 := by unfold t_i2; rw [if_neg c0, if_neg c1, if_pos c2]
        rw [if_pos c2] at a2 b2
        rw [ev, if_pos (show (2 : Int) < 8 by decide), if_pos (show 0 ≤ (2 : Int) ∧ (2 : Int) < 8 by decide)]
        refine ⟨M2, fun f hf => ?_, b2, (d0.tr d1).tr d2⟩
        unfold f_X11_knownHere
        rw [a0 f (by omega), f_bs, if_pos rfl, a1 f (by omega), f_bs, if_pos rfl, show ∀ N : e_M, f_X11_six 19 11 9 16 16 5 N = some (278664332, N) from fun _ => rfl, f_bs, a2 f (by omega), f_bs, if_neg (show ¬ (1 : Int) = 0 by decide)]
      · rw [if_neg c2] at a2 b2
        obtain ⟨M3, a3, b3, d3⟩ := t_tk (j := 2) (i := 18) (len := 5) (V := 1896526) (c1 := 3) (c2 := 15) (c3 := 9) (c4 := 14) (c5 := 19) (c6 := 0) hT hn hs hss b2 (by decide) (by decide) (by decide) (fun _ => rfl)
        by_cases c3 : t_mt 2 T s (t_we T n (n - s) s) 18 5 = true
        · have ev : t_i2 T s (t_we T n (n - s) s) = 3 := by unfold t_i2; rw [if_neg c0, if_neg c1, if_neg c2, if_pos c3]
          rw [if_pos c3] at a3 b3
          rw [ev, if_pos (show (3 : Int) < 8 by decide), if_pos (show 0 ≤ (3 : Int) ∧ (3 : Int) < 8 by decide)]
          refine ⟨M3, fun f hf => ?_, b3, ((d0.tr d1).tr d2).tr d3⟩
          unfold f_X11_knownHere
          rw [a0 f (by omega), f_bs, if_pos rfl, a1 f (by omega), f_bs, if_pos rfl, show ∀ N : e_M, f_X11_six 19 11 9 16 16 5 N = some (278664332, N) from fun _ => rfl, f_bs, a2 f (by omega), f_bs, if_pos rfl, a3 f (by omega), f_bs, if_neg (show ¬ (1 : Int) = 0 by decide)]
        · rw [if_neg c3] at a3 b3
          obtain ⟨M4, a4, b4, d4⟩ := t_tk (j := 2) (i := 24) (len := 4) (V := 453632) (c1 := 23) (c2 := 1) (c3 := 7) (c4 := 5) (c5 := 0) (c6 := 0) hT hn hs hss b3 (by decide) (by decide) (by decide) (fun _ => rfl)
          by_cases c4 : t_mt 2 T s (t_we T n (n - s) s) 24 4 = true
          · have ev : t_i2 T s (t_we T n (n - s) s) = 4 := by unfold t_i2; rw [if_neg c0, if_neg c1, if_neg c2, if_neg c3, if_pos c4]
            rw [if_pos c4] at a4 b4
            rw [ev, if_pos (show (4 : Int) < 8 by decide), if_pos (show 0 ≤ (4 : Int) ∧ (4 : Int) < 8 by decide)]
            refine ⟨M4, fun f hf => ?_, b4, (((d0.tr d1).tr d2).tr d3).tr d4⟩
            unfold f_X11_knownHere
            rw [a0 f (by omega), f_bs, if_pos rfl, a1 f (by omega), f_bs, if_pos rfl, show ∀ N : e_M, f_X11_six 19 11 9 16 16 5 N = some (278664332, N) from fun _ => rfl, f_bs, a2 f (by omega), f_bs, if_pos rfl, a3 f (by omega), f_bs, if_pos rfl, a4 f (by omega), f_bs, if_neg (show ¬ (1 : Int) = 0 by decide)]
          · rw [if_neg c4] at a4 b4
            obtain ⟨M5, a5, b5, d5⟩ := t_tk (j := 2) (i := 29) (len := 6) (V := 203643373) (c1 := 14) (c2 := 5) (c3 := 5) (c4 := 4) (c5 := 5) (c6 := 4) hT hn hs hss b4 (by decide) (by decide) (by decide) (fun _ => rfl)
            by_cases c5 : t_mt 2 T s (t_we T n (n - s) s) 29 6 = true
            · have ev : t_i2 T s (t_we T n (n - s) s) = 5 := by unfold t_i2; rw [if_neg c0, if_neg c1, if_neg c2, if_neg c3, if_neg c4, if_pos c5]
              rw [if_pos c5] at a5 b5
              rw [ev, if_pos (show (5 : Int) < 8 by decide), if_pos (show 0 ≤ (5 : Int) ∧ (5 : Int) < 8 by decide)]
              refine ⟨M5, fun f hf => ?_, b5, ((((d0.tr d1).tr d2).tr d3).tr d4).tr d5⟩
              unfold f_X11_knownHere
              rw [a0 f (by omega), f_bs, if_pos rfl, a1 f (by omega), f_bs, if_pos rfl, show ∀ N : e_M, f_X11_six 19 11 9 16 16 5 N = some (278664332, N) from fun _ => rfl, f_bs, a2 f (by omega), f_bs, if_pos rfl, a3 f (by omega), f_bs, if_pos rfl, a4 f (by omega), f_bs, if_pos rfl, a5 f (by omega), f_bs, if_neg (show ¬ (1 : Int) = 0 by decide)]
            · rw [if_neg c5] at a5 b5
              obtain ⟨M6, a6, b6, d6⟩ := t_tk (j := 2) (i := 36) (len := 5) (V := 10662670) (c1 := 20) (c2 := 1) (c3 := 19) (c4 := 11) (c5 := 19) (c6 := 0) hT hn hs hss b5 (by decide) (by decide) (by decide) (fun _ => rfl)
              by_cases c6 : t_mt 2 T s (t_we T n (n - s) s) 36 5 = true
              · have ev : t_i2 T s (t_we T n (n - s) s) = 6 := by unfold t_i2; rw [if_neg c0, if_neg c1, if_neg c2, if_neg c3, if_neg c4, if_neg c5, if_pos c6]
                rw [if_pos c6] at a6 b6
                rw [ev, if_pos (show (6 : Int) < 8 by decide), if_pos (show 0 ≤ (6 : Int) ∧ (6 : Int) < 8 by decide)]
                refine ⟨M6, fun f hf => ?_, b6, (((((d0.tr d1).tr d2).tr d3).tr d4).tr d5).tr d6⟩
                unfold f_X11_knownHere
                rw [a0 f (by omega), f_bs, if_pos rfl, a1 f (by omega), f_bs, if_pos rfl, show ∀ N : e_M, f_X11_six 19 11 9 16 16 5 N = some (278664332, N) from fun _ => rfl, f_bs, a2 f (by omega), f_bs, if_pos rfl, a3 f (by omega), f_bs, if_pos rfl, a4 f (by omega), f_bs, if_pos rfl, a5 f (by omega), f_bs, if_pos rfl, a6 f (by omega), f_bs, if_neg (show ¬ (1 : Int) = 0 by decide)]
              · rw [if_neg c6] at a6 b6
                obtain ⟨M7, a7, b7, d7⟩ := t_tk (j := 2) (i := 42) (len := 6) (V := 232608281) (c1 := 16) (c2 := 5) (c3 := 18) (c4 := 19) (c5 := 15) (c6 := 14) hT hn hs hss b6 (by decide) (by decide) (by decide) (fun _ => rfl)
                by_cases c7 : t_mt 2 T s (t_we T n (n - s) s) 42 6 = true
                · have ev : t_i2 T s (t_we T n (n - s) s) = 7 := by unfold t_i2; rw [if_neg c0, if_neg c1, if_neg c2, if_neg c3, if_neg c4, if_neg c5, if_neg c6, if_pos c7]
                  rw [if_pos c7] at a7 b7
                  rw [ev, if_pos (show (7 : Int) < 8 by decide), if_pos (show 0 ≤ (7 : Int) ∧ (7 : Int) < 8 by decide)]
                  refine ⟨M7, fun f hf => ?_, b7, ((((((d0.tr d1).tr d2).tr d3).tr d4).tr d5).tr d6).tr d7⟩
                  unfold f_X11_knownHere
                  rw [a0 f (by omega), f_bs, if_pos rfl, a1 f (by omega), f_bs, if_pos rfl, show ∀ N : e_M, f_X11_six 19 11 9 16 16 5 N = some (278664332, N) from fun _ => rfl, f_bs, a2 f (by omega), f_bs, if_pos rfl, a3 f (by omega), f_bs, if_pos rfl, a4 f (by omega), f_bs, if_pos rfl, a5 f (by omega), f_bs, if_pos rfl, a6 f (by omega), f_bs, if_pos rfl, a7 f (by omega), f_bs, if_neg (show ¬ (1 : Int) = 0 by decide)]
                · rw [if_neg c7] at a7 b7
                  have ev : t_i2 T s (t_we T n (n - s) s) = -1 ∨ 8 ≤ t_i2 T s (t_we T n (n - s) s) := by
                    unfold t_i2; rw [if_neg c0, if_neg c1, if_neg c2, if_neg c3, if_neg c4, if_neg c5, if_neg c6, if_neg c7]
                    split
                    · exact Or.inr (by decide)
                    · split
                      · exact Or.inr (by decide)
                      · exact Or.inl rfl
                  rw [if_neg (show ¬ (0 ≤ t_i2 T s (t_we T n (n - s) s) ∧ t_i2 T s (t_we T n (n - s) s) < 8) by omega)]
                  refine ⟨M7, fun f hf => ?_, b7, ((((((d0.tr d1).tr d2).tr d3).tr d4).tr d5).tr d6).tr d7⟩
                  unfold f_X11_knownHere
                  rw [a0 f (by omega), f_bs, if_pos rfl, a1 f (by omega), f_bs, if_pos rfl, show ∀ N : e_M, f_X11_six 19 11 9 16 16 5 N = some (278664332, N) from fun _ => rfl, f_bs, a2 f (by omega), f_bs, if_pos rfl, a3 f (by omega), f_bs, if_pos rfl, a4 f (by omega), f_bs, if_pos rfl, a5 f (by omega), f_bs, if_pos rfl, a6 f (by omega), f_bs, if_pos rfl, a7 f (by omega), f_bs, if_pos rfl]
                  by_cases c : t_i2 T s (t_we T n (n - s) s) < 8
                  · rw [if_pos c, show t_i2 T s (t_we T n (n - s) s) = -1 by omega]
                  · rw [if_neg c]
theorem t_step {T : Nat → Int} {n s : Nat} {fp : Int} {M : e_M} (hT : ∀ j, j < 600 → 0 ≤ T j ∧ T j ≤ 255) (hn : n ≤ 600) (hs : s ≤ n) (hss : t_s T n s = s) (h : t_m T n s 0 fp M) : ∃ M', (∀ f, 601 < f → f_X11_stepHere f M = some (t_i3 T s (t_we T n (n - s) s), M')) ∧ t_m T n s 0 fp M' ∧ t_fm M M' := by
  obtain ⟨M0, a0, b0, d0⟩ := t_isw (j := 3) (i := 0) (len := 3) (V := 2050) (c1 := 2) (c2 := 21) (c3 := 25) (c4 := 0) (c5 := 0) (c6 := 0) hT hn hs h (by decide) (by decide) (by decide) (fun _ => rfl)
  rw [hss] at a0 b0
  obtain ⟨M1, a1, b1, d1⟩ := t_isw (j := 3) (i := 4) (len := 4) (V := 377958) (c1 := 19) (c2 := 5) (c3 := 12) (c4 := 12) (c5 := 0) (c6 := 0) hT hn hs b0 (by decide) (by decide) (by decide) (fun _ => rfl)
  rw [hss] at a1 b1
  obtain ⟨M2, a2, b2, d2⟩ := t_isw (j := 3) (i := 9) (len := 5) (V := 6411708) (c1 := 12) (c2 := 1) (c3 := 20) (c4 := 5) (c5 := 18) (c6 := 0) hT hn hs b1 (by decide) (by decide) (by decide) (fun _ => rfl)
  rw [hss] at a2 b2
  obtain ⟨M3, a3, b3, d3⟩ := t_isw (j := 3) (i := 15) (len := 4) (V := 456500) (c1 := 23) (c2 := 5) (c3 := 5) (c4 := 11) (c5 := 0) (c6 := 0) hT hn hs b2 (by decide) (by decide) (by decide) (fun _ => rfl)
  rw [hss] at a3 b3
  obtain ⟨M4, a4, b4, d4⟩ := t_isw (j := 3) (i := 20) (len := 5) (V := 670208) (c1 := 1) (c2 := 7) (c3 := 1) (c4 := 9) (c5 := 14) (c6 := 0) hT hn hs b3 (by decide) (by decide) (by decide) (fun _ => rfl)
  rw [hss] at a4 b4
  by_cases c0 : t_mt 3 T s (t_we T n (n - s) s) 0 3 = true
  · have ev : t_i3 T s (t_we T n (n - s) s) = 0 := by unfold t_i3; rw [if_pos c0]
    rw [if_pos c0] at a0
    rw [ev]
    refine ⟨M0, fun f hf => ?_, b0, d0⟩
    unfold f_X11_stepHere
    rw [a0 f hf, f_bs, if_neg (show ¬ (1 : Int) = 0 by decide)]
  · rw [if_neg c0] at a0
    by_cases c1 : t_mt 3 T s (t_we T n (n - s) s) 4 4 = true
    · have ev : t_i3 T s (t_we T n (n - s) s) = 1 := by unfold t_i3; rw [if_neg c0, if_pos c1]
      rw [if_pos c1] at a1
      rw [ev]
      refine ⟨M1, fun f hf => ?_, b1, d0.tr d1⟩
      unfold f_X11_stepHere
      rw [a0 f hf, f_bs, if_pos rfl, a1 f hf, f_bs, if_neg (show ¬ (1 : Int) = 0 by decide)]
    · rw [if_neg c1] at a1
      by_cases c2 : t_mt 3 T s (t_we T n (n - s) s) 9 5 = true
      · have ev : t_i3 T s (t_we T n (n - s) s) = 2 := by unfold t_i3; rw [if_neg c0, if_neg c1, if_pos c2]
        rw [if_pos c2] at a2
        rw [ev]
        refine ⟨M2, fun f hf => ?_, b2, (d0.tr d1).tr d2⟩
        unfold f_X11_stepHere
        rw [a0 f hf, f_bs, if_pos rfl, a1 f hf, f_bs, if_pos rfl, a2 f hf, f_bs, if_neg (show ¬ (1 : Int) = 0 by decide)]
      · rw [if_neg c2] at a2
        by_cases c3 : t_mt 3 T s (t_we T n (n - s) s) 15 4 = true
        · have ev : t_i3 T s (t_we T n (n - s) s) = 3 := by unfold t_i3; rw [if_neg c0, if_neg c1, if_neg c2, if_pos c3]
          rw [if_pos c3] at a3
          rw [ev]
          refine ⟨M3, fun f hf => ?_, b3, ((d0.tr d1).tr d2).tr d3⟩
          unfold f_X11_stepHere
          rw [a0 f hf, f_bs, if_pos rfl, a1 f hf, f_bs, if_pos rfl, a2 f hf, f_bs, if_pos rfl, a3 f hf, f_bs, if_neg (show ¬ (1 : Int) = 0 by decide)]
        · rw [if_neg c3] at a3
          by_cases c4 : t_mt 3 T s (t_we T n (n - s) s) 20 5 = true
          · have ev : t_i3 T s (t_we T n (n - s) s) = 4 := by unfold t_i3; rw [if_neg c0, if_neg c1, if_neg c2, if_neg c3, if_pos c4]
            rw [if_pos c4] at a4
            rw [ev]
            refine ⟨M4, fun f hf => ?_, b4, (((d0.tr d1).tr d2).tr d3).tr d4⟩
            unfold f_X11_stepHere
            rw [a0 f hf, f_bs, if_pos rfl, a1 f hf, f_bs, if_pos rfl, a2 f hf, f_bs, if_pos rfl, a3 f hf, f_bs, if_pos rfl, a4 f hf, f_bs, if_neg (show ¬ (1 : Int) = 0 by decide)]
          · rw [if_neg c4] at a4
            have ev : t_i3 T s (t_we T n (n - s) s) = -1 := by unfold t_i3; rw [if_neg c0, if_neg c1, if_neg c2, if_neg c3, if_neg c4]
            rw [ev]
            refine ⟨M4, fun f hf => ?_, b4, (((d0.tr d1).tr d2).tr d3).tr d4⟩
            unfold f_X11_stepHere
            rw [a0 f hf, f_bs, if_pos rfl, a1 f hf, f_bs, if_pos rfl, a2 f hf, f_bs, if_pos rfl, a3 f hf, f_bs, if_pos rfl, a4 f hf, f_bs, if_pos rfl]
