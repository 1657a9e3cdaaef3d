/-! TEXTS, 10: clauses and steps, named by the model -/
theorem t_kind {T : Nat → Int} {n a : Nat} {fp : Int} {M : e_M} (hT : ∀ j, j < 600 → 0 ≤ T j ∧ T j ≤ 255) (hn : n ≤ 600) (ha : a ≤ n) (h : t_m T n a 0 fp M) : ∃ M', (∀ f, 601 < f → f_X11_kindHere f M = some (if t_mt 1 T (t_s T n a) (t_we T n (n - t_s T n a) (t_s T n a)) 0 6 = true then 0 else if t_mt 1 T (t_s T n a) (t_we T n (n - t_s T n a) (t_s T n a)) 7 4 = true then 1 else if t_mt 1 T (t_s T n a) (t_we T n (n - t_s T n a) (t_s T n a)) 16 4 = true then 2 else if t_mt 1 T (t_s T n a) (t_we T n (n - t_s T n a) (t_s T n a)) 12 3 = true then 3 else -1, M')) ∧ t_m T n (t_s T n a) 0 fp M' ∧ t_fm M M' := by
  have hsn := (t_s_p (T := T) (n - a) a rfl).2.1 ha
  obtain ⟨M0, a0, b0, d0⟩ := t_isw (j := 1) (i := 0) (len := 6) (V := 232608281) (c1 := 16) (c2 := 5) (c3 := 18) (c4 := 19) (c5 := 15) (c6 := 14) hT hn ha h (by decide) (by decide) (by decide) (fun _ => rfl)
  obtain ⟨M1, a1, b1, d1⟩ := t_isw (j := 1) (i := 7) (len := 4) (V := 94606) (c1 := 4) (c2 := 21) (c3 := 20) (c4 := 25) (c5 := 0) (c6 := 0) hT hn hsn b0 (by decide) (by decide) (by decide) (fun _ => rfl)
  rw [t_ss] at a1 b1
  obtain ⟨M2, a2, b2, d2⟩ := t_isw (j := 1) (i := 16) (len := 4) (V := 394913) (c1 := 20) (c2 := 1) (c3 := 19) (c4 := 11) (c5 := 0) (c6 := 0) hT hn hsn b1 (by decide) (by decide) (by decide) (fun _ => rfl)
  rw [t_ss] at a2 b2
  obtain ⟨M3, a3, b3, d3⟩ := t_isw (j := 1) (i := 12) (len := 3) (V := 2228) (c1 := 3) (c2 := 1) (c3 := 14) (c4 := 0) (c5 := 0) (c6 := 0) hT hn hsn b2 (by decide) (by decide) (by decide) (fun _ => rfl)
  rw [t_ss] at a3 b3
  generalize t_s T n a = s at *
  generalize t_we T n (n - s) s = E at *
  by_cases c0 : t_mt 1 T s E 0 6 = true
  · refine ⟨M0, fun f hf => ?_, b0, d0⟩
    unfold f_X11_kindHere
    rw [a0 f hf, f_bs, if_pos c0, if_neg (show ¬ (1 : Int) = 0 by decide), if_pos c0]
  · skip
    by_cases c1 : t_mt 1 T s E 7 4 = true
    · refine ⟨M1, fun f hf => ?_, b1, d0.tr d1⟩
      unfold f_X11_kindHere
      rw [a0 f hf, f_bs, if_neg c0, if_pos rfl, a1 f hf, f_bs, if_pos c1, if_neg (show ¬ (1 : Int) = 0 by decide), if_neg c0, if_pos c1]
    · skip
      by_cases c2 : t_mt 1 T s E 16 4 = true
      · refine ⟨M2, fun f hf => ?_, b2, (d0.tr d1).tr d2⟩
        unfold f_X11_kindHere
        rw [a0 f hf, f_bs, if_neg c0, if_pos rfl, a1 f hf, f_bs, if_neg c1, if_pos rfl, a2 f hf, f_bs, if_pos c2, if_neg (show ¬ (1 : Int) = 0 by decide), if_neg c0, if_neg c1, if_pos c2]
      · skip
        by_cases c3 : t_mt 1 T s E 12 3 = true
        · refine ⟨M3, fun f hf => ?_, b3, ((d0.tr d1).tr d2).tr d3⟩
          unfold f_X11_kindHere
          rw [a0 f hf, f_bs, if_neg c0, if_pos rfl, a1 f hf, f_bs, if_neg c1, if_pos rfl, a2 f hf, f_bs, if_neg c2, if_pos rfl, a3 f hf, f_bs, if_pos c3, if_neg (show ¬ (1 : Int) = 0 by decide), if_neg c0, if_neg c1, if_neg c2, if_pos c3]
        · refine ⟨M3, fun f hf => ?_, b3, ((d0.tr d1).tr d2).tr d3⟩
          unfold f_X11_kindHere
          rw [a0 f hf, f_bs, if_neg c0, if_pos rfl, a1 f hf, f_bs, if_neg c1, if_pos rfl, a2 f hf, f_bs, if_neg c2, if_pos rfl, a3 f hf, f_bs, if_neg c3, if_pos rfl, if_neg c0, if_neg c1, if_neg c2, if_neg c3]
