def f_X11_span_81 : Nat → Int → Int → Int → Int → Int → Int → Int → Int → Int → Int → Int → e_M → Option (Int × e_M)
  | 0, _, _, _, _, _, _, _, _, _, _, _, _ => none
  | n + 1, p1, p2, p3, p4, p5, p6, p7, v8, v9, v10, v11, M => (if p2 ≤ v11 then (if ¬ p6 = 0 then (if ¬ p6 = 1 then (some (v10, M)) else (some (v9, M))) else (some (v8, M))) else (f_b (f_X11_yearBy n (e_w (p1 + v11)) p3 p4 p5 M) fun _ NN2 => (if ¬ v8 = (-1) then (f_b (f_X11_less v8 (e_w ((NN2 533 54) - (NN2 532 54))) NN2) fun rr5 NN6 => (f_b (f_X11_more v9 (e_w ((NN2 533 54) - (NN2 532 54))) NN6) fun rr7 NN8 => (if (0 ≤ (e_w (42 + p7)) ∧ (e_w (42 + p7)) < 56) then (f_X11_span_81 n p1 p2 p3 p4 p5 p6 p7 rr5 rr7 (e_w (v10 + (NN8 533 (e_w (42 + p7)).toNat))) (e_w (v11 + 1)) NN8) else none))) else (f_b (f_X11_more v9 (e_w ((NN2 533 54) - (NN2 532 54))) NN2) fun rr3 NN4 => (if (0 ≤ (e_w (42 + p7)) ∧ (e_w (42 + p7)) < 56) then (f_X11_span_81 n p1 p2 p3 p4 p5 p6 p7 (e_w ((NN2 533 54) - (NN2 532 54))) rr3 (e_w (v10 + (NN4 533 (e_w (42 + p7)).toNat))) (e_w (v11 + 1)) NN4) else none)))))
theorem s_X11_span_81 {X : e_X} {d gn : Nat} : ∀ n : Nat, ∀ (p1 p2 p3 p4 p5 p6 p7 v8 v9 v10 v11 : Int) (M M' : e_M) (v : Int), f_X11_span_81  n p1 p2 p3 p4 p5 p6 p7 v8 v9 v10 v11 M = some (v, M') → e_G X (d + 8) YX11_span 81 [some (.inr (.inr 64)), some (.inl p1), some (.inl p2), some (.inl p3), some (.inl p4), some (.inl p5), some (.inl p6), some (.inl p7), some (.inl v8), some (.inl v9), some (.inl v10), some (.inl v11), none] [] (557, gn, e_RF, M) (.inl (some (.inl v)), (557, gn, e_RF, M')) := by
  intro n
  induction n with
  | zero => intro p1 p2 p3 p4 p5 p6 p7 v8 v9 v10 v11 M M' v h; cases h
  | succ n ih =>
    intro p1 p2 p3 p4 p5 p6 p7 v8 v9 v10 v11 M M' v h
    rw [f_X11_span_81] at h
    refine wp_X11_span_81 (d := d + 7)  M p1 p2 p3 p4 p5 p6 p7 v8 v9 v10 v11 (f_mn) ?_
    refine ⟨fun c => ?_, fun c => ?_⟩
    · rw [if_pos c] at h
      refine ⟨fun c => ?_, fun c => ?_⟩
      · rw [if_pos c] at h
        refine ⟨fun c => ?_, fun c => ?_⟩
        · rw [if_pos c] at h
          cases h; rfl
        · rw [if_neg (not_not_intro c)] at h
          cases h; rfl
      · rw [if_neg (not_not_intro c)] at h
        cases h; rfl
    · rw [if_neg c] at h
      obtain ⟨rr9, NN10, hc11, h⟩ := f_bd h
      refine ⟨NN10, s_X11_yearBy (d := d)  hc11, ?_⟩
      refine ⟨fun c => ?_, fun c => ?_⟩
      · rw [if_pos c] at h
        obtain ⟨rr12, NN13, hc14, h⟩ := f_bd h
        refine ⟨rr12, NN13, s_X11_less (d := d + 7)  hc14, ?_⟩
        refine wp_X11_span_135 (d := d + 7)  _ _ _ _ _ _ _ _ _ _ _ _ _ _ (f_mn) ?_
        obtain ⟨rr15, NN16, hc17, h⟩ := f_bd h
        refine ⟨rr15, NN16, s_X11_more (d := d + 7)  hc17, ?_⟩
        obtain ⟨c18, h⟩ := f_gd h
        refine ⟨c18, ?_⟩
        exact ih _ _ _ _ _ _ _ _ _ _ _ _ _ _ h
      · rw [if_neg (not_not_intro c)] at h
        refine wp_X11_span_135 (d := d + 7)  _ _ _ _ _ _ _ _ _ _ _ _ _ _ (f_mn) ?_
        obtain ⟨rr19, NN20, hc21, h⟩ := f_bd h
        refine ⟨rr19, NN20, s_X11_more (d := d + 7)  hc21, ?_⟩
        obtain ⟨c22, h⟩ := f_gd h
        refine ⟨c22, ?_⟩
        exact ih _ _ _ _ _ _ _ _ _ _ _ _ _ _ h
def f_X11_span (n : Nat) (p1 p2 p3 p4 p5 p6 p7 : Int) (M : e_M) : Option (Int × e_M) := (f_b (f_X11_in p2 1 20 (e_up M 64 0 0)) fun rr23 NN24 => (if rr23 = 0 then (f_b (f_X11_bad 1 1 1 NN24) fun rr39 NN40 => (if rr39 = 0 then (f_X11_span_81 n p1 p2 p3 p4 p5 p6 p7 (-1) 0 0 0 NN40) else (some (0, NN40)))) else (f_b (f_X11_isYear p3 p4 p5 NN24) fun rr25 NN26 => (if rr25 = 0 then (f_b (f_X11_bad 1 1 1 NN26) fun rr37 NN38 => (if rr37 = 0 then (f_X11_span_81 n p1 p2 p3 p4 p5 p6 p7 (-1) 0 0 0 NN38) else (some (0, NN38)))) else (f_b (f_X11_in p6 0 2 NN26) fun rr27 NN28 => (if rr27 = 0 then (f_b (f_X11_bad 1 1 1 NN28) fun rr35 NN36 => (if rr35 = 0 then (f_X11_span_81 n p1 p2 p3 p4 p5 p6 p7 (-1) 0 0 0 NN36) else (some (0, NN36)))) else (f_b (f_X11_in p7 0 (e_w ((NN28 68 2) - 1)) NN28) fun rr29 NN30 => (if ¬ rr29 = 0 then (f_b (f_X11_bad 0 1 1 NN30) fun rr33 NN34 => (if rr33 = 0 then (f_X11_span_81 n p1 p2 p3 p4 p5 p6 p7 (-1) 0 0 0 NN34) else (some (0, NN34)))) else (f_b (f_X11_bad 1 1 1 NN30) fun rr31 NN32 => (if rr31 = 0 then (f_X11_span_81 n p1 p2 p3 p4 p5 p6 p7 (-1) 0 0 0 NN32) else (some (0, NN32))))))))))))
theorem s_X11_span {X : e_X} {d gn : Nat} {n : Nat} {p1 p2 p3 p4 p5 p6 p7 : Int} {M M' : e_M} {v : Int} (h : f_X11_span  n p1 p2 p3 p4 p5 p6 p7 M = some (v, M')) : e_E X (d + 8) YX11_span [.inr (.inr 64), .inl p1, .inl p2, .inl p3, .inl p4, .inl p5, .inl p6, .inl p7] (557, gn, e_RF, M) (.inl (some (.inl v)), (557, gn, e_RF, M')) := by
  unfold f_X11_span at h
  refine wp_X11_span_0 (d := d + 7)  M p1 p2 p3 p4 p5 p6 p7 (f_mn) ?_
  obtain ⟨rr41, NN42, hc43, h⟩ := f_bd h
  refine ⟨rr41, NN42, s_X11_in (d := d + 7)  hc43, ?_⟩
  refine ⟨fun c => ?_, fun c => ?_⟩
  · rw [if_pos c] at h
    refine wp_X11_span_54 (d := d + 7)  _ _ _ _ _ _ _ _ ?_
    refine wp_X11_span_59 (d := d + 7)  _ _ _ _ _ _ _ _ _ (f_mn) ?_
    obtain ⟨rr44, NN45, hc46, h⟩ := f_bd h
    refine ⟨rr44, NN45, s_X11_bad (d := d + 7)  hc46, ?_⟩
    refine ⟨fun c => ?_, fun c => ?_⟩
    · rw [if_pos c] at h
      exact s_X11_span_81  _ _ _ _ _ _ _ _ _ _ _ _ _ _ _ h
    · rw [if_neg c] at h
      cases h; rfl
  · rw [if_neg c] at h
    obtain ⟨rr47, NN48, hc49, h⟩ := f_bd h
    refine ⟨rr47, NN48, s_X11_isYear (d := d + 6)  hc49, ?_⟩
    refine ⟨fun c => ?_, fun c => ?_⟩
    · rw [if_pos c] at h
      refine wp_X11_span_54 (d := d + 7)  _ _ _ _ _ _ _ _ ?_
      refine wp_X11_span_59 (d := d + 7)  _ _ _ _ _ _ _ _ _ (f_mn) ?_
      obtain ⟨rr50, NN51, hc52, h⟩ := f_bd h
      refine ⟨rr50, NN51, s_X11_bad (d := d + 7)  hc52, ?_⟩
      refine ⟨fun c => ?_, fun c => ?_⟩
      · rw [if_pos c] at h
        exact s_X11_span_81  _ _ _ _ _ _ _ _ _ _ _ _ _ _ _ h
      · rw [if_neg c] at h
        cases h; rfl
    · rw [if_neg c] at h
      obtain ⟨rr53, NN54, hc55, h⟩ := f_bd h
      refine ⟨rr53, NN54, s_X11_in (d := d + 7)  hc55, ?_⟩
      refine ⟨fun c => ?_, fun c => ?_⟩
      · rw [if_pos c] at h
        refine wp_X11_span_54 (d := d + 7)  _ _ _ _ _ _ _ _ ?_
        refine wp_X11_span_59 (d := d + 7)  _ _ _ _ _ _ _ _ _ (f_mn) ?_
        obtain ⟨rr56, NN57, hc58, h⟩ := f_bd h
        refine ⟨rr56, NN57, s_X11_bad (d := d + 7)  hc58, ?_⟩
        refine ⟨fun c => ?_, fun c => ?_⟩
        · rw [if_pos c] at h
          exact s_X11_span_81  _ _ _ _ _ _ _ _ _ _ _ _ _ _ _ h
        · rw [if_neg c] at h
          cases h; rfl
      · rw [if_neg c] at h
        obtain ⟨rr59, NN60, hc61, h⟩ := f_bd h
        refine ⟨rr59, NN60, s_X11_in (d := d + 7)  hc61, ?_⟩
        refine ⟨fun c => ?_, fun c => ?_⟩
        · rw [if_pos c] at h
          refine wp_X11_span_59 (d := d + 7)  _ _ _ _ _ _ _ _ _ (f_mn) ?_
          obtain ⟨rr62, NN63, hc64, h⟩ := f_bd h
          refine ⟨rr62, NN63, s_X11_bad (d := d + 7)  hc64, ?_⟩
          refine ⟨fun c => ?_, fun c => ?_⟩
          · rw [if_pos c] at h
            exact s_X11_span_81  _ _ _ _ _ _ _ _ _ _ _ _ _ _ _ h
          · rw [if_neg c] at h
            cases h; rfl
        · rw [if_neg (not_not_intro c)] at h
          refine wp_X11_span_54 (d := d + 7)  _ _ _ _ _ _ _ _ ?_
          refine wp_X11_span_59 (d := d + 7)  _ _ _ _ _ _ _ _ _ (f_mn) ?_
          obtain ⟨rr65, NN66, hc67, h⟩ := f_bd h
          refine ⟨rr65, NN66, s_X11_bad (d := d + 7)  hc67, ?_⟩
          refine ⟨fun c => ?_, fun c => ?_⟩
          · rw [if_pos c] at h
            exact s_X11_span_81  _ _ _ _ _ _ _ _ _ _ _ _ _ _ _ h
          · rw [if_neg c] at h
            cases h; rfl
def f_X11_work_101 (n : Nat) (p1 : Int) (M : e_M) : Option (Int × e_M) := (if (M 64 5) = 0 then (if (0 ≤ ((e_up M 64 3 (-1)) 64 36) ∧ ((e_up M 64 3 (-1)) 64 36) < 16) then (f_b (f_X11_copies 532 (535 + ((e_up M 64 3 (-1)) 64 36).toNat) n (e_up M 64 3 (-1))) fun _ NN4 => (f_b (f_k_X11_goes n 0 ((e_up (e_up (e_up (e_up NN4 64 36 (e_w ((NN4 64 36) + 1))) 64 40 0) 64 41 0) 64 37 0) 64 30) (e_up (e_up (e_up (e_up NN4 64 36 (e_w ((NN4 64 36) + 1))) 64 40 0) 64 41 0) 64 37 0)) fun _ NN6 => (some ((NN6 64 41), NN6)))) else none) else (f_b (f_X11_ends M) fun rr1 NN2 => (some (rr1, NN2))))
theorem s_X11_work_101 {X : e_X} {d gn : Nat} {n : Nat} {p1 : Int} {M M' : e_M} {v : Int} (h : f_X11_work_101  n p1 M = some (v, M')) : e_G X (d + 18) YX11_work 101 [some (.inr (.inr 64)), some (.inl p1)] [] (557, gn, e_RF, M) (.inl (some (.inl v)), (557, gn, e_RF, M')) := by
  unfold f_X11_work_101 at h
  refine wp_X11_work_101 (d := d + 17)  M p1 (f_mn) ?_
  refine ⟨fun c => ?_, fun c => ?_⟩
  · rw [if_pos c] at h
    obtain ⟨c7, h⟩ := f_gd h
    refine ⟨c7, ?_⟩
    obtain ⟨rr8, NN9, hc10, h⟩ := f_bd h
    refine ⟨NN9, s_X11_copies (d := d + 17) rfl (Nat.le_of_ble_eq_true rfl) (by decide) (sh_534 c7.1 c7.2).1 (sh_534 c7.1 c7.2).2.1 (sh_534 c7.1 c7.2).2.2 hc10, ?_⟩
    obtain ⟨rr11, NN12, hc13, h⟩ := f_bd h
    refine ⟨NN12, s_k_X11_goes (d := d)  hc13, ?_⟩
    cases h; rfl
  · rw [if_neg c] at h
    obtain ⟨rr14, NN15, hc16, h⟩ := f_bd h
    refine ⟨rr14, NN15, s_X11_ends (d := d + 17)  hc16, ?_⟩
    cases h; rfl
def f_X11_work_72 : Nat → Int → e_M → Option (Int × e_M)
  | 0, _, _ => none
  | n + 1, p1, M => (if ¬ (M 64 5) = 0 then (f_X11_work_101 n p1 M) else (if (M 64 2) ≤ (M 64 4) then (f_X11_work_101 n p1 M) else (f_b (f_k_X11_readsStep n M) fun _ NN18 => (f_b (f_X11_blanks n NN18) fun _ NN20 => (f_X11_work_72 n p1 NN20)))))
theorem s_X11_work_72 {X : e_X} {d gn : Nat} : ∀ n : Nat, ∀ (p1 : Int) (M M' : e_M) (v : Int), f_X11_work_72  n p1 M = some (v, M') → e_G X (d + 18) YX11_work 72 [some (.inr (.inr 64)), some (.inl p1)] [] (557, gn, e_RF, M) (.inl (some (.inl v)), (557, gn, e_RF, M')) := by
  intro n
  induction n with
  | zero => intro p1 M M' v h; cases h
  | succ n ih =>
    intro p1 M M' v h
    rw [f_X11_work_72] at h
    refine wp_X11_work_72 (d := d + 17)  M p1 (f_mn) ?_
    refine ⟨fun c => ?_, fun c => ?_⟩
    · rw [if_pos c] at h
      exact s_X11_work_101  h
    · rw [if_neg (not_not_intro c)] at h
      refine ⟨fun c => ?_, fun c => ?_⟩
      · rw [if_pos c] at h
        exact s_X11_work_101  h
      · rw [if_neg c] at h
        obtain ⟨rr21, NN22, hc23, h⟩ := f_bd h
        refine ⟨NN22, s_k_X11_readsStep (d := d + 1)  hc23, ?_⟩
        obtain ⟨rr24, NN25, hc26, h⟩ := f_bd h
        refine ⟨NN25, s_X11_blanks (d := d + 16)  hc26, ?_⟩
        exact ih _ _ _ _ h
def f_X11_work_30 (n : Nat) (p1 w0 : Int) (M : e_M) : Option (Int × e_M) := (f_b (f_X11_bad w0 1 1 M) fun rr27 NN28 => (if rr27 = 0 then (if ¬ (NN28 64 36) = 16 then (f_b (f_X11_starts n p1 NN28) fun _ NN30 => (f_X11_work_72 n p1 (e_up NN30 64 30 0))) else (some ((-20), (e_up (e_up NN28 64 1 0) 64 3 (-1))))) else (some (0, NN28))))
theorem s_X11_work_30 {X : e_X} {d gn : Nat} {n : Nat} {p1 w0 : Int} {M M' : e_M} {v : Int} (h : f_X11_work_30  n p1 w0 M = some (v, M')) : e_G X (d + 18) YX11_work 30 [some (.inr (.inr 64)), some (.inl p1)] [.inl w0, .inr (.inr 64)] (557, gn, e_RF, M) (.inl (some (.inl v)), (557, gn, e_RF, M')) := by
  unfold f_X11_work_30 at h
  refine wp_X11_work_30 (d := d + 17)  M p1 w0 (f_mn) ?_
  obtain ⟨rr31, NN32, hc33, h⟩ := f_bd h
  refine ⟨rr31, NN32, s_X11_bad (d := d + 17)  hc33, ?_⟩
  refine ⟨fun c => ?_, fun c => ?_⟩
  · rw [if_pos c] at h
    refine ⟨fun c => ?_, fun c => ?_⟩
    · rw [if_pos c] at h
      obtain ⟨rr34, NN35, hc36, h⟩ := f_bd h
      refine ⟨NN35, s_X11_starts (d := d + 15)  hc36, ?_⟩
      exact s_X11_work_72  _ _ _ _ _ h
    · rw [if_neg (not_not_intro c)] at h
      cases h; rfl
  · rw [if_neg c] at h
    cases h; rfl
def f_X11_work (n : Nat) (p1 : Int) (M : e_M) : Option (Int × e_M) := (f_b (f_X11_in p1 0 ((e_up M 64 0 0) 64 1) (e_up M 64 0 0)) fun rr37 NN38 => (if rr37 = 0 then (f_X11_work_30 n p1 1 NN38) else (if p1 ≤ 150 then (f_X11_work_30 n p1 0 NN38) else (f_X11_work_30 n p1 1 NN38))))
theorem s_X11_work {X : e_X} {d gn : Nat} {n : Nat} {p1 : Int} {M M' : e_M} {v : Int} (h : f_X11_work  n p1 M = some (v, M')) : e_E X (d + 18) YX11_work [.inr (.inr 64), .inl p1] (557, gn, e_RF, M) (.inl (some (.inl v)), (557, gn, e_RF, M')) := by
  unfold f_X11_work at h
  refine wp_X11_work_0 (d := d + 17)  M p1 (f_mn) ?_
  obtain ⟨rr39, NN40, hc41, h⟩ := f_bd h
  refine ⟨rr39, NN40, s_X11_in (d := d + 17)  hc41, ?_⟩
  refine ⟨fun c => ?_, fun c => ?_⟩
  · rw [if_pos c] at h
    refine wp_X11_work_25 (d := d + 17)  _ _ ?_
    exact s_X11_work_30  h
  · rw [if_neg c] at h
    refine ⟨fun c => ?_, fun c => ?_⟩
    · rw [if_pos c] at h
      exact s_X11_work_30  h
    · rw [if_neg c] at h
      refine wp_X11_work_25 (d := d + 17)  _ _ ?_
      exact s_X11_work_30  h
def f_X11_year_31 (n : Nat) (p1 p2 p3 p4 p5 w0 : Int) (M : e_M) : Option (Int × e_M) := (f_b (f_X11_bad w0 1 1 M) fun rr1 NN2 => (if rr1 = 0 then (f_b (f_X11_yearBy n p1 p2 p3 p4 NN2) fun _ NN4 => (if p5 = 0 then (f_b (f_X11_sumOf 533 n 0 NN4) fun rr9 NN10 => (some (rr9, NN10))) else (if p5 = 1 then (f_b (f_X11_sumOf 533 n 6 NN4) fun rr7 NN8 => (some (rr7, NN8))) else (if p5 = 2 then (some ((e_w ((NN4 533 54) - (NN4 532 54))), NN4)) else (if p5 = 3 then (some ((NN4 64 46), NN4)) else (f_b (f_X11_doneIn 533 n NN4) fun rr5 NN6 => (some (rr5, NN6)))))))) else (some (0, NN2))))
theorem s_X11_year_31 {X : e_X} {d gn : Nat} {n : Nat} {p1 p2 p3 p4 p5 w0 : Int} {M M' : e_M} {v : Int} (h : f_X11_year_31  n p1 p2 p3 p4 p5 w0 M = some (v, M')) : e_G X (d + 8) YX11_year 31 [some (.inr (.inr 64)), some (.inl p1), some (.inl p2), some (.inl p3), some (.inl p4), some (.inl p5)] [.inl w0, .inr (.inr 64)] (557, gn, e_RF, M) (.inl (some (.inl v)), (557, gn, e_RF, M')) := by
  unfold f_X11_year_31 at h
  refine wp_X11_year_31 (d := d + 7)  M p1 p2 p3 p4 p5 w0 (f_mn) ?_
  obtain ⟨rr11, NN12, hc13, h⟩ := f_bd h
  refine ⟨rr11, NN12, s_X11_bad (d := d + 7)  hc13, ?_⟩
  refine ⟨fun c => ?_, fun c => ?_⟩
  · rw [if_pos c] at h
    obtain ⟨rr14, NN15, hc16, h⟩ := f_bd h
    refine ⟨NN15, s_X11_yearBy (d := d)  hc16, ?_⟩
    refine ⟨fun c => ?_, fun c => ?_, fun c => ?_, fun c => ?_, fun c => ?_⟩
    · rw [if_pos c] at h
      obtain ⟨rr17, NN18, hc19, h⟩ := f_bd h
      refine ⟨rr17, NN18, s_X11_sumOf (d := d + 7) rfl (Nat.le_of_ble_eq_true rfl) (by decide) hc19, ?_⟩
      cases h; rfl
    · rw [if_neg (by omega), if_pos c] at h
      obtain ⟨rr20, NN21, hc22, h⟩ := f_bd h
      refine ⟨rr20, NN21, s_X11_sumOf (d := d + 7) rfl (Nat.le_of_ble_eq_true rfl) (by decide) hc22, ?_⟩
      cases h; rfl
    · rw [if_neg (by omega), if_neg (by omega), if_pos c] at h
      cases h; rfl
    · rw [if_neg (by omega), if_neg (by omega), if_neg (by omega), if_pos c] at h
      cases h; rfl
    · rw [if_neg (by omega), if_neg (by omega), if_neg (by omega), if_neg (by omega)] at h
      obtain ⟨rr23, NN24, hc25, h⟩ := f_bd h
      refine ⟨rr23, NN24, s_X11_doneIn (d := d + 7) rfl (Nat.le_of_ble_eq_true rfl) (by decide) hc25, ?_⟩
      cases h; rfl
  · rw [if_neg c] at h
    cases h; rfl
def f_X11_year (n : Nat) (p1 p2 p3 p4 p5 : Int) (M : e_M) : Option (Int × e_M) := (f_b (f_X11_isYear p2 p3 p4 (e_up M 64 0 0)) fun rr26 NN27 => (if rr26 = 0 then (f_X11_year_31 n p1 p2 p3 p4 p5 1 NN27) else (f_b (f_X11_in p5 0 4 NN27) fun rr28 NN29 => (if ¬ rr28 = 0 then (f_X11_year_31 n p1 p2 p3 p4 p5 0 NN29) else (f_X11_year_31 n p1 p2 p3 p4 p5 1 NN29)))))
theorem s_X11_year {X : e_X} {d gn : Nat} {n : Nat} {p1 p2 p3 p4 p5 : Int} {M M' : e_M} {v : Int} (h : f_X11_year  n p1 p2 p3 p4 p5 M = some (v, M')) : e_E X (d + 8) YX11_year [.inr (.inr 64), .inl p1, .inl p2, .inl p3, .inl p4, .inl p5] (557, gn, e_RF, M) (.inl (some (.inl v)), (557, gn, e_RF, M')) := by
  unfold f_X11_year at h
  refine wp_X11_year_0 (d := d + 7)  M p1 p2 p3 p4 p5 (f_mn) ?_
  obtain ⟨rr30, NN31, hc32, h⟩ := f_bd h
  refine ⟨rr30, NN31, s_X11_isYear (d := d + 6)  hc32, ?_⟩
  refine ⟨fun c => ?_, fun c => ?_⟩
  · rw [if_pos c] at h
    refine wp_X11_year_26 (d := d + 7)  _ _ _ _ _ _ ?_
    exact s_X11_year_31  h
  · rw [if_neg c] at h
    obtain ⟨rr33, NN34, hc35, h⟩ := f_bd h
    refine ⟨rr33, NN34, s_X11_in (d := d + 7)  hc35, ?_⟩
    refine ⟨fun c => ?_, fun c => ?_⟩
    · rw [if_pos c] at h
      exact s_X11_year_31  h
    · rw [if_neg (not_not_intro c)] at h
      refine wp_X11_year_26 (d := d + 7)  _ _ _ _ _ _ ?_
      exact s_X11_year_31  h
