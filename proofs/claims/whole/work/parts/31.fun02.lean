def f_X11_person_43 (p1 p2 w0 : Int) (M : e_M) : Option (Int × e_M) := (f_b (f_X11_bad w0 2 1 M) fun rr1 NN2 => (if rr1 = 0 then (if p2 = 0 then (if (0 ≤ (e_w (0 + p1)) ∧ (e_w (0 + p1)) < 56) then (some ((NN2 532 (e_w (0 + p1)).toNat), NN2)) else none) else (if p2 = 1 then (if (0 ≤ p1 ∧ p1 < 6) then (some ((NN2 (81 + p1.toNat) 1), NN2)) else none) else (if p2 = 2 then (if (0 ≤ (e_w (6 + p1)) ∧ (e_w (6 + p1)) < 56) then (some ((NN2 532 (e_w (6 + p1)).toNat), NN2)) else none) else (if p2 = 3 then (if (0 ≤ (e_w (12 + p1)) ∧ (e_w (12 + p1)) < 56) then (some ((NN2 532 (e_w (12 + p1)).toNat), NN2)) else none) else (if p2 = 4 then (if (0 ≤ p1 ∧ p1 < 6) then (some ((NN2 72 p1.toNat), NN2)) else none) else (if p2 = 5 then (if (0 ≤ (e_w (18 + p1)) ∧ (e_w (18 + p1)) < 56) then (some ((NN2 532 (e_w (18 + p1)).toNat), NN2)) else none) else (if (0 ≤ (e_w (24 + p1)) ∧ (e_w (24 + p1)) < 56) then (some ((NN2 532 (e_w (24 + p1)).toNat), NN2)) else none))))))) else (some (0, NN2))))
theorem s_X11_person_43 {X : e_X} {d gn : Nat} {p1 p2 w0 : Int} {M M' : e_M} {v : Int} (h : f_X11_person_43   p1 p2 w0 M = some (v, M')) : e_G X (d + 2) YX11_person 43 [some (.inr (.inr 64)), some (.inl p1), some (.inl p2)] [.inl w0, .inr (.inr 64)] (557, gn, e_RF, M) (.inl (some (.inl v)), (557, gn, e_RF, M')) := by
  unfold f_X11_person_43 at h
  refine wp_X11_person_43 (d := d + 1)  M p1 p2 w0 (f_mn) ?_
  obtain ⟨rr3, NN4, hc5, h⟩ := f_bd h
  refine ⟨rr3, NN4, s_X11_bad (d := d + 1)  hc5, ?_⟩
  refine ⟨fun c => ?_, fun c => ?_⟩
  · rw [if_pos c] at h
    refine ⟨fun c => ?_, fun c => ?_, fun c => ?_, fun c => ?_, fun c => ?_, fun c => ?_, fun c => ?_⟩
    · rw [if_pos c] at h
      obtain ⟨c6, h⟩ := f_gd h
      exact ⟨c6, by cases h; rfl⟩
    · rw [if_neg (by omega), if_pos c] at h
      obtain ⟨c7, h⟩ := f_gd h
      exact ⟨c7, by cases h; rfl⟩
    · rw [if_neg (by omega), if_neg (by omega), if_pos c] at h
      obtain ⟨c8, h⟩ := f_gd h
      exact ⟨c8, by cases h; rfl⟩
    · rw [if_neg (by omega), if_neg (by omega), if_neg (by omega), if_pos c] at h
      obtain ⟨c9, h⟩ := f_gd h
      exact ⟨c9, by cases h; rfl⟩
    · rw [if_neg (by omega), if_neg (by omega), if_neg (by omega), if_neg (by omega), if_pos c] at h
      obtain ⟨c10, h⟩ := f_gd h
      exact ⟨c10, by cases h; rfl⟩
    · rw [if_neg (by omega), if_neg (by omega), if_neg (by omega), if_neg (by omega), if_neg (by omega), if_pos c] at h
      obtain ⟨c11, h⟩ := f_gd h
      exact ⟨c11, by cases h; rfl⟩
    · rw [if_neg (by omega), if_neg (by omega), if_neg (by omega), if_neg (by omega), if_neg (by omega), if_neg (by omega)] at h
      obtain ⟨c12, h⟩ := f_gd h
      exact ⟨c12, by cases h; rfl⟩
  · rw [if_neg c] at h
    cases h; rfl
def f_X11_person_19 (p1 p2 w0 : Int) (M : e_M) : Option (Int × e_M) := (f_b (f_X11_bad w0 1 0 M) fun rr13 NN14 => (if ¬ rr13 = 0 then (some (0, NN14)) else (f_b (f_X11_in p2 0 6 NN14) fun rr15 NN16 => (if ¬ rr15 = 0 then (f_X11_person_43 p1 p2 0 NN16) else (f_X11_person_43 p1 p2 1 NN16)))))
theorem s_X11_person_19 {X : e_X} {d gn : Nat} {p1 p2 w0 : Int} {M M' : e_M} {v : Int} (h : f_X11_person_19   p1 p2 w0 M = some (v, M')) : e_G X (d + 2) YX11_person 19 [some (.inr (.inr 64)), some (.inl p1), some (.inl p2)] [.inl w0, .inr (.inr 64)] (557, gn, e_RF, M) (.inl (some (.inl v)), (557, gn, e_RF, M')) := by
  unfold f_X11_person_19 at h
  refine wp_X11_person_19 (d := d + 1)  M p1 p2 w0 (f_mn) ?_
  obtain ⟨rr17, NN18, hc19, h⟩ := f_bd h
  refine ⟨rr17, NN18, s_X11_bad (d := d + 1)  hc19, ?_⟩
  refine ⟨fun c => ?_, fun c => ?_⟩
  · rw [if_pos c] at h
    cases h; rfl
  · rw [if_neg (not_not_intro c)] at h
    obtain ⟨rr20, NN21, hc22, h⟩ := f_bd h
    refine ⟨rr20, NN21, s_X11_in (d := d + 1)  hc22, ?_⟩
    refine ⟨fun c => ?_, fun c => ?_⟩
    · rw [if_pos c] at h
      exact s_X11_person_43  h
    · rw [if_neg (not_not_intro c)] at h
      exact s_X11_person_43  h
def f_X11_person (p1 p2 : Int) (M : e_M) : Option (Int × e_M) := (f_b (f_X11_isPerson p1 (e_up M 64 0 0)) fun rr23 NN24 => (if ¬ rr23 = 0 then (f_X11_person_19 p1 p2 0 NN24) else (f_X11_person_19 p1 p2 1 NN24)))
theorem s_X11_person {X : e_X} {d gn : Nat} {p1 p2 : Int} {M M' : e_M} {v : Int} (h : f_X11_person   p1 p2 M = some (v, M')) : e_E X (d + 2) YX11_person [.inr (.inr 64), .inl p1, .inl p2] (557, gn, e_RF, M) (.inl (some (.inl v)), (557, gn, e_RF, M')) := by
  unfold f_X11_person at h
  refine wp_X11_person_0 (d := d + 1)  M p1 p2 (f_mn) ?_
  obtain ⟨rr25, NN26, hc27, h⟩ := f_bd h
  refine ⟨rr25, NN26, s_X11_isPerson (d := d)  hc27, ?_⟩
  refine ⟨fun c => ?_, fun c => ?_⟩
  · rw [if_pos c] at h
    exact s_X11_person_19  h
  · rw [if_neg (not_not_intro c)] at h
    exact s_X11_person_19  h
def f_X11_puts (q0 : Nat) (p2 p3 : Int) (M : e_M) : Option (Int × e_M) := (if ¬ p3 = 0 then (if (0 ≤ (e_w (((e_up M 64 39 (e_w ((M 64 39) + 1))) 64 39) - 1)) ∧ (e_w (((e_up M 64 39 (e_w ((M 64 39) + 1))) 64 39) - 1)) < 953) then (some (((e_up M 64 39 (e_w ((M 64 39) + 1))) q0 (e_w (((e_up M 64 39 (e_w ((M 64 39) + 1))) 64 39) - 1)).toNat), (e_up M 64 39 (e_w ((M 64 39) + 1))))) else none) else (if (0 ≤ (M 64 39) ∧ (M 64 39) < 953) then (if (0 ≤ (e_w (((e_up (e_up M q0 (M 64 39).toNat p2) 64 39 (e_w (((e_up M q0 (M 64 39).toNat p2) 64 39) + 1))) 64 39) - 1)) ∧ (e_w (((e_up (e_up M q0 (M 64 39).toNat p2) 64 39 (e_w (((e_up M q0 (M 64 39).toNat p2) 64 39) + 1))) 64 39) - 1)) < 953) then (some (((e_up (e_up M q0 (M 64 39).toNat p2) 64 39 (e_w (((e_up M q0 (M 64 39).toNat p2) 64 39) + 1))) q0 (e_w (((e_up (e_up M q0 (M 64 39).toNat p2) 64 39 (e_w (((e_up M q0 (M 64 39).toNat p2) 64 39) + 1))) 64 39) - 1)).toNat), (e_up (e_up M q0 (M 64 39).toNat p2) 64 39 (e_w (((e_up M q0 (M 64 39).toNat p2) 64 39) + 1))))) else none) else none))
theorem s_X11_puts {X : e_X} {d gn : Nat} {q0 : Nat} (hq0 : e_SH q0 = (20, 953)) (kq0 : q0 ≤ 557) (zq0 : q0 ≠ 0) {p2 p3 : Int} {M M' : e_M} {v : Int} (h : f_X11_puts q0  p2 p3 M = some (v, M')) : e_E X d YX11_puts [.inr (.inr 64), .inr (.inr q0), .inl p2, .inl p3] (557, gn, e_RF, M) (.inl (some (.inl v)), (557, gn, e_RF, M')) := by
  unfold f_X11_puts at h
  refine wp_X11_puts_0 hq0 kq0 zq0 M p2 p3 ?_
  refine ⟨fun c => ?_, fun c => ?_⟩
  · rw [if_pos c] at h
    refine wp_X11_puts_11 hq0 kq0 zq0 _ _ _ ?_
    obtain ⟨c1, h⟩ := f_gd h
    exact ⟨c1, by cases h; rfl⟩
  · rw [if_neg (not_not_intro c)] at h
    obtain ⟨c2, h⟩ := f_gd h
    refine ⟨c2, ?_⟩
    refine wp_X11_puts_11 hq0 kq0 zq0 _ _ _ ?_
    obtain ⟨c3, h⟩ := f_gd h
    exact ⟨c3, by cases h; rfl⟩
def f_X11_putsAll_L53 (q0 : Nat) : Nat → Nat → Int → Int → Int → e_M → Option (Int × e_M)
  | 0, _, _, _, _, _ => none
  | n + 1, k, p2, v3, v4, M => (if k = 0 then (if 16 ≤ v3 then (some (0, M)) else (f_X11_putsAll_L53 q0 n 1 p2 v3 0 M)) else (if 56 ≤ v4 then (f_X11_putsAll_L53 q0 n 0 p2 (e_w (v3 + 1)) 0 M) else (if (0 ≤ v3 ∧ v3 < 16) then (if (0 ≤ v3 ∧ v3 < 16) then (if (0 ≤ v4 ∧ v4 < 56) then (f_b (f_X11_puts q0 (M (535 + v3.toNat) v4.toNat) p2 M) fun rr1 NN2 => (if (0 ≤ v4 ∧ v4 < 56) then (f_X11_putsAll_L53 q0 n 1 p2 v3 (e_w (v4 + 1)) (e_up NN2 (535 + v3.toNat) v4.toNat rr1)) else none)) else none) else none) else none)))
theorem s_X11_putsAll_L53 {X : e_X} {d gn : Nat} {q0 : Nat} (hq0 : e_SH q0 = (20, 953)) (kq0 : q0 ≤ 557) (zq0 : q0 ≠ 0) : ∀ n : Nat, (∀ (p2 v3 : Int) (M M' : e_M) (v : Int), f_X11_putsAll_L53 q0 n 0 p2 v3 0 M = some (v, M') → e_G X (d + 1) YX11_putsAll 53 [some (.inr (.inr 64)), some (.inr (.inr q0)), some (.inl p2), some (.inl v3), none] [] (557, gn, e_RF, M) (.inl none, (557, gn, e_RF, M'))) ∧ (∀ (p2 v3 v4 : Int) (M M' : e_M) (v : Int), f_X11_putsAll_L53 q0 n 1 p2 v3 v4 M = some (v, M') → e_G X (d + 1) YX11_putsAll 62 [some (.inr (.inr 64)), some (.inr (.inr q0)), some (.inl p2), some (.inl v3), some (.inl v4)] [] (557, gn, e_RF, M) (.inl none, (557, gn, e_RF, M'))) := by
  intro n
  induction n with
  | zero => exact ⟨(by intro p2 v3 M M' v h; cases h), (by intro p2 v3 v4 M M' v h; cases h)⟩
  | succ n ih =>
    refine ⟨?_, ?_⟩
    · intro p2 v3 M M' v h
      rw [f_X11_putsAll_L53, if_pos rfl] at h
      refine wp_X11_putsAll_53 (d := d) hq0 kq0 zq0 M p2 v3 ?_
      refine ⟨fun c => ?_, fun c => ?_⟩
      · rw [if_pos c] at h
        cases h; rfl
      · rw [if_neg c] at h
        exact ih.2 _ _ _ _ _ _ h
    · intro p2 v3 v4 M M' v h
      rw [f_X11_putsAll_L53, if_neg (by decide)] at h
      refine wp_X11_putsAll_62 (d := d) hq0 kq0 zq0 M p2 v3 v4 (f_mn) ?_
      refine ⟨fun c => ?_, fun c => ?_⟩
      · rw [if_pos c] at h
        exact ih.1 _ _ _ _ _ h
      · rw [if_neg c] at h
        obtain ⟨c3, h⟩ := f_gd h
        refine ⟨c3, ?_⟩
        obtain ⟨c4, h⟩ := f_gd h
        refine ⟨c4, ?_⟩
        obtain ⟨c5, h⟩ := f_gd h
        refine ⟨c5, ?_⟩
        obtain ⟨rr6, NN7, hc8, h⟩ := f_bd h
        refine ⟨rr6, NN7, s_X11_puts (d := d) hq0 kq0 zq0 hc8, ?_⟩
        obtain ⟨c9, h⟩ := f_gd h
        refine ⟨c9, ?_⟩
        exact ih.2 _ _ _ _ _ _ h
theorem s_X11_putsAll_53 {X : e_X} {d gn : Nat} {q0 : Nat} (hq0 : e_SH q0 = (20, 953)) (kq0 : q0 ≤ 557) (zq0 : q0 ≠ 0) (n : Nat) : (∀ (p2 v3 : Int) (M M' : e_M) (v : Int), f_X11_putsAll_L53 q0 n 0 p2 v3 0 M = some (v, M') → e_G X (d + 1) YX11_putsAll 53 [some (.inr (.inr 64)), some (.inr (.inr q0)), some (.inl p2), some (.inl v3), none] [] (557, gn, e_RF, M) (.inl none, (557, gn, e_RF, M'))) := (s_X11_putsAll_L53 hq0 kq0 zq0 n).1
theorem s_X11_putsAll_62 {X : e_X} {d gn : Nat} {q0 : Nat} (hq0 : e_SH q0 = (20, 953)) (kq0 : q0 ≤ 557) (zq0 : q0 ≠ 0) (n : Nat) : (∀ (p2 v3 v4 : Int) (M M' : e_M) (v : Int), f_X11_putsAll_L53 q0 n 1 p2 v3 v4 M = some (v, M') → e_G X (d + 1) YX11_putsAll 62 [some (.inr (.inr 64)), some (.inr (.inr q0)), some (.inl p2), some (.inl v3), some (.inl v4)] [] (557, gn, e_RF, M) (.inl none, (557, gn, e_RF, M'))) := (s_X11_putsAll_L53 hq0 kq0 zq0 n).2
def f_X11_putsAll_21 (q0 : Nat) : Nat → Int → Int → e_M → Option (Int × e_M)
  | 0, _, _, _ => none
  | n + 1, p2, v3, M => (if 56 ≤ v3 then (f_X11_putsAll_L53 q0 n 0 p2 0 0 M) else (if (0 ≤ v3 ∧ v3 < 56) then (f_b (f_X11_puts q0 (M 532 v3.toNat) p2 M) fun rr10 NN11 => (if (0 ≤ v3 ∧ v3 < 56) then (f_X11_putsAll_21 q0 n p2 (e_w (v3 + 1)) (e_up NN11 532 v3.toNat rr10)) else none)) else none))
theorem s_X11_putsAll_21 {X : e_X} {d gn : Nat} {q0 : Nat} (hq0 : e_SH q0 = (20, 953)) (kq0 : q0 ≤ 557) (zq0 : q0 ≠ 0) : ∀ n : Nat, ∀ (p2 v3 : Int) (M M' : e_M) (v : Int), f_X11_putsAll_21 q0 n p2 v3 M = some (v, M') → e_G X (d + 1) YX11_putsAll 21 [some (.inr (.inr 64)), some (.inr (.inr q0)), some (.inl p2), some (.inl v3), none] [] (557, gn, e_RF, M) (.inl none, (557, gn, e_RF, M')) := by
  intro n
  induction n with
  | zero => intro p2 v3 M M' v h; cases h
  | succ n ih =>
    intro p2 v3 M M' v h
    rw [f_X11_putsAll_21] at h
    refine wp_X11_putsAll_21 (d := d) hq0 kq0 zq0 M p2 v3 (f_mn) ?_
    refine ⟨fun c => ?_, fun c => ?_⟩
    · rw [if_pos c] at h
      exact s_X11_putsAll_53 hq0 kq0 zq0 _ _ _ _ _ _ h
    · rw [if_neg c] at h
      obtain ⟨c12, h⟩ := f_gd h
      refine ⟨c12, ?_⟩
      obtain ⟨rr13, NN14, hc15, h⟩ := f_bd h
      refine ⟨rr13, NN14, s_X11_puts (d := d) hq0 kq0 zq0 hc15, ?_⟩
      obtain ⟨c16, h⟩ := f_gd h
      refine ⟨c16, ?_⟩
      exact ih _ _ _ _ _ h
def f_X11_putsAll (q0 : Nat) (n : Nat) (p2 : Int) (M : e_M) : Option (Int × e_M) := (f_b (f_X11_puts q0 ((e_up M 64 39 0) 64 36) p2 (e_up M 64 39 0)) fun rr17 NN18 => (f_X11_putsAll_21 q0 n p2 0 (e_up NN18 64 36 rr17)))
theorem s_X11_putsAll {X : e_X} {d gn : Nat} {q0 : Nat} (hq0 : e_SH q0 = (20, 953)) (kq0 : q0 ≤ 557) (zq0 : q0 ≠ 0) {n : Nat} {p2 : Int} {M M' : e_M} {v : Int} (h : f_X11_putsAll q0 n p2 M = some (v, M')) : e_E X (d + 1) YX11_putsAll [.inr (.inr 64), .inr (.inr q0), .inl p2] (557, gn, e_RF, M) (.inl none, (557, gn, e_RF, M')) := by
  unfold f_X11_putsAll at h
  refine wp_X11_putsAll_0 (d := d) hq0 kq0 zq0 M p2 (f_mn) ?_
  obtain ⟨rr19, NN20, hc21, h⟩ := f_bd h
  refine ⟨rr19, NN20, s_X11_puts (d := d) hq0 kq0 zq0 hc21, ?_⟩
  exact s_X11_putsAll_21 hq0 kq0 zq0 _ _ _ _ _ _ h
def f_X11_restore (n : Nat) (M : e_M) : Option (Int × e_M) := (if ¬ ((e_up M 64 0 0) 64 38) = 0 then (if (0 ≤ ((e_up (e_up M 64 0 0) 64 38 (e_w (((e_up M 64 0 0) 64 38) - 1))) 64 38) ∧ ((e_up (e_up M 64 0 0) 64 38 (e_w (((e_up M 64 0 0) 64 38) - 1))) 64 38) < 3) then (f_b (f_X11_putsAll (552 + ((e_up (e_up M 64 0 0) 64 38 (e_w (((e_up M 64 0 0) 64 38) - 1))) 64 38).toNat) n 1 (e_up (e_up M 64 0 0) 64 38 (e_w (((e_up M 64 0 0) 64 38) - 1)))) fun _ NN2 => (some (((e_up NN2 64 37 0) 64 38), (e_up NN2 64 37 0)))) else none) else (some ((-1), (e_up M 64 0 0))))
theorem s_X11_restore {X : e_X} {d gn : Nat} {n : Nat} {M M' : e_M} {v : Int} (h : f_X11_restore  n  M = some (v, M')) : e_E X (d + 2) YX11_restore [.inr (.inr 64)] (557, gn, e_RF, M) (.inl (some (.inl v)), (557, gn, e_RF, M')) := by
  unfold f_X11_restore at h
  refine wp_X11_restore_0 (d := d + 1)  M  (f_mn) ?_
  refine ⟨fun c => ?_, fun c => ?_⟩
  · rw [if_pos c] at h
    obtain ⟨c3, h⟩ := f_gd h
    refine ⟨c3, ?_⟩
    obtain ⟨rr4, NN5, hc6, h⟩ := f_bd h
    refine ⟨NN5, s_X11_putsAll (d := d) (sh_551 c3.1 c3.2).1 (sh_551 c3.1 c3.2).2.1 (sh_551 c3.1 c3.2).2.2 hc6, ?_⟩
    cases h; rfl
  · rw [if_neg (not_not_intro c)] at h
    cases h; rfl
def f_X11_richest_34 : Nat → Int → Int → Int → e_M → Option (Int × e_M)
  | 0, _, _, _, _ => none
  | n + 1, p1, v2, v3, M => (if (M 68 0) ≤ v3 then (if p1 = 0 then (some (v2, M)) else (if ¬ v2 = (-1) then (if (0 ≤ (e_w (0 + v2)) ∧ (e_w (0 + v2)) < 56) then (some ((M 532 (e_w (0 + v2)).toNat), M)) else none) else (some (v2, M)))) else (if v2 = (-1) then (f_X11_richest_34 n p1 v3 (e_w (v3 + 1)) M) else (if (0 ≤ (e_w (0 + v3)) ∧ (e_w (0 + v3)) < 56) then (if (0 ≤ (e_w (0 + v2)) ∧ (e_w (0 + v2)) < 56) then (if (M 532 (e_w (0 + v3)).toNat) ≤ (M 532 (e_w (0 + v2)).toNat) then (f_X11_richest_34 n p1 v2 (e_w (v3 + 1)) M) else (f_X11_richest_34 n p1 v3 (e_w (v3 + 1)) M)) else none) else none)))
theorem s_X11_richest_34 {X : e_X} {d gn : Nat} : ∀ n : Nat, ∀ (p1 v2 v3 : Int) (M M' : e_M) (v : Int), f_X11_richest_34  n p1 v2 v3 M = some (v, M') → e_G X (d + 1) YX11_richest 34 [some (.inr (.inr 64)), some (.inl p1), some (.inl v2), some (.inl v3)] [] (557, gn, e_RF, M) (.inl (some (.inl v)), (557, gn, e_RF, M')) := by
  intro n
  induction n with
  | zero => intro p1 v2 v3 M M' v h; cases h
  | succ n ih =>
    intro p1 v2 v3 M M' v h
    rw [f_X11_richest_34] at h
    refine wp_X11_richest_34 (d := d)  M p1 v2 v3 ?_
    refine ⟨fun c => ?_, fun c => ?_⟩
    · rw [if_pos c] at h
      refine ⟨fun c => ?_, fun c => ?_⟩
      · rw [if_pos c] at h
        cases h; rfl
      · rw [if_neg c] at h
        refine ⟨fun c => ?_, fun c => ?_⟩
        · rw [if_pos c] at h
          obtain ⟨c1, h⟩ := f_gd h
          exact ⟨c1, by cases h; rfl⟩
        · rw [if_neg (not_not_intro c)] at h
          cases h; rfl
    · rw [if_neg c] at h
      refine ⟨fun c => ?_, fun c => ?_⟩
      · rw [if_pos c] at h
        exact ih _ _ _ _ _ _ h
      · rw [if_neg c] at h
        obtain ⟨c2, h⟩ := f_gd h
        refine ⟨c2, ?_⟩
        obtain ⟨c3, h⟩ := f_gd h
        refine ⟨c3, ?_⟩
        refine ⟨fun c => ?_, fun c => ?_⟩
        · rw [if_pos c] at h
          exact ih _ _ _ _ _ _ h
        · rw [if_neg c] at h
          exact ih _ _ _ _ _ _ h
def f_X11_richest (n : Nat) (p1 : Int) (M : e_M) : Option (Int × e_M) := (f_b (f_X11_in p1 0 1 (e_up M 64 0 0)) fun rr4 NN5 => (if ¬ rr4 = 0 then (f_b (f_X11_bad 0 1 1 NN5) fun rr8 NN9 => (if rr8 = 0 then (f_X11_richest_34 n p1 (-1) 0 NN9) else (some (0, NN9)))) else (f_b (f_X11_bad 1 1 1 NN5) fun rr6 NN7 => (if rr6 = 0 then (f_X11_richest_34 n p1 (-1) 0 NN7) else (some (0, NN7))))))
theorem s_X11_richest {X : e_X} {d gn : Nat} {n : Nat} {p1 : Int} {M M' : e_M} {v : Int} (h : f_X11_richest  n p1 M = some (v, M')) : e_E X (d + 1) YX11_richest [.inr (.inr 64), .inl p1] (557, gn, e_RF, M) (.inl (some (.inl v)), (557, gn, e_RF, M')) := by
  unfold f_X11_richest at h
  refine wp_X11_richest_0 (d := d)  M p1 (f_mn) ?_
  obtain ⟨rr10, NN11, hc12, h⟩ := f_bd h
  refine ⟨rr10, NN11, s_X11_in (d := d)  hc12, ?_⟩
  refine ⟨fun c => ?_, fun c => ?_⟩
  · rw [if_pos c] at h
    refine wp_X11_richest_20 (d := d)  _ _ _ (f_mn) ?_
    obtain ⟨rr13, NN14, hc15, h⟩ := f_bd h
    refine ⟨rr13, NN14, s_X11_bad (d := d)  hc15, ?_⟩
    refine ⟨fun c => ?_, fun c => ?_⟩
    · rw [if_pos c] at h
      exact s_X11_richest_34  _ _ _ _ _ _ _ h
    · rw [if_neg c] at h
      cases h; rfl
  · rw [if_neg (not_not_intro c)] at h
    refine wp_X11_richest_20 (d := d)  _ _ _ (f_mn) ?_
    obtain ⟨rr16, NN17, hc18, h⟩ := f_bd h
    refine ⟨rr16, NN17, s_X11_bad (d := d)  hc18, ?_⟩
    refine ⟨fun c => ?_, fun c => ?_⟩
    · rw [if_pos c] at h
      exact s_X11_richest_34  _ _ _ _ _ _ _ h
    · rw [if_neg c] at h
      cases h; rfl
def f_X11_sells (q0 : Nat) (p1 : Int) (M : e_M) : Option (Int × e_M) := (f_b (f_X11_isSold q0 p1 M) fun rr1 NN2 => (if ¬ rr1 = 0 then (if (0 ≤ (e_w (0 + p1)) ∧ (e_w (0 + p1)) < 56) then (if (0 ≤ (e_w (18 + p1)) ∧ (e_w (18 + p1)) < 56) then (if (0 ≤ (e_w (0 + p1)) ∧ (e_w (0 + p1)) < 56) then (if (0 ≤ (e_w (18 + p1)) ∧ (e_w (18 + p1)) < 56) then (some (1, (e_up (e_up NN2 q0 (e_w (0 + p1)).toNat (e_w ((NN2 q0 (e_w (0 + p1)).toNat) + (e_w (Int.tdiv (NN2 q0 (e_w (18 + p1)).toNat) 2))))) q0 (e_w (18 + p1)).toNat (-1)))) else none) else none) else none) else none) else (some (0, NN2))))
theorem s_X11_sells {X : e_X} {d gn : Nat} {q0 : Nat} (hq0 : e_SH q0 = (20, 56)) (kq0 : q0 ≤ 557) (zq0 : q0 ≠ 0) {p1 : Int} {M M' : e_M} {v : Int} (h : f_X11_sells q0  p1 M = some (v, M')) : e_E X (d + 1) YX11_sells [.inr (.inr q0), .inl p1] (557, gn, e_RF, M) (.inl (some (.inl v)), (557, gn, e_RF, M')) := by
  unfold f_X11_sells at h
  refine wp_X11_sells_0 (d := d) hq0 kq0 zq0 M p1 (f_mn) ?_
  obtain ⟨rr3, NN4, hc5, h⟩ := f_bd h
  refine ⟨rr3, NN4, s_X11_isSold (d := d) hq0 kq0 zq0 hc5, ?_⟩
  refine ⟨fun c => ?_, fun c => ?_⟩
  · rw [if_pos c] at h
    obtain ⟨c6, h⟩ := f_gd h
    refine ⟨c6, ?_⟩
    obtain ⟨c7, h⟩ := f_gd h
    refine ⟨c7, ?_⟩
    obtain ⟨c8, h⟩ := f_gd h
    refine ⟨c8, ?_⟩
    obtain ⟨c9, h⟩ := f_gd h
    exact ⟨c9, by cases h; rfl⟩
  · rw [if_neg (not_not_intro c)] at h
    cases h; rfl
def f_X11_six (p0 p1 p2 p3 p4 p5 : Int) (M : e_M) : Option (Int × e_M) := (if ¬ p3 = 0 then (if ¬ p4 = 0 then (if ¬ p5 = 0 then (some ((e_w ((e_w (27 * (e_w ((e_w (27 * (e_w ((e_w (27 * (e_w ((e_w (27 * (e_w ((e_w (27 * p0)) + p1)))) + p2)))) + p3)))) + p4)))) + p5)), M)) else (some ((e_w ((e_w (27 * (e_w ((e_w (27 * (e_w ((e_w (27 * (e_w ((e_w (27 * p0)) + p1)))) + p2)))) + p3)))) + p4)), M))) else (if ¬ p5 = 0 then (some ((e_w ((e_w (27 * (e_w ((e_w (27 * (e_w ((e_w (27 * (e_w ((e_w (27 * p0)) + p1)))) + p2)))) + p3)))) + p5)), M)) else (some ((e_w ((e_w (27 * (e_w ((e_w (27 * (e_w ((e_w (27 * p0)) + p1)))) + p2)))) + p3)), M)))) else (if ¬ p4 = 0 then (if ¬ p5 = 0 then (some ((e_w ((e_w (27 * (e_w ((e_w (27 * (e_w ((e_w (27 * (e_w ((e_w (27 * p0)) + p1)))) + p2)))) + p4)))) + p5)), M)) else (some ((e_w ((e_w (27 * (e_w ((e_w (27 * (e_w ((e_w (27 * p0)) + p1)))) + p2)))) + p4)), M))) else (if ¬ p5 = 0 then (some ((e_w ((e_w (27 * (e_w ((e_w (27 * (e_w ((e_w (27 * p0)) + p1)))) + p2)))) + p5)), M)) else (some ((e_w ((e_w (27 * (e_w ((e_w (27 * p0)) + p1)))) + p2)), M)))))
theorem s_X11_six {X : e_X} {d gn : Nat} {p0 p1 p2 p3 p4 p5 : Int} {M M' : e_M} {v : Int} (h : f_X11_six   p0 p1 p2 p3 p4 p5 M = some (v, M')) : e_E X d YX11_six [.inl p0, .inl p1, .inl p2, .inl p3, .inl p4, .inl p5] (557, gn, e_RF, M) (.inl (some (.inl v)), (557, gn, e_RF, M')) := by
  unfold f_X11_six at h
  refine wp_X11_six_0  M p0 p1 p2 p3 p4 p5 ?_
  refine ⟨fun c => ?_, fun c => ?_⟩
  · rw [if_pos c] at h
    refine wp_X11_six_29  _ _ _ _ _ _ _ _ _ ?_
    refine ⟨fun c => ?_, fun c => ?_⟩
    · rw [if_pos c] at h
      refine wp_X11_six_49  _ _ _ _ _ _ _ _ _ ?_
      refine ⟨fun c => ?_, fun c => ?_⟩
      · rw [if_pos c] at h
        cases h; rfl
      · rw [if_neg (not_not_intro c)] at h
        cases h; rfl
    · rw [if_neg (not_not_intro c)] at h
      refine wp_X11_six_49  _ _ _ _ _ _ _ _ _ ?_
      refine ⟨fun c => ?_, fun c => ?_⟩
      · rw [if_pos c] at h
        cases h; rfl
      · rw [if_neg (not_not_intro c)] at h
        cases h; rfl
  · rw [if_neg (not_not_intro c)] at h
    refine wp_X11_six_29  _ _ _ _ _ _ _ _ _ ?_
    refine ⟨fun c => ?_, fun c => ?_⟩
    · rw [if_pos c] at h
      refine wp_X11_six_49  _ _ _ _ _ _ _ _ _ ?_
      refine ⟨fun c => ?_, fun c => ?_⟩
      · rw [if_pos c] at h
        cases h; rfl
      · rw [if_neg (not_not_intro c)] at h
        cases h; rfl
    · rw [if_neg (not_not_intro c)] at h
      refine wp_X11_six_49  _ _ _ _ _ _ _ _ _ ?_
      refine ⟨fun c => ?_, fun c => ?_⟩
      · rw [if_pos c] at h
        cases h; rfl
      · rw [if_neg (not_not_intro c)] at h
        cases h; rfl
def f_X11_skipWord_0 : Nat → e_M → Option (Int × e_M)
  | 0, _ => none
  | n + 1, M => (f_b (f_X11_byteAt (M 64 4) M) fun rr1 NN2 => (f_b (f_X11_isSmall rr1 NN2) fun rr3 NN4 => (if rr3 = 0 then (some (0, NN4)) else (f_X11_skipWord_0 n (e_up NN4 64 4 (e_w ((NN4 64 4) + 1)))))))
theorem s_X11_skipWord_0 {X : e_X} {d gn : Nat} : ∀ n : Nat, ∀ (M M' : e_M) (v : Int), f_X11_skipWord_0  n  M = some (v, M') → e_G X (d + 1) YX11_skipWord 0 [some (.inr (.inr 64))] [] (557, gn, e_RF, M) (.inl none, (557, gn, e_RF, M')) := by
  intro n
  induction n with
  | zero => intro  M M' v h; cases h
  | succ n ih =>
    intro  M M' v h
    rw [f_X11_skipWord_0] at h
    refine wp_X11_skipWord_0 (d := d)  M  (f_mn) ?_
    obtain ⟨rr5, NN6, hc7, h⟩ := f_bd h
    refine ⟨rr5, NN6, s_X11_byteAt (d := d)  hc7, ?_⟩
    obtain ⟨rr8, NN9, hc10, h⟩ := f_bd h
    refine ⟨rr8, NN9, s_X11_isSmall (d := d)  hc10, ?_⟩
    refine ⟨fun c => ?_, fun c => ?_⟩
    · rw [if_pos c] at h
      cases h; rfl
    · rw [if_neg c] at h
      exact ih  _ _ _ h
def f_X11_skipWord (n : Nat) (M : e_M) : Option (Int × e_M) := f_X11_skipWord_0  n  M
theorem s_X11_skipWord {X : e_X} {d gn : Nat} {n : Nat} {M M' : e_M} {v : Int} (h : f_X11_skipWord  n  M = some (v, M')) : e_E X (d + 1) YX11_skipWord [.inr (.inr 64)] (557, gn, e_RF, M) (.inl none, (557, gn, e_RF, M')) := by
  exact s_X11_skipWord_0  _  _ _ _ h
def f_X11_spare_65 : Nat → Int → Int → Int → Int → e_M → Option (Int × e_M)
  | 0, _, _, _, _, _ => none
  | n + 1, p1, p2, v3, v4, M => (if p2 ≤ v4 then (some (v3, M)) else (if (0 ≤ p1 ∧ p1 < 6) then (f_b (f_X11_less 999 (e_w (v3 + (M (81 + p1.toNat) 1))) M) fun rr1 NN2 => (f_X11_spare_65 n p1 p2 rr1 (e_w (v4 + 1)) NN2)) else none))
theorem s_X11_spare_65 {X : e_X} {d gn : Nat} : ∀ n : Nat, ∀ (p1 p2 v3 v4 : Int) (M M' : e_M) (v : Int), f_X11_spare_65  n p1 p2 v3 v4 M = some (v, M') → e_G X (d + 2) YX11_spare 65 [some (.inr (.inr 64)), some (.inl p1), some (.inl p2), some (.inl v3), some (.inl v4)] [] (557, gn, e_RF, M) (.inl (some (.inl v)), (557, gn, e_RF, M')) := by
  intro n
  induction n with
  | zero => intro p1 p2 v3 v4 M M' v h; cases h
  | succ n ih =>
    intro p1 p2 v3 v4 M M' v h
    rw [f_X11_spare_65] at h
    refine wp_X11_spare_65 (d := d + 1)  M p1 p2 v3 v4 (f_mn) ?_
    refine ⟨fun c => ?_, fun c => ?_⟩
    · rw [if_pos c] at h
      cases h; rfl
    · rw [if_neg c] at h
      obtain ⟨c3, h⟩ := f_gd h
      refine ⟨c3, ?_⟩
      obtain ⟨rr4, NN5, hc6, h⟩ := f_bd h
      refine ⟨rr4, NN5, s_X11_less (d := d + 1)  hc6, ?_⟩
      exact ih _ _ _ _ _ _ _ h
def f_X11_spare_19 (n : Nat) (p1 p2 w0 : Int) (M : e_M) : Option (Int × e_M) := (f_b (f_X11_bad w0 1 0 M) fun rr7 NN8 => (if ¬ rr7 = 0 then (some (0, NN8)) else (f_b (f_X11_in p2 0 99 NN8) fun rr9 NN10 => (if ¬ rr9 = 0 then (f_b (f_X11_bad 0 2 1 NN10) fun rr13 NN14 => (if rr13 = 0 then (if (0 ≤ (e_w (0 + p1)) ∧ (e_w (0 + p1)) < 56) then (f_X11_spare_65 n p1 p2 (NN14 532 (e_w (0 + p1)).toNat) 0 NN14) else none) else (some (0, NN14)))) else (f_b (f_X11_bad 1 2 1 NN10) fun rr11 NN12 => (if rr11 = 0 then (if (0 ≤ (e_w (0 + p1)) ∧ (e_w (0 + p1)) < 56) then (f_X11_spare_65 n p1 p2 (NN12 532 (e_w (0 + p1)).toNat) 0 NN12) else none) else (some (0, NN12))))))))
theorem s_X11_spare_19 {X : e_X} {d gn : Nat} {n : Nat} {p1 p2 w0 : Int} {M M' : e_M} {v : Int} (h : f_X11_spare_19  n p1 p2 w0 M = some (v, M')) : e_G X (d + 2) YX11_spare 19 [some (.inr (.inr 64)), some (.inl p1), some (.inl p2), none, none] [.inl w0, .inr (.inr 64)] (557, gn, e_RF, M) (.inl (some (.inl v)), (557, gn, e_RF, M')) := by
  unfold f_X11_spare_19 at h
  refine wp_X11_spare_19 (d := d + 1)  M p1 p2 w0 (f_mn) ?_
  obtain ⟨rr15, NN16, hc17, h⟩ := f_bd h
  refine ⟨rr15, NN16, s_X11_bad (d := d + 1)  hc17, ?_⟩
  refine ⟨fun c => ?_, fun c => ?_⟩
  · rw [if_pos c] at h
    cases h; rfl
  · rw [if_neg (not_not_intro c)] at h
    obtain ⟨rr18, NN19, hc20, h⟩ := f_bd h
    refine ⟨rr18, NN19, s_X11_in (d := d + 1)  hc20, ?_⟩
    refine ⟨fun c => ?_, fun c => ?_⟩
    · rw [if_pos c] at h
      refine wp_X11_spare_43 (d := d + 1)  _ _ _ _ (f_mn) ?_
      obtain ⟨rr21, NN22, hc23, h⟩ := f_bd h
      refine ⟨rr21, NN22, s_X11_bad (d := d + 1)  hc23, ?_⟩
      refine ⟨fun c => ?_, fun c => ?_⟩
      · rw [if_pos c] at h
        obtain ⟨c24, h⟩ := f_gd h
        refine ⟨c24, ?_⟩
        exact s_X11_spare_65  _ _ _ _ _ _ _ _ h
      · rw [if_neg c] at h
        cases h; rfl
    · rw [if_neg (not_not_intro c)] at h
      refine wp_X11_spare_43 (d := d + 1)  _ _ _ _ (f_mn) ?_
      obtain ⟨rr25, NN26, hc27, h⟩ := f_bd h
      refine ⟨rr25, NN26, s_X11_bad (d := d + 1)  hc27, ?_⟩
      refine ⟨fun c => ?_, fun c => ?_⟩
      · rw [if_pos c] at h
        obtain ⟨c28, h⟩ := f_gd h
        refine ⟨c28, ?_⟩
        exact s_X11_spare_65  _ _ _ _ _ _ _ _ h
      · rw [if_neg c] at h
        cases h; rfl
def f_X11_spare (n : Nat) (p1 p2 : Int) (M : e_M) : Option (Int × e_M) := (f_b (f_X11_isPerson p1 (e_up M 64 0 0)) fun rr29 NN30 => (if ¬ rr29 = 0 then (f_X11_spare_19 n p1 p2 0 NN30) else (f_X11_spare_19 n p1 p2 1 NN30)))
theorem s_X11_spare {X : e_X} {d gn : Nat} {n : Nat} {p1 p2 : Int} {M M' : e_M} {v : Int} (h : f_X11_spare  n p1 p2 M = some (v, M')) : e_E X (d + 2) YX11_spare [.inr (.inr 64), .inl p1, .inl p2] (557, gn, e_RF, M) (.inl (some (.inl v)), (557, gn, e_RF, M')) := by
  unfold f_X11_spare at h
  refine wp_X11_spare_0 (d := d + 1)  M p1 p2 (f_mn) ?_
  obtain ⟨rr31, NN32, hc33, h⟩ := f_bd h
  refine ⟨rr31, NN32, s_X11_isPerson (d := d)  hc33, ?_⟩
  refine ⟨fun c => ?_, fun c => ?_⟩
  · rw [if_pos c] at h
    exact s_X11_spare_19  h
  · rw [if_neg (not_not_intro c)] at h
    exact s_X11_spare_19  h
def f_X11_status (p1 : Int) (M : e_M) : Option (Int × e_M) := (f_b (f_X11_in p1 0 1 (e_up M 64 0 0)) fun rr1 NN2 => (if rr1 = 0 then (some ((-1), NN2)) else (if (0 ≤ p1 ∧ p1 < 2) then (some ((NN2 66 p1.toNat), NN2)) else none)))
theorem s_X11_status {X : e_X} {d gn : Nat} {p1 : Int} {M M' : e_M} {v : Int} (h : f_X11_status   p1 M = some (v, M')) : e_E X (d + 1) YX11_status [.inr (.inr 64), .inl p1] (557, gn, e_RF, M) (.inl (some (.inl v)), (557, gn, e_RF, M')) := by
  unfold f_X11_status at h
  refine wp_X11_status_0 (d := d)  M p1 (f_mn) ?_
  obtain ⟨rr3, NN4, hc5, h⟩ := f_bd h
  refine ⟨rr3, NN4, s_X11_in (d := d)  hc5, ?_⟩
  refine ⟨fun c => ?_, fun c => ?_⟩
  · rw [if_pos c] at h
    cases h; rfl
  · rw [if_neg c] at h
    obtain ⟨c6, h⟩ := f_gd h
    exact ⟨c6, by cases h; rfl⟩
def f_X11_stay_L52 : Nat → Nat → Int → Int → Int → Int → Int → e_M → Option (Int × e_M)
  | 0, _, _, _, _, _, _, _ => none
  | n + 1, k, p1, v2, v3, v4, v5, M => (if k = 0 then (if v3 < 0 then (some (v2, M)) else (f_X11_stay_L52 n 1 p1 v2 v3 0 0 M)) else (if (M 68 0) ≤ v5 then (if ¬ (e_and p1 (e_xor v4 (-1))) = 0 then (f_X11_stay_L52 n 0 p1 v2 (e_w (v3 + (-1))) 0 0 M) else (if v2 = (-1) then (f_X11_stay_L52 n 0 p1 v3 (e_w (v3 + (-1))) 0 0 M) else (f_b (f_X11_ones n v3 M) fun rr3 NN4 => (f_b (f_X11_ones n v2 NN4) fun rr5 NN6 => (if rr5 < rr3 then (f_X11_stay_L52 n 0 p1 v2 (e_w (v3 + (-1))) 0 0 NN6) else (f_X11_stay_L52 n 0 p1 v3 (e_w (v3 + (-1))) 0 0 NN6)))))) else (f_b (f_X11_has v3 v5 M) fun rr1 NN2 => (if rr1 = 0 then (f_X11_stay_L52 n 1 p1 v2 v3 (e_or v4 0) (e_w (v5 + 1)) NN2) else (if (0 ≤ v5 ∧ v5 < 6) then (f_X11_stay_L52 n 1 p1 v2 v3 (e_or v4 (NN2 72 v5.toNat)) (e_w (v5 + 1)) NN2) else none)))))
theorem s_X11_stay_L52 {X : e_X} {d gn : Nat} : ∀ n : Nat, (∀ (p1 v2 v3 : Int) (M M' : e_M) (v : Int), f_X11_stay_L52  n 0 p1 v2 v3 0 0 M = some (v, M') → e_G X (d + 1) YX11_stay 52 [some (.inr (.inr 64)), some (.inl p1), some (.inl v2), some (.inl v3), none, none] [] (557, gn, e_RF, M) (.inl (some (.inl v)), (557, gn, e_RF, M'))) ∧ (∀ (p1 v2 v3 v4 v5 : Int) (M M' : e_M) (v : Int), f_X11_stay_L52  n 1 p1 v2 v3 v4 v5 M = some (v, M') → e_G X (d + 1) YX11_stay 62 [some (.inr (.inr 64)), some (.inl p1), some (.inl v2), some (.inl v3), some (.inl v4), some (.inl v5)] [] (557, gn, e_RF, M) (.inl (some (.inl v)), (557, gn, e_RF, M'))) := by
  intro n
  induction n with
  | zero => exact ⟨(by intro p1 v2 v3 M M' v h; cases h), (by intro p1 v2 v3 v4 v5 M M' v h; cases h)⟩
  | succ n ih =>
    refine ⟨?_, ?_⟩
    · intro p1 v2 v3 M M' v h
      rw [f_X11_stay_L52, if_pos rfl] at h
      refine wp_X11_stay_52 (d := d)  M p1 v2 v3 ?_
      refine ⟨fun c => ?_, fun c => ?_⟩
      · rw [if_pos c] at h
        cases h; rfl
      · rw [if_neg c] at h
        exact ih.2 _ _ _ _ _ _ _ _ h
    · intro p1 v2 v3 v4 v5 M M' v h
      rw [f_X11_stay_L52, if_neg (by decide)] at h
      refine wp_X11_stay_62 (d := d)  M p1 v2 v3 v4 v5 (f_mn) ?_
      refine ⟨fun c => ?_, fun c => ?_⟩
      · rw [if_pos c] at h
        refine ⟨fun c => ?_, fun c => ?_⟩
        · rw [if_pos c] at h
          exact ih.1 _ _ _ _ _ _ h
        · rw [if_neg (not_not_intro c)] at h
          refine ⟨fun c => ?_, fun c => ?_⟩
          · rw [if_pos c] at h
            exact ih.1 _ _ _ _ _ _ h
          · rw [if_neg c] at h
            obtain ⟨rr7, NN8, hc9, h⟩ := f_bd h
            refine ⟨rr7, NN8, s_X11_ones (d := d)  hc9, ?_⟩
            obtain ⟨rr10, NN11, hc12, h⟩ := f_bd h
            refine ⟨rr10, NN11, s_X11_ones (d := d)  hc12, ?_⟩
            refine ⟨fun c => ?_, fun c => ?_⟩
            · rw [if_pos c] at h
              exact ih.1 _ _ _ _ _ _ h
            · rw [if_neg c] at h
              exact ih.1 _ _ _ _ _ _ h
      · rw [if_neg c] at h
        obtain ⟨rr13, NN14, hc15, h⟩ := f_bd h
        refine ⟨rr13, NN14, s_X11_has (d := d)  hc15, ?_⟩
        refine ⟨fun c => ?_, fun c => ?_⟩
        · rw [if_pos c] at h
          exact ih.2 _ _ _ _ _ _ _ _ h
        · rw [if_neg c] at h
          obtain ⟨c16, h⟩ := f_gd h
          refine ⟨c16, ?_⟩
          exact ih.2 _ _ _ _ _ _ _ _ h
theorem s_X11_stay_52 {X : e_X} {d gn : Nat} (n : Nat) : (∀ (p1 v2 v3 : Int) (M M' : e_M) (v : Int), f_X11_stay_L52  n 0 p1 v2 v3 0 0 M = some (v, M') → e_G X (d + 1) YX11_stay 52 [some (.inr (.inr 64)), some (.inl p1), some (.inl v2), some (.inl v3), none, none] [] (557, gn, e_RF, M) (.inl (some (.inl v)), (557, gn, e_RF, M'))) := (s_X11_stay_L52  n).1
theorem s_X11_stay_62 {X : e_X} {d gn : Nat} (n : Nat) : (∀ (p1 v2 v3 v4 v5 : Int) (M M' : e_M) (v : Int), f_X11_stay_L52  n 1 p1 v2 v3 v4 v5 M = some (v, M') → e_G X (d + 1) YX11_stay 62 [some (.inr (.inr 64)), some (.inl p1), some (.inl v2), some (.inl v3), some (.inl v4), some (.inl v5)] [] (557, gn, e_RF, M) (.inl (some (.inl v)), (557, gn, e_RF, M'))) := (s_X11_stay_L52  n).2
def f_X11_stay (n : Nat) (p1 : Int) (M : e_M) : Option (Int × e_M) := (f_b (f_X11_in p1 0 (e_w ((e_shl 1 ((e_up M 64 0 0) 68 1)) - 1)) (e_up M 64 0 0)) fun rr17 NN18 => (if ¬ rr17 = 0 then (f_b (f_X11_bad 0 1 1 NN18) fun rr21 NN22 => (if rr21 = 0 then (f_X11_stay_L52 n 0 p1 (-1) (e_w ((e_shl 1 (NN22 68 0)) - 1)) 0 0 NN22) else (some (0, NN22)))) else (f_b (f_X11_bad 1 1 1 NN18) fun rr19 NN20 => (if rr19 = 0 then (f_X11_stay_L52 n 0 p1 (-1) (e_w ((e_shl 1 (NN20 68 0)) - 1)) 0 0 NN20) else (some (0, NN20))))))
theorem s_X11_stay {X : e_X} {d gn : Nat} {n : Nat} {p1 : Int} {M M' : e_M} {v : Int} (h : f_X11_stay  n p1 M = some (v, M')) : e_E X (d + 1) YX11_stay [.inr (.inr 64), .inl p1] (557, gn, e_RF, M) (.inl (some (.inl v)), (557, gn, e_RF, M')) := by
  unfold f_X11_stay at h
  refine wp_X11_stay_0 (d := d)  M p1 (f_mn) ?_
  obtain ⟨rr23, NN24, hc25, h⟩ := f_bd h
  refine ⟨rr23, NN24, s_X11_in (d := d)  hc25, ?_⟩
  refine ⟨fun c => ?_, fun c => ?_⟩
  · rw [if_pos c] at h
    refine wp_X11_stay_29 (d := d)  _ _ _ (f_mn) ?_
    obtain ⟨rr26, NN27, hc28, h⟩ := f_bd h
    refine ⟨rr26, NN27, s_X11_bad (d := d)  hc28, ?_⟩
    refine ⟨fun c => ?_, fun c => ?_⟩
    · rw [if_pos c] at h
      exact s_X11_stay_52  _ _ _ _ _ _ _ h
    · rw [if_neg c] at h
      cases h; rfl
  · rw [if_neg (not_not_intro c)] at h
    refine wp_X11_stay_29 (d := d)  _ _ _ (f_mn) ?_
    obtain ⟨rr29, NN30, hc31, h⟩ := f_bd h
    refine ⟨rr29, NN30, s_X11_bad (d := d)  hc31, ?_⟩
    refine ⟨fun c => ?_, fun c => ?_⟩
    · rw [if_pos c] at h
      exact s_X11_stay_52  _ _ _ _ _ _ _ h
    · rw [if_neg c] at h
      cases h; rfl
def f_X11_sumOf_5 (q0 : Nat) : Nat → Int → Int → Int → e_M → Option (Int × e_M)
  | 0, _, _, _, _ => none
  | n + 1, p2, v3, v4, M => (if (M 68 0) ≤ v4 then (some (v3, M)) else (if (0 ≤ (e_w (p2 + v4)) ∧ (e_w (p2 + v4)) < 56) then (f_X11_sumOf_5 q0 n p2 (e_w (v3 + (M q0 (e_w (p2 + v4)).toNat))) (e_w (v4 + 1)) M) else none))
theorem s_X11_sumOf_5 {X : e_X} {d gn : Nat} {q0 : Nat} (hq0 : e_SH q0 = (20, 56)) (kq0 : q0 ≤ 557) (zq0 : q0 ≠ 0) : ∀ n : Nat, ∀ (p2 v3 v4 : Int) (M M' : e_M) (v : Int), f_X11_sumOf_5 q0 n p2 v3 v4 M = some (v, M') → e_G X d YX11_sumOf 5 [some (.inr (.inr 64)), some (.inr (.inr q0)), some (.inl p2), some (.inl v3), some (.inl v4)] [] (557, gn, e_RF, M) (.inl (some (.inl v)), (557, gn, e_RF, M')) := by
  intro n
  induction n with
  | zero => intro p2 v3 v4 M M' v h; cases h
  | succ n ih =>
    intro p2 v3 v4 M M' v h
    rw [f_X11_sumOf_5] at h
    refine wp_X11_sumOf_5 hq0 kq0 zq0 M p2 v3 v4 ?_
    refine ⟨fun c => ?_, fun c => ?_⟩
    · rw [if_pos c] at h
      cases h; rfl
    · rw [if_neg c] at h
      obtain ⟨c1, h⟩ := f_gd h
      refine ⟨c1, ?_⟩
      exact ih _ _ _ _ _ _ h
def f_X11_sumOf (q0 : Nat) (n : Nat) (p2 : Int) (M : e_M) : Option (Int × e_M) := (f_X11_sumOf_5 q0 n p2 0 0 M)
theorem s_X11_sumOf {X : e_X} {d gn : Nat} {q0 : Nat} (hq0 : e_SH q0 = (20, 56)) (kq0 : q0 ≤ 557) (zq0 : q0 ≠ 0) {n : Nat} {p2 : Int} {M M' : e_M} {v : Int} (h : f_X11_sumOf q0 n p2 M = some (v, M')) : e_E X d YX11_sumOf [.inr (.inr 64), .inr (.inr q0), .inl p2] (557, gn, e_RF, M) (.inl (some (.inl v)), (557, gn, e_RF, M')) := by
  unfold f_X11_sumOf at h
  refine wp_X11_sumOf_0 hq0 kq0 zq0 M p2 ?_
  exact s_X11_sumOf_5 hq0 kq0 zq0 _ _ _ _ _ _ _ h
def f_X11_task_50 (p1 p2 w0 : Int) (M : e_M) : Option (Int × e_M) := (f_b (f_X11_bad w0 2 1 M) fun rr1 NN2 => (if rr1 = 0 then (if ¬ p2 = 1 then (if ¬ p2 = 3 then (if (0 ≤ p1 ∧ p1 < 12) then (if (0 ≤ p2 ∧ p2 < 3) then (some ((NN2 (101 + p1.toNat) p2.toNat), NN2)) else none) else none) else (if (0 ≤ (e_w (42 + p1)) ∧ (e_w (42 + p1)) < 56) then (some ((NN2 532 (e_w (42 + p1)).toNat), NN2)) else none)) else (if (0 ≤ (e_w (30 + p1)) ∧ (e_w (30 + p1)) < 56) then (some ((NN2 532 (e_w (30 + p1)).toNat), NN2)) else none)) else (some (0, NN2))))
theorem s_X11_task_50 {X : e_X} {d gn : Nat} {p1 p2 w0 : Int} {M M' : e_M} {v : Int} (h : f_X11_task_50   p1 p2 w0 M = some (v, M')) : e_G X (d + 1) YX11_task 50 [some (.inr (.inr 64)), some (.inl p1), some (.inl p2)] [.inl w0, .inr (.inr 64)] (557, gn, e_RF, M) (.inl (some (.inl v)), (557, gn, e_RF, M')) := by
  unfold f_X11_task_50 at h
  refine wp_X11_task_50 (d := d)  M p1 p2 w0 (f_mn) ?_
  obtain ⟨rr3, NN4, hc5, h⟩ := f_bd h
  refine ⟨rr3, NN4, s_X11_bad (d := d)  hc5, ?_⟩
  refine ⟨fun c => ?_, fun c => ?_⟩
  · rw [if_pos c] at h
    refine ⟨fun c => ?_, fun c => ?_⟩
    · rw [if_pos c] at h
      refine ⟨fun c => ?_, fun c => ?_⟩
      · rw [if_pos c] at h
        obtain ⟨c6, h⟩ := f_gd h
        refine ⟨c6, ?_⟩
        obtain ⟨c7, h⟩ := f_gd h
        exact ⟨c7, by cases h; rfl⟩
      · rw [if_neg (not_not_intro c)] at h
        obtain ⟨c8, h⟩ := f_gd h
        exact ⟨c8, by cases h; rfl⟩
    · rw [if_neg (not_not_intro c)] at h
      obtain ⟨c9, h⟩ := f_gd h
      exact ⟨c9, by cases h; rfl⟩
  · rw [if_neg c] at h
    cases h; rfl
def f_X11_task_27 (p1 p2 w0 : Int) (M : e_M) : Option (Int × e_M) := (f_b (f_X11_bad w0 1 0 M) fun rr10 NN11 => (if ¬ rr10 = 0 then (some (0, NN11)) else (f_b (f_X11_in p2 0 3 NN11) fun rr12 NN13 => (if ¬ rr12 = 0 then (f_X11_task_50 p1 p2 0 NN13) else (f_X11_task_50 p1 p2 1 NN13)))))
theorem s_X11_task_27 {X : e_X} {d gn : Nat} {p1 p2 w0 : Int} {M M' : e_M} {v : Int} (h : f_X11_task_27   p1 p2 w0 M = some (v, M')) : e_G X (d + 1) YX11_task 27 [some (.inr (.inr 64)), some (.inl p1), some (.inl p2)] [.inl w0, .inr (.inr 64)] (557, gn, e_RF, M) (.inl (some (.inl v)), (557, gn, e_RF, M')) := by
  unfold f_X11_task_27 at h
  refine wp_X11_task_27 (d := d)  M p1 p2 w0 (f_mn) ?_
  obtain ⟨rr14, NN15, hc16, h⟩ := f_bd h
  refine ⟨rr14, NN15, s_X11_bad (d := d)  hc16, ?_⟩
  refine ⟨fun c => ?_, fun c => ?_⟩
  · rw [if_pos c] at h
    cases h; rfl
  · rw [if_neg (not_not_intro c)] at h
    obtain ⟨rr17, NN18, hc19, h⟩ := f_bd h
    refine ⟨rr17, NN18, s_X11_in (d := d)  hc19, ?_⟩
    refine ⟨fun c => ?_, fun c => ?_⟩
    · rw [if_pos c] at h
      exact s_X11_task_50  h
    · rw [if_neg (not_not_intro c)] at h
      exact s_X11_task_50  h
def f_X11_task (p1 p2 : Int) (M : e_M) : Option (Int × e_M) := (f_b (f_X11_in p1 0 (e_w (((e_up M 64 0 0) 68 2) - 1)) (e_up M 64 0 0)) fun rr20 NN21 => (if ¬ rr20 = 0 then (f_X11_task_27 p1 p2 0 NN21) else (f_X11_task_27 p1 p2 1 NN21)))
theorem s_X11_task {X : e_X} {d gn : Nat} {p1 p2 : Int} {M M' : e_M} {v : Int} (h : f_X11_task   p1 p2 M = some (v, M')) : e_E X (d + 1) YX11_task [.inr (.inr 64), .inl p1, .inl p2] (557, gn, e_RF, M) (.inl (some (.inl v)), (557, gn, e_RF, M')) := by
  unfold f_X11_task at h
  refine wp_X11_task_0 (d := d)  M p1 p2 (f_mn) ?_
  obtain ⟨rr22, NN23, hc24, h⟩ := f_bd h
  refine ⟨rr22, NN23, s_X11_in (d := d)  hc24, ?_⟩
  refine ⟨fun c => ?_, fun c => ?_⟩
  · rw [if_pos c] at h
    exact s_X11_task_27  h
  · rw [if_neg (not_not_intro c)] at h
    exact s_X11_task_27  h
def f_X11_tellsNothing_22 : Nat → Int → e_M → Option (Int × e_M)
  | 0, _, _ => none
  | n + 1, v1, M => (if 6 ≤ v1 then (some (0, M)) else (if (0 ≤ v1 ∧ v1 < 6) then (f_X11_tellsNothing_22 n (e_w (v1 + 1)) (e_up M 71 v1.toNat 0)) else none))
theorem s_X11_tellsNothing_22 {X : e_X} {d gn : Nat} : ∀ n : Nat, ∀ (v1 : Int) (M M' : e_M) (v : Int), f_X11_tellsNothing_22  n v1 M = some (v, M') → e_G X d YX11_tellsNothing 22 [some (.inr (.inr 64)), some (.inl v1)] [] (557, gn, e_RF, M) (.inl none, (557, gn, e_RF, M')) := by
  intro n
  induction n with
  | zero => intro v1 M M' v h; cases h
  | succ n ih =>
    intro v1 M M' v h
    rw [f_X11_tellsNothing_22] at h
    refine wp_X11_tellsNothing_22  M v1 ?_
    refine ⟨fun c => ?_, fun c => ?_⟩
    · rw [if_pos c] at h
      cases h; rfl
    · rw [if_neg c] at h
      obtain ⟨c1, h⟩ := f_gd h
      refine ⟨c1, ?_⟩
      exact ih _ _ _ _ h
def f_X11_tellsNothing_2 : Nat → Int → e_M → Option (Int × e_M)
  | 0, _, _ => none
  | n + 1, v1, M => (if 3 ≤ v1 then (f_X11_tellsNothing_22 n 0 M) else (if (0 ≤ v1 ∧ v1 < 3) then (f_X11_tellsNothing_2 n (e_w (v1 + 1)) (e_up M 67 v1.toNat 0)) else none))
theorem s_X11_tellsNothing_2 {X : e_X} {d gn : Nat} : ∀ n : Nat, ∀ (v1 : Int) (M M' : e_M) (v : Int), f_X11_tellsNothing_2  n v1 M = some (v, M') → e_G X d YX11_tellsNothing 2 [some (.inr (.inr 64)), some (.inl v1)] [] (557, gn, e_RF, M) (.inl none, (557, gn, e_RF, M')) := by
  intro n
  induction n with
  | zero => intro v1 M M' v h; cases h
  | succ n ih =>
    intro v1 M M' v h
    rw [f_X11_tellsNothing_2] at h
    refine wp_X11_tellsNothing_2  M v1 ?_
    refine ⟨fun c => ?_, fun c => ?_⟩
    · rw [if_pos c] at h
      exact s_X11_tellsNothing_22  _ _ _ _ _ h
    · rw [if_neg c] at h
      obtain ⟨c2, h⟩ := f_gd h
      refine ⟨c2, ?_⟩
      exact ih _ _ _ _ h
def f_X11_tellsNothing (n : Nat) (M : e_M) : Option (Int × e_M) := (f_X11_tellsNothing_2 n 0 M)
theorem s_X11_tellsNothing {X : e_X} {d gn : Nat} {n : Nat} {M M' : e_M} {v : Int} (h : f_X11_tellsNothing  n  M = some (v, M')) : e_E X d YX11_tellsNothing [.inr (.inr 64)] (557, gn, e_RF, M) (.inl none, (557, gn, e_RF, M')) := by
  unfold f_X11_tellsNothing at h
  refine wp_X11_tellsNothing_0  M  ?_
  exact s_X11_tellsNothing_2  _ _ _ _ _ h
def f_X11_thrown (M : e_M) : Option (Int × e_M) := (some ((M 64 0), M))
theorem s_X11_thrown {X : e_X} {d gn : Nat} {M M' : e_M} {v : Int} (h : f_X11_thrown    M = some (v, M')) : e_E X d YX11_thrown [.inr (.inr 64)] (557, gn, e_RF, M) (.inl (some (.inl v)), (557, gn, e_RF, M')) := by
  unfold f_X11_thrown at h
  refine wp_X11_thrown_0  M  ?_
  cases h; rfl
def f_X11_told_35 : Nat → Int → Int → Int → e_M → Option (Int × e_M)
  | 0, _, _, _, _ => none
  | n + 1, p1, v2, v3, M => (if (M 68 0) ≤ v3 then (if p1 = 0 then (if (0 ≤ p1 ∧ p1 < 3) then (some ((M 68 p1.toNat), M)) else none) else (if p1 = 1 then (if (0 ≤ p1 ∧ p1 < 3) then (some ((M 68 p1.toNat), M)) else none) else (if p1 = 2 then (if (0 ≤ p1 ∧ p1 < 3) then (some ((M 68 p1.toNat), M)) else none) else (if p1 = 3 then (some ((M 532 55), M)) else (if p1 = 4 then (some (v2, M)) else (if p1 = 5 then (f_b (f_X11_doneIn 532 n M) fun rr7 NN8 => (some (rr7, NN8))) else (if p1 = 6 then (some ((M 532 54), M)) else (if p1 = 7 then (f_b (f_X11_sumOf 532 n 0 M) fun rr5 NN6 => (some (rr5, NN6))) else (if p1 = 8 then (f_b (f_X11_sumOf 532 n 6 M) fun rr3 NN4 => (some (rr3, NN4))) else (if p1 = 9 then (some ((M 64 35), M)) else (some ((M 64 37), M)))))))))))) else (f_b (f_X11_isSold 532 v3 M) fun rr1 NN2 => (if rr1 = 0 then (f_X11_told_35 n p1 (e_or v2 0) (e_w (v3 + 1)) NN2) else (f_X11_told_35 n p1 (e_or v2 (e_shl 1 v3)) (e_w (v3 + 1)) NN2))))
theorem s_X11_told_35 {X : e_X} {d gn : Nat} : ∀ n : Nat, ∀ (p1 v2 v3 : Int) (M M' : e_M) (v : Int), f_X11_told_35  n p1 v2 v3 M = some (v, M') → e_G X (d + 1) YX11_told 35 [some (.inr (.inr 64)), some (.inl p1), some (.inl v2), some (.inl v3)] [] (557, gn, e_RF, M) (.inl (some (.inl v)), (557, gn, e_RF, M')) := by
  intro n
  induction n with
  | zero => intro p1 v2 v3 M M' v h; cases h
  | succ n ih =>
    intro p1 v2 v3 M M' v h
    rw [f_X11_told_35] at h
    refine wp_X11_told_35 (d := d)  M p1 v2 v3 (f_mn) ?_
    refine ⟨fun c => ?_, fun c => ?_⟩
    · rw [if_pos c] at h
      refine ⟨fun c => ?_, fun c => ?_, fun c => ?_, fun c => ?_, fun c => ?_, fun c => ?_, fun c => ?_, fun c => ?_, fun c => ?_, fun c => ?_, fun c => ?_⟩
      · rw [if_pos c] at h
        obtain ⟨c9, h⟩ := f_gd h
        exact ⟨c9, by cases h; rfl⟩
      · rw [if_neg (by omega), if_pos c] at h
        obtain ⟨c10, h⟩ := f_gd h
        exact ⟨c10, by cases h; rfl⟩
      · rw [if_neg (by omega), if_neg (by omega), if_pos c] at h
        obtain ⟨c11, h⟩ := f_gd h
        exact ⟨c11, by cases h; rfl⟩
      · rw [if_neg (by omega), if_neg (by omega), if_neg (by omega), if_pos c] at h
        cases h; rfl
      · rw [if_neg (by omega), if_neg (by omega), if_neg (by omega), if_neg (by omega), if_pos c] at h
        cases h; rfl
      · rw [if_neg (by omega), if_neg (by omega), if_neg (by omega), if_neg (by omega), if_neg (by omega), if_pos c] at h
        obtain ⟨rr12, NN13, hc14, h⟩ := f_bd h
        refine ⟨rr12, NN13, s_X11_doneIn (d := d) rfl (Nat.le_of_ble_eq_true rfl) (by decide) hc14, ?_⟩
        cases h; rfl
      · rw [if_neg (by omega), if_neg (by omega), if_neg (by omega), if_neg (by omega), if_neg (by omega), if_neg (by omega), if_pos c] at h
        cases h; rfl
      · rw [if_neg (by omega), if_neg (by omega), if_neg (by omega), if_neg (by omega), if_neg (by omega), if_neg (by omega), if_neg (by omega), if_pos c] at h
        obtain ⟨rr15, NN16, hc17, h⟩ := f_bd h
        refine ⟨rr15, NN16, s_X11_sumOf (d := d) rfl (Nat.le_of_ble_eq_true rfl) (by decide) hc17, ?_⟩
        cases h; rfl
      · rw [if_neg (by omega), if_neg (by omega), if_neg (by omega), if_neg (by omega), if_neg (by omega), if_neg (by omega), if_neg (by omega), if_neg (by omega), if_pos c] at h
        obtain ⟨rr18, NN19, hc20, h⟩ := f_bd h
        refine ⟨rr18, NN19, s_X11_sumOf (d := d) rfl (Nat.le_of_ble_eq_true rfl) (by decide) hc20, ?_⟩
        cases h; rfl
      · rw [if_neg (by omega), if_neg (by omega), if_neg (by omega), if_neg (by omega), if_neg (by omega), if_neg (by omega), if_neg (by omega), if_neg (by omega), if_neg (by omega), if_pos c] at h
        cases h; rfl
      · rw [if_neg (by omega), if_neg (by omega), if_neg (by omega), if_neg (by omega), if_neg (by omega), if_neg (by omega), if_neg (by omega), if_neg (by omega), if_neg (by omega), if_neg (by omega)] at h
        cases h; rfl
    · rw [if_neg c] at h
      obtain ⟨rr21, NN22, hc23, h⟩ := f_bd h
      refine ⟨rr21, NN22, s_X11_isSold (d := d) rfl (Nat.le_of_ble_eq_true rfl) (by decide) hc23, ?_⟩
      refine ⟨fun c => ?_, fun c => ?_⟩
      · rw [if_pos c] at h
        exact ih _ _ _ _ _ _ h
      · rw [if_neg c] at h
        exact ih _ _ _ _ _ _ h
def f_X11_told (n : Nat) (p1 : Int) (M : e_M) : Option (Int × e_M) := (f_b (f_X11_in p1 0 10 (e_up M 64 0 0)) fun rr24 NN25 => (if ¬ rr24 = 0 then (f_b (f_X11_bad 0 1 1 NN25) fun rr28 NN29 => (if rr28 = 0 then (f_X11_told_35 n p1 0 0 NN29) else (some (0, NN29)))) else (f_b (f_X11_bad 1 1 1 NN25) fun rr26 NN27 => (if rr26 = 0 then (f_X11_told_35 n p1 0 0 NN27) else (some (0, NN27))))))
theorem s_X11_told {X : e_X} {d gn : Nat} {n : Nat} {p1 : Int} {M M' : e_M} {v : Int} (h : f_X11_told  n p1 M = some (v, M')) : e_E X (d + 1) YX11_told [.inr (.inr 64), .inl p1] (557, gn, e_RF, M) (.inl (some (.inl v)), (557, gn, e_RF, M')) := by
  unfold f_X11_told at h
  refine wp_X11_told_0 (d := d)  M p1 (f_mn) ?_
  obtain ⟨rr30, NN31, hc32, h⟩ := f_bd h
  refine ⟨rr30, NN31, s_X11_in (d := d)  hc32, ?_⟩
  refine ⟨fun c => ?_, fun c => ?_⟩
  · rw [if_pos c] at h
    refine wp_X11_told_21 (d := d)  _ _ _ (f_mn) ?_
    obtain ⟨rr33, NN34, hc35, h⟩ := f_bd h
    refine ⟨rr33, NN34, s_X11_bad (d := d)  hc35, ?_⟩
    refine ⟨fun c => ?_, fun c => ?_⟩
    · rw [if_pos c] at h
      exact s_X11_told_35  _ _ _ _ _ _ _ h
    · rw [if_neg c] at h
      cases h; rfl
  · rw [if_neg (not_not_intro c)] at h
    refine wp_X11_told_21 (d := d)  _ _ _ (f_mn) ?_
    obtain ⟨rr36, NN37, hc38, h⟩ := f_bd h
    refine ⟨rr36, NN37, s_X11_bad (d := d)  hc38, ?_⟩
    refine ⟨fun c => ?_, fun c => ?_⟩
    · rw [if_pos c] at h
      exact s_X11_told_35  _ _ _ _ _ _ _ h
    · rw [if_neg c] at h
      cases h; rfl
def f_X11_undo (n : Nat) (M : e_M) : Option (Int × e_M) := (if ¬ ((e_up M 64 0 0) 64 36) = 0 then (if (0 ≤ ((e_up (e_up M 64 0 0) 64 36 (e_w (((e_up M 64 0 0) 64 36) - 1))) 64 36) ∧ ((e_up (e_up M 64 0 0) 64 36 (e_w (((e_up M 64 0 0) 64 36) - 1))) 64 36) < 16) then (f_b (f_X11_copies (535 + ((e_up (e_up M 64 0 0) 64 36 (e_w (((e_up M 64 0 0) 64 36) - 1))) 64 36).toNat) 532 n (e_up (e_up M 64 0 0) 64 36 (e_w (((e_up M 64 0 0) 64 36) - 1)))) fun _ NN2 => (some (((e_up NN2 64 37 0) 64 36), (e_up NN2 64 37 0)))) else none) else (some ((-1), (e_up M 64 0 0))))
theorem s_X11_undo {X : e_X} {d gn : Nat} {n : Nat} {M M' : e_M} {v : Int} (h : f_X11_undo  n  M = some (v, M')) : e_E X (d + 1) YX11_undo [.inr (.inr 64)] (557, gn, e_RF, M) (.inl (some (.inl v)), (557, gn, e_RF, M')) := by
  unfold f_X11_undo at h
  refine wp_X11_undo_0 (d := d)  M  (f_mn) ?_
  refine ⟨fun c => ?_, fun c => ?_⟩
  · rw [if_pos c] at h
    obtain ⟨c3, h⟩ := f_gd h
    refine ⟨c3, ?_⟩
    obtain ⟨rr4, NN5, hc6, h⟩ := f_bd h
    refine ⟨NN5, s_X11_copies (d := d) (sh_534 c3.1 c3.2).1 (sh_534 c3.1 c3.2).2.1 (sh_534 c3.1 c3.2).2.2 rfl (Nat.le_of_ble_eq_true rfl) (by decide) hc6, ?_⟩
    cases h; rfl
  · rw [if_neg (not_not_intro c)] at h
    cases h; rfl
def f_X11_worthOf_4 : Nat → Int → Int → Int → e_M → Option (Int × e_M)
  | 0, _, _, _, _ => none
  | n + 1, p1, v2, v3, M => (if (M 68 1) ≤ v3 then (some (v2, M)) else (f_b (f_X11_has p1 v3 M) fun rr1 NN2 => (if rr1 = 0 then (f_X11_worthOf_4 n p1 (e_w (v2 + 0)) (e_w (v3 + 1)) NN2) else (if (0 ≤ v3 ∧ v3 < 6) then (f_X11_worthOf_4 n p1 (e_w (v2 + (NN2 70 v3.toNat))) (e_w (v3 + 1)) NN2) else none))))
theorem s_X11_worthOf_4 {X : e_X} {d gn : Nat} : ∀ n : Nat, ∀ (p1 v2 v3 : Int) (M M' : e_M) (v : Int), f_X11_worthOf_4  n p1 v2 v3 M = some (v, M') → e_G X (d + 1) YX11_worthOf 4 [some (.inr (.inr 64)), some (.inl p1), some (.inl v2), some (.inl v3)] [] (557, gn, e_RF, M) (.inl (some (.inl v)), (557, gn, e_RF, M')) := by
  intro n
  induction n with
  | zero => intro p1 v2 v3 M M' v h; cases h
  | succ n ih =>
    intro p1 v2 v3 M M' v h
    rw [f_X11_worthOf_4] at h
    refine wp_X11_worthOf_4 (d := d)  M p1 v2 v3 (f_mn) ?_
    refine ⟨fun c => ?_, fun c => ?_⟩
    · rw [if_pos c] at h
      cases h; rfl
    · rw [if_neg c] at h
      obtain ⟨rr3, NN4, hc5, h⟩ := f_bd h
      refine ⟨rr3, NN4, s_X11_has (d := d)  hc5, ?_⟩
      refine ⟨fun c => ?_, fun c => ?_⟩
      · rw [if_pos c] at h
        exact ih _ _ _ _ _ _ h
      · rw [if_neg c] at h
        obtain ⟨c6, h⟩ := f_gd h
        refine ⟨c6, ?_⟩
        exact ih _ _ _ _ _ _ h
def f_X11_worthOf (n : Nat) (p1 : Int) (M : e_M) : Option (Int × e_M) := (f_X11_worthOf_4 n p1 0 0 M)
theorem s_X11_worthOf {X : e_X} {d gn : Nat} {n : Nat} {p1 : Int} {M M' : e_M} {v : Int} (h : f_X11_worthOf  n p1 M = some (v, M')) : e_E X (d + 1) YX11_worthOf [.inr (.inr 64), .inl p1] (557, gn, e_RF, M) (.inl (some (.inl v)), (557, gn, e_RF, M')) := by
  unfold f_X11_worthOf at h
  refine wp_X11_worthOf_0 (d := d)  M p1 ?_
  exact s_X11_worthOf_4  _ _ _ _ _ _ _ h
def f_X11_wrong (p1 p2 : Int) (M : e_M) : Option (Int × e_M) := (if ¬ (M 64 5) = 0 then (some (0, M)) else (some (0, (e_up (e_up M 64 5 p1) 64 6 p2))))
theorem s_X11_wrong {X : e_X} {d gn : Nat} {p1 p2 : Int} {M M' : e_M} {v : Int} (h : f_X11_wrong   p1 p2 M = some (v, M')) : e_E X d YX11_wrong [.inr (.inr 64), .inl p1, .inl p2] (557, gn, e_RF, M) (.inl none, (557, gn, e_RF, M')) := by
  unfold f_X11_wrong at h
  refine wp_X11_wrong_0  M p1 p2 ?_
  refine ⟨fun c => ?_, fun c => ?_⟩
  · rw [if_pos c] at h
    cases h; rfl
  · rw [if_neg (not_not_intro c)] at h
    cases h; rfl
def f_X11_youngest_34 : Nat → Int → Int → Int → e_M → Option (Int × e_M)
  | 0, _, _, _, _ => none
  | n + 1, p1, v2, v3, M => (if (M 68 0) ≤ v3 then (if p1 = 0 then (some (v2, M)) else (if ¬ v2 = (-1) then (if (0 ≤ (e_w (6 + v2)) ∧ (e_w (6 + v2)) < 56) then (some ((M 532 (e_w (6 + v2)).toNat), M)) else none) else (some (v2, M)))) else (if v2 = (-1) then (f_X11_youngest_34 n p1 v3 (e_w (v3 + 1)) M) else (if (0 ≤ (e_w (6 + v3)) ∧ (e_w (6 + v3)) < 56) then (if (0 ≤ (e_w (6 + v2)) ∧ (e_w (6 + v2)) < 56) then (if (M 532 (e_w (6 + v2)).toNat) ≤ (M 532 (e_w (6 + v3)).toNat) then (f_X11_youngest_34 n p1 v2 (e_w (v3 + 1)) M) else (f_X11_youngest_34 n p1 v3 (e_w (v3 + 1)) M)) else none) else none)))
theorem s_X11_youngest_34 {X : e_X} {d gn : Nat} : ∀ n : Nat, ∀ (p1 v2 v3 : Int) (M M' : e_M) (v : Int), f_X11_youngest_34  n p1 v2 v3 M = some (v, M') → e_G X (d + 1) YX11_youngest 34 [some (.inr (.inr 64)), some (.inl p1), some (.inl v2), some (.inl v3)] [] (557, gn, e_RF, M) (.inl (some (.inl v)), (557, gn, e_RF, M')) := by
  intro n
  induction n with
  | zero => intro p1 v2 v3 M M' v h; cases h
  | succ n ih =>
    intro p1 v2 v3 M M' v h
    rw [f_X11_youngest_34] at h
    refine wp_X11_youngest_34 (d := d)  M p1 v2 v3 ?_
    refine ⟨fun c => ?_, fun c => ?_⟩
    · rw [if_pos c] at h
      refine ⟨fun c => ?_, fun c => ?_⟩
      · rw [if_pos c] at h
        cases h; rfl
      · rw [if_neg c] at h
        refine ⟨fun c => ?_, fun c => ?_⟩
        · rw [if_pos c] at h
          obtain ⟨c1, h⟩ := f_gd h
          exact ⟨c1, by cases h; rfl⟩
        · rw [if_neg (not_not_intro c)] at h
          cases h; rfl
    · rw [if_neg c] at h
      refine ⟨fun c => ?_, fun c => ?_⟩
      · rw [if_pos c] at h
        exact ih _ _ _ _ _ _ h
      · rw [if_neg c] at h
        obtain ⟨c2, h⟩ := f_gd h
        refine ⟨c2, ?_⟩
        obtain ⟨c3, h⟩ := f_gd h
        refine ⟨c3, ?_⟩
        refine ⟨fun c => ?_, fun c => ?_⟩
        · rw [if_pos c] at h
          exact ih _ _ _ _ _ _ h
        · rw [if_neg c] at h
          exact ih _ _ _ _ _ _ h
def f_X11_youngest (n : Nat) (p1 : Int) (M : e_M) : Option (Int × e_M) := (f_b (f_X11_in p1 0 1 (e_up M 64 0 0)) fun rr4 NN5 => (if ¬ rr4 = 0 then (f_b (f_X11_bad 0 1 1 NN5) fun rr8 NN9 => (if rr8 = 0 then (f_X11_youngest_34 n p1 (-1) 0 NN9) else (some (0, NN9)))) else (f_b (f_X11_bad 1 1 1 NN5) fun rr6 NN7 => (if rr6 = 0 then (f_X11_youngest_34 n p1 (-1) 0 NN7) else (some (0, NN7))))))
theorem s_X11_youngest {X : e_X} {d gn : Nat} {n : Nat} {p1 : Int} {M M' : e_M} {v : Int} (h : f_X11_youngest  n p1 M = some (v, M')) : e_E X (d + 1) YX11_youngest [.inr (.inr 64), .inl p1] (557, gn, e_RF, M) (.inl (some (.inl v)), (557, gn, e_RF, M')) := by
  unfold f_X11_youngest at h
  refine wp_X11_youngest_0 (d := d)  M p1 (f_mn) ?_
  obtain ⟨rr10, NN11, hc12, h⟩ := f_bd h
  refine ⟨rr10, NN11, s_X11_in (d := d)  hc12, ?_⟩
  refine ⟨fun c => ?_, fun c => ?_⟩
  · rw [if_pos c] at h
    refine wp_X11_youngest_20 (d := d)  _ _ _ (f_mn) ?_
    obtain ⟨rr13, NN14, hc15, h⟩ := f_bd h
    refine ⟨rr13, NN14, s_X11_bad (d := d)  hc15, ?_⟩
    refine ⟨fun c => ?_, fun c => ?_⟩
    · rw [if_pos c] at h
      exact s_X11_youngest_34  _ _ _ _ _ _ _ h
    · rw [if_neg c] at h
      cases h; rfl
  · rw [if_neg (not_not_intro c)] at h
    refine wp_X11_youngest_20 (d := d)  _ _ _ (f_mn) ?_
    obtain ⟨rr16, NN17, hc18, h⟩ := f_bd h
    refine ⟨rr16, NN17, s_X11_bad (d := d)  hc18, ?_⟩
    refine ⟨fun c => ?_, fun c => ?_⟩
    · rw [if_pos c] at h
      exact s_X11_youngest_34  _ _ _ _ _ _ _ h
    · rw [if_neg c] at h
      cases h; rfl
def f_X1_worthBy (p1 p2 p3 : Int) (M : e_M) : Option (Int × e_M) := (if (e_and (e_shr p3 p2) 1) = 0 then (some ((-1), M)) else (if (0 ≤ p2 ∧ p2 < 6) then (if ¬ (e_and (e_shr (M 7 p2.toNat) p1) 1) = 0 then (if (0 ≤ p1 ∧ p1 < 6) then (if (0 ≤ (e_w ((e_w ((e_w (p1 + 1)) * 64)) + (e_and p3 (e_xor (e_shl 1 p2) (-1))))) ∧ (e_w ((e_w ((e_w (p1 + 1)) * 64)) + (e_and p3 (e_xor (e_shl 1 p2) (-1))))) < 448) then (some ((e_w ((M 8 p1.toNat) + (M 51 (e_w ((e_w ((e_w (p1 + 1)) * 64)) + (e_and p3 (e_xor (e_shl 1 p2) (-1))))).toNat))), M)) else none) else none) else (some ((-1), M))) else none))
theorem s_X1_worthBy {X : e_X} {d gn : Nat} {p1 p2 p3 : Int} {M M' : e_M} {v : Int} (h : f_X1_worthBy   p1 p2 p3 M = some (v, M')) : e_E X d YX1_worthBy [.inr (.inr 50), .inl p1, .inl p2, .inl p3] (557, gn, e_RF, M) (.inl (some (.inl v)), (557, gn, e_RF, M')) := by
  unfold f_X1_worthBy at h
  refine wp_X1_worthBy_0  M p1 p2 p3 ?_
  refine ⟨fun c => ?_, fun c => ?_⟩
  · rw [if_pos c] at h
    cases h; rfl
  · rw [if_neg c] at h
    obtain ⟨c1, h⟩ := f_gd h
    refine ⟨c1, ?_⟩
    refine ⟨fun c => ?_, fun c => ?_⟩
    · rw [if_pos c] at h
      obtain ⟨c2, h⟩ := f_gd h
      refine ⟨c2, ?_⟩
      obtain ⟨c3, h⟩ := f_gd h
      exact ⟨c3, by cases h; rfl⟩
    · rw [if_neg (not_not_intro c)] at h
      cases h; rfl
def f_X2_combined (p0 p1 p2 : Int) (M : e_M) : Option (Int × e_M) := (if p0 = 2000 then (some ((e_w (p1 + p2)), M)) else (if p0 = 2001 then (some ((e_w (p1 - p2)), M)) else (if p0 = 2002 then (some ((e_w (p1 * p2)), M)) else (if p0 = 2003 then (if ¬ p2 = 0 then (if p2 ≠ 0 then (some ((e_w (Int.tdiv p1 p2)), M)) else none) else (some (0, M))) else (if p0 = 2004 then (if ¬ p2 = 0 then (if p2 ≠ 0 then (some ((e_w (Int.tmod p1 p2)), M)) else none) else (some (0, M))) else (if p0 = 2005 then (if p2 < p1 then (some (p2, M)) else (some (p1, M))) else (if p1 < p2 then (some (p2, M)) else (some (p1, M)))))))))
theorem s_X2_combined {X : e_X} {d gn : Nat} {p0 p1 p2 : Int} {M M' : e_M} {v : Int} (h : f_X2_combined   p0 p1 p2 M = some (v, M')) : e_E X d YX2_combined [.inl p0, .inl p1, .inl p2] (557, gn, e_RF, M) (.inl (some (.inl v)), (557, gn, e_RF, M')) := by
  unfold f_X2_combined at h
  refine wp_X2_combined_0  M p0 p1 p2 ?_
  refine ⟨fun c => ?_, fun c => ?_, fun c => ?_, fun c => ?_, fun c => ?_, fun c => ?_, fun c => ?_⟩
  · rw [if_pos c] at h
    cases h; rfl
  · rw [if_neg (by omega), if_pos c] at h
    cases h; rfl
  · rw [if_neg (by omega), if_neg (by omega), if_pos c] at h
    cases h; rfl
  · rw [if_neg (by omega), if_neg (by omega), if_neg (by omega), if_pos c] at h
    refine ⟨fun c => ?_, fun c => ?_⟩
    · rw [if_pos c] at h
      obtain ⟨c1, h⟩ := f_gd h
      exact ⟨c1, by cases h; rfl⟩
    · rw [if_neg (not_not_intro c)] at h
      cases h; rfl
  · rw [if_neg (by omega), if_neg (by omega), if_neg (by omega), if_neg (by omega), if_pos c] at h
    refine ⟨fun c => ?_, fun c => ?_⟩
    · rw [if_pos c] at h
      obtain ⟨c2, h⟩ := f_gd h
      exact ⟨c2, by cases h; rfl⟩
    · rw [if_neg (not_not_intro c)] at h
      cases h; rfl
  · rw [if_neg (by omega), if_neg (by omega), if_neg (by omega), if_neg (by omega), if_neg (by omega), if_pos c] at h
    refine ⟨fun c => ?_, fun c => ?_⟩
    · rw [if_pos c] at h
      cases h; rfl
    · rw [if_neg c] at h
      cases h; rfl
  · rw [if_neg (by omega), if_neg (by omega), if_neg (by omega), if_neg (by omega), if_neg (by omega), if_neg (by omega)] at h
    refine ⟨fun c => ?_, fun c => ?_⟩
    · rw [if_pos c] at h
      cases h; rfl
    · rw [if_neg c] at h
      cases h; rfl
def f_X2_copyFrom_law (M : e_M) : Option (Int × e_M) := (some (0, (e_cp (e_up M 20 1 (M 24 1)) 25 0 21 0 150)))
theorem s_X2_copyFrom_law {X : e_X} {d gn : Nat} {M M' : e_M} {v : Int} (h : f_X2_copyFrom_law    M = some (v, M')) : e_E X (d + 1) YX2_copyFrom [.inr (.inr 20), .inr (.inr 24)] (557, gn, e_RF, M) (.inl none, (557, gn, e_RF, M')) := by
  unfold f_X2_copyFrom_law at h
  refine wp_X2_copyFrom_law_0 (d := d)  M  ?_
  cases h; rfl
def f_X2_drop_law (M : e_M) : Option (Int × e_M) := (some (0, (e_up M 20 1 0)))
theorem s_X2_drop_law {X : e_X} {d gn : Nat} {M M' : e_M} {v : Int} (h : f_X2_drop_law    M = some (v, M')) : e_E X d YX2_drop [.inr (.inr 20)] (557, gn, e_RF, M) (.inl none, (557, gn, e_RF, M')) := by
  unfold f_X2_drop_law at h
  refine wp_X2_drop_law_0  M  ?_
  cases h; rfl
def f_X2_drop_lawDraft (M : e_M) : Option (Int × e_M) := (some (0, (e_up M 24 1 0)))
theorem s_X2_drop_lawDraft {X : e_X} {d gn : Nat} {M M' : e_M} {v : Int} (h : f_X2_drop_lawDraft    M = some (v, M')) : e_E X d YX2_drop [.inr (.inr 24)] (557, gn, e_RF, M) (.inl none, (557, gn, e_RF, M')) := by
  unfold f_X2_drop_lawDraft at h
  refine wp_X2_drop_lawDraft_0  M  ?_
  cases h; rfl
def f_X2_emit_law (p1 : Int) (M : e_M) : Option (Int × e_M) := (if 150 ≤ (M 20 1) then (some (0, M)) else (if (0 ≤ (M 20 1) ∧ (M 20 1) < 150) then (some (0, (e_up (e_up M 21 (M 20 1).toNat p1) 20 1 (e_w (((e_up M 21 (M 20 1).toNat p1) 20 1) + 1))))) else none))
theorem s_X2_emit_law {X : e_X} {d gn : Nat} {p1 : Int} {M M' : e_M} {v : Int} (h : f_X2_emit_law   p1 M = some (v, M')) : e_E X d YX2_emit [.inr (.inr 20), .inl p1] (557, gn, e_RF, M) (.inl none, (557, gn, e_RF, M')) := by
  unfold f_X2_emit_law at h
  refine wp_X2_emit_law_0  M p1 ?_
  refine ⟨fun c => ?_, fun c => ?_⟩
  · rw [if_pos c] at h
    cases h; rfl
  · rw [if_neg c] at h
    obtain ⟨c1, h⟩ := f_gd h
    exact ⟨c1, by cases h; rfl⟩
def f_X2_emit_lawDraft (p1 : Int) (M : e_M) : Option (Int × e_M) := (if 150 ≤ (M 24 1) then (some (0, M)) else (if (0 ≤ (M 24 1) ∧ (M 24 1) < 150) then (some (0, (e_up (e_up M 25 (M 24 1).toNat p1) 24 1 (e_w (((e_up M 25 (M 24 1).toNat p1) 24 1) + 1))))) else none))
theorem s_X2_emit_lawDraft {X : e_X} {d gn : Nat} {p1 : Int} {M M' : e_M} {v : Int} (h : f_X2_emit_lawDraft   p1 M = some (v, M')) : e_E X d YX2_emit [.inr (.inr 24), .inl p1] (557, gn, e_RF, M) (.inl none, (557, gn, e_RF, M')) := by
  unfold f_X2_emit_lawDraft at h
  refine wp_X2_emit_lawDraft_0  M p1 ?_
  refine ⟨fun c => ?_, fun c => ?_⟩
  · rw [if_pos c] at h
    cases h; rfl
  · rw [if_neg c] at h
    obtain ⟨c1, h⟩ := f_gd h
    exact ⟨c1, by cases h; rfl⟩
def f_X2_valueOf_law (p1 : Int) (M : e_M) : Option (Int × e_M) := (if (e_w (p1 - 1000)) < 0 then (some (p1, M)) else (if 8 ≤ (e_w (p1 - 1000)) then (some (p1, M)) else (if (0 ≤ (e_w (p1 - 1000)) ∧ (e_w (p1 - 1000)) < 8) then (some ((M 23 (e_w (p1 - 1000)).toNat), M)) else none)))
theorem s_X2_valueOf_law {X : e_X} {d gn : Nat} {p1 : Int} {M M' : e_M} {v : Int} (h : f_X2_valueOf_law   p1 M = some (v, M')) : e_E X d YX2_valueOf [.inr (.inr 20), .inl p1] (557, gn, e_RF, M) (.inl (some (.inl v)), (557, gn, e_RF, M')) := by
  unfold f_X2_valueOf_law at h
  refine wp_X2_valueOf_law_0  M p1 ?_
  refine ⟨fun c => ?_, fun c => ?_⟩
  · rw [if_pos c] at h
    cases h; rfl
  · rw [if_neg c] at h
    refine ⟨fun c => ?_, fun c => ?_⟩
    · rw [if_pos c] at h
      cases h; rfl
    · rw [if_neg c] at h
      obtain ⟨c1, h⟩ := f_gd h
      exact ⟨c1, by cases h; rfl⟩
def f_X2_valueOf_lawDraft (p1 : Int) (M : e_M) : Option (Int × e_M) := (if (e_w (p1 - 1000)) < 0 then (some (p1, M)) else (if 8 ≤ (e_w (p1 - 1000)) then (some (p1, M)) else (if (0 ≤ (e_w (p1 - 1000)) ∧ (e_w (p1 - 1000)) < 8) then (some ((M 27 (e_w (p1 - 1000)).toNat), M)) else none)))
theorem s_X2_valueOf_lawDraft {X : e_X} {d gn : Nat} {p1 : Int} {M M' : e_M} {v : Int} (h : f_X2_valueOf_lawDraft   p1 M = some (v, M')) : e_E X d YX2_valueOf [.inr (.inr 24), .inl p1] (557, gn, e_RF, M) (.inl (some (.inl v)), (557, gn, e_RF, M')) := by
  unfold f_X2_valueOf_lawDraft at h
  refine wp_X2_valueOf_lawDraft_0  M p1 ?_
  refine ⟨fun c => ?_, fun c => ?_⟩
  · rw [if_pos c] at h
    cases h; rfl
  · rw [if_neg c] at h
    refine ⟨fun c => ?_, fun c => ?_⟩
    · rw [if_pos c] at h
      cases h; rfl
    · rw [if_neg c] at h
      obtain ⟨c1, h⟩ := f_gd h
      exact ⟨c1, by cases h; rfl⟩
def f_X3_begin_now_17 : Nat → Int → e_M → Option (Int × e_M)
  | 0, _, _ => none
  | n + 1, v1, M => (if 6 ≤ v1 then (some (0, (e_cp M 10 0 42 0 12))) else (if (0 ≤ v1 ∧ v1 < 6) then (if (0 ≤ v1 ∧ v1 < 6) then (if (0 ≤ v1 ∧ v1 < 6) then (if (0 ≤ v1 ∧ v1 < 6) then (if (0 ≤ v1 ∧ v1 < 6) then (if (0 ≤ v1 ∧ v1 < 6) then (f_X3_begin_now_17 n (e_w (v1 + 1)) (e_up (e_up (e_up (e_up (e_up M 37 v1.toNat (M 5 v1.toNat)) 38 v1.toNat 0) 39 v1.toNat 0) 40 v1.toNat (-1)) 41 v1.toNat 0)) else none) else none) else none) else none) else none) else none))
theorem s_X3_begin_now_17 {X : e_X} {d gn : Nat} : ∀ n : Nat, ∀ (v1 : Int) (M M' : e_M) (v : Int), f_X3_begin_now_17  n v1 M = some (v, M') → e_G X (d + 1) YX3_begin 17 [some (.inr (.inr 36)), some (.inl v1)] [] (557, gn, e_RF, M) (.inl none, (557, gn, e_RF, M')) := by
  intro n
  induction n with
  | zero => intro v1 M M' v h; cases h
  | succ n ih =>
    intro v1 M M' v h
    rw [f_X3_begin_now_17] at h
    refine wp_X3_begin_now_17 (d := d)  M v1 ?_
    refine ⟨fun c => ?_, fun c => ?_⟩
    · rw [if_pos c] at h
      cases h; rfl
    · rw [if_neg c] at h
      obtain ⟨c1, h⟩ := f_gd h
      refine ⟨c1, ?_⟩
      obtain ⟨c2, h⟩ := f_gd h
      refine ⟨c2, ?_⟩
      obtain ⟨c3, h⟩ := f_gd h
      refine ⟨c3, ?_⟩
      obtain ⟨c4, h⟩ := f_gd h
      refine ⟨c4, ?_⟩
      obtain ⟨c5, h⟩ := f_gd h
      refine ⟨c5, ?_⟩
      obtain ⟨c6, h⟩ := f_gd h
      refine ⟨c6, ?_⟩
      exact ih _ _ _ _ h
def f_X3_begin_now (n : Nat) (M : e_M) : Option (Int × e_M) := (f_X3_begin_now_17 n 0 (e_up (e_up (e_up M 36 2 0) 36 3 0) 36 4 0))
theorem s_X3_begin_now {X : e_X} {d gn : Nat} {n : Nat} {M M' : e_M} {v : Int} (h : f_X3_begin_now  n  M = some (v, M')) : e_E X (d + 1) YX3_begin [.inr (.inr 36)] (557, gn, e_RF, M) (.inl none, (557, gn, e_RF, M')) := by
  unfold f_X3_begin_now at h
  refine wp_X3_begin_now_0 (d := d)  M  ?_
  exact s_X3_begin_now_17  _ _ _ _ _ h
def f_X3_begin_trial_17 : Nat → Int → e_M → Option (Int × e_M)
  | 0, _, _ => none
  | n + 1, v1, M => (if 6 ≤ v1 then (some (0, (e_cp M 10 0 49 0 12))) else (if (0 ≤ v1 ∧ v1 < 6) then (if (0 ≤ v1 ∧ v1 < 6) then (if (0 ≤ v1 ∧ v1 < 6) then (if (0 ≤ v1 ∧ v1 < 6) then (if (0 ≤ v1 ∧ v1 < 6) then (if (0 ≤ v1 ∧ v1 < 6) then (f_X3_begin_trial_17 n (e_w (v1 + 1)) (e_up (e_up (e_up (e_up (e_up M 44 v1.toNat (M 5 v1.toNat)) 45 v1.toNat 0) 46 v1.toNat 0) 47 v1.toNat (-1)) 48 v1.toNat 0)) else none) else none) else none) else none) else none) else none))
theorem s_X3_begin_trial_17 {X : e_X} {d gn : Nat} : ∀ n : Nat, ∀ (v1 : Int) (M M' : e_M) (v : Int), f_X3_begin_trial_17  n v1 M = some (v, M') → e_G X (d + 1) YX3_begin 17 [some (.inr (.inr 43)), some (.inl v1)] [] (557, gn, e_RF, M) (.inl none, (557, gn, e_RF, M')) := by
  intro n
  induction n with
  | zero => intro v1 M M' v h; cases h
  | succ n ih =>
    intro v1 M M' v h
    rw [f_X3_begin_trial_17] at h
    refine wp_X3_begin_trial_17 (d := d)  M v1 ?_
    refine ⟨fun c => ?_, fun c => ?_⟩
    · rw [if_pos c] at h
      cases h; rfl
    · rw [if_neg c] at h
      obtain ⟨c1, h⟩ := f_gd h
      refine ⟨c1, ?_⟩
      obtain ⟨c2, h⟩ := f_gd h
      refine ⟨c2, ?_⟩
      obtain ⟨c3, h⟩ := f_gd h
      refine ⟨c3, ?_⟩
      obtain ⟨c4, h⟩ := f_gd h
      refine ⟨c4, ?_⟩
      obtain ⟨c5, h⟩ := f_gd h
      refine ⟨c5, ?_⟩
      obtain ⟨c6, h⟩ := f_gd h
      refine ⟨c6, ?_⟩
      exact ih _ _ _ _ h
def f_X3_begin_trial (n : Nat) (M : e_M) : Option (Int × e_M) := (f_X3_begin_trial_17 n 0 (e_up (e_up (e_up M 43 2 0) 43 3 0) 43 4 0))
theorem s_X3_begin_trial {X : e_X} {d gn : Nat} {n : Nat} {M M' : e_M} {v : Int} (h : f_X3_begin_trial  n  M = some (v, M')) : e_E X (d + 1) YX3_begin [.inr (.inr 43)] (557, gn, e_RF, M) (.inl none, (557, gn, e_RF, M')) := by
  unfold f_X3_begin_trial at h
  refine wp_X3_begin_trial_0 (d := d)  M  ?_
  exact s_X3_begin_trial_17  _ _ _ _ _ h
def f_X3_boughtBits_now_4 : Nat → Int → Int → e_M → Option (Int × e_M)
  | 0, _, _, _ => none
  | n + 1, v1, v2, M => (if (M 4 0) ≤ v2 then (some (v1, M)) else (if (0 ≤ v2 ∧ v2 < 6) then (if (M 40 v2.toNat) = (-1) then (f_X3_boughtBits_now_4 n v1 (e_w (v2 + 1)) M) else (f_X3_boughtBits_now_4 n (e_or v1 (e_shl 1 v2)) (e_w (v2 + 1)) M)) else none))
theorem s_X3_boughtBits_now_4 {X : e_X} {d gn : Nat} : ∀ n : Nat, ∀ (v1 v2 : Int) (M M' : e_M) (v : Int), f_X3_boughtBits_now_4  n v1 v2 M = some (v, M') → e_G X d YX3_boughtBits 4 [some (.inr (.inr 36)), some (.inl v1), some (.inl v2)] [] (557, gn, e_RF, M) (.inl (some (.inl v)), (557, gn, e_RF, M')) := by
  intro n
  induction n with
  | zero => intro v1 v2 M M' v h; cases h
  | succ n ih =>
    intro v1 v2 M M' v h
    rw [f_X3_boughtBits_now_4] at h
    refine wp_X3_boughtBits_now_4  M v1 v2 ?_
    refine ⟨fun c => ?_, fun c => ?_⟩
    · rw [if_pos c] at h
      cases h; rfl
    · rw [if_neg c] at h
      obtain ⟨c1, h⟩ := f_gd h
      refine ⟨c1, ?_⟩
      refine ⟨fun c => ?_, fun c => ?_⟩
      · rw [if_pos c] at h
        exact ih _ _ _ _ _ h
      · rw [if_neg c] at h
        exact ih _ _ _ _ _ h
def f_X3_boughtBits_now (n : Nat) (M : e_M) : Option (Int × e_M) := (f_X3_boughtBits_now_4 n 0 0 M)
theorem s_X3_boughtBits_now {X : e_X} {d gn : Nat} {n : Nat} {M M' : e_M} {v : Int} (h : f_X3_boughtBits_now  n  M = some (v, M')) : e_E X d YX3_boughtBits [.inr (.inr 36)] (557, gn, e_RF, M) (.inl (some (.inl v)), (557, gn, e_RF, M')) := by
  unfold f_X3_boughtBits_now at h
  refine wp_X3_boughtBits_now_0  M  ?_
  exact s_X3_boughtBits_now_4  _ _ _ _ _ _ h
def f_X3_boughtBits_trial_4 : Nat → Int → Int → e_M → Option (Int × e_M)
  | 0, _, _, _ => none
  | n + 1, v1, v2, M => (if (M 4 0) ≤ v2 then (some (v1, M)) else (if (0 ≤ v2 ∧ v2 < 6) then (if (M 47 v2.toNat) = (-1) then (f_X3_boughtBits_trial_4 n v1 (e_w (v2 + 1)) M) else (f_X3_boughtBits_trial_4 n (e_or v1 (e_shl 1 v2)) (e_w (v2 + 1)) M)) else none))
theorem s_X3_boughtBits_trial_4 {X : e_X} {d gn : Nat} : ∀ n : Nat, ∀ (v1 v2 : Int) (M M' : e_M) (v : Int), f_X3_boughtBits_trial_4  n v1 v2 M = some (v, M') → e_G X d YX3_boughtBits 4 [some (.inr (.inr 43)), some (.inl v1), some (.inl v2)] [] (557, gn, e_RF, M) (.inl (some (.inl v)), (557, gn, e_RF, M')) := by
  intro n
  induction n with
  | zero => intro v1 v2 M M' v h; cases h
  | succ n ih =>
    intro v1 v2 M M' v h
    rw [f_X3_boughtBits_trial_4] at h
    refine wp_X3_boughtBits_trial_4  M v1 v2 ?_
    refine ⟨fun c => ?_, fun c => ?_⟩
    · rw [if_pos c] at h
      cases h; rfl
    · rw [if_neg c] at h
      obtain ⟨c1, h⟩ := f_gd h
      refine ⟨c1, ?_⟩
      refine ⟨fun c => ?_, fun c => ?_⟩
      · rw [if_pos c] at h
        exact ih _ _ _ _ _ h
      · rw [if_neg c] at h
        exact ih _ _ _ _ _ h
def f_X3_boughtBits_trial (n : Nat) (M : e_M) : Option (Int × e_M) := (f_X3_boughtBits_trial_4 n 0 0 M)
theorem s_X3_boughtBits_trial {X : e_X} {d gn : Nat} {n : Nat} {M M' : e_M} {v : Int} (h : f_X3_boughtBits_trial  n  M = some (v, M')) : e_E X d YX3_boughtBits [.inr (.inr 43)] (557, gn, e_RF, M) (.inl (some (.inl v)), (557, gn, e_RF, M')) := by
  unfold f_X3_boughtBits_trial at h
  refine wp_X3_boughtBits_trial_0  M  ?_
  exact s_X3_boughtBits_trial_4  _ _ _ _ _ _ h
def f_X3_coinsOfAll_now_4 : Nat → Int → Int → e_M → Option (Int × e_M)
  | 0, _, _, _ => none
  | n + 1, v1, v2, M => (if (M 4 0) ≤ v2 then (some (v1, M)) else (if (0 ≤ v2 ∧ v2 < 6) then (f_X3_coinsOfAll_now_4 n (e_w (v1 + (M 37 v2.toNat))) (e_w (v2 + 1)) M) else none))
theorem s_X3_coinsOfAll_now_4 {X : e_X} {d gn : Nat} : ∀ n : Nat, ∀ (v1 v2 : Int) (M M' : e_M) (v : Int), f_X3_coinsOfAll_now_4  n v1 v2 M = some (v, M') → e_G X d YX3_coinsOfAll 4 [some (.inr (.inr 36)), some (.inl v1), some (.inl v2)] [] (557, gn, e_RF, M) (.inl (some (.inl v)), (557, gn, e_RF, M')) := by
  intro n
  induction n with
  | zero => intro v1 v2 M M' v h; cases h
  | succ n ih =>
    intro v1 v2 M M' v h
    rw [f_X3_coinsOfAll_now_4] at h
    refine wp_X3_coinsOfAll_now_4  M v1 v2 ?_
    refine ⟨fun c => ?_, fun c => ?_⟩
    · rw [if_pos c] at h
      cases h; rfl
    · rw [if_neg c] at h
      obtain ⟨c1, h⟩ := f_gd h
      refine ⟨c1, ?_⟩
      exact ih _ _ _ _ _ h
def f_X3_coinsOfAll_now (n : Nat) (M : e_M) : Option (Int × e_M) := (f_X3_coinsOfAll_now_4 n 0 0 M)
theorem s_X3_coinsOfAll_now {X : e_X} {d gn : Nat} {n : Nat} {M M' : e_M} {v : Int} (h : f_X3_coinsOfAll_now  n  M = some (v, M')) : e_E X d YX3_coinsOfAll [.inr (.inr 36)] (557, gn, e_RF, M) (.inl (some (.inl v)), (557, gn, e_RF, M')) := by
  unfold f_X3_coinsOfAll_now at h
  refine wp_X3_coinsOfAll_now_0  M  ?_
  exact s_X3_coinsOfAll_now_4  _ _ _ _ _ _ h
def f_X3_coinsOfAll_trial_4 : Nat → Int → Int → e_M → Option (Int × e_M)
  | 0, _, _, _ => none
  | n + 1, v1, v2, M => (if (M 4 0) ≤ v2 then (some (v1, M)) else (if (0 ≤ v2 ∧ v2 < 6) then (f_X3_coinsOfAll_trial_4 n (e_w (v1 + (M 44 v2.toNat))) (e_w (v2 + 1)) M) else none))
theorem s_X3_coinsOfAll_trial_4 {X : e_X} {d gn : Nat} : ∀ n : Nat, ∀ (v1 v2 : Int) (M M' : e_M) (v : Int), f_X3_coinsOfAll_trial_4  n v1 v2 M = some (v, M') → e_G X d YX3_coinsOfAll 4 [some (.inr (.inr 43)), some (.inl v1), some (.inl v2)] [] (557, gn, e_RF, M) (.inl (some (.inl v)), (557, gn, e_RF, M')) := by
  intro n
  induction n with
  | zero => intro v1 v2 M M' v h; cases h
  | succ n ih =>
    intro v1 v2 M M' v h
    rw [f_X3_coinsOfAll_trial_4] at h
    refine wp_X3_coinsOfAll_trial_4  M v1 v2 ?_
    refine ⟨fun c => ?_, fun c => ?_⟩
    · rw [if_pos c] at h
      cases h; rfl
    · rw [if_neg c] at h
      obtain ⟨c1, h⟩ := f_gd h
      refine ⟨c1, ?_⟩
      exact ih _ _ _ _ _ h
def f_X3_coinsOfAll_trial (n : Nat) (M : e_M) : Option (Int × e_M) := (f_X3_coinsOfAll_trial_4 n 0 0 M)
theorem s_X3_coinsOfAll_trial {X : e_X} {d gn : Nat} {n : Nat} {M M' : e_M} {v : Int} (h : f_X3_coinsOfAll_trial  n  M = some (v, M')) : e_E X d YX3_coinsOfAll [.inr (.inr 43)] (557, gn, e_RF, M) (.inl (some (.inl v)), (557, gn, e_RF, M')) := by
  unfold f_X3_coinsOfAll_trial at h
  refine wp_X3_coinsOfAll_trial_0  M  ?_
  exact s_X3_coinsOfAll_trial_4  _ _ _ _ _ _ h
def f_X3_copyFrom_trial (M : e_M) : Option (Int × e_M) := (some (0, (e_cp (e_cp (e_cp (e_cp (e_cp (e_cp (e_up (e_up (e_up M 43 2 (M 36 2)) 43 3 ((e_up M 43 2 (M 36 2)) 36 3)) 43 4 ((e_up (e_up M 43 2 (M 36 2)) 43 3 ((e_up M 43 2 (M 36 2)) 36 3)) 36 4)) 37 0 44 0 6) 38 0 45 0 6) 39 0 46 0 6) 40 0 47 0 6) 41 0 48 0 6) 42 0 49 0 12)))
theorem s_X3_copyFrom_trial {X : e_X} {d gn : Nat} {M M' : e_M} {v : Int} (h : f_X3_copyFrom_trial    M = some (v, M')) : e_E X (d + 1) YX3_copyFrom [.inr (.inr 43), .inr (.inr 36)] (557, gn, e_RF, M) (.inl none, (557, gn, e_RF, M')) := by
  unfold f_X3_copyFrom_trial at h
  refine wp_X3_copyFrom_trial_0 (d := d)  M  ?_
  cases h; rfl
def f_X3_daysUpTo_now_5 : Nat → Int → Int → Int → Int → e_M → Option (Int × e_M)
  | 0, _, _, _, _, _ => none
  | n + 1, p1, p2, v3, v4, M => (if (M 4 0) ≤ v4 then (some (v3, M)) else (if (e_and (e_shr p2 v4) 1) = 0 then (f_X3_daysUpTo_now_5 n p1 p2 v3 (e_w (v4 + 1)) M) else (if (0 ≤ v4 ∧ v4 < 6) then (f_X3_daysUpTo_now_5 n p1 p2 (e_w (v3 + (min p1 (M 38 v4.toNat)))) (e_w (v4 + 1)) M) else none)))
theorem s_X3_daysUpTo_now_5 {X : e_X} {d gn : Nat} : ∀ n : Nat, ∀ (p1 p2 v3 v4 : Int) (M M' : e_M) (v : Int), f_X3_daysUpTo_now_5  n p1 p2 v3 v4 M = some (v, M') → e_G X (d + 1) YX3_daysUpTo 5 [some (.inr (.inr 36)), some (.inl p1), some (.inl p2), some (.inl v3), some (.inl v4)] [] (557, gn, e_RF, M) (.inl (some (.inl v)), (557, gn, e_RF, M')) := by
  intro n
  induction n with
  | zero => intro p1 p2 v3 v4 M M' v h; cases h
  | succ n ih =>
    intro p1 p2 v3 v4 M M' v h
    rw [f_X3_daysUpTo_now_5] at h
    refine wp_X3_daysUpTo_now_5 (d := d)  M p1 p2 v3 v4 ?_
    refine ⟨fun c => ?_, fun c => ?_⟩
    · rw [if_pos c] at h
      cases h; rfl
    · rw [if_neg c] at h
      refine ⟨fun c => ?_, fun c => ?_⟩
      · rw [if_pos c] at h
        exact ih _ _ _ _ _ _ _ h
      · rw [if_neg c] at h
        obtain ⟨c1, h⟩ := f_gd h
        refine ⟨c1, ?_⟩
        exact ih _ _ _ _ _ _ _ h
def f_X3_daysUpTo_now (n : Nat) (p1 p2 : Int) (M : e_M) : Option (Int × e_M) := (f_X3_daysUpTo_now_5 n p1 p2 0 0 M)
theorem s_X3_daysUpTo_now {X : e_X} {d gn : Nat} {n : Nat} {p1 p2 : Int} {M M' : e_M} {v : Int} (h : f_X3_daysUpTo_now  n p1 p2 M = some (v, M')) : e_E X (d + 1) YX3_daysUpTo [.inr (.inr 36), .inl p1, .inl p2] (557, gn, e_RF, M) (.inl (some (.inl v)), (557, gn, e_RF, M')) := by
  unfold f_X3_daysUpTo_now at h
  refine wp_X3_daysUpTo_now_0 (d := d)  M p1 p2 ?_
  exact s_X3_daysUpTo_now_5  _ _ _ _ _ _ _ _ h
def f_X3_daysUpTo_trial_5 : Nat → Int → Int → Int → Int → e_M → Option (Int × e_M)
  | 0, _, _, _, _, _ => none
  | n + 1, p1, p2, v3, v4, M => (if (M 4 0) ≤ v4 then (some (v3, M)) else (if (e_and (e_shr p2 v4) 1) = 0 then (f_X3_daysUpTo_trial_5 n p1 p2 v3 (e_w (v4 + 1)) M) else (if (0 ≤ v4 ∧ v4 < 6) then (f_X3_daysUpTo_trial_5 n p1 p2 (e_w (v3 + (min p1 (M 45 v4.toNat)))) (e_w (v4 + 1)) M) else none)))
theorem s_X3_daysUpTo_trial_5 {X : e_X} {d gn : Nat} : ∀ n : Nat, ∀ (p1 p2 v3 v4 : Int) (M M' : e_M) (v : Int), f_X3_daysUpTo_trial_5  n p1 p2 v3 v4 M = some (v, M') → e_G X (d + 1) YX3_daysUpTo 5 [some (.inr (.inr 43)), some (.inl p1), some (.inl p2), some (.inl v3), some (.inl v4)] [] (557, gn, e_RF, M) (.inl (some (.inl v)), (557, gn, e_RF, M')) := by
  intro n
  induction n with
  | zero => intro p1 p2 v3 v4 M M' v h; cases h
  | succ n ih =>
    intro p1 p2 v3 v4 M M' v h
    rw [f_X3_daysUpTo_trial_5] at h
    refine wp_X3_daysUpTo_trial_5 (d := d)  M p1 p2 v3 v4 ?_
    refine ⟨fun c => ?_, fun c => ?_⟩
    · rw [if_pos c] at h
      cases h; rfl
    · rw [if_neg c] at h
      refine ⟨fun c => ?_, fun c => ?_⟩
      · rw [if_pos c] at h
        exact ih _ _ _ _ _ _ _ h
      · rw [if_neg c] at h
        obtain ⟨c1, h⟩ := f_gd h
        refine ⟨c1, ?_⟩
        exact ih _ _ _ _ _ _ _ h
def f_X3_daysUpTo_trial (n : Nat) (p1 p2 : Int) (M : e_M) : Option (Int × e_M) := (f_X3_daysUpTo_trial_5 n p1 p2 0 0 M)
theorem s_X3_daysUpTo_trial {X : e_X} {d gn : Nat} {n : Nat} {p1 p2 : Int} {M M' : e_M} {v : Int} (h : f_X3_daysUpTo_trial  n p1 p2 M = some (v, M')) : e_E X (d + 1) YX3_daysUpTo [.inr (.inr 43), .inl p1, .inl p2] (557, gn, e_RF, M) (.inl (some (.inl v)), (557, gn, e_RF, M')) := by
  unfold f_X3_daysUpTo_trial at h
  refine wp_X3_daysUpTo_trial_0 (d := d)  M p1 p2 ?_
  exact s_X3_daysUpTo_trial_5  _ _ _ _ _ _ _ _ h
def f_X3_fallsNow_now (p1 : Int) (M : e_M) : Option (Int × e_M) := (if (0 ≤ p1 ∧ p1 < 12) then (if ¬ (M 42 p1.toNat) = (M 36 2) then (some (0, M)) else (if ¬ (e_and (e_shr (M 36 4) p1) 1) = 0 then (some (0, M)) else (some (1, M)))) else none)
theorem s_X3_fallsNow_now {X : e_X} {d gn : Nat} {p1 : Int} {M M' : e_M} {v : Int} (h : f_X3_fallsNow_now   p1 M = some (v, M')) : e_E X d YX3_fallsNow [.inr (.inr 36), .inl p1] (557, gn, e_RF, M) (.inl (some (.inl v)), (557, gn, e_RF, M')) := by
  unfold f_X3_fallsNow_now at h
  refine wp_X3_fallsNow_now_0  M p1 ?_
  obtain ⟨c1, h⟩ := f_gd h
  refine ⟨c1, ?_⟩
  refine ⟨fun c => ?_, fun c => ?_⟩
  · rw [if_pos c] at h
    cases h; rfl
  · rw [if_neg (not_not_intro c)] at h
    refine ⟨fun c => ?_, fun c => ?_⟩
    · rw [if_pos c] at h
      cases h; rfl
    · rw [if_neg (not_not_intro c)] at h
      cases h; rfl
def f_X3_fallsNow_trial (p1 : Int) (M : e_M) : Option (Int × e_M) := (if (0 ≤ p1 ∧ p1 < 12) then (if ¬ (M 49 p1.toNat) = (M 43 2) then (some (0, M)) else (if ¬ (e_and (e_shr (M 43 4) p1) 1) = 0 then (some (0, M)) else (some (1, M)))) else none)
theorem s_X3_fallsNow_trial {X : e_X} {d gn : Nat} {p1 : Int} {M M' : e_M} {v : Int} (h : f_X3_fallsNow_trial   p1 M = some (v, M')) : e_E X d YX3_fallsNow [.inr (.inr 43), .inl p1] (557, gn, e_RF, M) (.inl (some (.inl v)), (557, gn, e_RF, M')) := by
  unfold f_X3_fallsNow_trial at h
  refine wp_X3_fallsNow_trial_0  M p1 ?_
  obtain ⟨c1, h⟩ := f_gd h
  refine ⟨c1, ?_⟩
  refine ⟨fun c => ?_, fun c => ?_⟩
  · rw [if_pos c] at h
    cases h; rfl
  · rw [if_neg (not_not_intro c)] at h
    refine ⟨fun c => ?_, fun c => ?_⟩
    · rw [if_pos c] at h
      cases h; rfl
    · rw [if_neg (not_not_intro c)] at h
      cases h; rfl
def f_X3_hasBought_now (p1 : Int) (M : e_M) : Option (Int × e_M) := (if (0 ≤ p1 ∧ p1 < 6) then (if (M 40 p1.toNat) = (-1) then (some (0, M)) else (some (1, M))) else none)
theorem s_X3_hasBought_now {X : e_X} {d gn : Nat} {p1 : Int} {M M' : e_M} {v : Int} (h : f_X3_hasBought_now   p1 M = some (v, M')) : e_E X d YX3_hasBought [.inr (.inr 36), .inl p1] (557, gn, e_RF, M) (.inl (some (.inl v)), (557, gn, e_RF, M')) := by
  unfold f_X3_hasBought_now at h
  refine wp_X3_hasBought_now_0  M p1 ?_
  obtain ⟨c1, h⟩ := f_gd h
  refine ⟨c1, ?_⟩
  refine ⟨fun c => ?_, fun c => ?_⟩
  · rw [if_pos c] at h
    cases h; rfl
  · rw [if_neg c] at h
    cases h; rfl
def f_X3_hasBought_trial (p1 : Int) (M : e_M) : Option (Int × e_M) := (if (0 ≤ p1 ∧ p1 < 6) then (if (M 47 p1.toNat) = (-1) then (some (0, M)) else (some (1, M))) else none)
theorem s_X3_hasBought_trial {X : e_X} {d gn : Nat} {p1 : Int} {M M' : e_M} {v : Int} (h : f_X3_hasBought_trial   p1 M = some (v, M')) : e_E X d YX3_hasBought [.inr (.inr 43), .inl p1] (557, gn, e_RF, M) (.inl (some (.inl v)), (557, gn, e_RF, M')) := by
  unfold f_X3_hasBought_trial at h
  refine wp_X3_hasBought_trial_0  M p1 ?_
  obtain ⟨c1, h⟩ := f_gd h
  refine ⟨c1, ?_⟩
  refine ⟨fun c => ?_, fun c => ?_⟩
  · rw [if_pos c] at h
    cases h; rfl
  · rw [if_neg c] at h
    cases h; rfl
def f_X3_isDone_now (p1 : Int) (M : e_M) : Option (Int × e_M) := (if (e_and (e_shr (M 36 4) p1) 1) = 0 then (some (0, M)) else (some (1, M)))
theorem s_X3_isDone_now {X : e_X} {d gn : Nat} {p1 : Int} {M M' : e_M} {v : Int} (h : f_X3_isDone_now   p1 M = some (v, M')) : e_E X d YX3_isDone [.inr (.inr 36), .inl p1] (557, gn, e_RF, M) (.inl (some (.inl v)), (557, gn, e_RF, M')) := by
  unfold f_X3_isDone_now at h
  refine wp_X3_isDone_now_0  M p1 ?_
  refine ⟨fun c => ?_, fun c => ?_⟩
  · rw [if_pos c] at h
    cases h; rfl
  · rw [if_neg c] at h
    cases h; rfl
def f_X3_isDone_trial (p1 : Int) (M : e_M) : Option (Int × e_M) := (if (e_and (e_shr (M 43 4) p1) 1) = 0 then (some (0, M)) else (some (1, M)))
theorem s_X3_isDone_trial {X : e_X} {d gn : Nat} {p1 : Int} {M M' : e_M} {v : Int} (h : f_X3_isDone_trial   p1 M = some (v, M')) : e_E X d YX3_isDone [.inr (.inr 43), .inl p1] (557, gn, e_RF, M) (.inl (some (.inl v)), (557, gn, e_RF, M')) := by
  unfold f_X3_isDone_trial at h
  refine wp_X3_isDone_trial_0  M p1 ?_
  refine ⟨fun c => ?_, fun c => ?_⟩
  · rw [if_pos c] at h
    cases h; rfl
  · rw [if_neg c] at h
    cases h; rfl
def f_X3_loadFrom_now (n9 : Nat) (q0 : Nat) (p2 : Int) (M : e_M) : Option (Int × e_M) := (if 0 ≤ p2 then (if p2 + 6 ≤ (n9 : Int) then (if 0 ≤ (e_w (p2 + 6)) then (if (e_w (p2 + 6)) + 6 ≤ (n9 : Int) then (if 0 ≤ (e_w (p2 + 12)) then (if (e_w (p2 + 12)) + 6 ≤ (n9 : Int) then (if 0 ≤ (e_w (p2 + 18)) then (if (e_w (p2 + 18)) + 6 ≤ (n9 : Int) then (if 0 ≤ (e_w (p2 + 24)) then (if (e_w (p2 + 24)) + 6 ≤ (n9 : Int) then (if 0 ≤ (e_w (p2 + 30)) then (if (e_w (p2 + 30)) + 12 ≤ (n9 : Int) then (if (0 ≤ (e_w ((e_w (p2 + 45)) - 3)) ∧ (e_w ((e_w (p2 + 45)) - 3)) < (n9 : Int)) then (if (0 ≤ (e_w ((e_w (p2 + 45)) - 2)) ∧ (e_w ((e_w (p2 + 45)) - 2)) < (n9 : Int)) then (if (0 ≤ (e_w ((e_w (p2 + 45)) - 1)) ∧ (e_w ((e_w (p2 + 45)) - 1)) < (n9 : Int)) then (some (0, (e_up (e_up (e_up (e_cp (e_cp (e_cp (e_cp (e_cp (e_cp M q0 p2.toNat 37 0 6) q0 (e_w (p2 + 6)).toNat 38 0 6) q0 (e_w (p2 + 12)).toNat 39 0 6) q0 (e_w (p2 + 18)).toNat 40 0 6) q0 (e_w (p2 + 24)).toNat 41 0 6) q0 (e_w (p2 + 30)).toNat 42 0 12) 36 2 ((e_cp (e_cp (e_cp (e_cp (e_cp (e_cp M q0 p2.toNat 37 0 6) q0 (e_w (p2 + 6)).toNat 38 0 6) q0 (e_w (p2 + 12)).toNat 39 0 6) q0 (e_w (p2 + 18)).toNat 40 0 6) q0 (e_w (p2 + 24)).toNat 41 0 6) q0 (e_w (p2 + 30)).toNat 42 0 12) q0 (e_w ((e_w (p2 + 45)) - 3)).toNat)) 36 3 ((e_up (e_cp (e_cp (e_cp (e_cp (e_cp (e_cp M q0 p2.toNat 37 0 6) q0 (e_w (p2 + 6)).toNat 38 0 6) q0 (e_w (p2 + 12)).toNat 39 0 6) q0 (e_w (p2 + 18)).toNat 40 0 6) q0 (e_w (p2 + 24)).toNat 41 0 6) q0 (e_w (p2 + 30)).toNat 42 0 12) 36 2 ((e_cp (e_cp (e_cp (e_cp (e_cp (e_cp M q0 p2.toNat 37 0 6) q0 (e_w (p2 + 6)).toNat 38 0 6) q0 (e_w (p2 + 12)).toNat 39 0 6) q0 (e_w (p2 + 18)).toNat 40 0 6) q0 (e_w (p2 + 24)).toNat 41 0 6) q0 (e_w (p2 + 30)).toNat 42 0 12) q0 (e_w ((e_w (p2 + 45)) - 3)).toNat)) q0 (e_w ((e_w (p2 + 45)) - 2)).toNat)) 36 4 ((e_up (e_up (e_cp (e_cp (e_cp (e_cp (e_cp (e_cp M q0 p2.toNat 37 0 6) q0 (e_w (p2 + 6)).toNat 38 0 6) q0 (e_w (p2 + 12)).toNat 39 0 6) q0 (e_w (p2 + 18)).toNat 40 0 6) q0 (e_w (p2 + 24)).toNat 41 0 6) q0 (e_w (p2 + 30)).toNat 42 0 12) 36 2 ((e_cp (e_cp (e_cp (e_cp (e_cp (e_cp M q0 p2.toNat 37 0 6) q0 (e_w (p2 + 6)).toNat 38 0 6) q0 (e_w (p2 + 12)).toNat 39 0 6) q0 (e_w (p2 + 18)).toNat 40 0 6) q0 (e_w (p2 + 24)).toNat 41 0 6) q0 (e_w (p2 + 30)).toNat 42 0 12) q0 (e_w ((e_w (p2 + 45)) - 3)).toNat)) 36 3 ((e_up (e_cp (e_cp (e_cp (e_cp (e_cp (e_cp M q0 p2.toNat 37 0 6) q0 (e_w (p2 + 6)).toNat 38 0 6) q0 (e_w (p2 + 12)).toNat 39 0 6) q0 (e_w (p2 + 18)).toNat 40 0 6) q0 (e_w (p2 + 24)).toNat 41 0 6) q0 (e_w (p2 + 30)).toNat 42 0 12) 36 2 ((e_cp (e_cp (e_cp (e_cp (e_cp (e_cp M q0 p2.toNat 37 0 6) q0 (e_w (p2 + 6)).toNat 38 0 6) q0 (e_w (p2 + 12)).toNat 39 0 6) q0 (e_w (p2 + 18)).toNat 40 0 6) q0 (e_w (p2 + 24)).toNat 41 0 6) q0 (e_w (p2 + 30)).toNat 42 0 12) q0 (e_w ((e_w (p2 + 45)) - 3)).toNat)) q0 (e_w ((e_w (p2 + 45)) - 2)).toNat)) q0 (e_w ((e_w (p2 + 45)) - 1)).toNat)))) else none) else none) else none) else none) else none) else none) else none) else none) else none) else none) else none) else none) else none) else none) else none)
theorem s_X3_loadFrom_now {X : e_X} {d gn : Nat} {n9 : Nat} {q0 : Nat} (hq0 : e_SH q0 = (20, n9)) (kq0 : q0 ≤ 557) (zq0 : q0 ≠ 0) {p2 : Int} {M M' : e_M} {v : Int} (h : f_X3_loadFrom_now n9 q0  p2 M = some (v, M')) : e_E X (d + 1) YX3_loadFrom [.inr (.inr 36), .inr (.inr q0), .inl p2] (557, gn, e_RF, M) (.inl none, (557, gn, e_RF, M')) := by
  unfold f_X3_loadFrom_now at h
  refine wp_X3_loadFrom_now_0 (d := d) hq0 kq0 zq0 M p2 ?_
  obtain ⟨c1, h⟩ := f_gd h
  refine ⟨c1, ?_⟩
  obtain ⟨c2, h⟩ := f_gd h
  refine ⟨c2, ?_⟩
  obtain ⟨c3, h⟩ := f_gd h
  refine ⟨c3, ?_⟩
  obtain ⟨c4, h⟩ := f_gd h
  refine ⟨c4, ?_⟩
  obtain ⟨c5, h⟩ := f_gd h
  refine ⟨c5, ?_⟩
  obtain ⟨c6, h⟩ := f_gd h
  refine ⟨c6, ?_⟩
  obtain ⟨c7, h⟩ := f_gd h
  refine ⟨c7, ?_⟩
  obtain ⟨c8, h⟩ := f_gd h
  refine ⟨c8, ?_⟩
  obtain ⟨c9, h⟩ := f_gd h
  refine ⟨c9, ?_⟩
  obtain ⟨c10, h⟩ := f_gd h
  refine ⟨c10, ?_⟩
  obtain ⟨c11, h⟩ := f_gd h
  refine ⟨c11, ?_⟩
  obtain ⟨c12, h⟩ := f_gd h
  refine ⟨c12, ?_⟩
  obtain ⟨c13, h⟩ := f_gd h
  refine ⟨c13, ?_⟩
  obtain ⟨c14, h⟩ := f_gd h
  refine ⟨c14, ?_⟩
  obtain ⟨c15, h⟩ := f_gd h
  exact ⟨c15, by cases h; rfl⟩
def f_X3_loadFrom_trial (n9 : Nat) (q0 : Nat) (p2 : Int) (M : e_M) : Option (Int × e_M) := (if 0 ≤ p2 then (if p2 + 6 ≤ (n9 : Int) then (if 0 ≤ (e_w (p2 + 6)) then (if (e_w (p2 + 6)) + 6 ≤ (n9 : Int) then (if 0 ≤ (e_w (p2 + 12)) then (if (e_w (p2 + 12)) + 6 ≤ (n9 : Int) then (if 0 ≤ (e_w (p2 + 18)) then (if (e_w (p2 + 18)) + 6 ≤ (n9 : Int) then (if 0 ≤ (e_w (p2 + 24)) then (if (e_w (p2 + 24)) + 6 ≤ (n9 : Int) then (if 0 ≤ (e_w (p2 + 30)) then (if (e_w (p2 + 30)) + 12 ≤ (n9 : Int) then (if (0 ≤ (e_w ((e_w (p2 + 45)) - 3)) ∧ (e_w ((e_w (p2 + 45)) - 3)) < (n9 : Int)) then (if (0 ≤ (e_w ((e_w (p2 + 45)) - 2)) ∧ (e_w ((e_w (p2 + 45)) - 2)) < (n9 : Int)) then (if (0 ≤ (e_w ((e_w (p2 + 45)) - 1)) ∧ (e_w ((e_w (p2 + 45)) - 1)) < (n9 : Int)) then (some (0, (e_up (e_up (e_up (e_cp (e_cp (e_cp (e_cp (e_cp (e_cp M q0 p2.toNat 44 0 6) q0 (e_w (p2 + 6)).toNat 45 0 6) q0 (e_w (p2 + 12)).toNat 46 0 6) q0 (e_w (p2 + 18)).toNat 47 0 6) q0 (e_w (p2 + 24)).toNat 48 0 6) q0 (e_w (p2 + 30)).toNat 49 0 12) 43 2 ((e_cp (e_cp (e_cp (e_cp (e_cp (e_cp M q0 p2.toNat 44 0 6) q0 (e_w (p2 + 6)).toNat 45 0 6) q0 (e_w (p2 + 12)).toNat 46 0 6) q0 (e_w (p2 + 18)).toNat 47 0 6) q0 (e_w (p2 + 24)).toNat 48 0 6) q0 (e_w (p2 + 30)).toNat 49 0 12) q0 (e_w ((e_w (p2 + 45)) - 3)).toNat)) 43 3 ((e_up (e_cp (e_cp (e_cp (e_cp (e_cp (e_cp M q0 p2.toNat 44 0 6) q0 (e_w (p2 + 6)).toNat 45 0 6) q0 (e_w (p2 + 12)).toNat 46 0 6) q0 (e_w (p2 + 18)).toNat 47 0 6) q0 (e_w (p2 + 24)).toNat 48 0 6) q0 (e_w (p2 + 30)).toNat 49 0 12) 43 2 ((e_cp (e_cp (e_cp (e_cp (e_cp (e_cp M q0 p2.toNat 44 0 6) q0 (e_w (p2 + 6)).toNat 45 0 6) q0 (e_w (p2 + 12)).toNat 46 0 6) q0 (e_w (p2 + 18)).toNat 47 0 6) q0 (e_w (p2 + 24)).toNat 48 0 6) q0 (e_w (p2 + 30)).toNat 49 0 12) q0 (e_w ((e_w (p2 + 45)) - 3)).toNat)) q0 (e_w ((e_w (p2 + 45)) - 2)).toNat)) 43 4 ((e_up (e_up (e_cp (e_cp (e_cp (e_cp (e_cp (e_cp M q0 p2.toNat 44 0 6) q0 (e_w (p2 + 6)).toNat 45 0 6) q0 (e_w (p2 + 12)).toNat 46 0 6) q0 (e_w (p2 + 18)).toNat 47 0 6) q0 (e_w (p2 + 24)).toNat 48 0 6) q0 (e_w (p2 + 30)).toNat 49 0 12) 43 2 ((e_cp (e_cp (e_cp (e_cp (e_cp (e_cp M q0 p2.toNat 44 0 6) q0 (e_w (p2 + 6)).toNat 45 0 6) q0 (e_w (p2 + 12)).toNat 46 0 6) q0 (e_w (p2 + 18)).toNat 47 0 6) q0 (e_w (p2 + 24)).toNat 48 0 6) q0 (e_w (p2 + 30)).toNat 49 0 12) q0 (e_w ((e_w (p2 + 45)) - 3)).toNat)) 43 3 ((e_up (e_cp (e_cp (e_cp (e_cp (e_cp (e_cp M q0 p2.toNat 44 0 6) q0 (e_w (p2 + 6)).toNat 45 0 6) q0 (e_w (p2 + 12)).toNat 46 0 6) q0 (e_w (p2 + 18)).toNat 47 0 6) q0 (e_w (p2 + 24)).toNat 48 0 6) q0 (e_w (p2 + 30)).toNat 49 0 12) 43 2 ((e_cp (e_cp (e_cp (e_cp (e_cp (e_cp M q0 p2.toNat 44 0 6) q0 (e_w (p2 + 6)).toNat 45 0 6) q0 (e_w (p2 + 12)).toNat 46 0 6) q0 (e_w (p2 + 18)).toNat 47 0 6) q0 (e_w (p2 + 24)).toNat 48 0 6) q0 (e_w (p2 + 30)).toNat 49 0 12) q0 (e_w ((e_w (p2 + 45)) - 3)).toNat)) q0 (e_w ((e_w (p2 + 45)) - 2)).toNat)) q0 (e_w ((e_w (p2 + 45)) - 1)).toNat)))) else none) else none) else none) else none) else none) else none) else none) else none) else none) else none) else none) else none) else none) else none) else none)
theorem s_X3_loadFrom_trial {X : e_X} {d gn : Nat} {n9 : Nat} {q0 : Nat} (hq0 : e_SH q0 = (20, n9)) (kq0 : q0 ≤ 557) (zq0 : q0 ≠ 0) {p2 : Int} {M M' : e_M} {v : Int} (h : f_X3_loadFrom_trial n9 q0  p2 M = some (v, M')) : e_E X (d + 1) YX3_loadFrom [.inr (.inr 43), .inr (.inr q0), .inl p2] (557, gn, e_RF, M) (.inl none, (557, gn, e_RF, M')) := by
  unfold f_X3_loadFrom_trial at h
  refine wp_X3_loadFrom_trial_0 (d := d) hq0 kq0 zq0 M p2 ?_
  obtain ⟨c1, h⟩ := f_gd h
  refine ⟨c1, ?_⟩
  obtain ⟨c2, h⟩ := f_gd h
  refine ⟨c2, ?_⟩
  obtain ⟨c3, h⟩ := f_gd h
  refine ⟨c3, ?_⟩
  obtain ⟨c4, h⟩ := f_gd h
  refine ⟨c4, ?_⟩
  obtain ⟨c5, h⟩ := f_gd h
  refine ⟨c5, ?_⟩
  obtain ⟨c6, h⟩ := f_gd h
  refine ⟨c6, ?_⟩
  obtain ⟨c7, h⟩ := f_gd h
  refine ⟨c7, ?_⟩
  obtain ⟨c8, h⟩ := f_gd h
  refine ⟨c8, ?_⟩
  obtain ⟨c9, h⟩ := f_gd h
  refine ⟨c9, ?_⟩
  obtain ⟨c10, h⟩ := f_gd h
  refine ⟨c10, ?_⟩
  obtain ⟨c11, h⟩ := f_gd h
  refine ⟨c11, ?_⟩
  obtain ⟨c12, h⟩ := f_gd h
  refine ⟨c12, ?_⟩
  obtain ⟨c13, h⟩ := f_gd h
  refine ⟨c13, ?_⟩
  obtain ⟨c14, h⟩ := f_gd h
  refine ⟨c14, ?_⟩
  obtain ⟨c15, h⟩ := f_gd h
  exact ⟨c15, by cases h; rfl⟩
def f_X3_mostDays_now_4 : Nat → Int → Int → e_M → Option (Int × e_M)
  | 0, _, _, _ => none
  | n + 1, v1, v2, M => (if (M 4 0) ≤ v2 then (some (v1, M)) else (if (0 ≤ v2 ∧ v2 < 6) then (f_X3_mostDays_now_4 n (max v1 (M 38 v2.toNat)) (e_w (v2 + 1)) M) else none))
theorem s_X3_mostDays_now_4 {X : e_X} {d gn : Nat} : ∀ n : Nat, ∀ (v1 v2 : Int) (M M' : e_M) (v : Int), f_X3_mostDays_now_4  n v1 v2 M = some (v, M') → e_G X (d + 1) YX3_mostDays 4 [some (.inr (.inr 36)), some (.inl v1), some (.inl v2)] [] (557, gn, e_RF, M) (.inl (some (.inl v)), (557, gn, e_RF, M')) := by
  intro n
  induction n with
  | zero => intro v1 v2 M M' v h; cases h
  | succ n ih =>
    intro v1 v2 M M' v h
    rw [f_X3_mostDays_now_4] at h
    refine wp_X3_mostDays_now_4 (d := d)  M v1 v2 ?_
    refine ⟨fun c => ?_, fun c => ?_⟩
    · rw [if_pos c] at h
      cases h; rfl
    · rw [if_neg c] at h
      obtain ⟨c1, h⟩ := f_gd h
      refine ⟨c1, ?_⟩
      exact ih _ _ _ _ _ h
def f_X3_mostDays_now (n : Nat) (M : e_M) : Option (Int × e_M) := (f_X3_mostDays_now_4 n 0 0 M)
theorem s_X3_mostDays_now {X : e_X} {d gn : Nat} {n : Nat} {M M' : e_M} {v : Int} (h : f_X3_mostDays_now  n  M = some (v, M')) : e_E X (d + 1) YX3_mostDays [.inr (.inr 36)] (557, gn, e_RF, M) (.inl (some (.inl v)), (557, gn, e_RF, M')) := by
  unfold f_X3_mostDays_now at h
  refine wp_X3_mostDays_now_0 (d := d)  M  ?_
  exact s_X3_mostDays_now_4  _ _ _ _ _ _ h
