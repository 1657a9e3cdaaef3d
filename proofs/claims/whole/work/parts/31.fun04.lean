def f_X10_share_55 : Nat → Int → Int → Int → Int → Int → Int → e_M → Option ((Int ⊕ Nat) × e_M)
  | 0, _, _, _, _, _, _, _ => none
  | n + 1, p1, p2, p3, v4, v5, v6, M => (if 32 ≤ v6 then (if (0 ≤ p1 ∧ p1 < 6) then (some ((.inl (min (M 38 p1.toNat) v4)), M)) else none) else (if v5 ≤ v4 then (if (0 ≤ p1 ∧ p1 < 6) then (some ((.inl (min (M 38 p1.toNat) v4)), M)) else none) else (f_b (f_X3_daysUpTo_now n (e_w (Int.tdiv (e_w ((e_w (v4 + v5)) + 1)) 2)) p2 M) fun rr1 NN2 => (if p3 < rr1 then (f_X10_share_55 n p1 p2 p3 v4 (e_w ((e_w (Int.tdiv (e_w ((e_w (v4 + v5)) + 1)) 2)) - 1)) (e_w (v6 + 1)) NN2) else (f_X10_share_55 n p1 p2 p3 (e_w (Int.tdiv (e_w ((e_w (v4 + v5)) + 1)) 2)) v5 (e_w (v6 + 1)) NN2)))))
theorem s_X10_share_55 {X : e_X} {d gn : Nat} : ∀ n : Nat, ∀ (p1 p2 p3 v4 v5 v6 : Int) (M M' : e_M) (v : Int ⊕ Nat), f_X10_share_55  n p1 p2 p3 v4 v5 v6 M = some (v, M') → e_G X (d + 10) YX10_share 55 [some (.inr (.inr 1)), some (.inl p1), some (.inl p2), some (.inl p3), some (.inl v4), some (.inl v5), some (.inl v6), none] [] (557, gn, e_RF, M) (f_oT gn v M') := by
  intro n
  induction n with
  | zero => intro p1 p2 p3 v4 v5 v6 M M' v h; cases h
  | succ n ih =>
    intro p1 p2 p3 v4 v5 v6 M M' v h
    rw [f_X10_share_55] at h
    refine wp_X10_share_55 (d := d + 9)  M p1 p2 p3 v4 v5 v6 (f_mnT) ?_
    refine ⟨fun c => ?_, fun c => ?_⟩
    · rw [if_pos c] at h
      refine wp_X10_share_113 (d := d + 9)  _ _ _ _ _ _ _ ?_
      obtain ⟨c3, h⟩ := f_gd h
      exact ⟨c3, by cases h; rfl⟩
    · rw [if_neg c] at h
      refine ⟨fun c => ?_, fun c => ?_⟩
      · rw [if_pos c] at h
        refine wp_X10_share_113 (d := d + 9)  _ _ _ _ _ _ _ ?_
        obtain ⟨c4, h⟩ := f_gd h
        exact ⟨c4, by cases h; rfl⟩
      · rw [if_neg c] at h
        obtain ⟨rr5, NN6, hc7, h⟩ := f_bd h
        refine ⟨rr5, NN6, s_X3_daysUpTo_now (d := d + 8)  hc7, ?_⟩
        refine ⟨fun c => ?_, fun c => ?_⟩
        · rw [if_pos c] at h
          exact ih _ _ _ _ _ _ _ _ _ h
        · rw [if_neg c] at h
          exact ih _ _ _ _ _ _ _ _ _ h
def f_X10_share (n : Nat) (p1 p2 p3 : Int) (M : e_M) : Option ((Int ⊕ Nat) × e_M) := (f_t (f_X10_needPerson p1 M) fun _ NN9 => (f_b (f_X10_bitsBelow (NN9 4 0) NN9) fun rr10 NN11 => (f_t (f_X10_needWithin p2 0 rr10 NN11) fun _ NN13 => (f_t (f_X10_needWithin p3 0 9999 NN13) fun _ NN15 => (if ¬ (e_and (e_shr p2 p1) 1) = 0 then (f_b (f_X3_mostDays_now n NN15) fun rr16 NN17 => (f_X10_share_55 n p1 p2 p3 0 rr16 0 NN17)) else (some ((.inl 0), NN15)))))))
theorem s_X10_share {X : e_X} {d gn : Nat} {n : Nat} {p1 p2 p3 : Int} {M M' : e_M} {v : Int ⊕ Nat} (h : f_X10_share  n p1 p2 p3 M = some (v, M')) : e_E X (d + 10) YX10_share [.inr (.inr 1), .inl p1, .inl p2, .inl p3] (557, gn, e_RF, M) (f_oT gn v M') := by
  unfold f_X10_share at h
  refine wp_X10_share_0 (d := d + 9)  M p1 p2 p3 (f_mnT) ?_
  rcases f_td h with ⟨rr18, NN19, hc20, h⟩ | ⟨rr18, NN19, hc20, h⟩
  · refine Or.inl ⟨NN19, s_X10_needPerson (d := d)  hc20, ?_⟩
    obtain ⟨rr21, NN22, hc23, h⟩ := f_bd h
    refine ⟨rr21, NN22, s_X10_bitsBelow (d := d + 9)  hc23, ?_⟩
    rcases f_td h with ⟨rr24, NN25, hc26, h⟩ | ⟨rr24, NN25, hc26, h⟩
    · refine Or.inl ⟨NN25, s_X10_needWithin (d := d)  hc26, ?_⟩
      rcases f_td h with ⟨rr27, NN28, hc29, h⟩ | ⟨rr27, NN28, hc29, h⟩
      · refine Or.inl ⟨NN28, s_X10_needWithin (d := d)  hc29, ?_⟩
        refine ⟨fun c => ?_, fun c => ?_⟩
        · rw [if_pos c] at h
          obtain ⟨rr30, NN31, hc32, h⟩ := f_bd h
          refine ⟨rr30, NN31, s_X3_mostDays_now (d := d + 8)  hc32, ?_⟩
          exact s_X10_share_55  _ _ _ _ _ _ _ _ _ _ h
        · rw [if_neg (not_not_intro c)] at h
          cases h; rfl
      · exact Or.inr ⟨rr27, NN28, s_X10_needWithin (d := d)  hc29, by cases h; rfl⟩
    · exact Or.inr ⟨rr24, NN25, s_X10_needWithin (d := d)  hc26, by cases h; rfl⟩
  · exact Or.inr ⟨rr18, NN19, s_X10_needPerson (d := d)  hc20, by cases h; rfl⟩
def f_X10_stay_36 : Nat → Int → Int → Int → Int → Int → e_M → Option ((Int ⊕ Nat) × e_M)
  | 0, _, _, _, _, _, _ => none
  | n + 1, p1, v2, v3, v4, v5, M => (if v4 < v5 then (some ((.inl v2), M)) else (f_b (f_J6_bitCount_0f7a4 v5 M) fun rr1 NN2 => (if v3 ≤ rr1 then (f_X10_stay_36 n p1 v2 v3 v4 (e_w (v5 + 1)) NN2) else (f_b (f_X8_skillsOf_town n v5 NN2) fun rr3 NN4 => (if ¬ (e_and p1 (e_xor rr3 (-1))) = 0 then (f_X10_stay_36 n p1 v2 v3 v4 (e_w (v5 + 1)) NN4) else (f_X10_stay_36 n p1 v5 rr1 v4 (e_w (v5 + 1)) NN4))))))
theorem s_X10_stay_36 {X : e_X} {d gn : Nat} : ∀ n : Nat, ∀ (p1 v2 v3 v4 v5 : Int) (M M' : e_M) (v : Int ⊕ Nat), f_X10_stay_36  n p1 v2 v3 v4 v5 M = some (v, M') → e_G X (d + 10) YX10_stay 36 [some (.inr (.inr 1)), some (.inl p1), some (.inl v2), some (.inl v3), some (.inl v4), some (.inl v5), none] [] (557, gn, e_RF, M) (f_oT gn v M') := by
  intro n
  induction n with
  | zero => intro p1 v2 v3 v4 v5 M M' v h; cases h
  | succ n ih =>
    intro p1 v2 v3 v4 v5 M M' v h
    rw [f_X10_stay_36] at h
    refine wp_X10_stay_36 (d := d + 9)  M p1 v2 v3 v4 v5 (f_mnT) ?_
    refine ⟨fun c => ?_, fun c => ?_⟩
    · rw [if_pos c] at h
      cases h; rfl
    · rw [if_neg c] at h
      obtain ⟨rr5, NN6, hc7, h⟩ := f_bd h
      refine ⟨rr5, NN6, s_J6_bitCount_0f7a4 (d := d + 9)  hc7, ?_⟩
      refine ⟨fun c => ?_, fun c => ?_⟩
      · rw [if_pos c] at h
        exact ih _ _ _ _ _ _ _ _ h
      · rw [if_neg c] at h
        obtain ⟨rr8, NN9, hc10, h⟩ := f_bd h
        refine ⟨rr8, NN9, s_X8_skillsOf_town (d := d + 9)  hc10, ?_⟩
        refine ⟨fun c => ?_, fun c => ?_⟩
        · rw [if_pos c] at h
          exact ih _ _ _ _ _ _ _ _ h
        · rw [if_neg (not_not_intro c)] at h
          exact ih _ _ _ _ _ _ _ _ h
def f_X10_stay (n : Nat) (p1 : Int) (M : e_M) : Option ((Int ⊕ Nat) × e_M) := (f_b (f_X10_bitsBelow (M 4 1) M) fun rr11 NN12 => (f_t (f_X10_needWithin p1 0 rr11 NN12) fun _ NN14 => (f_b (f_X10_bitsBelow (NN14 4 0) NN14) fun rr15 NN16 => (f_X10_stay_36 n p1 (-1) 7 rr15 0 NN16))))
theorem s_X10_stay {X : e_X} {d gn : Nat} {n : Nat} {p1 : Int} {M M' : e_M} {v : Int ⊕ Nat} (h : f_X10_stay  n p1 M = some (v, M')) : e_E X (d + 10) YX10_stay [.inr (.inr 1), .inl p1] (557, gn, e_RF, M) (f_oT gn v M') := by
  unfold f_X10_stay at h
  refine wp_X10_stay_0 (d := d + 9)  M p1 (f_mnT) ?_
  obtain ⟨rr17, NN18, hc19, h⟩ := f_bd h
  refine ⟨rr17, NN18, s_X10_bitsBelow (d := d + 9)  hc19, ?_⟩
  rcases f_td h with ⟨rr20, NN21, hc22, h⟩ | ⟨rr20, NN21, hc22, h⟩
  · refine Or.inl ⟨NN21, s_X10_needWithin (d := d)  hc22, ?_⟩
    obtain ⟨rr23, NN24, hc25, h⟩ := f_bd h
    refine ⟨rr23, NN24, s_X10_bitsBelow (d := d + 9)  hc25, ?_⟩
    exact s_X10_stay_36  _ _ _ _ _ _ _ _ _ h
  · exact Or.inr ⟨rr20, NN21, s_X10_needWithin (d := d)  hc22, by cases h; rfl⟩
def f_X10_task (p1 p2 : Int) (M : e_M) : Option ((Int ⊕ Nat) × e_M) := (f_t (f_X10_needTask p1 M) fun _ NN2 => (f_t (f_X10_needWithin p2 0 3 NN2) fun _ NN4 => (if p2 = 0 then (if (0 ≤ p1 ∧ p1 < 12) then (some ((.inl (NN4 9 p1.toNat)), NN4)) else none) else (if p2 = 1 then (if (0 ≤ p1 ∧ p1 < 12) then (some ((.inl (NN4 42 p1.toNat)), NN4)) else none) else (if p2 = 2 then (if (0 ≤ p1 ∧ p1 < 12) then (some ((.inl (NN4 11 p1.toNat)), NN4)) else none) else (f_b (f_X3_isDone_now p1 NN4) fun rr5 NN6 => (if rr5 = 0 then (some ((.inl 0), NN6)) else (some ((.inl 1), NN6)))))))))
theorem s_X10_task {X : e_X} {d gn : Nat} {p1 p2 : Int} {M M' : e_M} {v : Int ⊕ Nat} (h : f_X10_task   p1 p2 M = some (v, M')) : e_E X (d + 10) YX10_task [.inr (.inr 1), .inl p1, .inl p2] (557, gn, e_RF, M) (f_oT gn v M') := by
  unfold f_X10_task at h
  refine wp_X10_task_0 (d := d + 9)  M p1 p2 (f_mnT) ?_
  rcases f_td h with ⟨rr7, NN8, hc9, h⟩ | ⟨rr7, NN8, hc9, h⟩
  · refine Or.inl ⟨NN8, s_X10_needTask (d := d)  hc9, ?_⟩
    rcases f_td h with ⟨rr10, NN11, hc12, h⟩ | ⟨rr10, NN11, hc12, h⟩
    · refine Or.inl ⟨NN11, s_X10_needWithin (d := d)  hc12, ?_⟩
      refine ⟨fun c => ?_, fun c => ?_, fun c => ?_, fun c => ?_⟩
      · rw [if_pos c] at h
        obtain ⟨c13, h⟩ := f_gd h
        exact ⟨c13, by cases h; rfl⟩
      · rw [if_neg (by omega), if_pos c] at h
        obtain ⟨c14, h⟩ := f_gd h
        exact ⟨c14, by cases h; rfl⟩
      · rw [if_neg (by omega), if_neg (by omega), if_pos c] at h
        obtain ⟨c15, h⟩ := f_gd h
        exact ⟨c15, by cases h; rfl⟩
      · rw [if_neg (by omega), if_neg (by omega), if_neg (by omega)] at h
        obtain ⟨rr16, NN17, hc18, h⟩ := f_bd h
        refine ⟨rr16, NN17, s_X3_isDone_now (d := d + 9)  hc18, ?_⟩
        refine ⟨fun c => ?_, fun c => ?_⟩
        · rw [if_pos c] at h
          cases h; rfl
        · rw [if_neg c] at h
          cases h; rfl
    · exact Or.inr ⟨rr10, NN11, s_X10_needWithin (d := d)  hc12, by cases h; rfl⟩
  · exact Or.inr ⟨rr7, NN8, s_X10_needTask (d := d)  hc9, by cases h; rfl⟩
def f_X10_together (p1 p2 p3 : Int) (M : e_M) : Option ((Int ⊕ Nat) × e_M) := (f_t (f_X10_needTwo p1 p2 p3 M) fun _ NN2 => (f_b (f_X0_hasBoth_book p1 p2 NN2) fun rr3 NN4 => (if ¬ rr3 = 0 then (f_b (f_X0_mondaysHad_book p1 p3 NN4) fun rr5 NN6 => (f_b (f_X0_mondaysHad_book p2 p3 NN6) fun rr7 NN8 => (if rr5 = (-1) then (some ((.inl (-1)), NN8)) else (if ¬ rr7 = (-1) then (some ((.inl (max 0 (e_w ((e_w (rr5 + rr7)) - p3)))), NN8)) else (some ((.inl (-1)), NN8)))))) else (some ((.inl (-1)), NN4)))))
theorem s_X10_together {X : e_X} {d gn : Nat} {p1 p2 p3 : Int} {M M' : e_M} {v : Int ⊕ Nat} (h : f_X10_together   p1 p2 p3 M = some (v, M')) : e_E X (d + 11) YX10_together [.inr (.inr 1), .inl p1, .inl p2, .inl p3] (557, gn, e_RF, M) (f_oT gn v M') := by
  unfold f_X10_together at h
  refine wp_X10_together_0 (d := d + 10)  M p1 p2 p3 (f_mnT) ?_
  rcases f_td h with ⟨rr9, NN10, hc11, h⟩ | ⟨rr9, NN10, hc11, h⟩
  · refine Or.inl ⟨NN10, s_X10_needTwo (d := d)  hc11, ?_⟩
    obtain ⟨rr12, NN13, hc14, h⟩ := f_bd h
    refine ⟨rr12, NN13, s_X0_hasBoth_book (d := d + 9)  hc14, ?_⟩
    refine ⟨fun c => ?_, fun c => ?_⟩
    · rw [if_pos c] at h
      obtain ⟨rr15, NN16, hc17, h⟩ := f_bd h
      refine ⟨rr15, NN16, s_X0_mondaysHad_book (d := d + 10)  hc17, ?_⟩
      obtain ⟨rr18, NN19, hc20, h⟩ := f_bd h
      refine ⟨rr18, NN19, s_X0_mondaysHad_book (d := d + 10)  hc20, ?_⟩
      refine ⟨fun c => ?_, fun c => ?_⟩
      · rw [if_pos c] at h
        cases h; rfl
      · rw [if_neg c] at h
        refine ⟨fun c => ?_, fun c => ?_⟩
        · rw [if_pos c] at h
          cases h; rfl
        · rw [if_neg (not_not_intro c)] at h
          cases h; rfl
    · rw [if_neg (not_not_intro c)] at h
      cases h; rfl
  · exact Or.inr ⟨rr9, NN10, s_X10_needTwo (d := d)  hc11, by cases h; rfl⟩
def f_X10_undo (M : e_M) : Option (Int × e_M) := (f_b (f_X5_popInto 55 56 765 M) fun rr1 NN2 => (if ¬ rr1 = 0 then (f_b (f_X4_forgetRefused NN2) fun _ NN4 => (some ((NN4 55 1), NN4))) else (some ((-1), NN2))))
theorem s_X10_undo {X : e_X} {d gn : Nat} {M M' : e_M} {v : Int} (h : f_X10_undo    M = some (v, M')) : e_E X (d + 3) YX10_undo [.inr (.inr 1)] (557, gn, e_RF, M) (.inl (some (.inl v)), (557, gn, e_RF, M')) := by
  unfold f_X10_undo at h
  refine wp_X10_undo_0 (d := d + 2)  M  (f_mn) ?_
  obtain ⟨rr5, NN6, hc7, h⟩ := f_bd h
  refine ⟨rr5, NN6, s_X5_popInto (d := d) rfl (Nat.le_of_ble_eq_true rfl) (by decide) rfl rfl (Nat.le_of_ble_eq_true rfl) (by decide) hc7, ?_⟩
  refine ⟨fun c => ?_, fun c => ?_⟩
  · rw [if_pos c] at h
    obtain ⟨rr8, NN9, hc10, h⟩ := f_bd h
    refine ⟨NN9, s_X4_forgetRefused (d := d + 2)  hc10, ?_⟩
    cases h; rfl
  · rw [if_neg (not_not_intro c)] at h
    cases h; rfl
def f_X11_back_19 (p1 w0 : Int) (M : e_M) : Option (Int × e_M) := (f_b (f_X11_bad w0 1 0 M) fun rr1 NN2 => (if rr1 = 0 then (f_b (f_X11_isSold 532 p1 NN2) fun rr3 NN4 => (if rr3 = 0 then (some ((-1), NN4)) else (if (0 ≤ (e_w (18 + p1)) ∧ (e_w (18 + p1)) < 56) then (some ((e_w (Int.tdiv (NN4 532 (e_w (18 + p1)).toNat) 2)), NN4)) else none))) else (some (0, NN2))))
theorem s_X11_back_19 {X : e_X} {d gn : Nat} {p1 w0 : Int} {M M' : e_M} {v : Int} (h : f_X11_back_19   p1 w0 M = some (v, M')) : e_G X (d + 2) YX11_back 19 [some (.inr (.inr 64)), some (.inl p1)] [.inl w0, .inr (.inr 64)] (557, gn, e_RF, M) (.inl (some (.inl v)), (557, gn, e_RF, M')) := by
  unfold f_X11_back_19 at h
  refine wp_X11_back_19 (d := d + 1)  M p1 w0 (f_mn) ?_
  obtain ⟨rr5, NN6, hc7, h⟩ := f_bd h
  refine ⟨rr5, NN6, s_X11_bad (d := d + 1)  hc7, ?_⟩
  refine ⟨fun c => ?_, fun c => ?_⟩
  · rw [if_pos c] at h
    obtain ⟨rr8, NN9, hc10, h⟩ := f_bd h
    refine ⟨rr8, NN9, s_X11_isSold (d := d + 1) rfl (Nat.le_of_ble_eq_true rfl) (by decide) hc10, ?_⟩
    refine ⟨fun c => ?_, fun c => ?_⟩
    · rw [if_pos c] at h
      cases h; rfl
    · rw [if_neg c] at h
      obtain ⟨c11, h⟩ := f_gd h
      exact ⟨c11, by cases h; rfl⟩
  · rw [if_neg c] at h
    cases h; rfl
def f_X11_back (p1 : Int) (M : e_M) : Option (Int × e_M) := (f_b (f_X11_isPerson p1 (e_up M 64 0 0)) fun rr12 NN13 => (if ¬ rr12 = 0 then (f_X11_back_19 p1 0 NN13) else (f_X11_back_19 p1 1 NN13)))
theorem s_X11_back {X : e_X} {d gn : Nat} {p1 : Int} {M M' : e_M} {v : Int} (h : f_X11_back   p1 M = some (v, M')) : e_E X (d + 2) YX11_back [.inr (.inr 64), .inl p1] (557, gn, e_RF, M) (.inl (some (.inl v)), (557, gn, e_RF, M')) := by
  unfold f_X11_back at h
  refine wp_X11_back_0 (d := d + 1)  M p1 (f_mn) ?_
  obtain ⟨rr14, NN15, hc16, h⟩ := f_bd h
  refine ⟨rr14, NN15, s_X11_isPerson (d := d)  hc16, ?_⟩
  refine ⟨fun c => ?_, fun c => ?_⟩
  · rw [if_pos c] at h
    exact s_X11_back_19  h
  · rw [if_neg (not_not_intro c)] at h
    exact s_X11_back_19  h
def f_X11_beginsAnew_188 : Nat → Int → e_M → Option (Int × e_M)
  | 0, _, _ => none
  | n + 1, v1, M => (if (M 68 2) ≤ v1 then (some (0, (e_up (e_up (e_up (e_up (e_up M 64 21 0) 64 35 0) 64 36 0) 64 37 0) 64 38 0))) else (if (0 ≤ v1 ∧ v1 < 12) then (if (0 ≤ (e_w (30 + v1)) ∧ (e_w (30 + v1)) < 56) then (f_X11_beginsAnew_188 n (e_w (v1 + 1)) (e_up M 532 (e_w (30 + v1)).toNat (M (101 + v1.toNat) 1))) else none) else none))
theorem s_X11_beginsAnew_188 {X : e_X} {d gn : Nat} : ∀ n : Nat, ∀ (v1 : Int) (M M' : e_M) (v : Int), f_X11_beginsAnew_188  n v1 M = some (v, M') → e_G X (d + 1) YX11_beginsAnew 188 [some (.inr (.inr 64)), some (.inl v1)] [] (557, gn, e_RF, M) (.inl none, (557, gn, e_RF, M')) := by
  intro n
  induction n with
  | zero => intro v1 M M' v h; cases h
  | succ n ih =>
    intro v1 M M' v h
    rw [f_X11_beginsAnew_188] at h
    refine wp_X11_beginsAnew_188 (d := d)  M v1 ?_
    refine ⟨fun c => ?_, fun c => ?_⟩
    · rw [if_pos c] at h
      cases h; rfl
    · rw [if_neg c] at h
      obtain ⟨c1, h⟩ := f_gd h
      refine ⟨c1, ?_⟩
      obtain ⟨c2, h⟩ := f_gd h
      refine ⟨c2, ?_⟩
      exact ih _ _ _ _ h
def f_X11_beginsAnew_108 : Nat → Int → e_M → Option (Int × e_M)
  | 0, _, _ => none
  | n + 1, v1, M => (if 6 ≤ v1 then (f_X11_beginsAnew_188 n 0 M) else (if (M 68 0) ≤ v1 then (if (0 ≤ v1 ∧ v1 < 6) then (if ((e_up M 72 v1.toNat 0) 68 0) ≤ v1 then (if (0 ≤ (e_w (0 + v1)) ∧ (e_w (0 + v1)) < 56) then (if (0 ≤ (e_w (18 + v1)) ∧ (e_w (18 + v1)) < 56) then (f_X11_beginsAnew_108 n (e_w (v1 + 1)) (e_up (e_up (e_up M 72 v1.toNat 0) 532 (e_w (0 + v1)).toNat 0) 532 (e_w (18 + v1)).toNat (-1))) else none) else none) else (if (0 ≤ v1 ∧ v1 < 6) then (if (0 ≤ (e_w (0 + v1)) ∧ (e_w (0 + v1)) < 56) then (if (0 ≤ (e_w (18 + v1)) ∧ (e_w (18 + v1)) < 56) then (f_X11_beginsAnew_108 n (e_w (v1 + 1)) (e_up (e_up (e_up M 72 v1.toNat 0) 532 (e_w (0 + v1)).toNat ((e_up M 72 v1.toNat 0) (81 + v1.toNat) 0)) 532 (e_w (18 + v1)).toNat (-1))) else none) else none) else none)) else none) else (if (0 ≤ v1 ∧ v1 < 6) then (if (0 ≤ v1 ∧ v1 < 6) then (if ((e_up M 72 v1.toNat (M 71 v1.toNat)) 68 0) ≤ v1 then (if (0 ≤ (e_w (0 + v1)) ∧ (e_w (0 + v1)) < 56) then (if (0 ≤ (e_w (18 + v1)) ∧ (e_w (18 + v1)) < 56) then (f_X11_beginsAnew_108 n (e_w (v1 + 1)) (e_up (e_up (e_up M 72 v1.toNat (M 71 v1.toNat)) 532 (e_w (0 + v1)).toNat 0) 532 (e_w (18 + v1)).toNat (-1))) else none) else none) else (if (0 ≤ v1 ∧ v1 < 6) then (if (0 ≤ (e_w (0 + v1)) ∧ (e_w (0 + v1)) < 56) then (if (0 ≤ (e_w (18 + v1)) ∧ (e_w (18 + v1)) < 56) then (f_X11_beginsAnew_108 n (e_w (v1 + 1)) (e_up (e_up (e_up M 72 v1.toNat (M 71 v1.toNat)) 532 (e_w (0 + v1)).toNat ((e_up M 72 v1.toNat (M 71 v1.toNat)) (81 + v1.toNat) 0)) 532 (e_w (18 + v1)).toNat (-1))) else none) else none) else none)) else none) else none)))
theorem s_X11_beginsAnew_108 {X : e_X} {d gn : Nat} : ∀ n : Nat, ∀ (v1 : Int) (M M' : e_M) (v : Int), f_X11_beginsAnew_108  n v1 M = some (v, M') → e_G X (d + 1) YX11_beginsAnew 108 [some (.inr (.inr 64)), some (.inl v1)] [] (557, gn, e_RF, M) (.inl none, (557, gn, e_RF, M')) := by
  intro n
  induction n with
  | zero => intro v1 M M' v h; cases h
  | succ n ih =>
    intro v1 M M' v h
    rw [f_X11_beginsAnew_108] at h
    refine wp_X11_beginsAnew_108 (d := d)  M v1 ?_
    refine ⟨fun c => ?_, fun c => ?_⟩
    · rw [if_pos c] at h
      exact s_X11_beginsAnew_188  _ _ _ _ _ h
    · rw [if_neg c] at h
      refine ⟨fun c => ?_, fun c => ?_⟩
      · rw [if_pos c] at h
        refine wp_X11_beginsAnew_139 (d := d)  _ _ _ _ ?_
        obtain ⟨c3, h⟩ := f_gd h
        refine ⟨c3, ?_⟩
        refine ⟨fun c => ?_, fun c => ?_⟩
        · rw [if_pos c] at h
          refine wp_X11_beginsAnew_169 (d := d)  _ _ _ _ ?_
          obtain ⟨c4, h⟩ := f_gd h
          refine ⟨c4, ?_⟩
          obtain ⟨c5, h⟩ := f_gd h
          refine ⟨c5, ?_⟩
          exact ih _ _ _ _ h
        · rw [if_neg c] at h
          obtain ⟨c6, h⟩ := f_gd h
          refine ⟨c6, ?_⟩
          refine wp_X11_beginsAnew_169 (d := d)  _ _ _ _ ?_
          obtain ⟨c7, h⟩ := f_gd h
          refine ⟨c7, ?_⟩
          obtain ⟨c8, h⟩ := f_gd h
          refine ⟨c8, ?_⟩
          exact ih _ _ _ _ h
      · rw [if_neg c] at h
        obtain ⟨c9, h⟩ := f_gd h
        refine ⟨c9, ?_⟩
        refine wp_X11_beginsAnew_139 (d := d)  _ _ _ _ ?_
        obtain ⟨c10, h⟩ := f_gd h
        refine ⟨c10, ?_⟩
        refine ⟨fun c => ?_, fun c => ?_⟩
        · rw [if_pos c] at h
          refine wp_X11_beginsAnew_169 (d := d)  _ _ _ _ ?_
          obtain ⟨c11, h⟩ := f_gd h
          refine ⟨c11, ?_⟩
          obtain ⟨c12, h⟩ := f_gd h
          refine ⟨c12, ?_⟩
          exact ih _ _ _ _ h
        · rw [if_neg c] at h
          obtain ⟨c13, h⟩ := f_gd h
          refine ⟨c13, ?_⟩
          refine wp_X11_beginsAnew_169 (d := d)  _ _ _ _ ?_
          obtain ⟨c14, h⟩ := f_gd h
          refine ⟨c14, ?_⟩
          obtain ⟨c15, h⟩ := f_gd h
          refine ⟨c15, ?_⟩
          exact ih _ _ _ _ h
def f_X11_beginsAnew_87 : Nat → Int → e_M → Option (Int × e_M)
  | 0, _, _ => none
  | n + 1, v1, M => (if 56 ≤ v1 then (f_X11_beginsAnew_108 n 0 M) else (if (0 ≤ v1 ∧ v1 < 56) then (f_X11_beginsAnew_87 n (e_w (v1 + 1)) (e_up M 532 v1.toNat 0)) else none))
theorem s_X11_beginsAnew_87 {X : e_X} {d gn : Nat} : ∀ n : Nat, ∀ (v1 : Int) (M M' : e_M) (v : Int), f_X11_beginsAnew_87  n v1 M = some (v, M') → e_G X (d + 1) YX11_beginsAnew 87 [some (.inr (.inr 64)), some (.inl v1)] [] (557, gn, e_RF, M) (.inl none, (557, gn, e_RF, M')) := by
  intro n
  induction n with
  | zero => intro v1 M M' v h; cases h
  | succ n ih =>
    intro v1 M M' v h
    rw [f_X11_beginsAnew_87] at h
    refine wp_X11_beginsAnew_87 (d := d)  M v1 ?_
    refine ⟨fun c => ?_, fun c => ?_⟩
    · rw [if_pos c] at h
      exact s_X11_beginsAnew_108  _ _ _ _ _ h
    · rw [if_neg c] at h
      obtain ⟨c16, h⟩ := f_gd h
      refine ⟨c16, ?_⟩
      exact ih _ _ _ _ h
def f_X11_beginsAnew_61 : Nat → Int → e_M → Option (Int × e_M)
  | 0, _, _ => none
  | n + 1, v1, M => (if 6 ≤ v1 then (f_X11_beginsAnew_87 n 0 M) else (if (0 ≤ v1 ∧ v1 < 6) then (if (0 ≤ v1 ∧ v1 < 6) then (f_X11_beginsAnew_61 n (e_w (v1 + 1)) (e_up M 70 v1.toNat (M 69 v1.toNat))) else none) else none))
theorem s_X11_beginsAnew_61 {X : e_X} {d gn : Nat} : ∀ n : Nat, ∀ (v1 : Int) (M M' : e_M) (v : Int), f_X11_beginsAnew_61  n v1 M = some (v, M') → e_G X (d + 1) YX11_beginsAnew 61 [some (.inr (.inr 64)), some (.inl v1)] [] (557, gn, e_RF, M) (.inl none, (557, gn, e_RF, M')) := by
  intro n
  induction n with
  | zero => intro v1 M M' v h; cases h
  | succ n ih =>
    intro v1 M M' v h
    rw [f_X11_beginsAnew_61] at h
    refine wp_X11_beginsAnew_61 (d := d)  M v1 ?_
    refine ⟨fun c => ?_, fun c => ?_⟩
    · rw [if_pos c] at h
      exact s_X11_beginsAnew_87  _ _ _ _ _ h
    · rw [if_neg c] at h
      obtain ⟨c17, h⟩ := f_gd h
      refine ⟨c17, ?_⟩
      obtain ⟨c18, h⟩ := f_gd h
      refine ⟨c18, ?_⟩
      exact ih _ _ _ _ h
def f_X11_beginsAnew_2 : Nat → Int → e_M → Option (Int × e_M)
  | 0, _, _ => none
  | n + 1, v1, M => (if 3 ≤ v1 then (f_b (f_X11_lays_m_person n (M 68 0) M) fun _ NN20 => (f_b (f_X11_lays_m_task n (NN20 68 2) NN20) fun _ NN22 => (f_X11_beginsAnew_61 n 0 NN22))) else (if (0 ≤ v1 ∧ v1 < 3) then (if (0 ≤ v1 ∧ v1 < 3) then (f_X11_beginsAnew_2 n (e_w (v1 + 1)) (e_up M 68 v1.toNat (M 67 v1.toNat))) else none) else none))
theorem s_X11_beginsAnew_2 {X : e_X} {d gn : Nat} : ∀ n : Nat, ∀ (v1 : Int) (M M' : e_M) (v : Int), f_X11_beginsAnew_2  n v1 M = some (v, M') → e_G X (d + 1) YX11_beginsAnew 2 [some (.inr (.inr 64)), some (.inl v1)] [] (557, gn, e_RF, M) (.inl none, (557, gn, e_RF, M')) := by
  intro n
  induction n with
  | zero => intro v1 M M' v h; cases h
  | succ n ih =>
    intro v1 M M' v h
    rw [f_X11_beginsAnew_2] at h
    refine wp_X11_beginsAnew_2 (d := d)  M v1 (f_mn) ?_
    refine ⟨fun c => ?_, fun c => ?_⟩
    · rw [if_pos c] at h
      obtain ⟨rr23, NN24, hc25, h⟩ := f_bd h
      refine ⟨NN24, s_X11_lays_m_person (d := d)  hc25, ?_⟩
      obtain ⟨rr26, NN27, hc28, h⟩ := f_bd h
      refine ⟨NN27, s_X11_lays_m_task (d := d)  hc28, ?_⟩
      exact s_X11_beginsAnew_61  _ _ _ _ _ h
    · rw [if_neg c] at h
      obtain ⟨c29, h⟩ := f_gd h
      refine ⟨c29, ?_⟩
      obtain ⟨c30, h⟩ := f_gd h
      refine ⟨c30, ?_⟩
      exact ih _ _ _ _ h
def f_X11_beginsAnew (n : Nat) (M : e_M) : Option (Int × e_M) := (f_X11_beginsAnew_2 n 0 M)
theorem s_X11_beginsAnew {X : e_X} {d gn : Nat} {n : Nat} {M M' : e_M} {v : Int} (h : f_X11_beginsAnew  n  M = some (v, M')) : e_E X (d + 1) YX11_beginsAnew [.inr (.inr 64)] (557, gn, e_RF, M) (.inl none, (557, gn, e_RF, M')) := by
  unfold f_X11_beginsAnew at h
  refine wp_X11_beginsAnew_0 (d := d)  M  ?_
  exact s_X11_beginsAnew_2  _ _ _ _ _ h
def f_X11_blanks_0 : Nat → e_M → Option (Int × e_M)
  | 0, _ => none
  | n + 1, M => (f_b (f_X11_byteAt (M 64 4) M) fun rr1 NN2 => (if ¬ rr1 = 32 then (some (0, NN2)) else (f_X11_blanks_0 n (e_up NN2 64 4 (e_w ((NN2 64 4) + 1))))))
theorem s_X11_blanks_0 {X : e_X} {d gn : Nat} : ∀ n : Nat, ∀ (M M' : e_M) (v : Int), f_X11_blanks_0  n  M = some (v, M') → e_G X (d + 1) YX11_blanks 0 [some (.inr (.inr 64))] [] (557, gn, e_RF, M) (.inl none, (557, gn, e_RF, M')) := by
  intro n
  induction n with
  | zero => intro  M M' v h; cases h
  | succ n ih =>
    intro  M M' v h
    rw [f_X11_blanks_0] at h
    refine wp_X11_blanks_0 (d := d)  M  (f_mn) ?_
    obtain ⟨rr3, NN4, hc5, h⟩ := f_bd h
    refine ⟨rr3, NN4, s_X11_byteAt (d := d)  hc5, ?_⟩
    refine ⟨fun c => ?_, fun c => ?_⟩
    · rw [if_pos c] at h
      cases h; rfl
    · rw [if_neg (not_not_intro c)] at h
      exact ih  _ _ _ h
def f_X11_blanks (n : Nat) (M : e_M) : Option (Int × e_M) := f_X11_blanks_0  n  M
theorem s_X11_blanks {X : e_X} {d gn : Nat} {n : Nat} {M M' : e_M} {v : Int} (h : f_X11_blanks  n  M = some (v, M')) : e_E X (d + 1) YX11_blanks [.inr (.inr 64)] (557, gn, e_RF, M) (.inl none, (557, gn, e_RF, M')) := by
  exact s_X11_blanks_0  _  _ _ _ h
def f_X11_by (p0 p1 p2 : Int) (M : e_M) : Option (Int × e_M) := (if p0 = 2 then (some ((e_w (p1 + p2)), M)) else (if p0 = 3 then (some ((e_w (p1 - p2)), M)) else (if p0 = 4 then (some ((e_w (p1 * p2)), M)) else (if p0 = 5 then (if ¬ p2 = 0 then (if ¬ p2 = (-1) then (if p2 ≠ 0 then (some ((e_w (Int.tdiv p1 p2)), M)) else none) else (some ((e_w (-p1)), M))) else (some (0, M))) else (if p0 = 6 then (if p2 = 0 then (some (0, M)) else (if ¬ p2 = (-1) then (if p2 ≠ 0 then (some ((e_w (Int.tmod p1 p2)), M)) else none) else (some (0, M)))) else (if p0 = 7 then (f_b (f_X11_less p1 p2 M) fun rr3 NN4 => (some (rr3, NN4))) else (f_b (f_X11_more p1 p2 M) fun rr1 NN2 => (some (rr1, NN2)))))))))
theorem s_X11_by {X : e_X} {d gn : Nat} {p0 p1 p2 : Int} {M M' : e_M} {v : Int} (h : f_X11_by   p0 p1 p2 M = some (v, M')) : e_E X (d + 1) YX11_by [.inl p0, .inl p1, .inl p2] (557, gn, e_RF, M) (.inl (some (.inl v)), (557, gn, e_RF, M')) := by
  unfold f_X11_by at h
  refine wp_X11_by_0 (d := d)  M p0 p1 p2 (f_mn) ?_
  refine ⟨fun c => ?_, fun c => ?_, fun c => ?_, fun c => ?_, fun c => ?_, fun c => ?_, fun c => ?_⟩
  · rw [if_pos c] at h
    cases h; rfl
  · rw [if_neg (by omega), if_pos c] at h
    cases h; rfl
  · rw [if_neg (by omega), if_neg (by omega), if_pos c] at h
    cases h; rfl
  · rw [if_neg (by omega), if_neg (by omega), if_neg (by omega), if_pos c] at h
    refine ⟨fun c => ?_, fun c => ?_⟩
    · rw [if_pos c] at h
      refine ⟨fun c => ?_, fun c => ?_⟩
      · rw [if_pos c] at h
        obtain ⟨c5, h⟩ := f_gd h
        exact ⟨c5, by cases h; rfl⟩
      · rw [if_neg (not_not_intro c)] at h
        cases h; rfl
    · rw [if_neg (not_not_intro c)] at h
      cases h; rfl
  · rw [if_neg (by omega), if_neg (by omega), if_neg (by omega), if_neg (by omega), if_pos c] at h
    refine ⟨fun c => ?_, fun c => ?_⟩
    · rw [if_pos c] at h
      cases h; rfl
    · rw [if_neg c] at h
      refine ⟨fun c => ?_, fun c => ?_⟩
      · rw [if_pos c] at h
        obtain ⟨c6, h⟩ := f_gd h
        exact ⟨c6, by cases h; rfl⟩
      · rw [if_neg (not_not_intro c)] at h
        cases h; rfl
  · rw [if_neg (by omega), if_neg (by omega), if_neg (by omega), if_neg (by omega), if_neg (by omega), if_pos c] at h
    obtain ⟨rr7, NN8, hc9, h⟩ := f_bd h
    refine ⟨rr7, NN8, s_X11_less (d := d)  hc9, ?_⟩
    cases h; rfl
  · rw [if_neg (by omega), if_neg (by omega), if_neg (by omega), if_neg (by omega), if_neg (by omega), if_neg (by omega)] at h
    obtain ⟨rr10, NN11, hc12, h⟩ := f_bd h
    refine ⟨rr10, NN11, s_X11_more (d := d)  hc12, ?_⟩
    cases h; rfl
def f_X11_byLaw_27 : Nat → Int → Int → e_M → Option (Int × e_M)
  | 0, _, _, _ => none
  | n + 1, v1, v2, M => (if (M 64 21) ≤ v2 then (f_b (f_X11_more 0 (M 449 0) M) fun rr3 NN4 => (f_b (f_X11_less 99 rr3 NN4) fun rr5 NN6 => (some (rr5, NN6)))) else (if (0 ≤ v2 ∧ v2 < 160) then (if 2 ≤ (M (114 + v2.toNat) 0) then (if (0 ≤ v2 ∧ v2 < 160) then (if (0 ≤ (e_w ((e_w (v1 + (-1))) - 1)) ∧ (e_w ((e_w (v1 + (-1))) - 1)) < 160) then (if (0 ≤ (e_w (v1 + (-1))) ∧ (e_w (v1 + (-1))) < 160) then (f_b (f_X11_by (M (114 + v2.toNat) 0) (M 449 (e_w ((e_w (v1 + (-1))) - 1)).toNat) (M 449 (e_w (v1 + (-1))).toNat) M) fun rr1 NN2 => (if (0 ≤ (e_w ((e_w (v1 + (-1))) - 1)) ∧ (e_w ((e_w (v1 + (-1))) - 1)) < 160) then (f_X11_byLaw_27 n (e_w (v1 + (-1))) (e_w (v2 + 1)) (e_up NN2 449 (e_w ((e_w (v1 + (-1))) - 1)).toNat rr1)) else none)) else none) else none) else none) else (if (0 ≤ v2 ∧ v2 < 160) then (if ¬ (M (114 + v2.toNat) 0) = 0 then (if (0 ≤ v2 ∧ v2 < 160) then (if (0 ≤ (M (114 + v2.toNat) 1) ∧ (M (114 + v2.toNat) 1) < 8) then (if (0 ≤ v1 ∧ v1 < 160) then (f_X11_byLaw_27 n (e_w (v1 + 1)) (e_w (v2 + 1)) (e_up M 449 v1.toNat (M 450 (M (114 + v2.toNat) 1).toNat))) else none) else none) else none) else (if (0 ≤ v2 ∧ v2 < 160) then (if (0 ≤ v1 ∧ v1 < 160) then (f_X11_byLaw_27 n (e_w (v1 + 1)) (e_w (v2 + 1)) (e_up M 449 v1.toNat (M (114 + v2.toNat) 1))) else none) else none)) else none)) else none))
theorem s_X11_byLaw_27 {X : e_X} {d gn : Nat} : ∀ n : Nat, ∀ (v1 v2 : Int) (M M' : e_M) (v : Int), f_X11_byLaw_27  n v1 v2 M = some (v, M') → e_G X (d + 2) YX11_byLaw 27 [some (.inr (.inr 64)), some (.inl v1), some (.inl v2)] [] (557, gn, e_RF, M) (.inl (some (.inl v)), (557, gn, e_RF, M')) := by
  intro n
  induction n with
  | zero => intro v1 v2 M M' v h; cases h
  | succ n ih =>
    intro v1 v2 M M' v h
    rw [f_X11_byLaw_27] at h
    refine wp_X11_byLaw_27 (d := d + 1)  M v1 v2 (f_mn) ?_
    refine ⟨fun c => ?_, fun c => ?_⟩
    · rw [if_pos c] at h
      obtain ⟨rr7, NN8, hc9, h⟩ := f_bd h
      refine ⟨rr7, NN8, s_X11_more (d := d + 1)  hc9, ?_⟩
      obtain ⟨rr10, NN11, hc12, h⟩ := f_bd h
      refine ⟨rr10, NN11, s_X11_less (d := d + 1)  hc12, ?_⟩
      cases h; rfl
    · rw [if_neg c] at h
      obtain ⟨c13, h⟩ := f_gd h
      refine ⟨c13, ?_⟩
      refine ⟨fun c => ?_, fun c => ?_⟩
      · rw [if_pos c] at h
        obtain ⟨c14, h⟩ := f_gd h
        refine ⟨c14, ?_⟩
        obtain ⟨c15, h⟩ := f_gd h
        refine ⟨c15, ?_⟩
        obtain ⟨c16, h⟩ := f_gd h
        refine ⟨c16, ?_⟩
        obtain ⟨rr17, NN18, hc19, h⟩ := f_bd h
        refine ⟨rr17, NN18, s_X11_by (d := d)  hc19, ?_⟩
        obtain ⟨c20, h⟩ := f_gd h
        refine ⟨c20, ?_⟩
        exact ih _ _ _ _ _ h
      · rw [if_neg c] at h
        obtain ⟨c21, h⟩ := f_gd h
        refine ⟨c21, ?_⟩
        refine ⟨fun c => ?_, fun c => ?_⟩
        · rw [if_pos c] at h
          obtain ⟨c22, h⟩ := f_gd h
          refine ⟨c22, ?_⟩
          obtain ⟨c23, h⟩ := f_gd h
          refine ⟨c23, ?_⟩
          refine wp_X11_byLaw_87 (d := d + 1)  _ _ _ _ _ ?_
          obtain ⟨c24, h⟩ := f_gd h
          refine ⟨c24, ?_⟩
          exact ih _ _ _ _ _ h
        · rw [if_neg (not_not_intro c)] at h
          obtain ⟨c25, h⟩ := f_gd h
          refine ⟨c25, ?_⟩
          refine wp_X11_byLaw_87 (d := d + 1)  _ _ _ _ _ ?_
          obtain ⟨c26, h⟩ := f_gd h
          refine ⟨c26, ?_⟩
          exact ih _ _ _ _ _ h
def f_X11_byLaw (n : Nat) (M : e_M) : Option (Int × e_M) := (f_X11_byLaw_27 n 0 0 (e_up M 449 0 (e_w ((e_w (5 + (e_w (3 * (M 450 1))))) + (M 450 2)))))
theorem s_X11_byLaw {X : e_X} {d gn : Nat} {n : Nat} {M M' : e_M} {v : Int} (h : f_X11_byLaw  n  M = some (v, M')) : e_E X (d + 2) YX11_byLaw [.inr (.inr 64)] (557, gn, e_RF, M) (.inl (some (.inl v)), (557, gn, e_RF, M')) := by
  unfold f_X11_byLaw at h
  refine wp_X11_byLaw_0 (d := d + 1)  M  ?_
  exact s_X11_byLaw_27  _ _ _ _ _ _ h
def f_X11_clear_58 : Nat → Int → Int → Int → Int → e_M → Option (Int × e_M)
  | 0, _, _, _, _, _ => none
  | n + 1, p1, p2, v3, v4, M => (if p2 ≤ v4 then (some (v3, M)) else (f_b (f_X11_isKept n p1 (e_w ((M 532 55) + v4)) M) fun rr1 NN2 => (if rr1 = 0 then (f_X11_clear_58 n p1 p2 (e_or v3 (e_shl 1 v4)) (e_w (v4 + 1)) NN2) else (f_X11_clear_58 n p1 p2 (e_or v3 0) (e_w (v4 + 1)) NN2))))
theorem s_X11_clear_58 {X : e_X} {d gn : Nat} : ∀ n : Nat, ∀ (p1 p2 v3 v4 : Int) (M M' : e_M) (v : Int), f_X11_clear_58  n p1 p2 v3 v4 M = some (v, M') → e_G X (d + 2) YX11_clear 58 [some (.inr (.inr 64)), some (.inl p1), some (.inl p2), some (.inl v3), some (.inl v4)] [] (557, gn, e_RF, M) (.inl (some (.inl v)), (557, gn, e_RF, M')) := by
  intro n
  induction n with
  | zero => intro p1 p2 v3 v4 M M' v h; cases h
  | succ n ih =>
    intro p1 p2 v3 v4 M M' v h
    rw [f_X11_clear_58] at h
    refine wp_X11_clear_58 (d := d + 1)  M p1 p2 v3 v4 (f_mn) ?_
    refine ⟨fun c => ?_, fun c => ?_⟩
    · rw [if_pos c] at h
      cases h; rfl
    · rw [if_neg c] at h
      obtain ⟨rr3, NN4, hc5, h⟩ := f_bd h
      refine ⟨rr3, NN4, s_X11_isKept (d := d + 1)  hc5, ?_⟩
      refine ⟨fun c => ?_, fun c => ?_⟩
      · rw [if_pos c] at h
        exact ih _ _ _ _ _ _ _ h
      · rw [if_neg c] at h
        exact ih _ _ _ _ _ _ _ h
def f_X11_clear_19 (n : Nat) (p1 p2 w0 : Int) (M : e_M) : Option (Int × e_M) := (f_b (f_X11_bad w0 1 0 M) fun rr6 NN7 => (if ¬ rr6 = 0 then (some (0, NN7)) else (f_b (f_X11_in p2 0 20 NN7) fun rr8 NN9 => (if ¬ rr8 = 0 then (f_b (f_X11_bad 0 2 1 NN9) fun rr12 NN13 => (if rr12 = 0 then (f_X11_clear_58 n p1 p2 0 0 NN13) else (some (0, NN13)))) else (f_b (f_X11_bad 1 2 1 NN9) fun rr10 NN11 => (if rr10 = 0 then (f_X11_clear_58 n p1 p2 0 0 NN11) else (some (0, NN11))))))))
theorem s_X11_clear_19 {X : e_X} {d gn : Nat} {n : Nat} {p1 p2 w0 : Int} {M M' : e_M} {v : Int} (h : f_X11_clear_19  n p1 p2 w0 M = some (v, M')) : e_G X (d + 2) YX11_clear 19 [some (.inr (.inr 64)), some (.inl p1), some (.inl p2), none, none] [.inl w0, .inr (.inr 64)] (557, gn, e_RF, M) (.inl (some (.inl v)), (557, gn, e_RF, M')) := by
  unfold f_X11_clear_19 at h
  refine wp_X11_clear_19 (d := d + 1)  M p1 p2 w0 (f_mn) ?_
  obtain ⟨rr14, NN15, hc16, h⟩ := f_bd h
  refine ⟨rr14, NN15, s_X11_bad (d := d + 1)  hc16, ?_⟩
  refine ⟨fun c => ?_, fun c => ?_⟩
  · rw [if_pos c] at h
    cases h; rfl
  · rw [if_neg (not_not_intro c)] at h
    obtain ⟨rr17, NN18, hc19, h⟩ := f_bd h
    refine ⟨rr17, NN18, s_X11_in (d := d + 1)  hc19, ?_⟩
    refine ⟨fun c => ?_, fun c => ?_⟩
    · rw [if_pos c] at h
      refine wp_X11_clear_43 (d := d + 1)  _ _ _ _ (f_mn) ?_
      obtain ⟨rr20, NN21, hc22, h⟩ := f_bd h
      refine ⟨rr20, NN21, s_X11_bad (d := d + 1)  hc22, ?_⟩
      refine ⟨fun c => ?_, fun c => ?_⟩
      · rw [if_pos c] at h
        exact s_X11_clear_58  _ _ _ _ _ _ _ _ h
      · rw [if_neg c] at h
        cases h; rfl
    · rw [if_neg (not_not_intro c)] at h
      refine wp_X11_clear_43 (d := d + 1)  _ _ _ _ (f_mn) ?_
      obtain ⟨rr23, NN24, hc25, h⟩ := f_bd h
      refine ⟨rr23, NN24, s_X11_bad (d := d + 1)  hc25, ?_⟩
      refine ⟨fun c => ?_, fun c => ?_⟩
      · rw [if_pos c] at h
        exact s_X11_clear_58  _ _ _ _ _ _ _ _ h
      · rw [if_neg c] at h
        cases h; rfl
def f_X11_clear (n : Nat) (p1 p2 : Int) (M : e_M) : Option (Int × e_M) := (f_b (f_X11_isPerson p1 (e_up M 64 0 0)) fun rr26 NN27 => (if ¬ rr26 = 0 then (f_X11_clear_19 n p1 p2 0 NN27) else (f_X11_clear_19 n p1 p2 1 NN27)))
theorem s_X11_clear {X : e_X} {d gn : Nat} {n : Nat} {p1 p2 : Int} {M M' : e_M} {v : Int} (h : f_X11_clear  n p1 p2 M = some (v, M')) : e_E X (d + 2) YX11_clear [.inr (.inr 64), .inl p1, .inl p2] (557, gn, e_RF, M) (.inl (some (.inl v)), (557, gn, e_RF, M')) := by
  unfold f_X11_clear at h
  refine wp_X11_clear_0 (d := d + 1)  M p1 p2 (f_mn) ?_
  obtain ⟨rr28, NN29, hc30, h⟩ := f_bd h
  refine ⟨rr28, NN29, s_X11_isPerson (d := d)  hc30, ?_⟩
  refine ⟨fun c => ?_, fun c => ?_⟩
  · rw [if_pos c] at h
    exact s_X11_clear_19  h
  · rw [if_neg (not_not_intro c)] at h
    exact s_X11_clear_19  h
def f_X11_crowd_L37 : Nat → Nat → Int → Int → Int → Int → Int → Int → e_M → Option (Int × e_M)
  | 0, _, _, _, _, _, _, _, _ => none
  | n + 1, k, p1, v2, v3, v4, v5, v6, M => (if k = 0 then (if 60 < v4 then (if p1 = 0 then (some (v2, M)) else (if ¬ v2 = (-1) then (some (v3, M)) else (some (v2, M)))) else (f_X11_crowd_L37 n 1 p1 v2 v3 v4 0 0 M)) else (if (M 68 2) ≤ v6 then (if v3 < v5 then (f_X11_crowd_L37 n 0 p1 v4 v5 (e_w (v4 + 1)) 0 0 M) else (f_X11_crowd_L37 n 0 p1 v2 v3 (e_w (v4 + 1)) 0 0 M)) else (if (0 ≤ (e_w (42 + v6)) ∧ (e_w (42 + v6)) < 56) then (if ¬ (M 532 (e_w (42 + v6)).toNat) = 0 then (f_X11_crowd_L37 n 1 p1 v2 v3 v4 (e_w (v5 + 0)) (e_w (v6 + 1)) M) else (if (0 ≤ (e_w (30 + v6)) ∧ (e_w (30 + v6)) < 56) then (if ¬ (M 532 (e_w (30 + v6)).toNat) = v4 then (f_X11_crowd_L37 n 1 p1 v2 v3 v4 (e_w (v5 + 0)) (e_w (v6 + 1)) M) else (f_X11_crowd_L37 n 1 p1 v2 v3 v4 (e_w (v5 + 1)) (e_w (v6 + 1)) M)) else none)) else none)))
theorem s_X11_crowd_L37 {X : e_X} {d gn : Nat} : ∀ n : Nat, (∀ (p1 v2 v3 v4 : Int) (M M' : e_M) (v : Int), f_X11_crowd_L37  n 0 p1 v2 v3 v4 0 0 M = some (v, M') → e_G X (d + 1) YX11_crowd 37 [some (.inr (.inr 64)), some (.inl p1), some (.inl v2), some (.inl v3), some (.inl v4), none, none] [] (557, gn, e_RF, M) (.inl (some (.inl v)), (557, gn, e_RF, M'))) ∧ (∀ (p1 v2 v3 v4 v5 v6 : Int) (M M' : e_M) (v : Int), f_X11_crowd_L37  n 1 p1 v2 v3 v4 v5 v6 M = some (v, M') → e_G X (d + 1) YX11_crowd 50 [some (.inr (.inr 64)), some (.inl p1), some (.inl v2), some (.inl v3), some (.inl v4), some (.inl v5), some (.inl v6)] [] (557, gn, e_RF, M) (.inl (some (.inl v)), (557, gn, e_RF, M'))) := by
  intro n
  induction n with
  | zero => exact ⟨(by intro p1 v2 v3 v4 M M' v h; cases h), (by intro p1 v2 v3 v4 v5 v6 M M' v h; cases h)⟩
  | succ n ih =>
    refine ⟨?_, ?_⟩
    · intro p1 v2 v3 v4 M M' v h
      rw [f_X11_crowd_L37, if_pos rfl] at h
      refine wp_X11_crowd_37 (d := d)  M p1 v2 v3 v4 ?_
      refine ⟨fun c => ?_, fun c => ?_⟩
      · rw [if_pos c] at h
        refine ⟨fun c => ?_, fun c => ?_⟩
        · rw [if_pos c] at h
          cases h; rfl
        · rw [if_neg c] at h
          refine ⟨fun c => ?_, fun c => ?_⟩
          · rw [if_pos c] at h
            cases h; rfl
          · rw [if_neg (not_not_intro c)] at h
            cases h; rfl
      · rw [if_neg c] at h
        exact ih.2 _ _ _ _ _ _ _ _ _ h
    · intro p1 v2 v3 v4 v5 v6 M M' v h
      rw [f_X11_crowd_L37, if_neg (by decide)] at h
      refine wp_X11_crowd_50 (d := d)  M p1 v2 v3 v4 v5 v6 ?_
      refine ⟨fun c => ?_, fun c => ?_⟩
      · rw [if_pos c] at h
        refine ⟨fun c => ?_, fun c => ?_⟩
        · rw [if_pos c] at h
          exact ih.1 _ _ _ _ _ _ _ h
        · rw [if_neg c] at h
          exact ih.1 _ _ _ _ _ _ _ h
      · rw [if_neg c] at h
        obtain ⟨c1, h⟩ := f_gd h
        refine ⟨c1, ?_⟩
        refine ⟨fun c => ?_, fun c => ?_⟩
        · rw [if_pos c] at h
          exact ih.2 _ _ _ _ _ _ _ _ _ h
        · rw [if_neg (not_not_intro c)] at h
          obtain ⟨c2, h⟩ := f_gd h
          refine ⟨c2, ?_⟩
          refine ⟨fun c => ?_, fun c => ?_⟩
          · rw [if_pos c] at h
            exact ih.2 _ _ _ _ _ _ _ _ _ h
          · rw [if_neg (not_not_intro c)] at h
            exact ih.2 _ _ _ _ _ _ _ _ _ h
theorem s_X11_crowd_37 {X : e_X} {d gn : Nat} (n : Nat) : (∀ (p1 v2 v3 v4 : Int) (M M' : e_M) (v : Int), f_X11_crowd_L37  n 0 p1 v2 v3 v4 0 0 M = some (v, M') → e_G X (d + 1) YX11_crowd 37 [some (.inr (.inr 64)), some (.inl p1), some (.inl v2), some (.inl v3), some (.inl v4), none, none] [] (557, gn, e_RF, M) (.inl (some (.inl v)), (557, gn, e_RF, M'))) := (s_X11_crowd_L37  n).1
theorem s_X11_crowd_50 {X : e_X} {d gn : Nat} (n : Nat) : (∀ (p1 v2 v3 v4 v5 v6 : Int) (M M' : e_M) (v : Int), f_X11_crowd_L37  n 1 p1 v2 v3 v4 v5 v6 M = some (v, M') → e_G X (d + 1) YX11_crowd 50 [some (.inr (.inr 64)), some (.inl p1), some (.inl v2), some (.inl v3), some (.inl v4), some (.inl v5), some (.inl v6)] [] (557, gn, e_RF, M) (.inl (some (.inl v)), (557, gn, e_RF, M'))) := (s_X11_crowd_L37  n).2
def f_X11_crowd (n : Nat) (p1 : Int) (M : e_M) : Option (Int × e_M) := (f_b (f_X11_in p1 0 1 (e_up M 64 0 0)) fun rr3 NN4 => (if ¬ rr3 = 0 then (f_b (f_X11_bad 0 1 1 NN4) fun rr7 NN8 => (if rr7 = 0 then (f_X11_crowd_L37 n 0 p1 (-1) 0 0 0 0 NN8) else (some (0, NN8)))) else (f_b (f_X11_bad 1 1 1 NN4) fun rr5 NN6 => (if rr5 = 0 then (f_X11_crowd_L37 n 0 p1 (-1) 0 0 0 0 NN6) else (some (0, NN6))))))
theorem s_X11_crowd {X : e_X} {d gn : Nat} {n : Nat} {p1 : Int} {M M' : e_M} {v : Int} (h : f_X11_crowd  n p1 M = some (v, M')) : e_E X (d + 1) YX11_crowd [.inr (.inr 64), .inl p1] (557, gn, e_RF, M) (.inl (some (.inl v)), (557, gn, e_RF, M')) := by
  unfold f_X11_crowd at h
  refine wp_X11_crowd_0 (d := d)  M p1 (f_mn) ?_
  obtain ⟨rr9, NN10, hc11, h⟩ := f_bd h
  refine ⟨rr9, NN10, s_X11_in (d := d)  hc11, ?_⟩
  refine ⟨fun c => ?_, fun c => ?_⟩
  · rw [if_pos c] at h
    refine wp_X11_crowd_20 (d := d)  _ _ _ (f_mn) ?_
    obtain ⟨rr12, NN13, hc14, h⟩ := f_bd h
    refine ⟨rr12, NN13, s_X11_bad (d := d)  hc14, ?_⟩
    refine ⟨fun c => ?_, fun c => ?_⟩
    · rw [if_pos c] at h
      exact s_X11_crowd_37  _ _ _ _ _ _ _ _ h
    · rw [if_neg c] at h
      cases h; rfl
  · rw [if_neg (not_not_intro c)] at h
    refine wp_X11_crowd_20 (d := d)  _ _ _ (f_mn) ?_
    obtain ⟨rr15, NN16, hc17, h⟩ := f_bd h
    refine ⟨rr15, NN16, s_X11_bad (d := d)  hc17, ?_⟩
    refine ⟨fun c => ?_, fun c => ?_⟩
    · rw [if_pos c] at h
      exact s_X11_crowd_37  _ _ _ _ _ _ _ _ h
    · rw [if_neg c] at h
      cases h; rfl
def f_X11_debt_33 : Nat → Int → Int → Int → e_M → Option (Int × e_M)
  | 0, _, _, _, _ => none
  | n + 1, p1, v2, v3, M => (if (M 68 2) ≤ v3 then (some (v2, M)) else (if (0 ≤ v3 ∧ v3 < 12) then (if ¬ (M (101 + v3.toNat) 0) = p1 then (f_X11_debt_33 n p1 (e_w (v2 + 0)) (e_w (v3 + 1)) M) else (if (0 ≤ (e_w (42 + v3)) ∧ (e_w (42 + v3)) < 56) then (if ¬ (M 532 (e_w (42 + v3)).toNat) = 0 then (f_X11_debt_33 n p1 (e_w (v2 + 0)) (e_w (v3 + 1)) M) else (if (0 ≤ (e_w (30 + v3)) ∧ (e_w (30 + v3)) < 56) then (if (M 532 (e_w (30 + v3)).toNat) < (M 532 55) then (f_X11_debt_33 n p1 (e_w (v2 + 0)) (e_w (v3 + 1)) M) else (if (0 ≤ v3 ∧ v3 < 12) then (f_X11_debt_33 n p1 (e_w (v2 + (M (101 + v3.toNat) 2))) (e_w (v3 + 1)) M) else none)) else none)) else none)) else none))
theorem s_X11_debt_33 {X : e_X} {d gn : Nat} : ∀ n : Nat, ∀ (p1 v2 v3 : Int) (M M' : e_M) (v : Int), f_X11_debt_33  n p1 v2 v3 M = some (v, M') → e_G X (d + 2) YX11_debt 33 [some (.inr (.inr 64)), some (.inl p1), some (.inl v2), some (.inl v3)] [] (557, gn, e_RF, M) (.inl (some (.inl v)), (557, gn, e_RF, M')) := by
  intro n
  induction n with
  | zero => intro p1 v2 v3 M M' v h; cases h
  | succ n ih =>
    intro p1 v2 v3 M M' v h
    rw [f_X11_debt_33] at h
    refine wp_X11_debt_33 (d := d + 1)  M p1 v2 v3 ?_
    refine ⟨fun c => ?_, fun c => ?_⟩
    · rw [if_pos c] at h
      cases h; rfl
    · rw [if_neg c] at h
      obtain ⟨c1, h⟩ := f_gd h
      refine ⟨c1, ?_⟩
      refine ⟨fun c => ?_, fun c => ?_⟩
      · rw [if_pos c] at h
        exact ih _ _ _ _ _ _ h
      · rw [if_neg (not_not_intro c)] at h
        obtain ⟨c2, h⟩ := f_gd h
        refine ⟨c2, ?_⟩
        refine ⟨fun c => ?_, fun c => ?_⟩
        · rw [if_pos c] at h
          exact ih _ _ _ _ _ _ h
        · rw [if_neg (not_not_intro c)] at h
          obtain ⟨c3, h⟩ := f_gd h
          refine ⟨c3, ?_⟩
          refine ⟨fun c => ?_, fun c => ?_⟩
          · rw [if_pos c] at h
            exact ih _ _ _ _ _ _ h
          · rw [if_neg c] at h
            obtain ⟨c4, h⟩ := f_gd h
            refine ⟨c4, ?_⟩
            exact ih _ _ _ _ _ _ h
def f_X11_debt (n : Nat) (p1 : Int) (M : e_M) : Option (Int × e_M) := (f_b (f_X11_isPerson p1 (e_up M 64 0 0)) fun rr5 NN6 => (if ¬ rr5 = 0 then (f_b (f_X11_bad 0 1 0 NN6) fun rr9 NN10 => (if rr9 = 0 then (f_X11_debt_33 n p1 0 0 NN10) else (some (0, NN10)))) else (f_b (f_X11_bad 1 1 0 NN6) fun rr7 NN8 => (if rr7 = 0 then (f_X11_debt_33 n p1 0 0 NN8) else (some (0, NN8))))))
theorem s_X11_debt {X : e_X} {d gn : Nat} {n : Nat} {p1 : Int} {M M' : e_M} {v : Int} (h : f_X11_debt  n p1 M = some (v, M')) : e_E X (d + 2) YX11_debt [.inr (.inr 64), .inl p1] (557, gn, e_RF, M) (.inl (some (.inl v)), (557, gn, e_RF, M')) := by
  unfold f_X11_debt at h
  refine wp_X11_debt_0 (d := d + 1)  M p1 (f_mn) ?_
  obtain ⟨rr11, NN12, hc13, h⟩ := f_bd h
  refine ⟨rr11, NN12, s_X11_isPerson (d := d)  hc13, ?_⟩
  refine ⟨fun c => ?_, fun c => ?_⟩
  · rw [if_pos c] at h
    refine wp_X11_debt_19 (d := d + 1)  _ _ _ (f_mn) ?_
    obtain ⟨rr14, NN15, hc16, h⟩ := f_bd h
    refine ⟨rr14, NN15, s_X11_bad (d := d + 1)  hc16, ?_⟩
    refine ⟨fun c => ?_, fun c => ?_⟩
    · rw [if_pos c] at h
      exact s_X11_debt_33  _ _ _ _ _ _ _ h
    · rw [if_neg c] at h
      cases h; rfl
  · rw [if_neg (not_not_intro c)] at h
    refine wp_X11_debt_19 (d := d + 1)  _ _ _ (f_mn) ?_
    obtain ⟨rr17, NN18, hc19, h⟩ := f_bd h
    refine ⟨rr17, NN18, s_X11_bad (d := d + 1)  hc19, ?_⟩
    refine ⟨fun c => ?_, fun c => ?_⟩
    · rw [if_pos c] at h
      exact s_X11_debt_33  _ _ _ _ _ _ _ h
    · rw [if_neg c] at h
      cases h; rfl
def f_X11_doneByOthers_5 (q0 : Nat) : Nat → Int → Int → Int → e_M → Option (Int × e_M)
  | 0, _, _, _, _ => none
  | n + 1, p2, v3, v4, M => (if (M 68 0) ≤ v4 then (some (v3, M)) else (if v4 = p2 then (f_X11_doneByOthers_5 q0 n p2 (e_or v3 0) (e_w (v4 + 1)) M) else (f_b (f_X11_isSold q0 v4 M) fun rr1 NN2 => (if ¬ rr1 = 0 then (f_X11_doneByOthers_5 q0 n p2 (e_or v3 0) (e_w (v4 + 1)) NN2) else (if (0 ≤ v4 ∧ v4 < 6) then (f_X11_doneByOthers_5 q0 n p2 (e_or v3 (NN2 72 v4.toNat)) (e_w (v4 + 1)) NN2) else none)))))
theorem s_X11_doneByOthers_5 {X : e_X} {d gn : Nat} {q0 : Nat} (hq0 : e_SH q0 = (20, 56)) (kq0 : q0 ≤ 557) (zq0 : q0 ≠ 0) : ∀ n : Nat, ∀ (p2 v3 v4 : Int) (M M' : e_M) (v : Int), f_X11_doneByOthers_5 q0 n p2 v3 v4 M = some (v, M') → e_G X (d + 1) YX11_doneByOthers 5 [some (.inr (.inr 64)), some (.inr (.inr q0)), some (.inl p2), some (.inl v3), some (.inl v4)] [] (557, gn, e_RF, M) (.inl (some (.inl v)), (557, gn, e_RF, M')) := by
  intro n
  induction n with
  | zero => intro p2 v3 v4 M M' v h; cases h
  | succ n ih =>
    intro p2 v3 v4 M M' v h
    rw [f_X11_doneByOthers_5] at h
    refine wp_X11_doneByOthers_5 (d := d) hq0 kq0 zq0 M p2 v3 v4 (f_mn) ?_
    refine ⟨fun c => ?_, fun c => ?_⟩
    · rw [if_pos c] at h
      cases h; rfl
    · rw [if_neg c] at h
      refine ⟨fun c => ?_, fun c => ?_⟩
      · rw [if_pos c] at h
        exact ih _ _ _ _ _ _ h
      · rw [if_neg c] at h
        obtain ⟨rr3, NN4, hc5, h⟩ := f_bd h
        refine ⟨rr3, NN4, s_X11_isSold (d := d) hq0 kq0 zq0 hc5, ?_⟩
        refine ⟨fun c => ?_, fun c => ?_⟩
        · rw [if_pos c] at h
          exact ih _ _ _ _ _ _ h
        · rw [if_neg (not_not_intro c)] at h
          obtain ⟨c6, h⟩ := f_gd h
          refine ⟨c6, ?_⟩
          exact ih _ _ _ _ _ _ h
def f_X11_doneByOthers (q0 : Nat) (n : Nat) (p2 : Int) (M : e_M) : Option (Int × e_M) := (f_X11_doneByOthers_5 q0 n p2 0 0 M)
theorem s_X11_doneByOthers {X : e_X} {d gn : Nat} {q0 : Nat} (hq0 : e_SH q0 = (20, 56)) (kq0 : q0 ≤ 557) (zq0 : q0 ≠ 0) {n : Nat} {p2 : Int} {M M' : e_M} {v : Int} (h : f_X11_doneByOthers q0 n p2 M = some (v, M')) : e_E X (d + 1) YX11_doneByOthers [.inr (.inr 64), .inr (.inr q0), .inl p2] (557, gn, e_RF, M) (.inl (some (.inl v)), (557, gn, e_RF, M')) := by
  unfold f_X11_doneByOthers at h
  refine wp_X11_doneByOthers_0 (d := d) hq0 kq0 zq0 M p2 ?_
  exact s_X11_doneByOthers_5 hq0 kq0 zq0 _ _ _ _ _ _ _ h
def f_X11_duty_65 : Nat → Int → Int → Int → Int → e_M → Option (Int × e_M)
  | 0, _, _, _, _, _ => none
  | n + 1, p1, p2, v3, v4, M => (if (M 68 0) ≤ v4 then (if ¬ p2 = 0 then (some (v3, M)) else (if (0 ≤ p1 ∧ p1 < 6) then (some ((M 70 p1.toNat), M)) else none)) else (if (0 ≤ v4 ∧ v4 < 6) then (f_b (f_X11_has (M 72 v4.toNat) p1 M) fun rr1 NN2 => (if rr1 = 0 then (f_X11_duty_65 n p1 p2 (e_or v3 0) (e_w (v4 + 1)) NN2) else (f_X11_duty_65 n p1 p2 (e_or v3 (e_shl 1 v4)) (e_w (v4 + 1)) NN2))) else none))
theorem s_X11_duty_65 {X : e_X} {d gn : Nat} : ∀ n : Nat, ∀ (p1 p2 v3 v4 : Int) (M M' : e_M) (v : Int), f_X11_duty_65  n p1 p2 v3 v4 M = some (v, M') → e_G X (d + 1) YX11_duty 65 [some (.inr (.inr 64)), some (.inl p1), some (.inl p2), some (.inl v3), some (.inl v4)] [] (557, gn, e_RF, M) (.inl (some (.inl v)), (557, gn, e_RF, M')) := by
  intro n
  induction n with
  | zero => intro p1 p2 v3 v4 M M' v h; cases h
  | succ n ih =>
    intro p1 p2 v3 v4 M M' v h
    rw [f_X11_duty_65] at h
    refine wp_X11_duty_65 (d := d)  M p1 p2 v3 v4 (f_mn) ?_
    refine ⟨fun c => ?_, fun c => ?_⟩
    · rw [if_pos c] at h
      refine ⟨fun c => ?_, fun c => ?_⟩
      · rw [if_pos c] at h
        cases h; rfl
      · rw [if_neg (not_not_intro c)] at h
        obtain ⟨c3, h⟩ := f_gd h
        exact ⟨c3, by cases h; rfl⟩
    · rw [if_neg c] at h
      obtain ⟨c4, h⟩ := f_gd h
      refine ⟨c4, ?_⟩
      obtain ⟨rr5, NN6, hc7, h⟩ := f_bd h
      refine ⟨rr5, NN6, s_X11_has (d := d)  hc7, ?_⟩
      refine ⟨fun c => ?_, fun c => ?_⟩
      · rw [if_pos c] at h
        exact ih _ _ _ _ _ _ _ h
      · rw [if_neg c] at h
        exact ih _ _ _ _ _ _ _ h
def f_X11_duty_27 (n : Nat) (p1 p2 w0 : Int) (M : e_M) : Option (Int × e_M) := (f_b (f_X11_bad w0 1 0 M) fun rr8 NN9 => (if ¬ rr8 = 0 then (some (0, NN9)) else (f_b (f_X11_in p2 0 1 NN9) fun rr10 NN11 => (if ¬ rr10 = 0 then (f_b (f_X11_bad 0 2 1 NN11) fun rr14 NN15 => (if rr14 = 0 then (f_X11_duty_65 n p1 p2 0 0 NN15) else (some (0, NN15)))) else (f_b (f_X11_bad 1 2 1 NN11) fun rr12 NN13 => (if rr12 = 0 then (f_X11_duty_65 n p1 p2 0 0 NN13) else (some (0, NN13))))))))
theorem s_X11_duty_27 {X : e_X} {d gn : Nat} {n : Nat} {p1 p2 w0 : Int} {M M' : e_M} {v : Int} (h : f_X11_duty_27  n p1 p2 w0 M = some (v, M')) : e_G X (d + 1) YX11_duty 27 [some (.inr (.inr 64)), some (.inl p1), some (.inl p2), none, none] [.inl w0, .inr (.inr 64)] (557, gn, e_RF, M) (.inl (some (.inl v)), (557, gn, e_RF, M')) := by
  unfold f_X11_duty_27 at h
  refine wp_X11_duty_27 (d := d)  M p1 p2 w0 (f_mn) ?_
  obtain ⟨rr16, NN17, hc18, h⟩ := f_bd h
  refine ⟨rr16, NN17, s_X11_bad (d := d)  hc18, ?_⟩
  refine ⟨fun c => ?_, fun c => ?_⟩
  · rw [if_pos c] at h
    cases h; rfl
  · rw [if_neg (not_not_intro c)] at h
    obtain ⟨rr19, NN20, hc21, h⟩ := f_bd h
    refine ⟨rr19, NN20, s_X11_in (d := d)  hc21, ?_⟩
    refine ⟨fun c => ?_, fun c => ?_⟩
    · rw [if_pos c] at h
      refine wp_X11_duty_50 (d := d)  _ _ _ _ (f_mn) ?_
      obtain ⟨rr22, NN23, hc24, h⟩ := f_bd h
      refine ⟨rr22, NN23, s_X11_bad (d := d)  hc24, ?_⟩
      refine ⟨fun c => ?_, fun c => ?_⟩
      · rw [if_pos c] at h
        exact s_X11_duty_65  _ _ _ _ _ _ _ _ h
      · rw [if_neg c] at h
        cases h; rfl
    · rw [if_neg (not_not_intro c)] at h
      refine wp_X11_duty_50 (d := d)  _ _ _ _ (f_mn) ?_
      obtain ⟨rr25, NN26, hc27, h⟩ := f_bd h
      refine ⟨rr25, NN26, s_X11_bad (d := d)  hc27, ?_⟩
      refine ⟨fun c => ?_, fun c => ?_⟩
      · rw [if_pos c] at h
        exact s_X11_duty_65  _ _ _ _ _ _ _ _ h
      · rw [if_neg c] at h
        cases h; rfl
def f_X11_duty (n : Nat) (p1 p2 : Int) (M : e_M) : Option (Int × e_M) := (f_b (f_X11_in p1 0 (e_w (((e_up M 64 0 0) 68 1) - 1)) (e_up M 64 0 0)) fun rr28 NN29 => (if ¬ rr28 = 0 then (f_X11_duty_27 n p1 p2 0 NN29) else (f_X11_duty_27 n p1 p2 1 NN29)))
theorem s_X11_duty {X : e_X} {d gn : Nat} {n : Nat} {p1 p2 : Int} {M M' : e_M} {v : Int} (h : f_X11_duty  n p1 p2 M = some (v, M')) : e_E X (d + 1) YX11_duty [.inr (.inr 64), .inl p1, .inl p2] (557, gn, e_RF, M) (.inl (some (.inl v)), (557, gn, e_RF, M')) := by
  unfold f_X11_duty at h
  refine wp_X11_duty_0 (d := d)  M p1 p2 (f_mn) ?_
  obtain ⟨rr30, NN31, hc32, h⟩ := f_bd h
  refine ⟨rr30, NN31, s_X11_in (d := d)  hc32, ?_⟩
  refine ⟨fun c => ?_, fun c => ?_⟩
  · rw [if_pos c] at h
    exact s_X11_duty_27  h
  · rw [if_neg (not_not_intro c)] at h
    exact s_X11_duty_27  h
def f_X11_given (n : Nat) (M : e_M) : Option (Int × e_M) := (f_b (f_k_X11_givesFrom n 0 0 0 (e_up (e_up M 64 0 0) 64 44 (-1))) fun _ NN2 => (some ((NN2 64 44), NN2)))
theorem s_X11_given {X : e_X} {d gn : Nat} {n : Nat} {M M' : e_M} {v : Int} (h : f_X11_given  n  M = some (v, M')) : e_E X (d + 9) YX11_given [.inr (.inr 64)] (557, gn, e_RF, M) (.inl (some (.inl v)), (557, gn, e_RF, M')) := by
  unfold f_X11_given at h
  refine wp_X11_given_0 (d := d + 8)  M  (f_mn) ?_
  obtain ⟨rr3, NN4, hc5, h⟩ := f_bd h
  refine ⟨NN4, s_k_X11_givesFrom (d := d)  hc5, ?_⟩
  cases h; rfl
def f_X11_givenBy_5 : Nat → Int → Int → Int → Int → e_M → Option (Int × e_M)
  | 0, _, _, _, _, _ => none
  | n + 1, p1, p2, v3, v4, M => (if (M 68 0) ≤ v4 then (some (v3, M)) else (f_b (f_X11_has p1 v4 M) fun rr1 NN2 => (if rr1 = 0 then (f_X11_givenBy_5 n p1 p2 (e_w (v3 + 0)) (e_w (v4 + 1)) NN2) else (if (0 ≤ (e_w (6 + v4)) ∧ (e_w (6 + v4)) < 56) then (f_b (f_X11_less p2 (NN2 532 (e_w (6 + v4)).toNat) NN2) fun rr3 NN4 => (f_X11_givenBy_5 n p1 p2 (e_w (v3 + rr3)) (e_w (v4 + 1)) NN4)) else none))))
theorem s_X11_givenBy_5 {X : e_X} {d gn : Nat} : ∀ n : Nat, ∀ (p1 p2 v3 v4 : Int) (M M' : e_M) (v : Int), f_X11_givenBy_5  n p1 p2 v3 v4 M = some (v, M') → e_G X (d + 1) YX11_givenBy 5 [some (.inr (.inr 64)), some (.inl p1), some (.inl p2), some (.inl v3), some (.inl v4)] [] (557, gn, e_RF, M) (.inl (some (.inl v)), (557, gn, e_RF, M')) := by
  intro n
  induction n with
  | zero => intro p1 p2 v3 v4 M M' v h; cases h
  | succ n ih =>
    intro p1 p2 v3 v4 M M' v h
    rw [f_X11_givenBy_5] at h
    refine wp_X11_givenBy_5 (d := d)  M p1 p2 v3 v4 (f_mn) ?_
    refine ⟨fun c => ?_, fun c => ?_⟩
    · rw [if_pos c] at h
      cases h; rfl
    · rw [if_neg c] at h
      obtain ⟨rr5, NN6, hc7, h⟩ := f_bd h
      refine ⟨rr5, NN6, s_X11_has (d := d)  hc7, ?_⟩
      refine ⟨fun c => ?_, fun c => ?_⟩
      · rw [if_pos c] at h
        exact ih _ _ _ _ _ _ _ h
      · rw [if_neg c] at h
        obtain ⟨c8, h⟩ := f_gd h
        refine ⟨c8, ?_⟩
        obtain ⟨rr9, NN10, hc11, h⟩ := f_bd h
        refine ⟨rr9, NN10, s_X11_less (d := d)  hc11, ?_⟩
        exact ih _ _ _ _ _ _ _ h
def f_X11_givenBy (n : Nat) (p1 p2 : Int) (M : e_M) : Option (Int × e_M) := (f_X11_givenBy_5 n p1 p2 0 0 M)
theorem s_X11_givenBy {X : e_X} {d gn : Nat} {n : Nat} {p1 p2 : Int} {M M' : e_M} {v : Int} (h : f_X11_givenBy  n p1 p2 M = some (v, M')) : e_E X (d + 1) YX11_givenBy [.inr (.inr 64), .inl p1, .inl p2] (557, gn, e_RF, M) (.inl (some (.inl v)), (557, gn, e_RF, M')) := by
  unfold f_X11_givenBy at h
  refine wp_X11_givenBy_0 (d := d)  M p1 p2 ?_
  exact s_X11_givenBy_5  _ _ _ _ _ _ _ _ h
def f_X11_giver_27 (n : Nat) (p1 w0 : Int) (M : e_M) : Option (Int × e_M) := (f_b (f_X11_bad w0 1 0 M) fun rr1 NN2 => (if rr1 = 0 then (f_b (f_k_X11_givesFrom n 0 0 0 (e_up NN2 64 44 (-1))) fun _ NN4 => (if (0 ≤ p1 ∧ p1 < 6) then (some ((NN4 556 p1.toNat), NN4)) else none)) else (some (0, NN2))))
theorem s_X11_giver_27 {X : e_X} {d gn : Nat} {n : Nat} {p1 w0 : Int} {M M' : e_M} {v : Int} (h : f_X11_giver_27  n p1 w0 M = some (v, M')) : e_G X (d + 9) YX11_giver 27 [some (.inr (.inr 64)), some (.inl p1)] [.inl w0, .inr (.inr 64)] (557, gn, e_RF, M) (.inl (some (.inl v)), (557, gn, e_RF, M')) := by
  unfold f_X11_giver_27 at h
  refine wp_X11_giver_27 (d := d + 8)  M p1 w0 (f_mn) ?_
  obtain ⟨rr5, NN6, hc7, h⟩ := f_bd h
  refine ⟨rr5, NN6, s_X11_bad (d := d + 8)  hc7, ?_⟩
  refine ⟨fun c => ?_, fun c => ?_⟩
  · rw [if_pos c] at h
    obtain ⟨rr8, NN9, hc10, h⟩ := f_bd h
    refine ⟨NN9, s_k_X11_givesFrom (d := d)  hc10, ?_⟩
    obtain ⟨c11, h⟩ := f_gd h
    exact ⟨c11, by cases h; rfl⟩
  · rw [if_neg c] at h
    cases h; rfl
def f_X11_giver (n : Nat) (p1 : Int) (M : e_M) : Option (Int × e_M) := (f_b (f_X11_in p1 0 (e_w (((e_up M 64 0 0) 68 1) - 1)) (e_up M 64 0 0)) fun rr12 NN13 => (if ¬ rr12 = 0 then (f_X11_giver_27 n p1 0 NN13) else (f_X11_giver_27 n p1 1 NN13)))
theorem s_X11_giver {X : e_X} {d gn : Nat} {n : Nat} {p1 : Int} {M M' : e_M} {v : Int} (h : f_X11_giver  n p1 M = some (v, M')) : e_E X (d + 9) YX11_giver [.inr (.inr 64), .inl p1] (557, gn, e_RF, M) (.inl (some (.inl v)), (557, gn, e_RF, M')) := by
  unfold f_X11_giver at h
  refine wp_X11_giver_0 (d := d + 8)  M p1 (f_mn) ?_
  obtain ⟨rr14, NN15, hc16, h⟩ := f_bd h
  refine ⟨rr14, NN15, s_X11_in (d := d + 8)  hc16, ?_⟩
  refine ⟨fun c => ?_, fun c => ?_⟩
  · rw [if_pos c] at h
    exact s_X11_giver_27  h
  · rw [if_neg (not_not_intro c)] at h
    exact s_X11_giver_27  h
def f_X11_hadBy_2 : Nat → Int → Int → Int → e_M → Option (Int × e_M)
  | 0, _, _, _, _ => none
  | n + 1, p1, p2, v3, M => (if (M 64 35) ≤ v3 then (some ((-1), M)) else (if (0 ≤ v3 ∧ v3 < 6) then (if ¬ (M (436 + v3.toNat) 0) = p1 then (f_X11_hadBy_2 n p1 p2 (e_w (v3 + 1)) M) else (if (0 ≤ v3 ∧ v3 < 6) then (f_b (f_X11_in (e_w ((M (436 + v3.toNat) 1) - (e_w (6 * p2)))) 0 p2 M) fun rr1 NN2 => (if rr1 = 0 then (some ((e_w (p2 + 1)), NN2)) else (if (0 ≤ v3 ∧ v3 < 6) then (some ((e_w ((NN2 (436 + v3.toNat) 1) - (e_w (6 * p2)))), NN2)) else none))) else none)) else none))
theorem s_X11_hadBy_2 {X : e_X} {d gn : Nat} : ∀ n : Nat, ∀ (p1 p2 v3 : Int) (M M' : e_M) (v : Int), f_X11_hadBy_2  n p1 p2 v3 M = some (v, M') → e_G X (d + 1) YX11_hadBy 2 [some (.inr (.inr 64)), some (.inl p1), some (.inl p2), some (.inl v3)] [] (557, gn, e_RF, M) (.inl (some (.inl v)), (557, gn, e_RF, M')) := by
  intro n
  induction n with
  | zero => intro p1 p2 v3 M M' v h; cases h
  | succ n ih =>
    intro p1 p2 v3 M M' v h
    rw [f_X11_hadBy_2] at h
    refine wp_X11_hadBy_2 (d := d)  M p1 p2 v3 (f_mn) ?_
    refine ⟨fun c => ?_, fun c => ?_⟩
    · rw [if_pos c] at h
      cases h; rfl
    · rw [if_neg c] at h
      obtain ⟨c3, h⟩ := f_gd h
      refine ⟨c3, ?_⟩
      refine ⟨fun c => ?_, fun c => ?_⟩
      · rw [if_pos c] at h
        exact ih _ _ _ _ _ _ h
      · rw [if_neg (not_not_intro c)] at h
        obtain ⟨c4, h⟩ := f_gd h
        refine ⟨c4, ?_⟩
        obtain ⟨rr5, NN6, hc7, h⟩ := f_bd h
        refine ⟨rr5, NN6, s_X11_in (d := d)  hc7, ?_⟩
        refine ⟨fun c => ?_, fun c => ?_⟩
        · rw [if_pos c] at h
          cases h; rfl
        · rw [if_neg c] at h
          obtain ⟨c8, h⟩ := f_gd h
          exact ⟨c8, by cases h; rfl⟩
def f_X11_hadBy (n : Nat) (p1 p2 : Int) (M : e_M) : Option (Int × e_M) := (f_X11_hadBy_2 n p1 p2 0 M)
theorem s_X11_hadBy {X : e_X} {d gn : Nat} {n : Nat} {p1 p2 : Int} {M M' : e_M} {v : Int} (h : f_X11_hadBy  n p1 p2 M = some (v, M')) : e_E X (d + 1) YX11_hadBy [.inr (.inr 64), .inl p1, .inl p2] (557, gn, e_RF, M) (.inl (some (.inl v)), (557, gn, e_RF, M')) := by
  unfold f_X11_hadBy at h
  refine wp_X11_hadBy_0 (d := d)  M p1 p2 ?_
  exact s_X11_hadBy_2  _ _ _ _ _ _ _ h
def f_X11_image (n : Nat) (M : e_M) : Option (Int × e_M) := (if ¬ ((e_up M 64 0 0) 64 38) = 3 then (if (0 ≤ ((e_up M 64 0 0) 64 38) ∧ ((e_up M 64 0 0) 64 38) < 3) then (f_b (f_X11_putsAll (552 + ((e_up M 64 0 0) 64 38).toNat) n 0 (e_up M 64 0 0)) fun _ NN2 => (some (((e_up NN2 64 38 (e_w ((NN2 64 38) + 1))) 64 38), (e_up NN2 64 38 (e_w ((NN2 64 38) + 1)))))) else none) else (some ((-1), (e_up M 64 0 0))))
theorem s_X11_image {X : e_X} {d gn : Nat} {n : Nat} {M M' : e_M} {v : Int} (h : f_X11_image  n  M = some (v, M')) : e_E X (d + 2) YX11_image [.inr (.inr 64)] (557, gn, e_RF, M) (.inl (some (.inl v)), (557, gn, e_RF, M')) := by
  unfold f_X11_image at h
  refine wp_X11_image_0 (d := d + 1)  M  (f_mn) ?_
  refine ⟨fun c => ?_, fun c => ?_⟩
  · rw [if_pos c] at h
    obtain ⟨c3, h⟩ := f_gd h
    refine ⟨c3, ?_⟩
    obtain ⟨rr4, NN5, hc6, h⟩ := f_bd h
    refine ⟨NN5, s_X11_putsAll (d := d) (sh_551 c3.1 c3.2).1 (sh_551 c3.1 c3.2).2.1 (sh_551 c3.1 c3.2).2.2 hc6, ?_⟩
    cases h; rfl
  · rw [if_neg (not_not_intro c)] at h
    cases h; rfl
def f_X11_isSeven_18 : Nat → Int → Int → Int → Int → e_M → Option (Int × e_M)
  | 0, _, _, _, _, _ => none
  | n + 1, p1, p2, v3, v4, M => (f_b (f_X11_byteAt (e_w ((M 64 4) + v4)) M) fun rr1 NN2 => (f_b (f_X11_isSmall rr1 NN2) fun rr3 NN4 => (if rr3 = 0 then (if ¬ v4 = 7 then (some (0, NN4)) else (if ¬ v3 = p1 then (some (0, NN4)) else (f_b (f_X11_byteAt (e_w ((NN4 64 4) + 6)) NN4) fun rr7 NN8 => (if ¬ rr7 = p2 then (some (0, NN8)) else (f_b (f_X11_skipWord n NN8) fun _ NN10 => (some (1, NN10))))))) else (if 6 ≤ v4 then (f_X11_isSeven_18 n p1 p2 v3 (e_w (v4 + 1)) NN4) else (f_b (f_X11_byteAt (e_w ((NN4 64 4) + v4)) NN4) fun rr5 NN6 => (f_X11_isSeven_18 n p1 p2 (e_w ((e_w ((e_w ((e_w (27 * v3)) + rr5)) - 97)) + 1)) (e_w (v4 + 1)) NN6))))))
theorem s_X11_isSeven_18 {X : e_X} {d gn : Nat} : ∀ n : Nat, ∀ (p1 p2 v3 v4 : Int) (M M' : e_M) (v : Int), f_X11_isSeven_18  n p1 p2 v3 v4 M = some (v, M') → e_G X (d + 2) YX11_isSeven 18 [some (.inr (.inr 64)), some (.inl p1), some (.inl p2), some (.inl v3), some (.inl v4), none] [] (557, gn, e_RF, M) (.inl (some (.inl v)), (557, gn, e_RF, M')) := by
  intro n
  induction n with
  | zero => intro p1 p2 v3 v4 M M' v h; cases h
  | succ n ih =>
    intro p1 p2 v3 v4 M M' v h
    rw [f_X11_isSeven_18] at h
    refine wp_X11_isSeven_18 (d := d + 1)  M p1 p2 v3 v4 (f_mn) ?_
    obtain ⟨rr11, NN12, hc13, h⟩ := f_bd h
    refine ⟨rr11, NN12, s_X11_byteAt (d := d + 1)  hc13, ?_⟩
    obtain ⟨rr14, NN15, hc16, h⟩ := f_bd h
    refine ⟨rr14, NN15, s_X11_isSmall (d := d + 1)  hc16, ?_⟩
    refine ⟨fun c => ?_, fun c => ?_⟩
    · rw [if_pos c] at h
      refine ⟨fun c => ?_, fun c => ?_⟩
      · rw [if_pos c] at h
        refine wp_X11_isSeven_105 (d := d + 1)  _ _ _ _ _ ?_
        refine wp_X11_isSeven_106 (d := d + 1)  _ _ _ _ _ _ (f_mn) ?_
        refine ⟨fun _ => ?_, fun c => absurd c (by decide)⟩
        exact ⟨by decide, by cases h; rfl⟩
      · rw [if_neg (not_not_intro c)] at h
        refine ⟨fun c => ?_, fun c => ?_⟩
        · rw [if_pos c] at h
          refine wp_X11_isSeven_105 (d := d + 1)  _ _ _ _ _ ?_
          refine wp_X11_isSeven_106 (d := d + 1)  _ _ _ _ _ _ (f_mn) ?_
          refine ⟨fun _ => ?_, fun c => absurd c (by decide)⟩
          exact ⟨by decide, by cases h; rfl⟩
        · rw [if_neg (not_not_intro c)] at h
          obtain ⟨rr17, NN18, hc19, h⟩ := f_bd h
          refine ⟨rr17, NN18, s_X11_byteAt (d := d + 1)  hc19, ?_⟩
          refine ⟨fun c => ?_, fun c => ?_⟩
          · rw [if_pos c] at h
            refine wp_X11_isSeven_105 (d := d + 1)  _ _ _ _ _ ?_
            refine wp_X11_isSeven_106 (d := d + 1)  _ _ _ _ _ _ (f_mn) ?_
            refine ⟨fun _ => ?_, fun c => absurd c (by decide)⟩
            exact ⟨by decide, by cases h; rfl⟩
          · rw [if_neg (not_not_intro c)] at h
            refine wp_X11_isSeven_106 (d := d + 1)  _ _ _ _ _ _ (f_mn) ?_
            refine ⟨fun c => absurd c (by decide), fun _ => ?_⟩
            obtain ⟨rr20, NN21, hc22, h⟩ := f_bd h
            refine ⟨NN21, s_X11_skipWord (d := d)  hc22, ?_⟩
            exact ⟨by decide, by cases h; rfl⟩
    · rw [if_neg c] at h
      refine ⟨fun c => ?_, fun c => ?_⟩
      · rw [if_pos c] at h
        exact ih _ _ _ _ _ _ _ h
      · rw [if_neg c] at h
        obtain ⟨rr23, NN24, hc25, h⟩ := f_bd h
        refine ⟨rr23, NN24, s_X11_byteAt (d := d + 1)  hc25, ?_⟩
        exact ih _ _ _ _ _ _ _ h
def f_X11_isSeven (n : Nat) (p1 p2 : Int) (M : e_M) : Option (Int × e_M) := (if (M 64 5) = 0 then (f_b (f_X11_blanks n M) fun _ NN27 => (f_X11_isSeven_18 n p1 p2 0 0 NN27)) else (some (0, M)))
theorem s_X11_isSeven {X : e_X} {d gn : Nat} {n : Nat} {p1 p2 : Int} {M M' : e_M} {v : Int} (h : f_X11_isSeven  n p1 p2 M = some (v, M')) : e_E X (d + 2) YX11_isSeven [.inr (.inr 64), .inl p1, .inl p2] (557, gn, e_RF, M) (.inl (some (.inl v)), (557, gn, e_RF, M')) := by
  unfold f_X11_isSeven at h
  refine wp_X11_isSeven_0 (d := d + 1)  M p1 p2 (f_mn) ?_
  refine ⟨fun c => ?_, fun c => ?_⟩
  · rw [if_pos c] at h
    obtain ⟨rr28, NN29, hc30, h⟩ := f_bd h
    refine ⟨NN29, s_X11_blanks (d := d)  hc30, ?_⟩
    exact s_X11_isSeven_18  _ _ _ _ _ _ _ _ h
  · rw [if_neg c] at h
    cases h; rfl
def f_X11_left (n : Nat) (M : e_M) : Option (Int × e_M) := (f_b (f_X11_leftIn 532 n (e_up M 64 0 0)) fun rr1 NN2 => (some (rr1, NN2)))
theorem s_X11_left {X : e_X} {d gn : Nat} {n : Nat} {M M' : e_M} {v : Int} (h : f_X11_left  n  M = some (v, M')) : e_E X (d + 2) YX11_left [.inr (.inr 64)] (557, gn, e_RF, M) (.inl (some (.inl v)), (557, gn, e_RF, M')) := by
  unfold f_X11_left at h
  refine wp_X11_left_0 (d := d + 1)  M  (f_mn) ?_
  obtain ⟨rr3, NN4, hc5, h⟩ := f_bd h
  refine ⟨rr3, NN4, s_X11_leftIn (d := d) rfl (Nat.le_of_ble_eq_true rfl) (by decide) hc5, ?_⟩
  cases h; rfl
def f_X11_number_44 : Nat → Int → Int → Int → Int → e_M → Option (Int × e_M)
  | 0, _, _, _, _, _ => none
  | n + 1, p1, p2, v3, v4, M => (f_b (f_X11_byteAt (M 64 4) M) fun rr1 NN2 => (f_b (f_X11_isDigit rr1 NN2) fun rr3 NN4 => (if rr3 = 0 then (f_b (f_X11_in v4 p1 p2 NN4) fun rr7 NN8 => (if ¬ rr7 = 0 then (if ¬ (NN8 64 5) = 0 then (some (0, NN8)) else (some (v4, NN8))) else (f_b (f_X11_wrong 2 v3 NN8) fun _ NN10 => (if ¬ (NN10 64 5) = 0 then (some (0, NN10)) else (some (v4, NN10)))))) else (f_b (f_X11_byteAt (NN4 64 4) NN4) fun rr5 NN6 => (if (e_w ((e_w ((e_w (10 * v4)) + rr5)) - 48)) ≤ 100000 then (f_X11_number_44 n p1 p2 v3 (e_w ((e_w ((e_w (10 * v4)) + rr5)) - 48)) (e_up NN6 64 4 (e_w ((NN6 64 4) + 1)))) else (f_X11_number_44 n p1 p2 v3 100000 (e_up NN6 64 4 (e_w ((NN6 64 4) + 1)))))))))
theorem s_X11_number_44 {X : e_X} {d gn : Nat} : ∀ n : Nat, ∀ (p1 p2 v3 v4 : Int) (M M' : e_M) (v : Int), f_X11_number_44  n p1 p2 v3 v4 M = some (v, M') → e_G X (d + 2) YX11_number 44 [some (.inr (.inr 64)), some (.inl p1), some (.inl p2), some (.inl v3), some (.inl v4)] [] (557, gn, e_RF, M) (.inl (some (.inl v)), (557, gn, e_RF, M')) := by
  intro n
  induction n with
  | zero => intro p1 p2 v3 v4 M M' v h; cases h
  | succ n ih =>
    intro p1 p2 v3 v4 M M' v h
    rw [f_X11_number_44] at h
    refine wp_X11_number_44 (d := d + 1)  M p1 p2 v3 v4 (f_mn) ?_
    obtain ⟨rr11, NN12, hc13, h⟩ := f_bd h
    refine ⟨rr11, NN12, s_X11_byteAt (d := d + 1)  hc13, ?_⟩
    obtain ⟨rr14, NN15, hc16, h⟩ := f_bd h
    refine ⟨rr14, NN15, s_X11_isDigit (d := d + 1)  hc16, ?_⟩
    refine ⟨fun c => ?_, fun c => ?_⟩
    · rw [if_pos c] at h
      obtain ⟨rr17, NN18, hc19, h⟩ := f_bd h
      refine ⟨rr17, NN18, s_X11_in (d := d + 1)  hc19, ?_⟩
      refine ⟨fun c => ?_, fun c => ?_⟩
      · rw [if_pos c] at h
        refine wp_X11_number_122 (d := d + 1)  _ _ _ _ _ ?_
        refine ⟨fun c => ?_, fun c => ?_⟩
        · rw [if_pos c] at h
          cases h; rfl
        · rw [if_neg (not_not_intro c)] at h
          cases h; rfl
      · rw [if_neg (not_not_intro c)] at h
        obtain ⟨rr20, NN21, hc22, h⟩ := f_bd h
        refine ⟨NN21, s_X11_wrong (d := d + 1)  hc22, ?_⟩
        refine wp_X11_number_122 (d := d + 1)  _ _ _ _ _ ?_
        refine ⟨fun c => ?_, fun c => ?_⟩
        · rw [if_pos c] at h
          cases h; rfl
        · rw [if_neg (not_not_intro c)] at h
          cases h; rfl
    · rw [if_neg c] at h
      obtain ⟨rr23, NN24, hc25, h⟩ := f_bd h
      refine ⟨rr23, NN24, s_X11_byteAt (d := d + 1)  hc25, ?_⟩
      refine ⟨fun c => ?_, fun c => ?_⟩
      · rw [if_pos c] at h
        exact ih _ _ _ _ _ _ _ h
      · rw [if_neg c] at h
        exact ih _ _ _ _ _ _ _ h
def f_X11_number (n : Nat) (p1 p2 : Int) (M : e_M) : Option (Int × e_M) := (if (M 64 5) = 0 then (f_b (f_X11_blanks n M) fun _ NN27 => (f_b (f_X11_byteAt (NN27 64 4) NN27) fun rr28 NN29 => (f_b (f_X11_isDigit rr28 NN29) fun rr30 NN31 => (if ¬ rr30 = 0 then (f_X11_number_44 n p1 p2 (NN27 64 4) 0 NN31) else (f_b (f_X11_wrong 1 (NN31 64 4) NN31) fun _ NN33 => (f_X11_number_44 n p1 p2 (NN27 64 4) 0 NN33)))))) else (some (0, M)))
theorem s_X11_number {X : e_X} {d gn : Nat} {n : Nat} {p1 p2 : Int} {M M' : e_M} {v : Int} (h : f_X11_number  n p1 p2 M = some (v, M')) : e_E X (d + 2) YX11_number [.inr (.inr 64), .inl p1, .inl p2] (557, gn, e_RF, M) (.inl (some (.inl v)), (557, gn, e_RF, M')) := by
  unfold f_X11_number at h
  refine wp_X11_number_0 (d := d + 1)  M p1 p2 (f_mn) ?_
  refine ⟨fun c => ?_, fun c => ?_⟩
  · rw [if_pos c] at h
    obtain ⟨rr34, NN35, hc36, h⟩ := f_bd h
    refine ⟨NN35, s_X11_blanks (d := d)  hc36, ?_⟩
    obtain ⟨rr37, NN38, hc39, h⟩ := f_bd h
    refine ⟨rr37, NN38, s_X11_byteAt (d := d + 1)  hc39, ?_⟩
    obtain ⟨rr40, NN41, hc42, h⟩ := f_bd h
    refine ⟨rr40, NN41, s_X11_isDigit (d := d + 1)  hc42, ?_⟩
    refine ⟨fun c => ?_, fun c => ?_⟩
    · rw [if_pos c] at h
      exact s_X11_number_44  _ _ _ _ _ _ _ _ h
    · rw [if_neg (not_not_intro c)] at h
      obtain ⟨rr43, NN44, hc45, h⟩ := f_bd h
      refine ⟨NN44, s_X11_wrong (d := d + 1)  hc45, ?_⟩
      exact s_X11_number_44  _ _ _ _ _ _ _ _ h
  · rw [if_neg c] at h
    cases h; rfl
def f_X11_opensOne (M : e_M) : Option (Int × e_M) := (if ¬ (M 64 5) = 0 then (if ¬ (M 64 5) = 0 then (if ¬ (M 64 5) = 0 then (some (0, M)) else (some (1, M))) else (if ¬ ((e_up M 64 8 (e_w ((M 64 8) + 1))) 64 5) = 0 then (some (0, (e_up M 64 8 (e_w ((M 64 8) + 1))))) else (some (1, (e_up M 64 8 (e_w ((M 64 8) + 1))))))) else (if ¬ (M 64 8) = 6 then (if ¬ (M 64 5) = 0 then (if ¬ (M 64 5) = 0 then (some (0, M)) else (some (1, M))) else (if ¬ ((e_up M 64 8 (e_w ((M 64 8) + 1))) 64 5) = 0 then (some (0, (e_up M 64 8 (e_w ((M 64 8) + 1))))) else (some (1, (e_up M 64 8 (e_w ((M 64 8) + 1))))))) else (f_b (f_X11_wrong 3 (M 64 4) M) fun _ NN2 => (if ¬ (NN2 64 5) = 0 then (some (0, NN2)) else (some (1, NN2))))))
theorem s_X11_opensOne {X : e_X} {d gn : Nat} {M M' : e_M} {v : Int} (h : f_X11_opensOne    M = some (v, M')) : e_E X (d + 1) YX11_opensOne [.inr (.inr 64)] (557, gn, e_RF, M) (.inl (some (.inl v)), (557, gn, e_RF, M')) := by
  unfold f_X11_opensOne at h
  refine wp_X11_opensOne_0 (d := d)  M  (f_mn) ?_
  refine ⟨fun c => ?_, fun c => ?_⟩
  · rw [if_pos c] at h
    refine wp_X11_opensOne_28 (d := d)  _  ?_
    refine ⟨fun c => ?_, fun c => ?_⟩
    · rw [if_pos c] at h
      refine wp_X11_opensOne_45 (d := d)  _  ?_
      refine ⟨fun c => ?_, fun c => ?_⟩
      · rw [if_pos c] at h
        cases h; rfl
      · rw [if_neg (not_not_intro c)] at h
        cases h; rfl
    · rw [if_neg (not_not_intro c)] at h
      refine wp_X11_opensOne_45 (d := d)  _  ?_
      refine ⟨fun c => ?_, fun c => ?_⟩
      · rw [if_pos c] at h
        cases h; rfl
      · rw [if_neg (not_not_intro c)] at h
        cases h; rfl
  · rw [if_neg (not_not_intro c)] at h
    refine ⟨fun c => ?_, fun c => ?_⟩
    · rw [if_pos c] at h
      refine wp_X11_opensOne_28 (d := d)  _  ?_
      refine ⟨fun c => ?_, fun c => ?_⟩
      · rw [if_pos c] at h
        refine wp_X11_opensOne_45 (d := d)  _  ?_
        refine ⟨fun c => ?_, fun c => ?_⟩
        · rw [if_pos c] at h
          cases h; rfl
        · rw [if_neg (not_not_intro c)] at h
          cases h; rfl
      · rw [if_neg (not_not_intro c)] at h
        refine wp_X11_opensOne_45 (d := d)  _  ?_
        refine ⟨fun c => ?_, fun c => ?_⟩
        · rw [if_pos c] at h
          cases h; rfl
        · rw [if_neg (not_not_intro c)] at h
          cases h; rfl
    · rw [if_neg (not_not_intro c)] at h
      obtain ⟨rr3, NN4, hc5, h⟩ := f_bd h
      refine ⟨NN4, s_X11_wrong (d := d)  hc5, ?_⟩
      refine wp_X11_opensOne_45 (d := d)  _  ?_
      refine ⟨fun c => ?_, fun c => ?_⟩
      · rw [if_pos c] at h
        cases h; rfl
      · rw [if_neg (not_not_intro c)] at h
        cases h; rfl
def f_X11_priceBy (n : Nat) (p1 p2 p3 p4 p5 p6 p7 p8 : Int) (M : e_M) : Option (Int × e_M) := (f_b (f_X11_byLaw n (e_up (e_up (e_up (e_up (e_up (e_up (e_up (e_up M 450 0 p1) 450 1 p2) 450 2 p3) 450 3 p4) 450 4 p5) 450 5 p6) 450 6 p7) 450 7 p8)) fun rr1 NN2 => (some (rr1, NN2)))
theorem s_X11_priceBy {X : e_X} {d gn : Nat} {n : Nat} {p1 p2 p3 p4 p5 p6 p7 p8 : Int} {M M' : e_M} {v : Int} (h : f_X11_priceBy  n p1 p2 p3 p4 p5 p6 p7 p8 M = some (v, M')) : e_E X (d + 3) YX11_priceBy [.inr (.inr 64), .inl p1, .inl p2, .inl p3, .inl p4, .inl p5, .inl p6, .inl p7, .inl p8] (557, gn, e_RF, M) (.inl (some (.inl v)), (557, gn, e_RF, M')) := by
  unfold f_X11_priceBy at h
  refine wp_X11_priceBy_0 (d := d + 2)  M p1 p2 p3 p4 p5 p6 p7 p8 (f_mn) ?_
  obtain ⟨rr3, NN4, hc5, h⟩ := f_bd h
  refine ⟨rr3, NN4, s_X11_byLaw (d := d)  hc5, ?_⟩
  cases h; rfl
def f_X11_priceOf_51 (q0 : Nat) : Nat → Int → Int → Int → Int → e_M → Option (Int × e_M)
  | 0, _, _, _, _, _ => none
  | n + 1, p2, v3, v4, v5, M => (if (M 68 2) ≤ v5 then (if (0 ≤ (e_w (12 + p2)) ∧ (e_w (12 + p2)) < 56) then (if (0 ≤ (e_w (0 + p2)) ∧ (e_w (0 + p2)) < 56) then (if (0 ≤ p2 ∧ p2 < 6) then (if (0 ≤ p2 ∧ p2 < 6) then (f_b (f_X11_doneByOthers q0 n p2 M) fun rr3 NN4 => (f_b (f_X11_ones n (e_and (M 72 p2.toNat) (e_xor rr3 (-1))) NN4) fun rr5 NN6 => (f_b (f_X11_priceBy n (M q0 55) v3 (M q0 (e_w (12 + p2)).toNat) (M q0 (e_w (0 + p2)).toNat) (M (81 + p2.toNat) 1) rr5 v4 p2 NN6) fun rr7 NN8 => (some (rr7, NN8))))) else none) else none) else none) else none) else (if (0 ≤ v5 ∧ v5 < 12) then (if ¬ (M (101 + v5.toNat) 0) = p2 then (f_X11_priceOf_51 q0 n p2 v3 (e_w (v4 + 0)) (e_w (v5 + 1)) M) else (f_b (f_X11_isToday q0 v5 M) fun rr1 NN2 => (if rr1 = 0 then (f_X11_priceOf_51 q0 n p2 v3 (e_w (v4 + 0)) (e_w (v5 + 1)) NN2) else (f_X11_priceOf_51 q0 n p2 v3 (e_w (v4 + 1)) (e_w (v5 + 1)) NN2)))) else none))
theorem s_X11_priceOf_51 {X : e_X} {d gn : Nat} {q0 : Nat} (hq0 : e_SH q0 = (20, 56)) (kq0 : q0 ≤ 557) (zq0 : q0 ≠ 0) : ∀ n : Nat, ∀ (p2 v3 v4 v5 : Int) (M M' : e_M) (v : Int), f_X11_priceOf_51 q0 n p2 v3 v4 v5 M = some (v, M') → e_G X (d + 4) YX11_priceOf 51 [some (.inr (.inr 64)), some (.inr (.inr q0)), some (.inl p2), some (.inl v3), some (.inl v4), some (.inl v5)] [] (557, gn, e_RF, M) (.inl (some (.inl v)), (557, gn, e_RF, M')) := by
  intro n
  induction n with
  | zero => intro p2 v3 v4 v5 M M' v h; cases h
  | succ n ih =>
    intro p2 v3 v4 v5 M M' v h
    rw [f_X11_priceOf_51] at h
    refine wp_X11_priceOf_51 (d := d + 3) hq0 kq0 zq0 M p2 v3 v4 v5 (f_mn) ?_
    refine ⟨fun c => ?_, fun c => ?_⟩
    · rw [if_pos c] at h
      obtain ⟨c9, h⟩ := f_gd h
      refine ⟨c9, ?_⟩
      obtain ⟨c10, h⟩ := f_gd h
      refine ⟨c10, ?_⟩
      obtain ⟨c11, h⟩ := f_gd h
      refine ⟨c11, ?_⟩
      obtain ⟨c12, h⟩ := f_gd h
      refine ⟨c12, ?_⟩
      obtain ⟨rr13, NN14, hc15, h⟩ := f_bd h
      refine ⟨rr13, NN14, s_X11_doneByOthers (d := d + 2) hq0 kq0 zq0 hc15, ?_⟩
      obtain ⟨rr16, NN17, hc18, h⟩ := f_bd h
      refine ⟨rr16, NN17, s_X11_ones (d := d + 3)  hc18, ?_⟩
      obtain ⟨rr19, NN20, hc21, h⟩ := f_bd h
      refine ⟨rr19, NN20, s_X11_priceBy (d := d)  hc21, ?_⟩
      cases h; rfl
    · rw [if_neg c] at h
      obtain ⟨c22, h⟩ := f_gd h
      refine ⟨c22, ?_⟩
      refine ⟨fun c => ?_, fun c => ?_⟩
      · rw [if_pos c] at h
        exact ih _ _ _ _ _ _ _ h
      · rw [if_neg (not_not_intro c)] at h
        obtain ⟨rr23, NN24, hc25, h⟩ := f_bd h
        refine ⟨rr23, NN24, s_X11_isToday (d := d + 3) hq0 kq0 zq0 hc25, ?_⟩
        refine ⟨fun c => ?_, fun c => ?_⟩
        · rw [if_pos c] at h
          exact ih _ _ _ _ _ _ _ h
        · rw [if_neg c] at h
          exact ih _ _ _ _ _ _ _ h
def f_X11_priceOf_8 (q0 : Nat) : Nat → Int → Int → Int → Int → e_M → Option (Int × e_M)
  | 0, _, _, _, _, _ => none
  | n + 1, p2, v3, v4, v5, M => (if (M 68 0) ≤ v5 then (f_X11_priceOf_51 q0 n p2 v3 v4 0 M) else (if v5 = p2 then (f_X11_priceOf_8 q0 n p2 (e_w (v3 + 0)) v4 (e_w (v5 + 1)) M) else (f_b (f_X11_isSold q0 v5 M) fun rr26 NN27 => (if rr26 = 0 then (f_X11_priceOf_8 q0 n p2 (e_w (v3 + 0)) v4 (e_w (v5 + 1)) NN27) else (f_X11_priceOf_8 q0 n p2 (e_w (v3 + 1)) v4 (e_w (v5 + 1)) NN27)))))
theorem s_X11_priceOf_8 {X : e_X} {d gn : Nat} {q0 : Nat} (hq0 : e_SH q0 = (20, 56)) (kq0 : q0 ≤ 557) (zq0 : q0 ≠ 0) : ∀ n : Nat, ∀ (p2 v3 v4 v5 : Int) (M M' : e_M) (v : Int), f_X11_priceOf_8 q0 n p2 v3 v4 v5 M = some (v, M') → e_G X (d + 4) YX11_priceOf 8 [some (.inr (.inr 64)), some (.inr (.inr q0)), some (.inl p2), some (.inl v3), some (.inl v4), some (.inl v5)] [] (557, gn, e_RF, M) (.inl (some (.inl v)), (557, gn, e_RF, M')) := by
  intro n
  induction n with
  | zero => intro p2 v3 v4 v5 M M' v h; cases h
  | succ n ih =>
    intro p2 v3 v4 v5 M M' v h
    rw [f_X11_priceOf_8] at h
    refine wp_X11_priceOf_8 (d := d + 3) hq0 kq0 zq0 M p2 v3 v4 v5 (f_mn) ?_
    refine ⟨fun c => ?_, fun c => ?_⟩
    · rw [if_pos c] at h
      exact s_X11_priceOf_51 hq0 kq0 zq0 _ _ _ _ _ _ _ _ h
    · rw [if_neg c] at h
      refine ⟨fun c => ?_, fun c => ?_⟩
      · rw [if_pos c] at h
        exact ih _ _ _ _ _ _ _ h
      · rw [if_neg c] at h
        obtain ⟨rr28, NN29, hc30, h⟩ := f_bd h
        refine ⟨rr28, NN29, s_X11_isSold (d := d + 3) hq0 kq0 zq0 hc30, ?_⟩
        refine ⟨fun c => ?_, fun c => ?_⟩
        · rw [if_pos c] at h
          exact ih _ _ _ _ _ _ _ h
        · rw [if_neg c] at h
          exact ih _ _ _ _ _ _ _ h
def f_X11_priceOf (q0 : Nat) (n : Nat) (p2 : Int) (M : e_M) : Option (Int × e_M) := (f_X11_priceOf_8 q0 n p2 0 0 0 M)
theorem s_X11_priceOf {X : e_X} {d gn : Nat} {q0 : Nat} (hq0 : e_SH q0 = (20, 56)) (kq0 : q0 ≤ 557) (zq0 : q0 ≠ 0) {n : Nat} {p2 : Int} {M M' : e_M} {v : Int} (h : f_X11_priceOf q0 n p2 M = some (v, M')) : e_E X (d + 4) YX11_priceOf [.inr (.inr 64), .inr (.inr q0), .inl p2] (557, gn, e_RF, M) (.inl (some (.inl v)), (557, gn, e_RF, M')) := by
  unfold f_X11_priceOf at h
  refine wp_X11_priceOf_0 (d := d + 3) hq0 kq0 zq0 M p2 ?_
  exact s_X11_priceOf_8 hq0 kq0 zq0 _ _ _ _ _ _ _ _ h
def f_X11_share_75 : Nat → Int → Int → Int → Int → e_M → Option (Int × e_M)
  | 0, _, _, _, _, _ => none
  | n + 1, p1, p2, p3, v4, M => (if (0 ≤ (e_w (6 + p1)) ∧ (e_w (6 + p1)) < 56) then (if (M 532 (e_w (6 + p1)).toNat) ≤ v4 then (f_b (f_X11_has p2 p1 M) fun rr5 NN6 => (if rr5 = 0 then (some (0, NN6)) else (some (v4, NN6)))) else (f_b (f_X11_givenBy n p2 (e_w (v4 + 1)) M) fun rr1 NN2 => (if p3 < rr1 then (f_b (f_X11_has p2 p1 NN2) fun rr3 NN4 => (if rr3 = 0 then (some (0, NN4)) else (some (v4, NN4)))) else (f_X11_share_75 n p1 p2 p3 (e_w (v4 + 1)) NN2)))) else none)
theorem s_X11_share_75 {X : e_X} {d gn : Nat} : ∀ n : Nat, ∀ (p1 p2 p3 v4 : Int) (M M' : e_M) (v : Int), f_X11_share_75  n p1 p2 p3 v4 M = some (v, M') → e_G X (d + 2) YX11_share 75 [some (.inr (.inr 64)), some (.inl p1), some (.inl p2), some (.inl p3), some (.inl v4)] [] (557, gn, e_RF, M) (.inl (some (.inl v)), (557, gn, e_RF, M')) := by
  intro n
  induction n with
  | zero => intro p1 p2 p3 v4 M M' v h; cases h
  | succ n ih =>
    intro p1 p2 p3 v4 M M' v h
    rw [f_X11_share_75] at h
    refine wp_X11_share_75 (d := d + 1)  M p1 p2 p3 v4 (f_mn) ?_
    obtain ⟨c7, h⟩ := f_gd h
    refine ⟨c7, ?_⟩
    refine ⟨fun c => ?_, fun c => ?_⟩
    · rw [if_pos c] at h
      refine wp_X11_share_108 (d := d + 1)  _ _ _ _ _ (f_mn) ?_
      obtain ⟨rr8, NN9, hc10, h⟩ := f_bd h
      refine ⟨rr8, NN9, s_X11_has (d := d + 1)  hc10, ?_⟩
      refine ⟨fun c => ?_, fun c => ?_⟩
      · rw [if_pos c] at h
        cases h; rfl
      · rw [if_neg c] at h
        cases h; rfl
    · rw [if_neg c] at h
      obtain ⟨rr11, NN12, hc13, h⟩ := f_bd h
      refine ⟨rr11, NN12, s_X11_givenBy (d := d)  hc13, ?_⟩
      refine ⟨fun c => ?_, fun c => ?_⟩
      · rw [if_pos c] at h
        refine wp_X11_share_108 (d := d + 1)  _ _ _ _ _ (f_mn) ?_
        obtain ⟨rr14, NN15, hc16, h⟩ := f_bd h
        refine ⟨rr14, NN15, s_X11_has (d := d + 1)  hc16, ?_⟩
        refine ⟨fun c => ?_, fun c => ?_⟩
        · rw [if_pos c] at h
          cases h; rfl
        · rw [if_neg c] at h
          cases h; rfl
      · rw [if_neg c] at h
        exact ih _ _ _ _ _ _ _ h
def f_X11_share_19 (n : Nat) (p1 p2 p3 w0 : Int) (M : e_M) : Option (Int × e_M) := (f_b (f_X11_bad w0 1 0 M) fun rr17 NN18 => (if ¬ rr17 = 0 then (some (0, NN18)) else (f_b (f_X11_in p2 0 (e_w ((e_shl 1 (NN18 68 0)) - 1)) NN18) fun rr19 NN20 => (if rr19 = 0 then (f_b (f_X11_bad 1 2 1 NN20) fun rr27 NN28 => (if rr27 = 0 then (f_X11_share_75 n p1 p2 p3 0 NN28) else (some (0, NN28)))) else (f_b (f_X11_in p3 0 9999 NN20) fun rr21 NN22 => (if ¬ rr21 = 0 then (f_b (f_X11_bad 0 2 1 NN22) fun rr25 NN26 => (if rr25 = 0 then (f_X11_share_75 n p1 p2 p3 0 NN26) else (some (0, NN26)))) else (f_b (f_X11_bad 1 2 1 NN22) fun rr23 NN24 => (if rr23 = 0 then (f_X11_share_75 n p1 p2 p3 0 NN24) else (some (0, NN24))))))))))
theorem s_X11_share_19 {X : e_X} {d gn : Nat} {n : Nat} {p1 p2 p3 w0 : Int} {M M' : e_M} {v : Int} (h : f_X11_share_19  n p1 p2 p3 w0 M = some (v, M')) : e_G X (d + 2) YX11_share 19 [some (.inr (.inr 64)), some (.inl p1), some (.inl p2), some (.inl p3), none] [.inl w0, .inr (.inr 64)] (557, gn, e_RF, M) (.inl (some (.inl v)), (557, gn, e_RF, M')) := by
  unfold f_X11_share_19 at h
  refine wp_X11_share_19 (d := d + 1)  M p1 p2 p3 w0 (f_mn) ?_
  obtain ⟨rr29, NN30, hc31, h⟩ := f_bd h
  refine ⟨rr29, NN30, s_X11_bad (d := d + 1)  hc31, ?_⟩
  refine ⟨fun c => ?_, fun c => ?_⟩
  · rw [if_pos c] at h
    cases h; rfl
  · rw [if_neg (not_not_intro c)] at h
    obtain ⟨rr32, NN33, hc34, h⟩ := f_bd h
    refine ⟨rr32, NN33, s_X11_in (d := d + 1)  hc34, ?_⟩
    refine ⟨fun c => ?_, fun c => ?_⟩
    · rw [if_pos c] at h
      refine wp_X11_share_57 (d := d + 1)  _ _ _ _ ?_
      refine wp_X11_share_62 (d := d + 1)  _ _ _ _ _ (f_mn) ?_
      obtain ⟨rr35, NN36, hc37, h⟩ := f_bd h
      refine ⟨rr35, NN36, s_X11_bad (d := d + 1)  hc37, ?_⟩
      refine ⟨fun c => ?_, fun c => ?_⟩
      · rw [if_pos c] at h
        exact s_X11_share_75  _ _ _ _ _ _ _ _ h
      · rw [if_neg c] at h
        cases h; rfl
    · rw [if_neg c] at h
      obtain ⟨rr38, NN39, hc40, h⟩ := f_bd h
      refine ⟨rr38, NN39, s_X11_in (d := d + 1)  hc40, ?_⟩
      refine ⟨fun c => ?_, fun c => ?_⟩
      · rw [if_pos c] at h
        refine wp_X11_share_62 (d := d + 1)  _ _ _ _ _ (f_mn) ?_
        obtain ⟨rr41, NN42, hc43, h⟩ := f_bd h
        refine ⟨rr41, NN42, s_X11_bad (d := d + 1)  hc43, ?_⟩
        refine ⟨fun c => ?_, fun c => ?_⟩
        · rw [if_pos c] at h
          exact s_X11_share_75  _ _ _ _ _ _ _ _ h
        · rw [if_neg c] at h
          cases h; rfl
      · rw [if_neg (not_not_intro c)] at h
        refine wp_X11_share_57 (d := d + 1)  _ _ _ _ ?_
        refine wp_X11_share_62 (d := d + 1)  _ _ _ _ _ (f_mn) ?_
        obtain ⟨rr44, NN45, hc46, h⟩ := f_bd h
        refine ⟨rr44, NN45, s_X11_bad (d := d + 1)  hc46, ?_⟩
        refine ⟨fun c => ?_, fun c => ?_⟩
        · rw [if_pos c] at h
          exact s_X11_share_75  _ _ _ _ _ _ _ _ h
        · rw [if_neg c] at h
          cases h; rfl
def f_X11_share (n : Nat) (p1 p2 p3 : Int) (M : e_M) : Option (Int × e_M) := (f_b (f_X11_isPerson p1 (e_up M 64 0 0)) fun rr47 NN48 => (if ¬ rr47 = 0 then (f_X11_share_19 n p1 p2 p3 0 NN48) else (f_X11_share_19 n p1 p2 p3 1 NN48)))
theorem s_X11_share {X : e_X} {d gn : Nat} {n : Nat} {p1 p2 p3 : Int} {M M' : e_M} {v : Int} (h : f_X11_share  n p1 p2 p3 M = some (v, M')) : e_E X (d + 2) YX11_share [.inr (.inr 64), .inl p1, .inl p2, .inl p3] (557, gn, e_RF, M) (.inl (some (.inl v)), (557, gn, e_RF, M')) := by
  unfold f_X11_share at h
  refine wp_X11_share_0 (d := d + 1)  M p1 p2 p3 (f_mn) ?_
  obtain ⟨rr49, NN50, hc51, h⟩ := f_bd h
  refine ⟨rr49, NN50, s_X11_isPerson (d := d)  hc51, ?_⟩
  refine ⟨fun c => ?_, fun c => ?_⟩
  · rw [if_pos c] at h
    exact s_X11_share_19  h
  · rw [if_neg (not_not_intro c)] at h
    exact s_X11_share_19  h
def f_X11_sign (n : Nat) (p1 : Int) (M : e_M) : Option (Int × e_M) := (if (M 64 5) = 0 then (f_b (f_X11_blanks n M) fun _ NN2 => (f_b (f_X11_byteAt (NN2 64 4) NN2) fun rr3 NN4 => (if ¬ rr3 = p1 then (f_b (f_X11_wrong 1 (NN4 64 4) NN4) fun _ NN6 => (some (0, NN6))) else (some (0, (e_up NN4 64 4 (e_w ((NN4 64 4) + 1)))))))) else (some (0, M)))
theorem s_X11_sign {X : e_X} {d gn : Nat} {n : Nat} {p1 : Int} {M M' : e_M} {v : Int} (h : f_X11_sign  n p1 M = some (v, M')) : e_E X (d + 2) YX11_sign [.inr (.inr 64), .inl p1] (557, gn, e_RF, M) (.inl none, (557, gn, e_RF, M')) := by
  unfold f_X11_sign at h
  refine wp_X11_sign_0 (d := d + 1)  M p1 (f_mn) ?_
  refine ⟨fun c => ?_, fun c => ?_⟩
  · rw [if_pos c] at h
    obtain ⟨rr7, NN8, hc9, h⟩ := f_bd h
    refine ⟨NN8, s_X11_blanks (d := d)  hc9, ?_⟩
    obtain ⟨rr10, NN11, hc12, h⟩ := f_bd h
    refine ⟨rr10, NN11, s_X11_byteAt (d := d + 1)  hc12, ?_⟩
    refine ⟨fun c => ?_, fun c => ?_⟩
    · rw [if_pos c] at h
      obtain ⟨rr13, NN14, hc15, h⟩ := f_bd h
      refine ⟨NN14, s_X11_wrong (d := d + 1)  hc15, ?_⟩
      cases h; rfl
    · rw [if_neg (not_not_intro c)] at h
      cases h; rfl
  · rw [if_neg c] at h
    cases h; rfl
def f_X11_starts (n : Nat) (p1 : Int) (M : e_M) : Option (Int × e_M) := (f_b (f_X11_blanks n (e_up (e_up (e_up (e_up (e_up (e_up (e_up M 64 1 0) 64 2 p1) 64 4 0) 64 5 0) 64 6 (-1)) 64 7 0) 64 8 0)) fun _ NN2 => (some (0, NN2)))
theorem s_X11_starts {X : e_X} {d gn : Nat} {n : Nat} {p1 : Int} {M M' : e_M} {v : Int} (h : f_X11_starts  n p1 M = some (v, M')) : e_E X (d + 2) YX11_starts [.inr (.inr 64), .inl p1] (557, gn, e_RF, M) (.inl none, (557, gn, e_RF, M')) := by
  unfold f_X11_starts at h
  refine wp_X11_starts_0 (d := d + 1)  M p1 (f_mn) ?_
  obtain ⟨rr3, NN4, hc5, h⟩ := f_bd h
  refine ⟨NN4, s_X11_blanks (d := d)  hc5, ?_⟩
  cases h; rfl
def f_X11_takesSign (n : Nat) (p1 : Int) (M : e_M) : Option (Int × e_M) := (if (M 64 5) = 0 then (f_b (f_X11_blanks n M) fun _ NN2 => (f_b (f_X11_byteAt (NN2 64 4) NN2) fun rr3 NN4 => (if ¬ rr3 = p1 then (some (0, NN4)) else (some (1, (e_up NN4 64 4 (e_w ((NN4 64 4) + 1)))))))) else (some (0, M)))
theorem s_X11_takesSign {X : e_X} {d gn : Nat} {n : Nat} {p1 : Int} {M M' : e_M} {v : Int} (h : f_X11_takesSign  n p1 M = some (v, M')) : e_E X (d + 2) YX11_takesSign [.inr (.inr 64), .inl p1] (557, gn, e_RF, M) (.inl (some (.inl v)), (557, gn, e_RF, M')) := by
  unfold f_X11_takesSign at h
  refine wp_X11_takesSign_0 (d := d + 1)  M p1 (f_mn) ?_
  refine ⟨fun c => ?_, fun c => ?_⟩
  · rw [if_pos c] at h
    obtain ⟨rr5, NN6, hc7, h⟩ := f_bd h
    refine ⟨NN6, s_X11_blanks (d := d)  hc7, ?_⟩
    obtain ⟨rr8, NN9, hc10, h⟩ := f_bd h
    refine ⟨rr8, NN9, s_X11_byteAt (d := d + 1)  hc10, ?_⟩
    refine ⟨fun c => ?_, fun c => ?_⟩
    · rw [if_pos c] at h
      refine wp_X11_takesSign_30 (d := d + 1)  _ _ _ ?_
      refine ⟨fun _ => ?_, fun c => absurd c (by decide)⟩
      exact ⟨by decide, by cases h; rfl⟩
    · rw [if_neg (not_not_intro c)] at h
      refine wp_X11_takesSign_30 (d := d + 1)  _ _ _ ?_
      refine ⟨fun c => absurd c (by decide), fun _ => ?_⟩
      exact ⟨by decide, by cases h; rfl⟩
  · rw [if_neg c] at h
    cases h; rfl
def f_X11_together_56 (n : Nat) (p1 p2 p3 w0 : Int) (M : e_M) : Option (Int × e_M) := (f_b (f_X11_bad w0 2 1 M) fun rr1 NN2 => (if rr1 = 0 then (f_b (f_X11_hadBy n p1 p3 NN2) fun rr3 NN4 => (f_b (f_X11_hadBy n p2 p3 NN4) fun rr5 NN6 => (if rr3 = (-1) then (some ((-1), NN6)) else (if rr5 = (-1) then (some ((-1), NN6)) else (if p3 < rr3 then (some ((-1), NN6)) else (if rr5 ≤ p3 then (f_b (f_X11_more 0 (e_w ((e_w (rr3 + rr5)) - p3)) NN6) fun rr7 NN8 => (some (rr7, NN8))) else (some ((-1), NN6)))))))) else (some (0, NN2))))
theorem s_X11_together_56 {X : e_X} {d gn : Nat} {n : Nat} {p1 p2 p3 w0 : Int} {M M' : e_M} {v : Int} (h : f_X11_together_56  n p1 p2 p3 w0 M = some (v, M')) : e_G X (d + 2) YX11_together 56 [some (.inr (.inr 64)), some (.inl p1), some (.inl p2), some (.inl p3), none, none] [.inl w0, .inr (.inr 64)] (557, gn, e_RF, M) (.inl (some (.inl v)), (557, gn, e_RF, M')) := by
  unfold f_X11_together_56 at h
  refine wp_X11_together_56 (d := d + 1)  M p1 p2 p3 w0 (f_mn) ?_
  obtain ⟨rr9, NN10, hc11, h⟩ := f_bd h
  refine ⟨rr9, NN10, s_X11_bad (d := d + 1)  hc11, ?_⟩
  refine ⟨fun c => ?_, fun c => ?_⟩
  · rw [if_pos c] at h
    obtain ⟨rr12, NN13, hc14, h⟩ := f_bd h
    refine ⟨rr12, NN13, s_X11_hadBy (d := d)  hc14, ?_⟩
    obtain ⟨rr15, NN16, hc17, h⟩ := f_bd h
    refine ⟨rr15, NN16, s_X11_hadBy (d := d)  hc17, ?_⟩
    refine ⟨fun c => ?_, fun c => ?_⟩
    · rw [if_pos c] at h
      cases h; rfl
    · rw [if_neg c] at h
      refine ⟨fun c => ?_, fun c => ?_⟩
      · rw [if_pos c] at h
        cases h; rfl
      · rw [if_neg c] at h
        refine ⟨fun c => ?_, fun c => ?_⟩
        · rw [if_pos c] at h
          cases h; rfl
        · rw [if_neg c] at h
          refine ⟨fun c => ?_, fun c => ?_⟩
          · rw [if_pos c] at h
            obtain ⟨rr18, NN19, hc20, h⟩ := f_bd h
            refine ⟨rr18, NN19, s_X11_more (d := d + 1)  hc20, ?_⟩
            cases h; rfl
          · rw [if_neg c] at h
            cases h; rfl
  · rw [if_neg c] at h
    cases h; rfl
def f_X11_together_27 (n : Nat) (p1 p2 p3 w0 : Int) (M : e_M) : Option (Int × e_M) := (f_b (f_X11_bad w0 1 0 M) fun rr21 NN22 => (if ¬ rr21 = 0 then (some (0, NN22)) else (if p1 = p2 then (f_X11_together_56 n p1 p2 p3 1 NN22) else (f_b (f_X11_in p3 0 20 NN22) fun rr23 NN24 => (if ¬ rr23 = 0 then (f_X11_together_56 n p1 p2 p3 0 NN24) else (f_X11_together_56 n p1 p2 p3 1 NN24))))))
theorem s_X11_together_27 {X : e_X} {d gn : Nat} {n : Nat} {p1 p2 p3 w0 : Int} {M M' : e_M} {v : Int} (h : f_X11_together_27  n p1 p2 p3 w0 M = some (v, M')) : e_G X (d + 2) YX11_together 27 [some (.inr (.inr 64)), some (.inl p1), some (.inl p2), some (.inl p3), none, none] [.inl w0, .inr (.inr 64)] (557, gn, e_RF, M) (.inl (some (.inl v)), (557, gn, e_RF, M')) := by
  unfold f_X11_together_27 at h
  refine wp_X11_together_27 (d := d + 1)  M p1 p2 p3 w0 (f_mn) ?_
  obtain ⟨rr25, NN26, hc27, h⟩ := f_bd h
  refine ⟨rr25, NN26, s_X11_bad (d := d + 1)  hc27, ?_⟩
  refine ⟨fun c => ?_, fun c => ?_⟩
  · rw [if_pos c] at h
    cases h; rfl
  · rw [if_neg (not_not_intro c)] at h
    refine ⟨fun c => ?_, fun c => ?_⟩
    · rw [if_pos c] at h
      refine wp_X11_together_51 (d := d + 1)  _ _ _ _ ?_
      exact s_X11_together_56  h
    · rw [if_neg c] at h
      obtain ⟨rr28, NN29, hc30, h⟩ := f_bd h
      refine ⟨rr28, NN29, s_X11_in (d := d + 1)  hc30, ?_⟩
      refine ⟨fun c => ?_, fun c => ?_⟩
      · rw [if_pos c] at h
        exact s_X11_together_56  h
      · rw [if_neg (not_not_intro c)] at h
        refine wp_X11_together_51 (d := d + 1)  _ _ _ _ ?_
        exact s_X11_together_56  h
def f_X11_together (n : Nat) (p1 p2 p3 : Int) (M : e_M) : Option (Int × e_M) := (f_b (f_X11_isPerson p1 (e_up M 64 0 0)) fun rr31 NN32 => (if rr31 = 0 then (f_X11_together_27 n p1 p2 p3 1 NN32) else (f_b (f_X11_isPerson p2 NN32) fun rr33 NN34 => (if ¬ rr33 = 0 then (f_X11_together_27 n p1 p2 p3 0 NN34) else (f_X11_together_27 n p1 p2 p3 1 NN34)))))
theorem s_X11_together {X : e_X} {d gn : Nat} {n : Nat} {p1 p2 p3 : Int} {M M' : e_M} {v : Int} (h : f_X11_together  n p1 p2 p3 M = some (v, M')) : e_E X (d + 2) YX11_together [.inr (.inr 64), .inl p1, .inl p2, .inl p3] (557, gn, e_RF, M) (.inl (some (.inl v)), (557, gn, e_RF, M')) := by
  unfold f_X11_together at h
  refine wp_X11_together_0 (d := d + 1)  M p1 p2 p3 (f_mn) ?_
  obtain ⟨rr35, NN36, hc37, h⟩ := f_bd h
  refine ⟨rr35, NN36, s_X11_isPerson (d := d)  hc37, ?_⟩
  refine ⟨fun c => ?_, fun c => ?_⟩
  · rw [if_pos c] at h
    refine wp_X11_together_22 (d := d + 1)  _ _ _ _ ?_
    exact s_X11_together_27  h
  · rw [if_neg c] at h
    obtain ⟨rr38, NN39, hc40, h⟩ := f_bd h
    refine ⟨rr38, NN39, s_X11_isPerson (d := d)  hc40, ?_⟩
    refine ⟨fun c => ?_, fun c => ?_⟩
    · rw [if_pos c] at h
      exact s_X11_together_27  h
    · rw [if_neg (not_not_intro c)] at h
      refine wp_X11_together_22 (d := d + 1)  _ _ _ _ ?_
      exact s_X11_together_27  h
def f_X11_weekEnds_218 (q0 : Nat) : Nat → Int → e_M → Option (Int × e_M)
  | 0, _, _ => none
  | n + 1, v2, M => (if 6 ≤ v2 then (some (0, (e_up M q0 55 (e_w ((M q0 55) + 1))))) else (if (0 ≤ (e_w (18 + v2)) ∧ (e_w (18 + v2)) < 56) then (f_X11_weekEnds_218 q0 n (e_w (v2 + 1)) (e_up M q0 (e_w (18 + v2)).toNat (-1))) else none))
theorem s_X11_weekEnds_218 {X : e_X} {d gn : Nat} {q0 : Nat} (hq0 : e_SH q0 = (20, 56)) (kq0 : q0 ≤ 557) (zq0 : q0 ≠ 0) : ∀ n : Nat, ∀ (v2 : Int) (M M' : e_M) (v : Int), f_X11_weekEnds_218 q0 n v2 M = some (v, M') → e_G X (d + 2) YX11_weekEnds 218 [some (.inr (.inr 64)), some (.inr (.inr q0)), some (.inl v2), none, none, none] [] (557, gn, e_RF, M) (.inl none, (557, gn, e_RF, M')) := by
  intro n
  induction n with
  | zero => intro v2 M M' v h; cases h
  | succ n ih =>
    intro v2 M M' v h
    rw [f_X11_weekEnds_218] at h
    refine wp_X11_weekEnds_218 (d := d + 1) hq0 kq0 zq0 M v2 ?_
    refine ⟨fun c => ?_, fun c => ?_⟩
    · rw [if_pos c] at h
      cases h; rfl
    · rw [if_neg c] at h
      obtain ⟨c1, h⟩ := f_gd h
      refine ⟨c1, ?_⟩
      exact ih _ _ _ _ h
def f_X11_weekEnds_L18 (q0 : Nat) : Nat → Nat → Int → Int → Int → e_M → Option (Int × e_M)
  | 0, _, _, _, _, _ => none
  | n + 1, k, v2, v3, v4, M => (if k = 0 then (if (M 68 0) ≤ v2 then (f_X11_weekEnds_218 q0 n 0 M) else (f_b (f_X11_isSold q0 v2 M) fun rr2 NN3 => (if ¬ rr2 = 0 then (if (0 ≤ (e_w (6 + v2)) ∧ (e_w (6 + v2)) < 56) then (if (0 ≤ (e_w (6 + v2)) ∧ (e_w (6 + v2)) < 56) then (if (0 ≤ (e_w (12 + v2)) ∧ (e_w (12 + v2)) < 56) then (if (0 ≤ (e_w (12 + v2)) ∧ (e_w (12 + v2)) < 56) then (f_X11_weekEnds_L18 q0 n 1 v2 0 0 (e_up (e_up NN3 q0 (e_w (6 + v2)).toNat (e_w ((NN3 q0 (e_w (6 + v2)).toNat) + 6))) q0 (e_w (12 + v2)).toNat (e_w (((e_up NN3 q0 (e_w (6 + v2)).toNat (e_w ((NN3 q0 (e_w (6 + v2)).toNat) + 6))) q0 (e_w (12 + v2)).toNat) + 1)))) else none) else none) else none) else none) else (if (0 ≤ (e_w (6 + v2)) ∧ (e_w (6 + v2)) < 56) then (if (0 ≤ (e_w (6 + v2)) ∧ (e_w (6 + v2)) < 56) then (if (0 ≤ (e_w (12 + v2)) ∧ (e_w (12 + v2)) < 56) then (if (0 ≤ (e_w (12 + v2)) ∧ (e_w (12 + v2)) < 56) then (if (0 ≤ (e_w (0 + v2)) ∧ (e_w (0 + v2)) < 56) then (if (0 ≤ v2 ∧ v2 < 6) then (f_b (f_X11_less 999 (e_w (((e_up (e_up NN3 q0 (e_w (6 + v2)).toNat (e_w ((NN3 q0 (e_w (6 + v2)).toNat) + 7))) q0 (e_w (12 + v2)).toNat (e_w (((e_up NN3 q0 (e_w (6 + v2)).toNat (e_w ((NN3 q0 (e_w (6 + v2)).toNat) + 7))) q0 (e_w (12 + v2)).toNat) + 0))) q0 (e_w (0 + v2)).toNat) + ((e_up (e_up NN3 q0 (e_w (6 + v2)).toNat (e_w ((NN3 q0 (e_w (6 + v2)).toNat) + 7))) q0 (e_w (12 + v2)).toNat (e_w (((e_up NN3 q0 (e_w (6 + v2)).toNat (e_w ((NN3 q0 (e_w (6 + v2)).toNat) + 7))) q0 (e_w (12 + v2)).toNat) + 0))) (81 + v2.toNat) 1))) (e_up (e_up NN3 q0 (e_w (6 + v2)).toNat (e_w ((NN3 q0 (e_w (6 + v2)).toNat) + 7))) q0 (e_w (12 + v2)).toNat (e_w (((e_up NN3 q0 (e_w (6 + v2)).toNat (e_w ((NN3 q0 (e_w (6 + v2)).toNat) + 7))) q0 (e_w (12 + v2)).toNat) + 0)))) fun rr4 NN5 => (if (0 ≤ (e_w (0 + v2)) ∧ (e_w (0 + v2)) < 56) then (f_X11_weekEnds_L18 q0 n 1 v2 1 0 (e_up NN5 q0 (e_w (0 + v2)).toNat rr4)) else none)) else none) else none) else none) else none) else none) else none)))) else (if (M 68 2) ≤ v4 then (f_X11_weekEnds_L18 q0 n 0 (e_w (v2 + 1)) 0 0 M) else (if (0 ≤ v4 ∧ v4 < 12) then (if ¬ (M (101 + v4.toNat) 0) = v2 then (f_X11_weekEnds_L18 q0 n 1 v2 v3 (e_w (v4 + 1)) M) else (f_b (f_X11_isToday q0 v4 M) fun rr6 NN7 => (if ¬ rr6 = 0 then (if v3 = 0 then (if (0 ≤ v4 ∧ v4 < 12) then (if (0 ≤ (e_w (0 + v2)) ∧ (e_w (0 + v2)) < 56) then (f_b (f_X11_less (NN7 (101 + v4.toNat) 2) (NN7 q0 (e_w (0 + v2)).toNat) NN7) fun rr8 NN9 => (if (0 ≤ (e_w (0 + v2)) ∧ (e_w (0 + v2)) < 56) then (if (0 ≤ (e_w (0 + v2)) ∧ (e_w (0 + v2)) < 56) then (if (0 ≤ (e_w (24 + v2)) ∧ (e_w (24 + v2)) < 56) then (if (0 ≤ (e_w (24 + v2)) ∧ (e_w (24 + v2)) < 56) then (f_X11_weekEnds_L18 q0 n 1 v2 v3 (e_w (v4 + 1)) (e_up (e_up NN9 q0 (e_w (0 + v2)).toNat (e_w ((NN9 q0 (e_w (0 + v2)).toNat) - rr8))) q0 (e_w (24 + v2)).toNat (e_w (((e_up NN9 q0 (e_w (0 + v2)).toNat (e_w ((NN9 q0 (e_w (0 + v2)).toNat) - rr8))) q0 (e_w (24 + v2)).toNat) + rr8)))) else none) else none) else none) else none)) else none) else none) else (if (0 ≤ (e_w (42 + v4)) ∧ (e_w (42 + v4)) < 56) then (f_X11_weekEnds_L18 q0 n 1 v2 v3 (e_w (v4 + 1)) (e_up NN7 q0 (e_w (42 + v4)).toNat 1)) else none)) else (f_X11_weekEnds_L18 q0 n 1 v2 v3 (e_w (v4 + 1)) NN7)))) else none)))
theorem s_X11_weekEnds_L18 {X : e_X} {d gn : Nat} {q0 : Nat} (hq0 : e_SH q0 = (20, 56)) (kq0 : q0 ≤ 557) (zq0 : q0 ≠ 0) : ∀ n : Nat, (∀ (v2 : Int) (M M' : e_M) (v : Int), f_X11_weekEnds_L18 q0 n 0 v2 0 0 M = some (v, M') → e_G X (d + 2) YX11_weekEnds 18 [some (.inr (.inr 64)), some (.inr (.inr q0)), some (.inl v2), none, none, none] [] (557, gn, e_RF, M) (.inl none, (557, gn, e_RF, M'))) ∧ (∀ (v2 v3 v4 : Int) (M M' : e_M) (v : Int), f_X11_weekEnds_L18 q0 n 1 v2 v3 v4 M = some (v, M') → e_G X (d + 2) YX11_weekEnds 112 [some (.inr (.inr 64)), some (.inr (.inr q0)), some (.inl v2), some (.inl v3), some (.inl v4), none] [] (557, gn, e_RF, M) (.inl none, (557, gn, e_RF, M'))) := by
  intro n
  induction n with
  | zero => exact ⟨(by intro v2 M M' v h; cases h), (by intro v2 v3 v4 M M' v h; cases h)⟩
  | succ n ih =>
    refine ⟨?_, ?_⟩
    · intro v2 M M' v h
      rw [f_X11_weekEnds_L18, if_pos rfl] at h
      refine wp_X11_weekEnds_18 (d := d + 1) hq0 kq0 zq0 M v2 (f_mn) ?_
      refine ⟨fun c => ?_, fun c => ?_⟩
      · rw [if_pos c] at h
        exact s_X11_weekEnds_218 hq0 kq0 zq0 _ _ _ _ _ h
      · rw [if_neg c] at h
        obtain ⟨rr10, NN11, hc12, h⟩ := f_bd h
        refine ⟨rr10, NN11, s_X11_isSold (d := d + 1) hq0 kq0 zq0 hc12, ?_⟩
        refine ⟨fun c => ?_, fun c => ?_⟩
        · rw [if_pos c] at h
          refine wp_X11_weekEnds_41 (d := d + 1) hq0 kq0 zq0 _ _ _ ?_
          obtain ⟨c13, h⟩ := f_gd h
          refine ⟨c13, ?_⟩
          refine ⟨fun _ => ?_, fun c => absurd c (by decide)⟩
          refine wp_X11_weekEnds_60 (d := d + 1) hq0 kq0 zq0 _ _ _ _ _ _ ?_
          obtain ⟨c14, h⟩ := f_gd h
          refine ⟨c14, ?_⟩
          obtain ⟨c15, h⟩ := f_gd h
          refine ⟨c15, ?_⟩
          refine ⟨fun _ => ?_, fun c => absurd c (by decide)⟩
          refine wp_X11_weekEnds_78 (d := d + 1) hq0 kq0 zq0 _ _ _ _ _ _ (f_mn) ?_
          obtain ⟨c16, h⟩ := f_gd h
          refine ⟨c16, ?_⟩
          refine ⟨fun _ => ?_, fun c => absurd c (by decide)⟩
          exact ih.2 _ _ _ _ _ _ h
        · rw [if_neg (not_not_intro c)] at h
          refine wp_X11_weekEnds_41 (d := d + 1) hq0 kq0 zq0 _ _ _ ?_
          obtain ⟨c17, h⟩ := f_gd h
          refine ⟨c17, ?_⟩
          refine ⟨fun c => absurd c (by decide), fun _ => ?_⟩
          refine wp_X11_weekEnds_60 (d := d + 1) hq0 kq0 zq0 _ _ _ _ _ _ ?_
          obtain ⟨c18, h⟩ := f_gd h
          refine ⟨c18, ?_⟩
          obtain ⟨c19, h⟩ := f_gd h
          refine ⟨c19, ?_⟩
          refine ⟨fun c => absurd c (by decide), fun _ => ?_⟩
          refine wp_X11_weekEnds_78 (d := d + 1) hq0 kq0 zq0 _ _ _ _ _ _ (f_mn) ?_
          obtain ⟨c20, h⟩ := f_gd h
          refine ⟨c20, ?_⟩
          refine ⟨fun c => absurd c (by decide), fun _ => ?_⟩
          obtain ⟨c21, h⟩ := f_gd h
          refine ⟨c21, ?_⟩
          obtain ⟨c22, h⟩ := f_gd h
          refine ⟨c22, ?_⟩
          obtain ⟨rr23, NN24, hc25, h⟩ := f_bd h
          refine ⟨rr23, NN24, s_X11_less (d := d + 1)  hc25, ?_⟩
          obtain ⟨c26, h⟩ := f_gd h
          refine ⟨c26, ?_⟩
          exact ih.2 _ _ _ _ _ _ h
    · intro v2 v3 v4 M M' v h
      rw [f_X11_weekEnds_L18, if_neg (by decide)] at h
      refine wp_X11_weekEnds_112 (d := d + 1) hq0 kq0 zq0 M v2 v3 v4 (f_mn) ?_
      refine ⟨fun c => ?_, fun c => ?_⟩
      · rw [if_pos c] at h
        exact ih.1 _ _ _ _ h
      · rw [if_neg c] at h
        obtain ⟨c27, h⟩ := f_gd h
        refine ⟨c27, ?_⟩
        refine ⟨fun c => ?_, fun c => ?_⟩
        · rw [if_pos c] at h
          exact ih.2 _ _ _ _ _ _ h
        · rw [if_neg (not_not_intro c)] at h
          obtain ⟨rr28, NN29, hc30, h⟩ := f_bd h
          refine ⟨rr28, NN29, s_X11_isToday (d := d + 1) hq0 kq0 zq0 hc30, ?_⟩
          refine ⟨fun c => ?_, fun c => ?_⟩
          · rw [if_pos c] at h
            refine ⟨fun c => ?_, fun c => ?_⟩
            · rw [if_pos c] at h
              obtain ⟨c31, h⟩ := f_gd h
              refine ⟨c31, ?_⟩
              obtain ⟨c32, h⟩ := f_gd h
              refine ⟨c32, ?_⟩
              obtain ⟨rr33, NN34, hc35, h⟩ := f_bd h
              refine ⟨rr33, NN34, s_X11_less (d := d + 1)  hc35, ?_⟩
              obtain ⟨c36, h⟩ := f_gd h
              refine ⟨c36, ?_⟩
              obtain ⟨c37, h⟩ := f_gd h
              refine ⟨c37, ?_⟩
              obtain ⟨c38, h⟩ := f_gd h
              refine ⟨c38, ?_⟩
              obtain ⟨c39, h⟩ := f_gd h
              refine ⟨c39, ?_⟩
              exact ih.2 _ _ _ _ _ _ h
            · rw [if_neg c] at h
              obtain ⟨c40, h⟩ := f_gd h
              refine ⟨c40, ?_⟩
              exact ih.2 _ _ _ _ _ _ h
          · rw [if_neg (not_not_intro c)] at h
            exact ih.2 _ _ _ _ _ _ h
theorem s_X11_weekEnds_18 {X : e_X} {d gn : Nat} {q0 : Nat} (hq0 : e_SH q0 = (20, 56)) (kq0 : q0 ≤ 557) (zq0 : q0 ≠ 0) (n : Nat) : (∀ (v2 : Int) (M M' : e_M) (v : Int), f_X11_weekEnds_L18 q0 n 0 v2 0 0 M = some (v, M') → e_G X (d + 2) YX11_weekEnds 18 [some (.inr (.inr 64)), some (.inr (.inr q0)), some (.inl v2), none, none, none] [] (557, gn, e_RF, M) (.inl none, (557, gn, e_RF, M'))) := (s_X11_weekEnds_L18 hq0 kq0 zq0 n).1
theorem s_X11_weekEnds_112 {X : e_X} {d gn : Nat} {q0 : Nat} (hq0 : e_SH q0 = (20, 56)) (kq0 : q0 ≤ 557) (zq0 : q0 ≠ 0) (n : Nat) : (∀ (v2 v3 v4 : Int) (M M' : e_M) (v : Int), f_X11_weekEnds_L18 q0 n 1 v2 v3 v4 M = some (v, M') → e_G X (d + 2) YX11_weekEnds 112 [some (.inr (.inr 64)), some (.inr (.inr q0)), some (.inl v2), some (.inl v3), some (.inl v4), none] [] (557, gn, e_RF, M) (.inl none, (557, gn, e_RF, M'))) := (s_X11_weekEnds_L18 hq0 kq0 zq0 n).2
def f_X11_weekEnds (q0 : Nat) (n : Nat) (M : e_M) : Option (Int × e_M) := (f_b (f_X11_leftIn q0 n M) fun rr41 NN42 => (f_b (f_X11_worthOf n rr41 NN42) fun rr43 NN44 => (f_X11_weekEnds_L18 q0 n 0 0 0 0 (e_up NN44 q0 54 (e_w ((M q0 54) + rr43))))))
theorem s_X11_weekEnds {X : e_X} {d gn : Nat} {q0 : Nat} (hq0 : e_SH q0 = (20, 56)) (kq0 : q0 ≤ 557) (zq0 : q0 ≠ 0) {n : Nat} {M M' : e_M} {v : Int} (h : f_X11_weekEnds q0 n  M = some (v, M')) : e_E X (d + 2) YX11_weekEnds [.inr (.inr 64), .inr (.inr q0)] (557, gn, e_RF, M) (.inl none, (557, gn, e_RF, M')) := by
  unfold f_X11_weekEnds at h
  refine wp_X11_weekEnds_0 (d := d + 1) hq0 kq0 zq0 M  (f_mn) ?_
  obtain ⟨rr45, NN46, hc47, h⟩ := f_bd h
  refine ⟨rr45, NN46, s_X11_leftIn (d := d) hq0 kq0 zq0 hc47, ?_⟩
  obtain ⟨rr48, NN49, hc50, h⟩ := f_bd h
  refine ⟨rr48, NN49, s_X11_worthOf (d := d)  hc50, ?_⟩
  exact s_X11_weekEnds_18 hq0 kq0 zq0 _ _ _ _ _ h
