def f_X3_mostDays_trial_4 : Nat → Int → Int → e_M → Option (Int × e_M)
  | 0, _, _, _ => none
  | n + 1, v1, v2, M => (if (M 4 0) ≤ v2 then (some (v1, M)) else (if (0 ≤ v2 ∧ v2 < 6) then (f_X3_mostDays_trial_4 n (max v1 (M 45 v2.toNat)) (e_w (v2 + 1)) M) else none))
theorem s_X3_mostDays_trial_4 {X : e_X} {d gn : Nat} : ∀ n : Nat, ∀ (v1 v2 : Int) (M M' : e_M) (v : Int), f_X3_mostDays_trial_4  n v1 v2 M = some (v, M') → e_G X (d + 1) YX3_mostDays 4 [some (.inr (.inr 43)), some (.inl v1), some (.inl v2)] [] (557, gn, e_RF, M) (.inl (some (.inl v)), (557, gn, e_RF, M')) := by
  intro n
  induction n with
  | zero => intro v1 v2 M M' v h; cases h
  | succ n ih =>
    intro v1 v2 M M' v h
    rw [f_X3_mostDays_trial_4] at h
    refine wp_X3_mostDays_trial_4 (d := d)  M v1 v2 ?_
    refine ⟨fun c => ?_, fun c => ?_⟩
    · rw [if_pos c] at h
      cases h; rfl
    · rw [if_neg c] at h
      obtain ⟨c1, h⟩ := f_gd h
      refine ⟨c1, ?_⟩
      exact ih _ _ _ _ _ h
def f_X3_mostDays_trial (n : Nat) (M : e_M) : Option (Int × e_M) := (f_X3_mostDays_trial_4 n 0 0 M)
theorem s_X3_mostDays_trial {X : e_X} {d gn : Nat} {n : Nat} {M M' : e_M} {v : Int} (h : f_X3_mostDays_trial  n  M = some (v, M')) : e_E X (d + 1) YX3_mostDays [.inr (.inr 43)] (557, gn, e_RF, M) (.inl (some (.inl v)), (557, gn, e_RF, M')) := by
  unfold f_X3_mostDays_trial at h
  refine wp_X3_mostDays_trial_0 (d := d)  M  ?_
  exact s_X3_mostDays_trial_4  _ _ _ _ _ _ h
def f_X3_openTasksOn_now_4 : Nat → Int → Int → Int → e_M → Option (Int × e_M)
  | 0, _, _, _, _ => none
  | n + 1, p1, v2, v3, M => (if (M 4 2) ≤ v3 then (some (v2, M)) else (f_b (f_X3_isDone_now v3 M) fun rr1 NN2 => (if ¬ rr1 = 0 then (f_X3_openTasksOn_now_4 n p1 v2 (e_w (v3 + 1)) NN2) else (if (0 ≤ v3 ∧ v3 < 12) then (if ¬ (NN2 42 v3.toNat) = p1 then (f_X3_openTasksOn_now_4 n p1 v2 (e_w (v3 + 1)) NN2) else (f_X3_openTasksOn_now_4 n p1 (e_w (v2 + 1)) (e_w (v3 + 1)) NN2)) else none))))
theorem s_X3_openTasksOn_now_4 {X : e_X} {d gn : Nat} : ∀ n : Nat, ∀ (p1 v2 v3 : Int) (M M' : e_M) (v : Int), f_X3_openTasksOn_now_4  n p1 v2 v3 M = some (v, M') → e_G X (d + 1) YX3_openTasksOn 4 [some (.inr (.inr 36)), some (.inl p1), some (.inl v2), some (.inl v3)] [] (557, gn, e_RF, M) (.inl (some (.inl v)), (557, gn, e_RF, M')) := by
  intro n
  induction n with
  | zero => intro p1 v2 v3 M M' v h; cases h
  | succ n ih =>
    intro p1 v2 v3 M M' v h
    rw [f_X3_openTasksOn_now_4] at h
    refine wp_X3_openTasksOn_now_4 (d := d)  M p1 v2 v3 (f_mn) ?_
    refine ⟨fun c => ?_, fun c => ?_⟩
    · rw [if_pos c] at h
      cases h; rfl
    · rw [if_neg c] at h
      obtain ⟨rr3, NN4, hc5, h⟩ := f_bd h
      refine ⟨rr3, NN4, s_X3_isDone_now (d := d)  hc5, ?_⟩
      refine ⟨fun c => ?_, fun c => ?_⟩
      · rw [if_pos c] at h
        exact ih _ _ _ _ _ _ h
      · rw [if_neg (not_not_intro c)] at h
        obtain ⟨c6, h⟩ := f_gd h
        refine ⟨c6, ?_⟩
        refine ⟨fun c => ?_, fun c => ?_⟩
        · rw [if_pos c] at h
          exact ih _ _ _ _ _ _ h
        · rw [if_neg (not_not_intro c)] at h
          exact ih _ _ _ _ _ _ h
def f_X3_openTasksOn_now (n : Nat) (p1 : Int) (M : e_M) : Option (Int × e_M) := (f_X3_openTasksOn_now_4 n p1 0 0 M)
theorem s_X3_openTasksOn_now {X : e_X} {d gn : Nat} {n : Nat} {p1 : Int} {M M' : e_M} {v : Int} (h : f_X3_openTasksOn_now  n p1 M = some (v, M')) : e_E X (d + 1) YX3_openTasksOn [.inr (.inr 36), .inl p1] (557, gn, e_RF, M) (.inl (some (.inl v)), (557, gn, e_RF, M')) := by
  unfold f_X3_openTasksOn_now at h
  refine wp_X3_openTasksOn_now_0 (d := d)  M p1 ?_
  exact s_X3_openTasksOn_now_4  _ _ _ _ _ _ _ h
def f_X3_openTasksOn_trial_4 : Nat → Int → Int → Int → e_M → Option (Int × e_M)
  | 0, _, _, _, _ => none
  | n + 1, p1, v2, v3, M => (if (M 4 2) ≤ v3 then (some (v2, M)) else (f_b (f_X3_isDone_trial v3 M) fun rr1 NN2 => (if ¬ rr1 = 0 then (f_X3_openTasksOn_trial_4 n p1 v2 (e_w (v3 + 1)) NN2) else (if (0 ≤ v3 ∧ v3 < 12) then (if ¬ (NN2 49 v3.toNat) = p1 then (f_X3_openTasksOn_trial_4 n p1 v2 (e_w (v3 + 1)) NN2) else (f_X3_openTasksOn_trial_4 n p1 (e_w (v2 + 1)) (e_w (v3 + 1)) NN2)) else none))))
theorem s_X3_openTasksOn_trial_4 {X : e_X} {d gn : Nat} : ∀ n : Nat, ∀ (p1 v2 v3 : Int) (M M' : e_M) (v : Int), f_X3_openTasksOn_trial_4  n p1 v2 v3 M = some (v, M') → e_G X (d + 1) YX3_openTasksOn 4 [some (.inr (.inr 43)), some (.inl p1), some (.inl v2), some (.inl v3)] [] (557, gn, e_RF, M) (.inl (some (.inl v)), (557, gn, e_RF, M')) := by
  intro n
  induction n with
  | zero => intro p1 v2 v3 M M' v h; cases h
  | succ n ih =>
    intro p1 v2 v3 M M' v h
    rw [f_X3_openTasksOn_trial_4] at h
    refine wp_X3_openTasksOn_trial_4 (d := d)  M p1 v2 v3 (f_mn) ?_
    refine ⟨fun c => ?_, fun c => ?_⟩
    · rw [if_pos c] at h
      cases h; rfl
    · rw [if_neg c] at h
      obtain ⟨rr3, NN4, hc5, h⟩ := f_bd h
      refine ⟨rr3, NN4, s_X3_isDone_trial (d := d)  hc5, ?_⟩
      refine ⟨fun c => ?_, fun c => ?_⟩
      · rw [if_pos c] at h
        exact ih _ _ _ _ _ _ h
      · rw [if_neg (not_not_intro c)] at h
        obtain ⟨c6, h⟩ := f_gd h
        refine ⟨c6, ?_⟩
        refine ⟨fun c => ?_, fun c => ?_⟩
        · rw [if_pos c] at h
          exact ih _ _ _ _ _ _ h
        · rw [if_neg (not_not_intro c)] at h
          exact ih _ _ _ _ _ _ h
def f_X3_openTasksOn_trial (n : Nat) (p1 : Int) (M : e_M) : Option (Int × e_M) := (f_X3_openTasksOn_trial_4 n p1 0 0 M)
theorem s_X3_openTasksOn_trial {X : e_X} {d gn : Nat} {n : Nat} {p1 : Int} {M M' : e_M} {v : Int} (h : f_X3_openTasksOn_trial  n p1 M = some (v, M')) : e_E X (d + 1) YX3_openTasksOn [.inr (.inr 43), .inl p1] (557, gn, e_RF, M) (.inl (some (.inl v)), (557, gn, e_RF, M')) := by
  unfold f_X3_openTasksOn_trial at h
  refine wp_X3_openTasksOn_trial_0 (d := d)  M p1 ?_
  exact s_X3_openTasksOn_trial_4  _ _ _ _ _ _ _ h
def f_X3_payFine_now (p1 : Int) (M : e_M) : Option (Int × e_M) := (if (0 ≤ p1 ∧ p1 < 12) then (if (0 ≤ (M 9 p1.toNat) ∧ (M 9 p1.toNat) < 6) then (if (0 ≤ p1 ∧ p1 < 12) then (if (0 ≤ (M 9 p1.toNat) ∧ (M 9 p1.toNat) < 6) then (if (0 ≤ (M 9 p1.toNat) ∧ (M 9 p1.toNat) < 6) then (if (0 ≤ (M 9 p1.toNat) ∧ (M 9 p1.toNat) < 6) then (if (0 ≤ (M 9 p1.toNat) ∧ (M 9 p1.toNat) < 6) then (some ((min (M 37 (M 9 p1.toNat).toNat) (M 11 p1.toNat)), (e_up (e_up M 37 (M 9 p1.toNat).toNat (e_w ((M 37 (M 9 p1.toNat).toNat) - (min (M 37 (M 9 p1.toNat).toNat) (M 11 p1.toNat))))) 41 (M 9 p1.toNat).toNat (e_w (((e_up M 37 (M 9 p1.toNat).toNat (e_w ((M 37 (M 9 p1.toNat).toNat) - (min (M 37 (M 9 p1.toNat).toNat) (M 11 p1.toNat))))) 41 (M 9 p1.toNat).toNat) + (min (M 37 (M 9 p1.toNat).toNat) (M 11 p1.toNat))))))) else none) else none) else none) else none) else none) else none) else none)
theorem s_X3_payFine_now {X : e_X} {d gn : Nat} {p1 : Int} {M M' : e_M} {v : Int} (h : f_X3_payFine_now   p1 M = some (v, M')) : e_E X (d + 1) YX3_payFine [.inr (.inr 36), .inl p1] (557, gn, e_RF, M) (.inl (some (.inl v)), (557, gn, e_RF, M')) := by
  unfold f_X3_payFine_now at h
  refine wp_X3_payFine_now_0 (d := d)  M p1 ?_
  obtain ⟨c1, h⟩ := f_gd h
  refine ⟨c1, ?_⟩
  obtain ⟨c2, h⟩ := f_gd h
  refine ⟨c2, ?_⟩
  obtain ⟨c3, h⟩ := f_gd h
  refine ⟨c3, ?_⟩
  obtain ⟨c4, h⟩ := f_gd h
  refine ⟨c4, ?_⟩
  obtain ⟨c5, h⟩ := f_gd h
  refine ⟨c5, ?_⟩
  obtain ⟨c6, h⟩ := f_gd h
  refine ⟨c6, ?_⟩
  obtain ⟨c7, h⟩ := f_gd h
  exact ⟨c7, by cases h; rfl⟩
def f_X3_payFine_trial (p1 : Int) (M : e_M) : Option (Int × e_M) := (if (0 ≤ p1 ∧ p1 < 12) then (if (0 ≤ (M 9 p1.toNat) ∧ (M 9 p1.toNat) < 6) then (if (0 ≤ p1 ∧ p1 < 12) then (if (0 ≤ (M 9 p1.toNat) ∧ (M 9 p1.toNat) < 6) then (if (0 ≤ (M 9 p1.toNat) ∧ (M 9 p1.toNat) < 6) then (if (0 ≤ (M 9 p1.toNat) ∧ (M 9 p1.toNat) < 6) then (if (0 ≤ (M 9 p1.toNat) ∧ (M 9 p1.toNat) < 6) then (some ((min (M 44 (M 9 p1.toNat).toNat) (M 11 p1.toNat)), (e_up (e_up M 44 (M 9 p1.toNat).toNat (e_w ((M 44 (M 9 p1.toNat).toNat) - (min (M 44 (M 9 p1.toNat).toNat) (M 11 p1.toNat))))) 48 (M 9 p1.toNat).toNat (e_w (((e_up M 44 (M 9 p1.toNat).toNat (e_w ((M 44 (M 9 p1.toNat).toNat) - (min (M 44 (M 9 p1.toNat).toNat) (M 11 p1.toNat))))) 48 (M 9 p1.toNat).toNat) + (min (M 44 (M 9 p1.toNat).toNat) (M 11 p1.toNat))))))) else none) else none) else none) else none) else none) else none) else none)
theorem s_X3_payFine_trial {X : e_X} {d gn : Nat} {p1 : Int} {M M' : e_M} {v : Int} (h : f_X3_payFine_trial   p1 M = some (v, M')) : e_E X (d + 1) YX3_payFine [.inr (.inr 43), .inl p1] (557, gn, e_RF, M) (.inl (some (.inl v)), (557, gn, e_RF, M')) := by
  unfold f_X3_payFine_trial at h
  refine wp_X3_payFine_trial_0 (d := d)  M p1 ?_
  obtain ⟨c1, h⟩ := f_gd h
  refine ⟨c1, ?_⟩
  obtain ⟨c2, h⟩ := f_gd h
  refine ⟨c2, ?_⟩
  obtain ⟨c3, h⟩ := f_gd h
  refine ⟨c3, ?_⟩
  obtain ⟨c4, h⟩ := f_gd h
  refine ⟨c4, ?_⟩
  obtain ⟨c5, h⟩ := f_gd h
  refine ⟨c5, ?_⟩
  obtain ⟨c6, h⟩ := f_gd h
  refine ⟨c6, ?_⟩
  obtain ⟨c7, h⟩ := f_gd h
  exact ⟨c7, by cases h; rfl⟩
def f_X3_saveTo_now (n9 : Nat) (q0 : Nat) (p2 : Int) (M : e_M) : Option (Int × e_M) := (if 0 ≤ p2 then (if p2 + 6 ≤ (n9 : Int) then (if 0 ≤ (e_w (p2 + 6)) then (if (e_w (p2 + 6)) + 6 ≤ (n9 : Int) then (if 0 ≤ (e_w (p2 + 12)) then (if (e_w (p2 + 12)) + 6 ≤ (n9 : Int) then (if 0 ≤ (e_w (p2 + 18)) then (if (e_w (p2 + 18)) + 6 ≤ (n9 : Int) then (if 0 ≤ (e_w (p2 + 24)) then (if (e_w (p2 + 24)) + 6 ≤ (n9 : Int) then (if 0 ≤ (e_w (p2 + 30)) then (if (e_w (p2 + 30)) + 12 ≤ (n9 : Int) then (if (0 ≤ (e_w ((e_w (p2 + 45)) - 3)) ∧ (e_w ((e_w (p2 + 45)) - 3)) < (n9 : Int)) then (if (0 ≤ (e_w ((e_w (p2 + 45)) - 2)) ∧ (e_w ((e_w (p2 + 45)) - 2)) < (n9 : Int)) then (if (0 ≤ (e_w ((e_w (p2 + 45)) - 1)) ∧ (e_w ((e_w (p2 + 45)) - 1)) < (n9 : Int)) then (some (0, (e_up (e_up (e_up (e_cp (e_cp (e_cp (e_cp (e_cp (e_cp M 37 0 q0 p2.toNat 6) 38 0 q0 (e_w (p2 + 6)).toNat 6) 39 0 q0 (e_w (p2 + 12)).toNat 6) 40 0 q0 (e_w (p2 + 18)).toNat 6) 41 0 q0 (e_w (p2 + 24)).toNat 6) 42 0 q0 (e_w (p2 + 30)).toNat 12) q0 (e_w ((e_w (p2 + 45)) - 3)).toNat ((e_cp (e_cp (e_cp (e_cp (e_cp (e_cp M 37 0 q0 p2.toNat 6) 38 0 q0 (e_w (p2 + 6)).toNat 6) 39 0 q0 (e_w (p2 + 12)).toNat 6) 40 0 q0 (e_w (p2 + 18)).toNat 6) 41 0 q0 (e_w (p2 + 24)).toNat 6) 42 0 q0 (e_w (p2 + 30)).toNat 12) 36 2)) q0 (e_w ((e_w (p2 + 45)) - 2)).toNat ((e_up (e_cp (e_cp (e_cp (e_cp (e_cp (e_cp M 37 0 q0 p2.toNat 6) 38 0 q0 (e_w (p2 + 6)).toNat 6) 39 0 q0 (e_w (p2 + 12)).toNat 6) 40 0 q0 (e_w (p2 + 18)).toNat 6) 41 0 q0 (e_w (p2 + 24)).toNat 6) 42 0 q0 (e_w (p2 + 30)).toNat 12) q0 (e_w ((e_w (p2 + 45)) - 3)).toNat ((e_cp (e_cp (e_cp (e_cp (e_cp (e_cp M 37 0 q0 p2.toNat 6) 38 0 q0 (e_w (p2 + 6)).toNat 6) 39 0 q0 (e_w (p2 + 12)).toNat 6) 40 0 q0 (e_w (p2 + 18)).toNat 6) 41 0 q0 (e_w (p2 + 24)).toNat 6) 42 0 q0 (e_w (p2 + 30)).toNat 12) 36 2)) 36 3)) q0 (e_w ((e_w (p2 + 45)) - 1)).toNat ((e_up (e_up (e_cp (e_cp (e_cp (e_cp (e_cp (e_cp M 37 0 q0 p2.toNat 6) 38 0 q0 (e_w (p2 + 6)).toNat 6) 39 0 q0 (e_w (p2 + 12)).toNat 6) 40 0 q0 (e_w (p2 + 18)).toNat 6) 41 0 q0 (e_w (p2 + 24)).toNat 6) 42 0 q0 (e_w (p2 + 30)).toNat 12) q0 (e_w ((e_w (p2 + 45)) - 3)).toNat ((e_cp (e_cp (e_cp (e_cp (e_cp (e_cp M 37 0 q0 p2.toNat 6) 38 0 q0 (e_w (p2 + 6)).toNat 6) 39 0 q0 (e_w (p2 + 12)).toNat 6) 40 0 q0 (e_w (p2 + 18)).toNat 6) 41 0 q0 (e_w (p2 + 24)).toNat 6) 42 0 q0 (e_w (p2 + 30)).toNat 12) 36 2)) q0 (e_w ((e_w (p2 + 45)) - 2)).toNat ((e_up (e_cp (e_cp (e_cp (e_cp (e_cp (e_cp M 37 0 q0 p2.toNat 6) 38 0 q0 (e_w (p2 + 6)).toNat 6) 39 0 q0 (e_w (p2 + 12)).toNat 6) 40 0 q0 (e_w (p2 + 18)).toNat 6) 41 0 q0 (e_w (p2 + 24)).toNat 6) 42 0 q0 (e_w (p2 + 30)).toNat 12) q0 (e_w ((e_w (p2 + 45)) - 3)).toNat ((e_cp (e_cp (e_cp (e_cp (e_cp (e_cp M 37 0 q0 p2.toNat 6) 38 0 q0 (e_w (p2 + 6)).toNat 6) 39 0 q0 (e_w (p2 + 12)).toNat 6) 40 0 q0 (e_w (p2 + 18)).toNat 6) 41 0 q0 (e_w (p2 + 24)).toNat 6) 42 0 q0 (e_w (p2 + 30)).toNat 12) 36 2)) 36 3)) 36 4)))) else none) else none) else none) else none) else none) else none) else none) else none) else none) else none) else none) else none) else none) else none) else none)
theorem s_X3_saveTo_now {X : e_X} {d gn : Nat} {n9 : Nat} {q0 : Nat} (hq0 : e_SH q0 = (20, n9)) (kq0 : q0 ≤ 557) (zq0 : q0 ≠ 0) {p2 : Int} {M M' : e_M} {v : Int} (h : f_X3_saveTo_now n9 q0  p2 M = some (v, M')) : e_E X (d + 1) YX3_saveTo [.inr (.inr 36), .inr (.inr q0), .inl p2] (557, gn, e_RF, M) (.inl none, (557, gn, e_RF, M')) := by
  unfold f_X3_saveTo_now at h
  refine wp_X3_saveTo_now_0 (d := d) hq0 kq0 zq0 M p2 ?_
  obtain ⟨c1, h⟩ := f_gd h
  refine ⟨c1, ?_⟩
  obtain ⟨c2, h⟩ := f_gd h
  refine ⟨c2, ?_⟩
  obtain ⟨c3, h⟩ := f_gd h
  refine ⟨c3, ?_⟩
  obtain ⟨c4, h⟩ := f_gd h
  refine ⟨c4, ?_⟩
  obtain ⟨c5, h⟩ := f_gd h
  refine ⟨c5, ?_⟩
  obtain ⟨c6, h⟩ := f_gd h
  refine ⟨c6, ?_⟩
  obtain ⟨c7, h⟩ := f_gd h
  refine ⟨c7, ?_⟩
  obtain ⟨c8, h⟩ := f_gd h
  refine ⟨c8, ?_⟩
  obtain ⟨c9, h⟩ := f_gd h
  refine ⟨c9, ?_⟩
  obtain ⟨c10, h⟩ := f_gd h
  refine ⟨c10, ?_⟩
  obtain ⟨c11, h⟩ := f_gd h
  refine ⟨c11, ?_⟩
  obtain ⟨c12, h⟩ := f_gd h
  refine ⟨c12, ?_⟩
  obtain ⟨c13, h⟩ := f_gd h
  refine ⟨c13, ?_⟩
  obtain ⟨c14, h⟩ := f_gd h
  refine ⟨c14, ?_⟩
  obtain ⟨c15, h⟩ := f_gd h
  exact ⟨c15, by cases h; rfl⟩
def f_X3_saveTo_trial (n9 : Nat) (q0 : Nat) (p2 : Int) (M : e_M) : Option (Int × e_M) := (if 0 ≤ p2 then (if p2 + 6 ≤ (n9 : Int) then (if 0 ≤ (e_w (p2 + 6)) then (if (e_w (p2 + 6)) + 6 ≤ (n9 : Int) then (if 0 ≤ (e_w (p2 + 12)) then (if (e_w (p2 + 12)) + 6 ≤ (n9 : Int) then (if 0 ≤ (e_w (p2 + 18)) then (if (e_w (p2 + 18)) + 6 ≤ (n9 : Int) then (if 0 ≤ (e_w (p2 + 24)) then (if (e_w (p2 + 24)) + 6 ≤ (n9 : Int) then (if 0 ≤ (e_w (p2 + 30)) then (if (e_w (p2 + 30)) + 12 ≤ (n9 : Int) then (if (0 ≤ (e_w ((e_w (p2 + 45)) - 3)) ∧ (e_w ((e_w (p2 + 45)) - 3)) < (n9 : Int)) then (if (0 ≤ (e_w ((e_w (p2 + 45)) - 2)) ∧ (e_w ((e_w (p2 + 45)) - 2)) < (n9 : Int)) then (if (0 ≤ (e_w ((e_w (p2 + 45)) - 1)) ∧ (e_w ((e_w (p2 + 45)) - 1)) < (n9 : Int)) then (some (0, (e_up (e_up (e_up (e_cp (e_cp (e_cp (e_cp (e_cp (e_cp M 44 0 q0 p2.toNat 6) 45 0 q0 (e_w (p2 + 6)).toNat 6) 46 0 q0 (e_w (p2 + 12)).toNat 6) 47 0 q0 (e_w (p2 + 18)).toNat 6) 48 0 q0 (e_w (p2 + 24)).toNat 6) 49 0 q0 (e_w (p2 + 30)).toNat 12) q0 (e_w ((e_w (p2 + 45)) - 3)).toNat ((e_cp (e_cp (e_cp (e_cp (e_cp (e_cp M 44 0 q0 p2.toNat 6) 45 0 q0 (e_w (p2 + 6)).toNat 6) 46 0 q0 (e_w (p2 + 12)).toNat 6) 47 0 q0 (e_w (p2 + 18)).toNat 6) 48 0 q0 (e_w (p2 + 24)).toNat 6) 49 0 q0 (e_w (p2 + 30)).toNat 12) 43 2)) q0 (e_w ((e_w (p2 + 45)) - 2)).toNat ((e_up (e_cp (e_cp (e_cp (e_cp (e_cp (e_cp M 44 0 q0 p2.toNat 6) 45 0 q0 (e_w (p2 + 6)).toNat 6) 46 0 q0 (e_w (p2 + 12)).toNat 6) 47 0 q0 (e_w (p2 + 18)).toNat 6) 48 0 q0 (e_w (p2 + 24)).toNat 6) 49 0 q0 (e_w (p2 + 30)).toNat 12) q0 (e_w ((e_w (p2 + 45)) - 3)).toNat ((e_cp (e_cp (e_cp (e_cp (e_cp (e_cp M 44 0 q0 p2.toNat 6) 45 0 q0 (e_w (p2 + 6)).toNat 6) 46 0 q0 (e_w (p2 + 12)).toNat 6) 47 0 q0 (e_w (p2 + 18)).toNat 6) 48 0 q0 (e_w (p2 + 24)).toNat 6) 49 0 q0 (e_w (p2 + 30)).toNat 12) 43 2)) 43 3)) q0 (e_w ((e_w (p2 + 45)) - 1)).toNat ((e_up (e_up (e_cp (e_cp (e_cp (e_cp (e_cp (e_cp M 44 0 q0 p2.toNat 6) 45 0 q0 (e_w (p2 + 6)).toNat 6) 46 0 q0 (e_w (p2 + 12)).toNat 6) 47 0 q0 (e_w (p2 + 18)).toNat 6) 48 0 q0 (e_w (p2 + 24)).toNat 6) 49 0 q0 (e_w (p2 + 30)).toNat 12) q0 (e_w ((e_w (p2 + 45)) - 3)).toNat ((e_cp (e_cp (e_cp (e_cp (e_cp (e_cp M 44 0 q0 p2.toNat 6) 45 0 q0 (e_w (p2 + 6)).toNat 6) 46 0 q0 (e_w (p2 + 12)).toNat 6) 47 0 q0 (e_w (p2 + 18)).toNat 6) 48 0 q0 (e_w (p2 + 24)).toNat 6) 49 0 q0 (e_w (p2 + 30)).toNat 12) 43 2)) q0 (e_w ((e_w (p2 + 45)) - 2)).toNat ((e_up (e_cp (e_cp (e_cp (e_cp (e_cp (e_cp M 44 0 q0 p2.toNat 6) 45 0 q0 (e_w (p2 + 6)).toNat 6) 46 0 q0 (e_w (p2 + 12)).toNat 6) 47 0 q0 (e_w (p2 + 18)).toNat 6) 48 0 q0 (e_w (p2 + 24)).toNat 6) 49 0 q0 (e_w (p2 + 30)).toNat 12) q0 (e_w ((e_w (p2 + 45)) - 3)).toNat ((e_cp (e_cp (e_cp (e_cp (e_cp (e_cp M 44 0 q0 p2.toNat 6) 45 0 q0 (e_w (p2 + 6)).toNat 6) 46 0 q0 (e_w (p2 + 12)).toNat 6) 47 0 q0 (e_w (p2 + 18)).toNat 6) 48 0 q0 (e_w (p2 + 24)).toNat 6) 49 0 q0 (e_w (p2 + 30)).toNat 12) 43 2)) 43 3)) 43 4)))) else none) else none) else none) else none) else none) else none) else none) else none) else none) else none) else none) else none) else none) else none) else none)
theorem s_X3_saveTo_trial {X : e_X} {d gn : Nat} {n9 : Nat} {q0 : Nat} (hq0 : e_SH q0 = (20, n9)) (kq0 : q0 ≤ 557) (zq0 : q0 ≠ 0) {p2 : Int} {M M' : e_M} {v : Int} (h : f_X3_saveTo_trial n9 q0  p2 M = some (v, M')) : e_E X (d + 1) YX3_saveTo [.inr (.inr 43), .inr (.inr q0), .inl p2] (557, gn, e_RF, M) (.inl none, (557, gn, e_RF, M')) := by
  unfold f_X3_saveTo_trial at h
  refine wp_X3_saveTo_trial_0 (d := d) hq0 kq0 zq0 M p2 ?_
  obtain ⟨c1, h⟩ := f_gd h
  refine ⟨c1, ?_⟩
  obtain ⟨c2, h⟩ := f_gd h
  refine ⟨c2, ?_⟩
  obtain ⟨c3, h⟩ := f_gd h
  refine ⟨c3, ?_⟩
  obtain ⟨c4, h⟩ := f_gd h
  refine ⟨c4, ?_⟩
  obtain ⟨c5, h⟩ := f_gd h
  refine ⟨c5, ?_⟩
  obtain ⟨c6, h⟩ := f_gd h
  refine ⟨c6, ?_⟩
  obtain ⟨c7, h⟩ := f_gd h
  refine ⟨c7, ?_⟩
  obtain ⟨c8, h⟩ := f_gd h
  refine ⟨c8, ?_⟩
  obtain ⟨c9, h⟩ := f_gd h
  refine ⟨c9, ?_⟩
  obtain ⟨c10, h⟩ := f_gd h
  refine ⟨c10, ?_⟩
  obtain ⟨c11, h⟩ := f_gd h
  refine ⟨c11, ?_⟩
  obtain ⟨c12, h⟩ := f_gd h
  refine ⟨c12, ?_⟩
  obtain ⟨c13, h⟩ := f_gd h
  refine ⟨c13, ?_⟩
  obtain ⟨c14, h⟩ := f_gd h
  refine ⟨c14, ?_⟩
  obtain ⟨c15, h⟩ := f_gd h
  exact ⟨c15, by cases h; rfl⟩
def f_X3_sellBack_now (p1 : Int) (M : e_M) : Option (Int × e_M) := (f_b (f_X3_hasBought_now p1 M) fun rr1 NN2 => (if ¬ rr1 = 0 then (if (0 ≤ p1 ∧ p1 < 6) then (if (0 ≤ p1 ∧ p1 < 6) then (if (0 ≤ p1 ∧ p1 < 6) then (if (0 ≤ p1 ∧ p1 < 6) then (some (1, (e_up (e_up NN2 37 p1.toNat (e_w ((NN2 37 p1.toNat) + (e_w (Int.tdiv (NN2 40 p1.toNat) 2))))) 40 p1.toNat (-1)))) else none) else none) else none) else none) else (some (0, NN2))))
theorem s_X3_sellBack_now {X : e_X} {d gn : Nat} {p1 : Int} {M M' : e_M} {v : Int} (h : f_X3_sellBack_now   p1 M = some (v, M')) : e_E X (d + 1) YX3_sellBack [.inr (.inr 36), .inl p1] (557, gn, e_RF, M) (.inl (some (.inl v)), (557, gn, e_RF, M')) := by
  unfold f_X3_sellBack_now at h
  refine wp_X3_sellBack_now_0 (d := d)  M p1 (f_mn) ?_
  obtain ⟨rr3, NN4, hc5, h⟩ := f_bd h
  refine ⟨rr3, NN4, s_X3_hasBought_now (d := d)  hc5, ?_⟩
  refine ⟨fun c => ?_, fun c => ?_⟩
  · rw [if_pos c] at h
    obtain ⟨c6, h⟩ := f_gd h
    refine ⟨c6, ?_⟩
    obtain ⟨c7, h⟩ := f_gd h
    refine ⟨c7, ?_⟩
    obtain ⟨c8, h⟩ := f_gd h
    refine ⟨c8, ?_⟩
    obtain ⟨c9, h⟩ := f_gd h
    exact ⟨c9, by cases h; rfl⟩
  · rw [if_neg (not_not_intro c)] at h
    cases h; rfl
def f_X3_sellBack_trial (p1 : Int) (M : e_M) : Option (Int × e_M) := (f_b (f_X3_hasBought_trial p1 M) fun rr1 NN2 => (if ¬ rr1 = 0 then (if (0 ≤ p1 ∧ p1 < 6) then (if (0 ≤ p1 ∧ p1 < 6) then (if (0 ≤ p1 ∧ p1 < 6) then (if (0 ≤ p1 ∧ p1 < 6) then (some (1, (e_up (e_up NN2 44 p1.toNat (e_w ((NN2 44 p1.toNat) + (e_w (Int.tdiv (NN2 47 p1.toNat) 2))))) 47 p1.toNat (-1)))) else none) else none) else none) else none) else (some (0, NN2))))
theorem s_X3_sellBack_trial {X : e_X} {d gn : Nat} {p1 : Int} {M M' : e_M} {v : Int} (h : f_X3_sellBack_trial   p1 M = some (v, M')) : e_E X (d + 1) YX3_sellBack [.inr (.inr 43), .inl p1] (557, gn, e_RF, M) (.inl (some (.inl v)), (557, gn, e_RF, M')) := by
  unfold f_X3_sellBack_trial at h
  refine wp_X3_sellBack_trial_0 (d := d)  M p1 (f_mn) ?_
  obtain ⟨rr3, NN4, hc5, h⟩ := f_bd h
  refine ⟨rr3, NN4, s_X3_hasBought_trial (d := d)  hc5, ?_⟩
  refine ⟨fun c => ?_, fun c => ?_⟩
  · rw [if_pos c] at h
    obtain ⟨c6, h⟩ := f_gd h
    refine ⟨c6, ?_⟩
    obtain ⟨c7, h⟩ := f_gd h
    refine ⟨c7, ?_⟩
    obtain ⟨c8, h⟩ := f_gd h
    refine ⟨c8, ?_⟩
    obtain ⟨c9, h⟩ := f_gd h
    exact ⟨c9, by cases h; rfl⟩
  · rw [if_neg (not_not_intro c)] at h
    cases h; rfl
def f_X3_stayingBits_now (n : Nat) (M : e_M) : Option (Int × e_M) := (f_b (f_X10_bitsBelow (M 4 0) M) fun rr1 NN2 => (f_b (f_X3_boughtBits_now n NN2) fun rr3 NN4 => (some ((e_and rr1 (e_xor rr3 (-1))), NN4))))
theorem s_X3_stayingBits_now {X : e_X} {d gn : Nat} {n : Nat} {M M' : e_M} {v : Int} (h : f_X3_stayingBits_now  n  M = some (v, M')) : e_E X (d + 1) YX3_stayingBits [.inr (.inr 36)] (557, gn, e_RF, M) (.inl (some (.inl v)), (557, gn, e_RF, M')) := by
  unfold f_X3_stayingBits_now at h
  refine wp_X3_stayingBits_now_0 (d := d)  M  (f_mn) ?_
  obtain ⟨rr5, NN6, hc7, h⟩ := f_bd h
  refine ⟨rr5, NN6, s_X10_bitsBelow (d := d)  hc7, ?_⟩
  obtain ⟨rr8, NN9, hc10, h⟩ := f_bd h
  refine ⟨rr8, NN9, s_X3_boughtBits_now (d := d)  hc10, ?_⟩
  cases h; rfl
def f_X3_stayingBits_trial (n : Nat) (M : e_M) : Option (Int × e_M) := (f_b (f_X10_bitsBelow (M 4 0) M) fun rr1 NN2 => (f_b (f_X3_boughtBits_trial n NN2) fun rr3 NN4 => (some ((e_and rr1 (e_xor rr3 (-1))), NN4))))
theorem s_X3_stayingBits_trial {X : e_X} {d gn : Nat} {n : Nat} {M M' : e_M} {v : Int} (h : f_X3_stayingBits_trial  n  M = some (v, M')) : e_E X (d + 1) YX3_stayingBits [.inr (.inr 43)] (557, gn, e_RF, M) (.inl (some (.inl v)), (557, gn, e_RF, M')) := by
  unfold f_X3_stayingBits_trial at h
  refine wp_X3_stayingBits_trial_0 (d := d)  M  (f_mn) ?_
  obtain ⟨rr5, NN6, hc7, h⟩ := f_bd h
  refine ⟨rr5, NN6, s_X10_bitsBelow (d := d)  hc7, ?_⟩
  obtain ⟨rr8, NN9, hc10, h⟩ := f_bd h
  refine ⟨rr8, NN9, s_X3_boughtBits_trial (d := d)  hc10, ?_⟩
  cases h; rfl
def f_X3_tasksNow_now_4 : Nat → Int → Int → Int → e_M → Option (Int × e_M)
  | 0, _, _, _, _ => none
  | n + 1, p1, v2, v3, M => (if (M 4 2) ≤ v3 then (some (v2, M)) else (if (0 ≤ v3 ∧ v3 < 12) then (if ¬ (M 9 v3.toNat) = p1 then (f_X3_tasksNow_now_4 n p1 v2 (e_w (v3 + 1)) M) else (f_b (f_X3_fallsNow_now v3 M) fun rr1 NN2 => (if rr1 = 0 then (f_X3_tasksNow_now_4 n p1 v2 (e_w (v3 + 1)) NN2) else (f_X3_tasksNow_now_4 n p1 (e_w (v2 + 1)) (e_w (v3 + 1)) NN2)))) else none))
theorem s_X3_tasksNow_now_4 {X : e_X} {d gn : Nat} : ∀ n : Nat, ∀ (p1 v2 v3 : Int) (M M' : e_M) (v : Int), f_X3_tasksNow_now_4  n p1 v2 v3 M = some (v, M') → e_G X (d + 1) YX3_tasksNow 4 [some (.inr (.inr 36)), some (.inl p1), some (.inl v2), some (.inl v3)] [] (557, gn, e_RF, M) (.inl (some (.inl v)), (557, gn, e_RF, M')) := by
  intro n
  induction n with
  | zero => intro p1 v2 v3 M M' v h; cases h
  | succ n ih =>
    intro p1 v2 v3 M M' v h
    rw [f_X3_tasksNow_now_4] at h
    refine wp_X3_tasksNow_now_4 (d := d)  M p1 v2 v3 (f_mn) ?_
    refine ⟨fun c => ?_, fun c => ?_⟩
    · rw [if_pos c] at h
      cases h; rfl
    · rw [if_neg c] at h
      obtain ⟨c3, h⟩ := f_gd h
      refine ⟨c3, ?_⟩
      refine ⟨fun c => ?_, fun c => ?_⟩
      · rw [if_pos c] at h
        exact ih _ _ _ _ _ _ h
      · rw [if_neg (not_not_intro c)] at h
        obtain ⟨rr4, NN5, hc6, h⟩ := f_bd h
        refine ⟨rr4, NN5, s_X3_fallsNow_now (d := d)  hc6, ?_⟩
        refine ⟨fun c => ?_, fun c => ?_⟩
        · rw [if_pos c] at h
          exact ih _ _ _ _ _ _ h
        · rw [if_neg c] at h
          exact ih _ _ _ _ _ _ h
def f_X3_tasksNow_now (n : Nat) (p1 : Int) (M : e_M) : Option (Int × e_M) := (f_X3_tasksNow_now_4 n p1 0 0 M)
theorem s_X3_tasksNow_now {X : e_X} {d gn : Nat} {n : Nat} {p1 : Int} {M M' : e_M} {v : Int} (h : f_X3_tasksNow_now  n p1 M = some (v, M')) : e_E X (d + 1) YX3_tasksNow [.inr (.inr 36), .inl p1] (557, gn, e_RF, M) (.inl (some (.inl v)), (557, gn, e_RF, M')) := by
  unfold f_X3_tasksNow_now at h
  refine wp_X3_tasksNow_now_0 (d := d)  M p1 ?_
  exact s_X3_tasksNow_now_4  _ _ _ _ _ _ _ h
def f_X3_tasksNow_trial_4 : Nat → Int → Int → Int → e_M → Option (Int × e_M)
  | 0, _, _, _, _ => none
  | n + 1, p1, v2, v3, M => (if (M 4 2) ≤ v3 then (some (v2, M)) else (if (0 ≤ v3 ∧ v3 < 12) then (if ¬ (M 9 v3.toNat) = p1 then (f_X3_tasksNow_trial_4 n p1 v2 (e_w (v3 + 1)) M) else (f_b (f_X3_fallsNow_trial v3 M) fun rr1 NN2 => (if rr1 = 0 then (f_X3_tasksNow_trial_4 n p1 v2 (e_w (v3 + 1)) NN2) else (f_X3_tasksNow_trial_4 n p1 (e_w (v2 + 1)) (e_w (v3 + 1)) NN2)))) else none))
theorem s_X3_tasksNow_trial_4 {X : e_X} {d gn : Nat} : ∀ n : Nat, ∀ (p1 v2 v3 : Int) (M M' : e_M) (v : Int), f_X3_tasksNow_trial_4  n p1 v2 v3 M = some (v, M') → e_G X (d + 1) YX3_tasksNow 4 [some (.inr (.inr 43)), some (.inl p1), some (.inl v2), some (.inl v3)] [] (557, gn, e_RF, M) (.inl (some (.inl v)), (557, gn, e_RF, M')) := by
  intro n
  induction n with
  | zero => intro p1 v2 v3 M M' v h; cases h
  | succ n ih =>
    intro p1 v2 v3 M M' v h
    rw [f_X3_tasksNow_trial_4] at h
    refine wp_X3_tasksNow_trial_4 (d := d)  M p1 v2 v3 (f_mn) ?_
    refine ⟨fun c => ?_, fun c => ?_⟩
    · rw [if_pos c] at h
      cases h; rfl
    · rw [if_neg c] at h
      obtain ⟨c3, h⟩ := f_gd h
      refine ⟨c3, ?_⟩
      refine ⟨fun c => ?_, fun c => ?_⟩
      · rw [if_pos c] at h
        exact ih _ _ _ _ _ _ h
      · rw [if_neg (not_not_intro c)] at h
        obtain ⟨rr4, NN5, hc6, h⟩ := f_bd h
        refine ⟨rr4, NN5, s_X3_fallsNow_trial (d := d)  hc6, ?_⟩
        refine ⟨fun c => ?_, fun c => ?_⟩
        · rw [if_pos c] at h
          exact ih _ _ _ _ _ _ h
        · rw [if_neg c] at h
          exact ih _ _ _ _ _ _ h
def f_X3_tasksNow_trial (n : Nat) (p1 : Int) (M : e_M) : Option (Int × e_M) := (f_X3_tasksNow_trial_4 n p1 0 0 M)
theorem s_X3_tasksNow_trial {X : e_X} {d gn : Nat} {n : Nat} {p1 : Int} {M M' : e_M} {v : Int} (h : f_X3_tasksNow_trial  n p1 M = some (v, M')) : e_E X (d + 1) YX3_tasksNow [.inr (.inr 43), .inl p1] (557, gn, e_RF, M) (.inl (some (.inl v)), (557, gn, e_RF, M')) := by
  unfold f_X3_tasksNow_trial at h
  refine wp_X3_tasksNow_trial_0 (d := d)  M p1 ?_
  exact s_X3_tasksNow_trial_4  _ _ _ _ _ _ _ h
def f_X3_worthOf_now_4 : Nat → Int → Int → Int → e_M → Option (Int × e_M)
  | 0, _, _, _, _ => none
  | n + 1, p1, v2, v3, M => (if (M 4 1) ≤ v3 then (some (v2, M)) else (if (e_and (e_shr p1 v3) 1) = 0 then (f_X3_worthOf_now_4 n p1 v2 (e_w (v3 + 1)) M) else (if (0 ≤ v3 ∧ v3 < 6) then (f_X3_worthOf_now_4 n p1 (e_w (v2 + (M 8 v3.toNat))) (e_w (v3 + 1)) M) else none)))
theorem s_X3_worthOf_now_4 {X : e_X} {d gn : Nat} : ∀ n : Nat, ∀ (p1 v2 v3 : Int) (M M' : e_M) (v : Int), f_X3_worthOf_now_4  n p1 v2 v3 M = some (v, M') → e_G X d YX3_worthOf 4 [some (.inr (.inr 36)), some (.inl p1), some (.inl v2), some (.inl v3)] [] (557, gn, e_RF, M) (.inl (some (.inl v)), (557, gn, e_RF, M')) := by
  intro n
  induction n with
  | zero => intro p1 v2 v3 M M' v h; cases h
  | succ n ih =>
    intro p1 v2 v3 M M' v h
    rw [f_X3_worthOf_now_4] at h
    refine wp_X3_worthOf_now_4  M p1 v2 v3 ?_
    refine ⟨fun c => ?_, fun c => ?_⟩
    · rw [if_pos c] at h
      cases h; rfl
    · rw [if_neg c] at h
      refine ⟨fun c => ?_, fun c => ?_⟩
      · rw [if_pos c] at h
        exact ih _ _ _ _ _ _ h
      · rw [if_neg c] at h
        obtain ⟨c1, h⟩ := f_gd h
        refine ⟨c1, ?_⟩
        exact ih _ _ _ _ _ _ h
def f_X3_worthOf_now (n : Nat) (p1 : Int) (M : e_M) : Option (Int × e_M) := (f_X3_worthOf_now_4 n p1 0 0 M)
theorem s_X3_worthOf_now {X : e_X} {d gn : Nat} {n : Nat} {p1 : Int} {M M' : e_M} {v : Int} (h : f_X3_worthOf_now  n p1 M = some (v, M')) : e_E X d YX3_worthOf [.inr (.inr 36), .inl p1] (557, gn, e_RF, M) (.inl (some (.inl v)), (557, gn, e_RF, M')) := by
  unfold f_X3_worthOf_now at h
  refine wp_X3_worthOf_now_0  M p1 ?_
  exact s_X3_worthOf_now_4  _ _ _ _ _ _ _ h
def f_X3_worthOf_trial_4 : Nat → Int → Int → Int → e_M → Option (Int × e_M)
  | 0, _, _, _, _ => none
  | n + 1, p1, v2, v3, M => (if (M 4 1) ≤ v3 then (some (v2, M)) else (if (e_and (e_shr p1 v3) 1) = 0 then (f_X3_worthOf_trial_4 n p1 v2 (e_w (v3 + 1)) M) else (if (0 ≤ v3 ∧ v3 < 6) then (f_X3_worthOf_trial_4 n p1 (e_w (v2 + (M 8 v3.toNat))) (e_w (v3 + 1)) M) else none)))
theorem s_X3_worthOf_trial_4 {X : e_X} {d gn : Nat} : ∀ n : Nat, ∀ (p1 v2 v3 : Int) (M M' : e_M) (v : Int), f_X3_worthOf_trial_4  n p1 v2 v3 M = some (v, M') → e_G X d YX3_worthOf 4 [some (.inr (.inr 43)), some (.inl p1), some (.inl v2), some (.inl v3)] [] (557, gn, e_RF, M) (.inl (some (.inl v)), (557, gn, e_RF, M')) := by
  intro n
  induction n with
  | zero => intro p1 v2 v3 M M' v h; cases h
  | succ n ih =>
    intro p1 v2 v3 M M' v h
    rw [f_X3_worthOf_trial_4] at h
    refine wp_X3_worthOf_trial_4  M p1 v2 v3 ?_
    refine ⟨fun c => ?_, fun c => ?_⟩
    · rw [if_pos c] at h
      cases h; rfl
    · rw [if_neg c] at h
      refine ⟨fun c => ?_, fun c => ?_⟩
      · rw [if_pos c] at h
        exact ih _ _ _ _ _ _ h
      · rw [if_neg c] at h
        obtain ⟨c1, h⟩ := f_gd h
        refine ⟨c1, ?_⟩
        exact ih _ _ _ _ _ _ h
def f_X3_worthOf_trial (n : Nat) (p1 : Int) (M : e_M) : Option (Int × e_M) := (f_X3_worthOf_trial_4 n p1 0 0 M)
theorem s_X3_worthOf_trial {X : e_X} {d gn : Nat} {n : Nat} {p1 : Int} {M M' : e_M} {v : Int} (h : f_X3_worthOf_trial  n p1 M = some (v, M')) : e_E X d YX3_worthOf [.inr (.inr 43), .inl p1] (557, gn, e_RF, M) (.inl (some (.inl v)), (557, gn, e_RF, M')) := by
  unfold f_X3_worthOf_trial at h
  refine wp_X3_worthOf_trial_0  M p1 ?_
  exact s_X3_worthOf_trial_4  _ _ _ _ _ _ _ h
def f_X4_forgetRefused (M : e_M) : Option (Int × e_M) := (some (0, (e_up M 32 6 0)))
theorem s_X4_forgetRefused {X : e_X} {d gn : Nat} {M M' : e_M} {v : Int} (h : f_X4_forgetRefused    M = some (v, M')) : e_E X d YX4_forgetRefused [.inr (.inr 32)] (557, gn, e_RF, M) (.inl none, (557, gn, e_RF, M')) := by
  unfold f_X4_forgetRefused at h
  refine wp_X4_forgetRefused_0  M  ?_
  cases h; rfl
def f_X5_copyFrom (a0 : Nat) (b0 : Nat) (n0 : Nat) (a1 : Nat) (b1 : Nat) (n1 : Nat) (M : e_M) : Option (Int × e_M) := (if 0 ≤ (e_w (((e_up M a0 1 (M a1 1)) a0 1) * 45)) then (if 0 + (e_w (((e_up M a0 1 (M a1 1)) a0 1) * 45)) ≤ (n1 : Int) then (if 0 + (e_w (((e_up M a0 1 (M a1 1)) a0 1) * 45)) ≤ (n0 : Int) then (some (0, (e_cp (e_up M a0 1 (M a1 1)) b1 0 b0 0 (e_w (((e_up M a0 1 (M a1 1)) a0 1) * 45)).toNat))) else none) else none) else none)
theorem s_X5_copyFrom {X : e_X} {d gn : Nat} {a0 : Nat} {b0 : Nat} {n0 : Nat} {a1 : Nat} {b1 : Nat} {n1 : Nat} (ha0 : e_SH a0 = (5, 2)) (ka0 : a0 ≤ 557) (za0 : a0 ≠ 0) (ra0 : e_RF a0 0 = b0) (hb0 : e_SH b0 = (20, n0)) (kb0 : b0 ≤ 557) (zb0 : b0 ≠ 0) (ha1 : e_SH a1 = (5, 2)) (ka1 : a1 ≤ 557) (za1 : a1 ≠ 0) (ra1 : e_RF a1 0 = b1) (hb1 : e_SH b1 = (20, n1)) (kb1 : b1 ≤ 557) (zb1 : b1 ≠ 0) {M M' : e_M} {v : Int} (h : f_X5_copyFrom a0 b0 n0 a1 b1 n1   M = some (v, M')) : e_E X (d + 1) YX5_copyFrom [.inr (.inr a0), .inr (.inr a1)] (557, gn, e_RF, M) (.inl none, (557, gn, e_RF, M')) := by
  unfold f_X5_copyFrom at h
  refine wp_X5_copyFrom_0 (d := d) ha0 ka0 za0 ra0 hb0 kb0 zb0 ha1 ka1 za1 ra1 hb1 kb1 zb1 M  ?_
  obtain ⟨c1, h⟩ := f_gd h
  refine ⟨c1, ?_⟩
  obtain ⟨c2, h⟩ := f_gd h
  refine ⟨c2, ?_⟩
  obtain ⟨c3, h⟩ := f_gd h
  exact ⟨c3, by cases h; rfl⟩
def f_X5_drop (a0 : Nat) (b0 : Nat) (n0 : Nat) (M : e_M) : Option (Int × e_M) := (some (0, (e_up M a0 1 0)))
theorem s_X5_drop {X : e_X} {d gn : Nat} {a0 : Nat} {b0 : Nat} {n0 : Nat} (ha0 : e_SH a0 = (5, 2)) (ka0 : a0 ≤ 557) (za0 : a0 ≠ 0) (ra0 : e_RF a0 0 = b0) (hb0 : e_SH b0 = (20, n0)) (kb0 : b0 ≤ 557) (zb0 : b0 ≠ 0) {M M' : e_M} {v : Int} (h : f_X5_drop a0 b0 n0   M = some (v, M')) : e_E X d YX5_drop [.inr (.inr a0)] (557, gn, e_RF, M) (.inl none, (557, gn, e_RF, M')) := by
  unfold f_X5_drop at h
  refine wp_X5_drop_0 ha0 ka0 za0 ra0 hb0 kb0 zb0 M  ?_
  cases h; rfl
def f_X5_popInto (a0 : Nat) (b0 : Nat) (n0 : Nat) (M : e_M) : Option (Int × e_M) := (if 0 < (M a0 1) then (f_b (f_X3_loadFrom_now n0 b0 (e_w (((e_up M a0 1 (e_w ((M a0 1) - 1))) a0 1) * 45)) (e_up M a0 1 (e_w ((M a0 1) - 1)))) fun _ NN2 => (some (1, NN2))) else (some (0, M)))
theorem s_X5_popInto {X : e_X} {d gn : Nat} {a0 : Nat} {b0 : Nat} {n0 : Nat} (ha0 : e_SH a0 = (5, 2)) (ka0 : a0 ≤ 557) (za0 : a0 ≠ 0) (ra0 : e_RF a0 0 = b0) (hb0 : e_SH b0 = (20, n0)) (kb0 : b0 ≤ 557) (zb0 : b0 ≠ 0) {M M' : e_M} {v : Int} (h : f_X5_popInto a0 b0 n0   M = some (v, M')) : e_E X (d + 2) YX5_popInto [.inr (.inr a0), .inr (.inr 36)] (557, gn, e_RF, M) (.inl (some (.inl v)), (557, gn, e_RF, M')) := by
  unfold f_X5_popInto at h
  refine wp_X5_popInto_0 (d := d + 1) ha0 ka0 za0 ra0 hb0 kb0 zb0 M  (f_mn) ?_
  refine ⟨fun c => ?_, fun c => ?_⟩
  · rw [if_pos c] at h
    obtain ⟨rr3, NN4, hc5, h⟩ := f_bd h
    refine ⟨NN4, s_X3_loadFrom_now (d := d) hb0 kb0 zb0 hc5, ?_⟩
    cases h; rfl
  · rw [if_neg c] at h
    cases h; rfl
def f_X5_push (a0 : Nat) (b0 : Nat) (n0 : Nat) (M : e_M) : Option (Int × e_M) := (if 17 ≤ (M a0 1) then (some (0, M)) else (f_b (f_X3_saveTo_now n0 b0 (e_w ((M a0 1) * 45)) M) fun _ NN2 => (some (0, (e_up NN2 a0 1 (e_w ((NN2 a0 1) + 1)))))))
theorem s_X5_push {X : e_X} {d gn : Nat} {a0 : Nat} {b0 : Nat} {n0 : Nat} (ha0 : e_SH a0 = (5, 2)) (ka0 : a0 ≤ 557) (za0 : a0 ≠ 0) (ra0 : e_RF a0 0 = b0) (hb0 : e_SH b0 = (20, n0)) (kb0 : b0 ≤ 557) (zb0 : b0 ≠ 0) {M M' : e_M} {v : Int} (h : f_X5_push a0 b0 n0   M = some (v, M')) : e_E X (d + 2) YX5_push [.inr (.inr a0), .inr (.inr 36)] (557, gn, e_RF, M) (.inl none, (557, gn, e_RF, M')) := by
  unfold f_X5_push at h
  refine wp_X5_push_0 (d := d + 1) ha0 ka0 za0 ra0 hb0 kb0 zb0 M  (f_mn) ?_
  refine ⟨fun c => ?_, fun c => ?_⟩
  · rw [if_pos c] at h
    cases h; rfl
  · rw [if_neg c] at h
    obtain ⟨rr3, NN4, hc5, h⟩ := f_bd h
    refine ⟨NN4, s_X3_saveTo_now (d := d) hb0 kb0 zb0 hc5, ?_⟩
    cases h; rfl
def f_X6_noteSet (p1 : Int) (M : e_M) : Option (Int × e_M) := (f_b (f_J6_bitCount_0f7a4 p1 M) fun rr1 NN2 => (if (NN2 53 7) < rr1 then (some (0, (e_up (e_up NN2 53 7 rr1) 53 8 p1))) else (if ¬ rr1 = (NN2 53 7) then (some (0, NN2)) else (if (NN2 53 8) ≤ p1 then (some (0, NN2)) else (some (0, (e_up (e_up NN2 53 7 rr1) 53 8 p1)))))))
theorem s_X6_noteSet {X : e_X} {d gn : Nat} {p1 : Int} {M M' : e_M} {v : Int} (h : f_X6_noteSet   p1 M = some (v, M')) : e_E X (d + 1) YX6_noteSet [.inr (.inr 53), .inl p1] (557, gn, e_RF, M) (.inl none, (557, gn, e_RF, M')) := by
  unfold f_X6_noteSet at h
  refine wp_X6_noteSet_0 (d := d)  M p1 (f_mn) ?_
  obtain ⟨rr3, NN4, hc5, h⟩ := f_bd h
  refine ⟨rr3, NN4, s_J6_bitCount_0f7a4 (d := d)  hc5, ?_⟩
  refine ⟨fun c => ?_, fun c => ?_⟩
  · rw [if_pos c] at h
    cases h; rfl
  · rw [if_neg c] at h
    refine ⟨fun c => ?_, fun c => ?_⟩
    · rw [if_pos c] at h
      cases h; rfl
    · rw [if_neg (not_not_intro c)] at h
      refine ⟨fun c => ?_, fun c => ?_⟩
      · rw [if_pos c] at h
        cases h; rfl
      · rw [if_neg c] at h
        cases h; rfl
def f_X7_addBytesOf_3 : Nat → Int → Int → e_M → Option (Int × e_M)
  | 0, _, _, _ => none
  | n + 1, p1, v2, M => (if v2 < 0 then (some (0, M)) else (if 600 ≤ (M 2 1) then (some (0, M)) else (if (0 ≤ (M 2 1) ∧ (M 2 1) < 600) then (f_X7_addBytesOf_3 n p1 (e_w (v2 + (-8))) (e_up (e_up M 3 (M 2 1).toNat (e_i2b (e_i2b (e_shr p1 v2)))) 2 1 (e_w (((e_up M 3 (M 2 1).toNat (e_i2b (e_i2b (e_shr p1 v2)))) 2 1) + 1)))) else none)))
theorem s_X7_addBytesOf_3 {X : e_X} {d gn : Nat} : ∀ n : Nat, ∀ (p1 v2 : Int) (M M' : e_M) (v : Int), f_X7_addBytesOf_3  n p1 v2 M = some (v, M') → e_G X d YX7_addBytesOf 3 [some (.inr (.inr 2)), some (.inl p1), some (.inl v2)] [] (557, gn, e_RF, M) (.inl none, (557, gn, e_RF, M')) := by
  intro n
  induction n with
  | zero => intro p1 v2 M M' v h; cases h
  | succ n ih =>
    intro p1 v2 M M' v h
    rw [f_X7_addBytesOf_3] at h
    refine wp_X7_addBytesOf_3  M p1 v2 ?_
    refine ⟨fun c => ?_, fun c => ?_⟩
    · rw [if_pos c] at h
      cases h; rfl
    · rw [if_neg c] at h
      refine ⟨fun c => ?_, fun c => ?_⟩
      · rw [if_pos c] at h
        cases h; rfl
      · rw [if_neg c] at h
        obtain ⟨c1, h⟩ := f_gd h
        refine ⟨c1, ?_⟩
        exact ih _ _ _ _ _ h
def f_X7_addBytesOf (n : Nat) (p1 : Int) (M : e_M) : Option (Int × e_M) := (f_X7_addBytesOf_3 n p1 24 M)
theorem s_X7_addBytesOf {X : e_X} {d gn : Nat} {n : Nat} {p1 : Int} {M M' : e_M} {v : Int} (h : f_X7_addBytesOf  n p1 M = some (v, M')) : e_E X d YX7_addBytesOf [.inr (.inr 2), .inl p1] (557, gn, e_RF, M) (.inl none, (557, gn, e_RF, M')) := by
  unfold f_X7_addBytesOf at h
  refine wp_X7_addBytesOf_0  M p1 ?_
  exact s_X7_addBytesOf_3  _ _ _ _ _ _ h
def f_X7_beginReading (p1 : Int) (M : e_M) : Option (Int × e_M) := (some (0, (e_up (e_up (e_up (e_up (e_up M 2 2 p1) 2 1 0) 2 3 0) 2 4 0) 2 5 (-1))))
theorem s_X7_beginReading {X : e_X} {d gn : Nat} {p1 : Int} {M M' : e_M} {v : Int} (h : f_X7_beginReading   p1 M = some (v, M')) : e_E X d YX7_beginReading [.inr (.inr 2), .inl p1] (557, gn, e_RF, M) (.inl none, (557, gn, e_RF, M')) := by
  unfold f_X7_beginReading at h
  refine wp_X7_beginReading_0  M p1 ?_
  cases h; rfl
def f_X7_flawAnswer (M : e_M) : Option (Int × e_M) := (some ((e_w ((M 2 4) - 10)), M))
theorem s_X7_flawAnswer {X : e_X} {d gn : Nat} {M M' : e_M} {v : Int} (h : f_X7_flawAnswer    M = some (v, M')) : e_E X d YX7_flawAnswer [.inr (.inr 2)] (557, gn, e_RF, M) (.inl (some (.inl v)), (557, gn, e_RF, M')) := by
  unfold f_X7_flawAnswer at h
  refine wp_X7_flawAnswer_0  M  ?_
  cases h; rfl
def f_X7_flawed (M : e_M) : Option (Int × e_M) := (if (M 2 4) = 0 then (some (0, M)) else (some (1, M)))
theorem s_X7_flawed {X : e_X} {d gn : Nat} {M M' : e_M} {v : Int} (h : f_X7_flawed    M = some (v, M')) : e_E X d YX7_flawed [.inr (.inr 2)] (557, gn, e_RF, M) (.inl (some (.inl v)), (557, gn, e_RF, M')) := by
  unfold f_X7_flawed at h
  refine wp_X7_flawed_0  M  ?_
  refine ⟨fun c => ?_, fun c => ?_⟩
  · rw [if_pos c] at h
    cases h; rfl
  · rw [if_neg c] at h
    cases h; rfl
def f_X7_hasRoomFor (p1 : Int) (M : e_M) : Option (Int × e_M) := (if 600 < (e_w ((M 2 1) + p1)) then (some (0, M)) else (some (1, M)))
theorem s_X7_hasRoomFor {X : e_X} {d gn : Nat} {p1 : Int} {M M' : e_M} {v : Int} (h : f_X7_hasRoomFor   p1 M = some (v, M')) : e_E X d YX7_hasRoomFor [.inr (.inr 2), .inl p1] (557, gn, e_RF, M) (.inl (some (.inl v)), (557, gn, e_RF, M')) := by
  unfold f_X7_hasRoomFor at h
  refine wp_X7_hasRoomFor_0  M p1 ?_
  refine ⟨fun c => ?_, fun c => ?_⟩
  · rw [if_pos c] at h
    cases h; rfl
  · rw [if_neg c] at h
    cases h; rfl
def f_X7_isDigit (p0 : Int) (M : e_M) : Option (Int × e_M) := (if p0 < 48 then (some (0, M)) else (if 57 < p0 then (some (0, M)) else (some (1, M))))
theorem s_X7_isDigit {X : e_X} {d gn : Nat} {p0 : Int} {M M' : e_M} {v : Int} (h : f_X7_isDigit   p0 M = some (v, M')) : e_E X d YX7_isDigit [.inl p0] (557, gn, e_RF, M) (.inl (some (.inl v)), (557, gn, e_RF, M')) := by
  unfold f_X7_isDigit at h
  refine wp_X7_isDigit_0  M p0 ?_
  refine ⟨fun c => ?_, fun c => ?_⟩
  · rw [if_pos c] at h
    cases h; rfl
  · rw [if_neg c] at h
    refine ⟨fun c => ?_, fun c => ?_⟩
    · rw [if_pos c] at h
      cases h; rfl
    · rw [if_neg c] at h
      cases h; rfl
def f_X7_noteFlaw (p1 p2 : Int) (M : e_M) : Option (Int × e_M) := (if ¬ (M 2 4) = 0 then (some (0, M)) else (some (0, (e_up (e_up M 2 4 p1) 2 5 p2))))
theorem s_X7_noteFlaw {X : e_X} {d gn : Nat} {p1 p2 : Int} {M M' : e_M} {v : Int} (h : f_X7_noteFlaw   p1 p2 M = some (v, M')) : e_E X d YX7_noteFlaw [.inr (.inr 2), .inl p1, .inl p2] (557, gn, e_RF, M) (.inl none, (557, gn, e_RF, M')) := by
  unfold f_X7_noteFlaw at h
  refine wp_X7_noteFlaw_0  M p1 p2 ?_
  refine ⟨fun c => ?_, fun c => ?_⟩
  · rw [if_pos c] at h
    cases h; rfl
  · rw [if_neg (not_not_intro c)] at h
    cases h; rfl
def f_X7_peekSign_0 : Nat → e_M → Option (Int × e_M)
  | 0, _ => none
  | n + 1, M => (if (M 2 2) ≤ (M 2 3) then (if (M 2 2) ≤ (M 2 3) then (some ((-1), M)) else (if (0 ≤ (M 2 3) ∧ (M 2 3) < 600) then (some ((e_and (M 3 (M 2 3).toNat) 255), M)) else none)) else (if (0 ≤ (M 2 3) ∧ (M 2 3) < 600) then (if ¬ (M 3 (M 2 3).toNat) = 32 then (if (M 2 2) ≤ (M 2 3) then (some ((-1), M)) else (if (0 ≤ (M 2 3) ∧ (M 2 3) < 600) then (some ((e_and (M 3 (M 2 3).toNat) 255), M)) else none)) else (f_X7_peekSign_0 n (e_up M 2 3 (e_w ((M 2 3) + 1))))) else none))
theorem s_X7_peekSign_0 {X : e_X} {d gn : Nat} : ∀ n : Nat, ∀ (M M' : e_M) (v : Int), f_X7_peekSign_0  n  M = some (v, M') → e_G X d YX7_peekSign 0 [some (.inr (.inr 2))] [] (557, gn, e_RF, M) (.inl (some (.inl v)), (557, gn, e_RF, M')) := by
  intro n
  induction n with
  | zero => intro  M M' v h; cases h
  | succ n ih =>
    intro  M M' v h
    rw [f_X7_peekSign_0] at h
    refine wp_X7_peekSign_0  M  ?_
    refine ⟨fun c => ?_, fun c => ?_⟩
    · rw [if_pos c] at h
      refine wp_X7_peekSign_38  _  ?_
      refine ⟨fun c => ?_, fun c => ?_⟩
      · rw [if_pos c] at h
        cases h; rfl
      · rw [if_neg c] at h
        obtain ⟨c1, h⟩ := f_gd h
        exact ⟨c1, by cases h; rfl⟩
    · rw [if_neg c] at h
      obtain ⟨c2, h⟩ := f_gd h
      refine ⟨c2, ?_⟩
      refine ⟨fun c => ?_, fun c => ?_⟩
      · rw [if_pos c] at h
        refine wp_X7_peekSign_38  _  ?_
        refine ⟨fun c => ?_, fun c => ?_⟩
        · rw [if_pos c] at h
          cases h; rfl
        · rw [if_neg c] at h
          obtain ⟨c3, h⟩ := f_gd h
          exact ⟨c3, by cases h; rfl⟩
      · rw [if_neg (not_not_intro c)] at h
        exact ih  _ _ _ h
def f_X7_peekSign (n : Nat) (M : e_M) : Option (Int × e_M) := f_X7_peekSign_0  n  M
theorem s_X7_peekSign {X : e_X} {d gn : Nat} {n : Nat} {M M' : e_M} {v : Int} (h : f_X7_peekSign  n  M = some (v, M')) : e_E X d YX7_peekSign [.inr (.inr 2)] (557, gn, e_RF, M) (.inl (some (.inl v)), (557, gn, e_RF, M')) := by
  exact s_X7_peekSign_0  _  _ _ _ h
def f_X7_signPlace (M : e_M) : Option (Int × e_M) := (some ((M 2 3), M))
theorem s_X7_signPlace {X : e_X} {d gn : Nat} {M M' : e_M} {v : Int} (h : f_X7_signPlace    M = some (v, M')) : e_E X d YX7_signPlace [.inr (.inr 2)] (557, gn, e_RF, M) (.inl (some (.inl v)), (557, gn, e_RF, M')) := by
  unfold f_X7_signPlace at h
  refine wp_X7_signPlace_0  M  ?_
  cases h; rfl
def f_X7_takeSign (n : Nat) (p1 : Int) (M : e_M) : Option (Int × e_M) := (if ¬ (M 2 4) = 0 then (some (0, M)) else (f_b (f_X7_peekSign n M) fun rr1 NN2 => (if rr1 = p1 then (some (1, (e_up NN2 2 3 (e_w ((NN2 2 3) + 1))))) else (some (0, NN2)))))
theorem s_X7_takeSign {X : e_X} {d gn : Nat} {n : Nat} {p1 : Int} {M M' : e_M} {v : Int} (h : f_X7_takeSign  n p1 M = some (v, M')) : e_E X (d + 1) YX7_takeSign [.inr (.inr 2), .inl p1] (557, gn, e_RF, M) (.inl (some (.inl v)), (557, gn, e_RF, M')) := by
  unfold f_X7_takeSign at h
  refine wp_X7_takeSign_0 (d := d)  M p1 (f_mn) ?_
  refine ⟨fun c => ?_, fun c => ?_⟩
  · rw [if_pos c] at h
    cases h; rfl
  · rw [if_neg (not_not_intro c)] at h
    obtain ⟨rr3, NN4, hc5, h⟩ := f_bd h
    refine ⟨rr3, NN4, s_X7_peekSign (d := d)  hc5, ?_⟩
    refine ⟨fun c => ?_, fun c => ?_⟩
    · rw [if_pos c] at h
      cases h; rfl
    · rw [if_neg c] at h
      cases h; rfl
def f_X8_ableBits_town_4 : Nat → Int → Int → Int → e_M → Option (Int × e_M)
  | 0, _, _, _, _ => none
  | n + 1, p1, v2, v3, M => (if (M 4 0) ≤ v3 then (some (v2, M)) else (if (0 ≤ v3 ∧ v3 < 6) then (if (e_and (e_shr (M 7 v3.toNat) p1) 1) = 0 then (f_X8_ableBits_town_4 n p1 v2 (e_w (v3 + 1)) M) else (f_X8_ableBits_town_4 n p1 (e_or v2 (e_shl 1 v3)) (e_w (v3 + 1)) M)) else none))
theorem s_X8_ableBits_town_4 {X : e_X} {d gn : Nat} : ∀ n : Nat, ∀ (p1 v2 v3 : Int) (M M' : e_M) (v : Int), f_X8_ableBits_town_4  n p1 v2 v3 M = some (v, M') → e_G X d YX8_ableBits 4 [some (.inr (.inr 4)), some (.inl p1), some (.inl v2), some (.inl v3)] [] (557, gn, e_RF, M) (.inl (some (.inl v)), (557, gn, e_RF, M')) := by
  intro n
  induction n with
  | zero => intro p1 v2 v3 M M' v h; cases h
  | succ n ih =>
    intro p1 v2 v3 M M' v h
    rw [f_X8_ableBits_town_4] at h
    refine wp_X8_ableBits_town_4  M p1 v2 v3 ?_
    refine ⟨fun c => ?_, fun c => ?_⟩
    · rw [if_pos c] at h
      cases h; rfl
    · rw [if_neg c] at h
      obtain ⟨c1, h⟩ := f_gd h
      refine ⟨c1, ?_⟩
      refine ⟨fun c => ?_, fun c => ?_⟩
      · rw [if_pos c] at h
        exact ih _ _ _ _ _ _ h
      · rw [if_neg c] at h
        exact ih _ _ _ _ _ _ h
def f_X8_ableBits_town (n : Nat) (p1 : Int) (M : e_M) : Option (Int × e_M) := (f_X8_ableBits_town_4 n p1 0 0 M)
theorem s_X8_ableBits_town {X : e_X} {d gn : Nat} {n : Nat} {p1 : Int} {M M' : e_M} {v : Int} (h : f_X8_ableBits_town  n p1 M = some (v, M')) : e_E X d YX8_ableBits [.inr (.inr 4), .inl p1] (557, gn, e_RF, M) (.inl (some (.inl v)), (557, gn, e_RF, M')) := by
  unfold f_X8_ableBits_town at h
  refine wp_X8_ableBits_town_0  M p1 ?_
  exact s_X8_ableBits_town_4  _ _ _ _ _ _ _ h
def f_X8_ableBits_townDraft_4 : Nat → Int → Int → Int → e_M → Option (Int × e_M)
  | 0, _, _, _, _ => none
  | n + 1, p1, v2, v3, M => (if (M 12 0) ≤ v3 then (some (v2, M)) else (if (0 ≤ v3 ∧ v3 < 6) then (if (e_and (e_shr (M 15 v3.toNat) p1) 1) = 0 then (f_X8_ableBits_townDraft_4 n p1 v2 (e_w (v3 + 1)) M) else (f_X8_ableBits_townDraft_4 n p1 (e_or v2 (e_shl 1 v3)) (e_w (v3 + 1)) M)) else none))
theorem s_X8_ableBits_townDraft_4 {X : e_X} {d gn : Nat} : ∀ n : Nat, ∀ (p1 v2 v3 : Int) (M M' : e_M) (v : Int), f_X8_ableBits_townDraft_4  n p1 v2 v3 M = some (v, M') → e_G X d YX8_ableBits 4 [some (.inr (.inr 12)), some (.inl p1), some (.inl v2), some (.inl v3)] [] (557, gn, e_RF, M) (.inl (some (.inl v)), (557, gn, e_RF, M')) := by
  intro n
  induction n with
  | zero => intro p1 v2 v3 M M' v h; cases h
  | succ n ih =>
    intro p1 v2 v3 M M' v h
    rw [f_X8_ableBits_townDraft_4] at h
    refine wp_X8_ableBits_townDraft_4  M p1 v2 v3 ?_
    refine ⟨fun c => ?_, fun c => ?_⟩
    · rw [if_pos c] at h
      cases h; rfl
    · rw [if_neg c] at h
      obtain ⟨c1, h⟩ := f_gd h
      refine ⟨c1, ?_⟩
      refine ⟨fun c => ?_, fun c => ?_⟩
      · rw [if_pos c] at h
        exact ih _ _ _ _ _ _ h
      · rw [if_neg c] at h
        exact ih _ _ _ _ _ _ h
def f_X8_ableBits_townDraft (n : Nat) (p1 : Int) (M : e_M) : Option (Int × e_M) := (f_X8_ableBits_townDraft_4 n p1 0 0 M)
theorem s_X8_ableBits_townDraft {X : e_X} {d gn : Nat} {n : Nat} {p1 : Int} {M M' : e_M} {v : Int} (h : f_X8_ableBits_townDraft  n p1 M = some (v, M')) : e_E X d YX8_ableBits [.inr (.inr 12), .inl p1] (557, gn, e_RF, M) (.inl (some (.inl v)), (557, gn, e_RF, M')) := by
  unfold f_X8_ableBits_townDraft at h
  refine wp_X8_ableBits_townDraft_0  M p1 ?_
  exact s_X8_ableBits_townDraft_4  _ _ _ _ _ _ _ h
def f_X8_copyFrom_town (M : e_M) : Option (Int × e_M) := (some (0, (e_cp (e_cp (e_cp (e_cp (e_cp (e_cp (e_cp (e_up (e_up (e_up M 4 0 (M 12 0)) 4 1 ((e_up M 4 0 (M 12 0)) 12 1)) 4 2 ((e_up (e_up M 4 0 (M 12 0)) 4 1 ((e_up M 4 0 (M 12 0)) 12 1)) 12 2)) 13 0 5 0 6) 14 0 6 0 6) 15 0 7 0 6) 16 0 8 0 6) 17 0 9 0 12) 18 0 10 0 12) 19 0 11 0 12)))
theorem s_X8_copyFrom_town {X : e_X} {d gn : Nat} {M M' : e_M} {v : Int} (h : f_X8_copyFrom_town    M = some (v, M')) : e_E X (d + 1) YX8_copyFrom [.inr (.inr 4), .inr (.inr 12)] (557, gn, e_RF, M) (.inl none, (557, gn, e_RF, M')) := by
  unfold f_X8_copyFrom_town at h
  refine wp_X8_copyFrom_town_0 (d := d)  M  ?_
  cases h; rfl
def f_X8_skillsOf_town_4 : Nat → Int → Int → Int → e_M → Option (Int × e_M)
  | 0, _, _, _, _ => none
  | n + 1, p1, v2, v3, M => (if (M 4 0) ≤ v3 then (some (v2, M)) else (if (e_and (e_shr p1 v3) 1) = 0 then (f_X8_skillsOf_town_4 n p1 v2 (e_w (v3 + 1)) M) else (if (0 ≤ v3 ∧ v3 < 6) then (f_X8_skillsOf_town_4 n p1 (e_or v2 (M 7 v3.toNat)) (e_w (v3 + 1)) M) else none)))
theorem s_X8_skillsOf_town_4 {X : e_X} {d gn : Nat} : ∀ n : Nat, ∀ (p1 v2 v3 : Int) (M M' : e_M) (v : Int), f_X8_skillsOf_town_4  n p1 v2 v3 M = some (v, M') → e_G X d YX8_skillsOf 4 [some (.inr (.inr 4)), some (.inl p1), some (.inl v2), some (.inl v3)] [] (557, gn, e_RF, M) (.inl (some (.inl v)), (557, gn, e_RF, M')) := by
  intro n
  induction n with
  | zero => intro p1 v2 v3 M M' v h; cases h
  | succ n ih =>
    intro p1 v2 v3 M M' v h
    rw [f_X8_skillsOf_town_4] at h
    refine wp_X8_skillsOf_town_4  M p1 v2 v3 ?_
    refine ⟨fun c => ?_, fun c => ?_⟩
    · rw [if_pos c] at h
      cases h; rfl
    · rw [if_neg c] at h
      refine ⟨fun c => ?_, fun c => ?_⟩
      · rw [if_pos c] at h
        exact ih _ _ _ _ _ _ h
      · rw [if_neg c] at h
        obtain ⟨c1, h⟩ := f_gd h
        refine ⟨c1, ?_⟩
        exact ih _ _ _ _ _ _ h
def f_X8_skillsOf_town (n : Nat) (p1 : Int) (M : e_M) : Option (Int × e_M) := (f_X8_skillsOf_town_4 n p1 0 0 M)
theorem s_X8_skillsOf_town {X : e_X} {d gn : Nat} {n : Nat} {p1 : Int} {M M' : e_M} {v : Int} (h : f_X8_skillsOf_town  n p1 M = some (v, M')) : e_E X d YX8_skillsOf [.inr (.inr 4), .inl p1] (557, gn, e_RF, M) (.inl (some (.inl v)), (557, gn, e_RF, M')) := by
  unfold f_X8_skillsOf_town at h
  refine wp_X8_skillsOf_town_0  M p1 ?_
  exact s_X8_skillsOf_town_4  _ _ _ _ _ _ _ h
def f_X8_skillsOf_townDraft_4 : Nat → Int → Int → Int → e_M → Option (Int × e_M)
  | 0, _, _, _, _ => none
  | n + 1, p1, v2, v3, M => (if (M 12 0) ≤ v3 then (some (v2, M)) else (if (e_and (e_shr p1 v3) 1) = 0 then (f_X8_skillsOf_townDraft_4 n p1 v2 (e_w (v3 + 1)) M) else (if (0 ≤ v3 ∧ v3 < 6) then (f_X8_skillsOf_townDraft_4 n p1 (e_or v2 (M 15 v3.toNat)) (e_w (v3 + 1)) M) else none)))
theorem s_X8_skillsOf_townDraft_4 {X : e_X} {d gn : Nat} : ∀ n : Nat, ∀ (p1 v2 v3 : Int) (M M' : e_M) (v : Int), f_X8_skillsOf_townDraft_4  n p1 v2 v3 M = some (v, M') → e_G X d YX8_skillsOf 4 [some (.inr (.inr 12)), some (.inl p1), some (.inl v2), some (.inl v3)] [] (557, gn, e_RF, M) (.inl (some (.inl v)), (557, gn, e_RF, M')) := by
  intro n
  induction n with
  | zero => intro p1 v2 v3 M M' v h; cases h
  | succ n ih =>
    intro p1 v2 v3 M M' v h
    rw [f_X8_skillsOf_townDraft_4] at h
    refine wp_X8_skillsOf_townDraft_4  M p1 v2 v3 ?_
    refine ⟨fun c => ?_, fun c => ?_⟩
    · rw [if_pos c] at h
      cases h; rfl
    · rw [if_neg c] at h
      refine ⟨fun c => ?_, fun c => ?_⟩
      · rw [if_pos c] at h
        exact ih _ _ _ _ _ _ h
      · rw [if_neg c] at h
        obtain ⟨c1, h⟩ := f_gd h
        refine ⟨c1, ?_⟩
        exact ih _ _ _ _ _ _ h
def f_X8_skillsOf_townDraft (n : Nat) (p1 : Int) (M : e_M) : Option (Int × e_M) := (f_X8_skillsOf_townDraft_4 n p1 0 0 M)
theorem s_X8_skillsOf_townDraft {X : e_X} {d gn : Nat} {n : Nat} {p1 : Int} {M M' : e_M} {v : Int} (h : f_X8_skillsOf_townDraft  n p1 M = some (v, M')) : e_E X d YX8_skillsOf [.inr (.inr 12), .inl p1] (557, gn, e_RF, M) (.inl (some (.inl v)), (557, gn, e_RF, M')) := by
  unfold f_X8_skillsOf_townDraft at h
  refine wp_X8_skillsOf_townDraft_0  M p1 ?_
  exact s_X8_skillsOf_townDraft_4  _ _ _ _ _ _ _ h
def f_X9_drawBelow (p1 : Int) (M : e_M) : Option (Int × e_M) := (if p1 ≤ 0 then (some (0, (e_up M 54 1 (e_w ((e_w ((M 54 1) * 1103515245)) + 12345))))) else (if p1 ≠ 0 then (some ((e_w (Int.tmod (e_and (e_ushr ((e_up M 54 1 (e_w ((e_w ((M 54 1) * 1103515245)) + 12345))) 54 1) 16) 32767) p1)), (e_up M 54 1 (e_w ((e_w ((M 54 1) * 1103515245)) + 12345))))) else none))
theorem s_X9_drawBelow {X : e_X} {d gn : Nat} {p1 : Int} {M M' : e_M} {v : Int} (h : f_X9_drawBelow   p1 M = some (v, M')) : e_E X d YX9_drawBelow [.inr (.inr 54), .inl p1] (557, gn, e_RF, M) (.inl (some (.inl v)), (557, gn, e_RF, M')) := by
  unfold f_X9_drawBelow at h
  refine wp_X9_drawBelow_0  M p1 ?_
  refine ⟨fun c => ?_, fun c => ?_⟩
  · rw [if_pos c] at h
    cases h; rfl
  · rw [if_neg c] at h
    obtain ⟨c1, h⟩ := f_gd h
    exact ⟨c1, by cases h; rfl⟩
def f_X11_givesFrom_57 (rc_X11_givesFrom : Int → Int → Int → e_M → Option (Int × e_M)) : Nat → Int → Int → Int → Int → e_M → Option (Int × e_M)
  | 0, _, _, _, _, _ => none
  | n + 1, p1, p2, p3, v4, M => (if (M 68 0) ≤ v4 then (if (0 ≤ p1 ∧ p1 < 6) then (f_b (rc_X11_givesFrom (e_w (p1 + 1)) p2 p3 (e_up M 555 p1.toNat (-1))) fun _ NN10 => (some (0, NN10))) else none) else (f_b (f_X11_has p2 v4 M) fun rr1 NN2 => (if ¬ rr1 = 0 then (f_X11_givesFrom_57 rc_X11_givesFrom n p1 p2 p3 (e_w (v4 + 1)) NN2) else (f_b (f_X11_isSold 532 v4 NN2) fun rr3 NN4 => (if ¬ rr3 = 0 then (f_X11_givesFrom_57 rc_X11_givesFrom n p1 p2 p3 (e_w (v4 + 1)) NN4) else (if (0 ≤ v4 ∧ v4 < 6) then (f_b (f_X11_has (NN4 72 v4.toNat) p1 NN4) fun rr5 NN6 => (if ¬ rr5 = 0 then (if (0 ≤ p1 ∧ p1 < 6) then (if (0 ≤ p1 ∧ p1 < 6) then (f_b (rc_X11_givesFrom (e_w (p1 + 1)) (e_or p2 (e_shl 1 v4)) (e_w (p3 + ((e_up NN6 555 p1.toNat v4) 70 p1.toNat))) (e_up NN6 555 p1.toNat v4)) fun _ NN8 => (f_X11_givesFrom_57 rc_X11_givesFrom n p1 p2 p3 (e_w (v4 + 1)) NN8)) else none) else none) else (f_X11_givesFrom_57 rc_X11_givesFrom n p1 p2 p3 (e_w (v4 + 1)) NN6))) else none))))))
theorem s_X11_givesFrom_57 {X : e_X} {d gn : Nat} {rc_X11_givesFrom : Int → Int → Int → e_M → Option (Int × e_M)} (hc_X11_givesFrom : ∀ (p1 p2 p3 : Int) (M M' : e_M) (v : Int), rc_X11_givesFrom p1 p2 p3 M = some (v, M') → e_E X (d + 0) YX11_givesFrom [.inr (.inr 64), .inl p1, .inl p2, .inl p3] (557, gn, e_RF, M) (.inl none, (557, gn, e_RF, M'))) : ∀ n : Nat, ∀ (p1 p2 p3 v4 : Int) (M M' : e_M) (v : Int), f_X11_givesFrom_57 rc_X11_givesFrom  n p1 p2 p3 v4 M = some (v, M') → e_G X (d + 1) YX11_givesFrom 57 [some (.inr (.inr 64)), some (.inl p1), some (.inl p2), some (.inl p3), some (.inl v4)] [] (557, gn, e_RF, M) (.inl none, (557, gn, e_RF, M')) := by
  intro n
  induction n with
  | zero => intro p1 p2 p3 v4 M M' v h; cases h
  | succ n ih =>
    intro p1 p2 p3 v4 M M' v h
    rw [f_X11_givesFrom_57] at h
    refine wp_X11_givesFrom_57 (d := d)  M p1 p2 p3 v4 (f_mn) ?_
    refine ⟨fun c => ?_, fun c => ?_⟩
    · rw [if_pos c] at h
      obtain ⟨c11, h⟩ := f_gd h
      refine ⟨c11, ?_⟩
      obtain ⟨rr12, NN13, hc14, h⟩ := f_bd h
      refine ⟨NN13, hc_X11_givesFrom _ _ _ _ _ _ hc14, ?_⟩
      cases h; rfl
    · rw [if_neg c] at h
      obtain ⟨rr15, NN16, hc17, h⟩ := f_bd h
      refine ⟨rr15, NN16, s_X11_has (d := d)  hc17, ?_⟩
      refine ⟨fun c => ?_, fun c => ?_⟩
      · rw [if_pos c] at h
        exact ih _ _ _ _ _ _ _ h
      · rw [if_neg (not_not_intro c)] at h
        obtain ⟨rr18, NN19, hc20, h⟩ := f_bd h
        refine ⟨rr18, NN19, s_X11_isSold (d := d) rfl (Nat.le_of_ble_eq_true rfl) (by decide) hc20, ?_⟩
        refine ⟨fun c => ?_, fun c => ?_⟩
        · rw [if_pos c] at h
          exact ih _ _ _ _ _ _ _ h
        · rw [if_neg (not_not_intro c)] at h
          obtain ⟨c21, h⟩ := f_gd h
          refine ⟨c21, ?_⟩
          obtain ⟨rr22, NN23, hc24, h⟩ := f_bd h
          refine ⟨rr22, NN23, s_X11_has (d := d)  hc24, ?_⟩
          refine ⟨fun c => ?_, fun c => ?_⟩
          · rw [if_pos c] at h
            obtain ⟨c25, h⟩ := f_gd h
            refine ⟨c25, ?_⟩
            obtain ⟨c26, h⟩ := f_gd h
            refine ⟨c26, ?_⟩
            obtain ⟨rr27, NN28, hc29, h⟩ := f_bd h
            refine ⟨NN28, hc_X11_givesFrom _ _ _ _ _ _ hc29, ?_⟩
            exact ih _ _ _ _ _ _ _ h
          · rw [if_neg (not_not_intro c)] at h
            exact ih _ _ _ _ _ _ _ h
def f_X11_givesFrom_27 (rc_X11_givesFrom : Int → Int → Int → e_M → Option (Int × e_M)) : Nat → Int → Int → Int → Int → e_M → Option (Int × e_M)
  | 0, _, _, _, _, _ => none
  | n + 1, p1, p2, p3, v4, M => (if p1 ≤ v4 then (some (0, M)) else (if (0 ≤ v4 ∧ v4 < 6) then (if (0 ≤ v4 ∧ v4 < 6) then (f_X11_givesFrom_27 rc_X11_givesFrom n p1 p2 p3 (e_w (v4 + 1)) (e_up M 556 v4.toNat (M 555 v4.toNat))) else none) else none))
theorem s_X11_givesFrom_27 {X : e_X} {d gn : Nat} {rc_X11_givesFrom : Int → Int → Int → e_M → Option (Int × e_M)} (hc_X11_givesFrom : ∀ (p1 p2 p3 : Int) (M M' : e_M) (v : Int), rc_X11_givesFrom p1 p2 p3 M = some (v, M') → e_E X (d + 0) YX11_givesFrom [.inr (.inr 64), .inl p1, .inl p2, .inl p3] (557, gn, e_RF, M) (.inl none, (557, gn, e_RF, M'))) : ∀ n : Nat, ∀ (p1 p2 p3 v4 : Int) (M M' : e_M) (v : Int), f_X11_givesFrom_27 rc_X11_givesFrom  n p1 p2 p3 v4 M = some (v, M') → e_G X (d + 1) YX11_givesFrom 27 [some (.inr (.inr 64)), some (.inl p1), some (.inl p2), some (.inl p3), some (.inl v4)] [] (557, gn, e_RF, M) (.inl none, (557, gn, e_RF, M')) := by
  intro n
  induction n with
  | zero => intro p1 p2 p3 v4 M M' v h; cases h
  | succ n ih =>
    intro p1 p2 p3 v4 M M' v h
    rw [f_X11_givesFrom_27] at h
    refine wp_X11_givesFrom_27 (d := d)  M p1 p2 p3 v4 ?_
    refine ⟨fun c => ?_, fun c => ?_⟩
    · rw [if_pos c] at h
      cases h; rfl
    · rw [if_neg c] at h
      obtain ⟨c30, h⟩ := f_gd h
      refine ⟨c30, ?_⟩
      obtain ⟨c31, h⟩ := f_gd h
      refine ⟨c31, ?_⟩
      exact ih _ _ _ _ _ _ _ h
def f_X11_givesFrom (rc_X11_givesFrom : Int → Int → Int → e_M → Option (Int × e_M)) (n : Nat) (p1 p2 p3 : Int) (M : e_M) : Option (Int × e_M) := (if ¬ p1 = (M 68 1) then (f_X11_givesFrom_57 rc_X11_givesFrom n p1 p2 p3 0 M) else (if (M 64 44) < p3 then (f_X11_givesFrom_27 rc_X11_givesFrom n p1 p2 p3 0 (e_up M 64 44 p3)) else (some (0, M))))
theorem s_X11_givesFrom {X : e_X} {d gn : Nat} {rc_X11_givesFrom : Int → Int → Int → e_M → Option (Int × e_M)} (hc_X11_givesFrom : ∀ (p1 p2 p3 : Int) (M M' : e_M) (v : Int), rc_X11_givesFrom p1 p2 p3 M = some (v, M') → e_E X (d + 0) YX11_givesFrom [.inr (.inr 64), .inl p1, .inl p2, .inl p3] (557, gn, e_RF, M) (.inl none, (557, gn, e_RF, M'))) {n : Nat} {p1 p2 p3 : Int} {M M' : e_M} {v : Int} (h : f_X11_givesFrom rc_X11_givesFrom  n p1 p2 p3 M = some (v, M')) : e_E X (d + 1) YX11_givesFrom [.inr (.inr 64), .inl p1, .inl p2, .inl p3] (557, gn, e_RF, M) (.inl none, (557, gn, e_RF, M')) := by
  unfold f_X11_givesFrom at h
  refine wp_X11_givesFrom_0 (d := d)  M p1 p2 p3 ?_
  refine ⟨fun c => ?_, fun c => ?_⟩
  · rw [if_pos c] at h
    exact s_X11_givesFrom_57 hc_X11_givesFrom  _ _ _ _ _ _ _ _ h
  · rw [if_neg (not_not_intro c)] at h
    refine ⟨fun c => ?_, fun c => ?_⟩
    · rw [if_pos c] at h
      exact s_X11_givesFrom_27 hc_X11_givesFrom  _ _ _ _ _ _ _ _ h
    · rw [if_neg c] at h
      cases h; rfl
def g_X11_givesFrom (n : Nat) : Nat → Nat → Int → Int → Int → e_M → Option (Int × e_M)
  | 0, _, _, _, _, _ => none
  | k + 1, t, a1, a2, a3, M => f_X11_givesFrom (fun x1 x2 x3 N => g_X11_givesFrom n k 0 x1 x2 x3 N) n a1 a2 a3 M
theorem sg_X11_givesFrom {X : e_X} {d gn n : Nat} : ∀ k : Nat, (∀ (p1 p2 p3 : Int) (M M' : e_M) (v : Int), g_X11_givesFrom n k 0 p1 p2 p3 M = some (v, M') → e_E X (d + k + 0) YX11_givesFrom [.inr (.inr 64), .inl p1, .inl p2, .inl p3] (557, gn, e_RF, M) (.inl none, (557, gn, e_RF, M'))) := by
  intro k
  induction k with
  | zero => exact (by intros; rename_i h; cases h)
  | succ k ih =>
    rw [show d + (k + 1) + 0 = d + k + 0 + 1 by omega]
    skip
    · intro p1 p2 p3 M M' v h
      rw [g_X11_givesFrom] at h
      exact s_X11_givesFrom (d := d + k) ih h
theorem sk_X11_givesFrom {X : e_X} {d gn n : Nat} (k : Nat) : (∀ (p1 p2 p3 : Int) (M M' : e_M) (v : Int), g_X11_givesFrom n k 0 p1 p2 p3 M = some (v, M') → e_E X (d + k + 0) YX11_givesFrom [.inr (.inr 64), .inl p1, .inl p2, .inl p3] (557, gn, e_RF, M) (.inl none, (557, gn, e_RF, M'))) := (sg_X11_givesFrom k)
def f_k_X11_givesFrom (n : Nat) (p1 p2 p3 : Int) (M : e_M) : Option (Int × e_M) := g_X11_givesFrom n 8 0 p1 p2 p3 M
theorem s_k_X11_givesFrom {X : e_X} {d gn n : Nat} {p1 p2 p3 : Int} {M M' : e_M} {v : Int} (h : f_k_X11_givesFrom n p1 p2 p3 M = some (v, M')) : e_E X (d + 8) YX11_givesFrom [.inr (.inr 64), .inl p1, .inl p2, .inl p3] (557, gn, e_RF, M) (.inl none, (557, gn, e_RF, M')) := sk_X11_givesFrom (d := d) 8 _ _ _ _ _ _ h
def f_X0_hasBoth_book (p1 p2 : Int) (M : e_M) : Option (Int × e_M) := (f_b (f_X0_hasLine_book p1 M) fun rr1 NN2 => (if rr1 = 0 then (some (0, NN2)) else (f_b (f_X0_hasLine_book p2 NN2) fun rr3 NN4 => (if rr3 = 0 then (some (0, NN4)) else (some (1, NN4))))))
theorem s_X0_hasBoth_book {X : e_X} {d gn : Nat} {p1 p2 : Int} {M M' : e_M} {v : Int} (h : f_X0_hasBoth_book   p1 p2 M = some (v, M')) : e_E X (d + 1) YX0_hasBoth [.inr (.inr 28), .inl p1, .inl p2] (557, gn, e_RF, M) (.inl (some (.inl v)), (557, gn, e_RF, M')) := by
  unfold f_X0_hasBoth_book at h
  refine wp_X0_hasBoth_book_0 (d := d)  M p1 p2 (f_mn) ?_
  obtain ⟨rr5, NN6, hc7, h⟩ := f_bd h
  refine ⟨rr5, NN6, s_X0_hasLine_book (d := d)  hc7, ?_⟩
  refine ⟨fun c => ?_, fun c => ?_⟩
  · rw [if_pos c] at h
    cases h; rfl
  · rw [if_neg c] at h
    obtain ⟨rr8, NN9, hc10, h⟩ := f_bd h
    refine ⟨rr8, NN9, s_X0_hasLine_book (d := d)  hc10, ?_⟩
    refine ⟨fun c => ?_, fun c => ?_⟩
    · rw [if_pos c] at h
      cases h; rfl
    · rw [if_neg c] at h
      cases h; rfl
def f_X0_hasBoth_bookDraft (p1 p2 : Int) (M : e_M) : Option (Int × e_M) := (f_b (f_X0_hasLine_bookDraft p1 M) fun rr1 NN2 => (if rr1 = 0 then (some (0, NN2)) else (f_b (f_X0_hasLine_bookDraft p2 NN2) fun rr3 NN4 => (if rr3 = 0 then (some (0, NN4)) else (some (1, NN4))))))
theorem s_X0_hasBoth_bookDraft {X : e_X} {d gn : Nat} {p1 p2 : Int} {M M' : e_M} {v : Int} (h : f_X0_hasBoth_bookDraft   p1 p2 M = some (v, M')) : e_E X (d + 1) YX0_hasBoth [.inr (.inr 30), .inl p1, .inl p2] (557, gn, e_RF, M) (.inl (some (.inl v)), (557, gn, e_RF, M')) := by
  unfold f_X0_hasBoth_bookDraft at h
  refine wp_X0_hasBoth_bookDraft_0 (d := d)  M p1 p2 (f_mn) ?_
  obtain ⟨rr5, NN6, hc7, h⟩ := f_bd h
  refine ⟨rr5, NN6, s_X0_hasLine_bookDraft (d := d)  hc7, ?_⟩
  refine ⟨fun c => ?_, fun c => ?_⟩
  · rw [if_pos c] at h
    cases h; rfl
  · rw [if_neg c] at h
    obtain ⟨rr8, NN9, hc10, h⟩ := f_bd h
    refine ⟨rr8, NN9, s_X0_hasLine_bookDraft (d := d)  hc10, ?_⟩
    refine ⟨fun c => ?_, fun c => ?_⟩
    · rw [if_pos c] at h
      cases h; rfl
    · rw [if_neg c] at h
      cases h; rfl
def f_X10_back (p1 : Int) (M : e_M) : Option ((Int ⊕ Nat) × e_M) := (f_t (f_X10_needPerson p1 M) fun _ NN2 => (f_b (f_X3_hasBought_now p1 NN2) fun rr3 NN4 => (if rr3 = 0 then (some ((.inl (-1)), NN4)) else (if (0 ≤ p1 ∧ p1 < 6) then (some ((.inl (e_w (Int.tdiv (NN4 40 p1.toNat) 2))), NN4)) else none))))
theorem s_X10_back {X : e_X} {d gn : Nat} {p1 : Int} {M M' : e_M} {v : Int ⊕ Nat} (h : f_X10_back   p1 M = some (v, M')) : e_E X (d + 10) YX10_back [.inr (.inr 1), .inl p1] (557, gn, e_RF, M) (f_oT gn v M') := by
  unfold f_X10_back at h
  refine wp_X10_back_0 (d := d + 9)  M p1 (f_mnT) ?_
  rcases f_td h with ⟨rr5, NN6, hc7, h⟩ | ⟨rr5, NN6, hc7, h⟩
  · refine Or.inl ⟨NN6, s_X10_needPerson (d := d)  hc7, ?_⟩
    obtain ⟨rr8, NN9, hc10, h⟩ := f_bd h
    refine ⟨rr8, NN9, s_X3_hasBought_now (d := d + 9)  hc10, ?_⟩
    refine ⟨fun c => ?_, fun c => ?_⟩
    · rw [if_pos c] at h
      cases h; rfl
    · rw [if_neg c] at h
      obtain ⟨c11, h⟩ := f_gd h
      exact ⟨c11, by cases h; rfl⟩
  · exact Or.inr ⟨rr5, NN6, s_X10_needPerson (d := d)  hc7, by cases h; rfl⟩
def f_X10_crowd_14 : Nat → Int → Int → Int → Int → e_M → Option ((Int ⊕ Nat) × e_M)
  | 0, _, _, _, _, _ => none
  | n + 1, p1, v2, v3, v4, M => (if 60 < v4 then (if ¬ v2 = (-1) then (if ¬ p1 = 0 then (some ((.inl v3), M)) else (some ((.inl v2), M))) else (some ((.inl (-1)), M))) else (f_b (f_X3_openTasksOn_now n v4 M) fun rr1 NN2 => (if rr1 ≤ v3 then (f_X10_crowd_14 n p1 v2 v3 (e_w (v4 + 1)) NN2) else (f_X10_crowd_14 n p1 v4 rr1 (e_w (v4 + 1)) NN2))))
theorem s_X10_crowd_14 {X : e_X} {d gn : Nat} : ∀ n : Nat, ∀ (p1 v2 v3 v4 : Int) (M M' : e_M) (v : Int ⊕ Nat), f_X10_crowd_14  n p1 v2 v3 v4 M = some (v, M') → e_G X (d + 10) YX10_crowd 14 [some (.inr (.inr 1)), some (.inl p1), some (.inl v2), some (.inl v3), some (.inl v4), none] [] (557, gn, e_RF, M) (f_oT gn v M') := by
  intro n
  induction n with
  | zero => intro p1 v2 v3 v4 M M' v h; cases h
  | succ n ih =>
    intro p1 v2 v3 v4 M M' v h
    rw [f_X10_crowd_14] at h
    refine wp_X10_crowd_14 (d := d + 9)  M p1 v2 v3 v4 (f_mnT) ?_
    refine ⟨fun c => ?_, fun c => ?_⟩
    · rw [if_pos c] at h
      refine ⟨fun c => ?_, fun c => ?_⟩
      · rw [if_pos c] at h
        refine ⟨fun c => ?_, fun c => ?_⟩
        · rw [if_pos c] at h
          cases h; rfl
        · rw [if_neg (not_not_intro c)] at h
          cases h; rfl
      · rw [if_neg (not_not_intro c)] at h
        cases h; rfl
    · rw [if_neg c] at h
      obtain ⟨rr3, NN4, hc5, h⟩ := f_bd h
      refine ⟨rr3, NN4, s_X3_openTasksOn_now (d := d + 8)  hc5, ?_⟩
      refine ⟨fun c => ?_, fun c => ?_⟩
      · rw [if_pos c] at h
        exact ih _ _ _ _ _ _ _ h
      · rw [if_neg c] at h
        exact ih _ _ _ _ _ _ _ h
def f_X10_crowd (n : Nat) (p1 : Int) (M : e_M) : Option ((Int ⊕ Nat) × e_M) := (f_t (f_X10_needWithin p1 0 1 M) fun _ NN7 => (f_X10_crowd_14 n p1 (-1) 0 0 NN7))
theorem s_X10_crowd {X : e_X} {d gn : Nat} {n : Nat} {p1 : Int} {M M' : e_M} {v : Int ⊕ Nat} (h : f_X10_crowd  n p1 M = some (v, M')) : e_E X (d + 10) YX10_crowd [.inr (.inr 1), .inl p1] (557, gn, e_RF, M) (f_oT gn v M') := by
  unfold f_X10_crowd at h
  refine wp_X10_crowd_0 (d := d + 9)  M p1 (f_mnT) ?_
  rcases f_td h with ⟨rr8, NN9, hc10, h⟩ | ⟨rr8, NN9, hc10, h⟩
  · refine Or.inl ⟨NN9, s_X10_needWithin (d := d)  hc10, ?_⟩
    exact s_X10_crowd_14  _ _ _ _ _ _ _ _ h
  · exact Or.inr ⟨rr8, NN9, s_X10_needWithin (d := d)  hc10, by cases h; rfl⟩
def f_X10_due_15 : Nat → Int → Int → e_M → Option (Int × e_M)
  | 0, _, _, _ => none
  | n + 1, v1, v2, M => (if (M 4 2) ≤ v2 then (some (v1, M)) else (f_b (f_X3_fallsNow_trial v2 M) fun rr1 NN2 => (if rr1 = 0 then (f_X10_due_15 n v1 (e_w (v2 + 1)) NN2) else (if (0 ≤ v2 ∧ v2 < 12) then (f_b (f_X3_hasBought_trial (NN2 9 v2.toNat) NN2) fun rr3 NN4 => (if rr3 = 0 then (f_X10_due_15 n v1 (e_w (v2 + 1)) NN4) else (f_b (f_X3_payFine_trial v2 NN4) fun rr5 NN6 => (f_X10_due_15 n (e_w (v1 + rr5)) (e_w (v2 + 1)) NN6)))) else none))))
theorem s_X10_due_15 {X : e_X} {d gn : Nat} : ∀ n : Nat, ∀ (v1 v2 : Int) (M M' : e_M) (v : Int), f_X10_due_15  n v1 v2 M = some (v, M') → e_G X (d + 2) YX10_due 15 [some (.inr (.inr 1)), some (.inl v1), some (.inl v2)] [] (557, gn, e_RF, M) (.inl (some (.inl v)), (557, gn, e_RF, M')) := by
  intro n
  induction n with
  | zero => intro v1 v2 M M' v h; cases h
  | succ n ih =>
    intro v1 v2 M M' v h
    rw [f_X10_due_15] at h
    refine wp_X10_due_15 (d := d + 1)  M v1 v2 (f_mn) ?_
    refine ⟨fun c => ?_, fun c => ?_⟩
    · rw [if_pos c] at h
      cases h; rfl
    · rw [if_neg c] at h
      obtain ⟨rr7, NN8, hc9, h⟩ := f_bd h
      refine ⟨rr7, NN8, s_X3_fallsNow_trial (d := d + 1)  hc9, ?_⟩
      refine ⟨fun c => ?_, fun c => ?_⟩
      · rw [if_pos c] at h
        exact ih _ _ _ _ _ h
      · rw [if_neg c] at h
        obtain ⟨c10, h⟩ := f_gd h
        refine ⟨c10, ?_⟩
        obtain ⟨rr11, NN12, hc13, h⟩ := f_bd h
        refine ⟨rr11, NN12, s_X3_hasBought_trial (d := d + 1)  hc13, ?_⟩
        refine ⟨fun c => ?_, fun c => ?_⟩
        · rw [if_pos c] at h
          exact ih _ _ _ _ _ h
        · rw [if_neg c] at h
          obtain ⟨rr14, NN15, hc16, h⟩ := f_bd h
          refine ⟨rr14, NN15, s_X3_payFine_trial (d := d)  hc16, ?_⟩
          exact ih _ _ _ _ _ h
def f_X10_due (n : Nat) (M : e_M) : Option (Int × e_M) := (f_b (f_X3_copyFrom_trial M) fun _ NN18 => (f_X10_due_15 n 0 0 NN18))
theorem s_X10_due {X : e_X} {d gn : Nat} {n : Nat} {M M' : e_M} {v : Int} (h : f_X10_due  n  M = some (v, M')) : e_E X (d + 2) YX10_due [.inr (.inr 1)] (557, gn, e_RF, M) (.inl (some (.inl v)), (557, gn, e_RF, M')) := by
  unfold f_X10_due at h
  refine wp_X10_due_0 (d := d + 1)  M  (f_mn) ?_
  obtain ⟨rr19, NN20, hc21, h⟩ := f_bd h
  refine ⟨NN20, s_X3_copyFrom_trial (d := d)  hc21, ?_⟩
  exact s_X10_due_15  _ _ _ _ _ _ h
def f_X10_duty (n : Nat) (p1 p2 : Int) (M : e_M) : Option ((Int ⊕ Nat) × e_M) := (f_t (f_X10_needDuty p1 M) fun _ NN2 => (f_t (f_X10_needWithin p2 0 1 NN2) fun _ NN4 => (if ¬ p2 = 0 then (f_b (f_X8_ableBits_town n p1 NN4) fun rr5 NN6 => (some ((.inl rr5), NN6))) else (if (0 ≤ p1 ∧ p1 < 6) then (some ((.inl (NN4 8 p1.toNat)), NN4)) else none))))
theorem s_X10_duty {X : e_X} {d gn : Nat} {n : Nat} {p1 p2 : Int} {M M' : e_M} {v : Int ⊕ Nat} (h : f_X10_duty  n p1 p2 M = some (v, M')) : e_E X (d + 10) YX10_duty [.inr (.inr 1), .inl p1, .inl p2] (557, gn, e_RF, M) (f_oT gn v M') := by
  unfold f_X10_duty at h
  refine wp_X10_duty_0 (d := d + 9)  M p1 p2 (f_mnT) ?_
  rcases f_td h with ⟨rr7, NN8, hc9, h⟩ | ⟨rr7, NN8, hc9, h⟩
  · refine Or.inl ⟨NN8, s_X10_needDuty (d := d)  hc9, ?_⟩
    rcases f_td h with ⟨rr10, NN11, hc12, h⟩ | ⟨rr10, NN11, hc12, h⟩
    · refine Or.inl ⟨NN11, s_X10_needWithin (d := d)  hc12, ?_⟩
      refine ⟨fun c => ?_, fun c => ?_⟩
      · rw [if_pos c] at h
        obtain ⟨rr13, NN14, hc15, h⟩ := f_bd h
        refine ⟨rr13, NN14, s_X8_ableBits_town (d := d + 9)  hc15, ?_⟩
        cases h; rfl
      · rw [if_neg (not_not_intro c)] at h
        obtain ⟨c16, h⟩ := f_gd h
        exact ⟨c16, by cases h; rfl⟩
    · exact Or.inr ⟨rr10, NN11, s_X10_needWithin (d := d)  hc12, by cases h; rfl⟩
  · exact Or.inr ⟨rr7, NN8, s_X10_needDuty (d := d)  hc9, by cases h; rfl⟩
def f_X10_feed (n : Nat) (p1 p2 p3 p4 p5 : Int) (M : e_M) : Option (Int × e_M) := (f_b (f_X7_hasRoomFor 20 M) fun rr1 NN2 => (if ¬ rr1 = 0 then (f_b (f_X7_addBytesOf n p1 NN2) fun _ NN4 => (f_b (f_X7_addBytesOf n p2 NN4) fun _ NN6 => (f_b (f_X7_addBytesOf n p3 NN6) fun _ NN8 => (f_b (f_X7_addBytesOf n p4 NN8) fun _ NN10 => (f_b (f_X7_addBytesOf n p5 NN10) fun _ NN12 => (some ((NN12 2 1), NN12))))))) else (some ((-1), NN2))))
theorem s_X10_feed {X : e_X} {d gn : Nat} {n : Nat} {p1 p2 p3 p4 p5 : Int} {M M' : e_M} {v : Int} (h : f_X10_feed  n p1 p2 p3 p4 p5 M = some (v, M')) : e_E X (d + 1) YX10_feed [.inr (.inr 1), .inl p1, .inl p2, .inl p3, .inl p4, .inl p5] (557, gn, e_RF, M) (.inl (some (.inl v)), (557, gn, e_RF, M')) := by
  unfold f_X10_feed at h
  refine wp_X10_feed_0 (d := d)  M p1 p2 p3 p4 p5 (f_mn) ?_
  obtain ⟨rr13, NN14, hc15, h⟩ := f_bd h
  refine ⟨rr13, NN14, s_X7_hasRoomFor (d := d)  hc15, ?_⟩
  refine ⟨fun c => ?_, fun c => ?_⟩
  · rw [if_pos c] at h
    obtain ⟨rr16, NN17, hc18, h⟩ := f_bd h
    refine ⟨NN17, s_X7_addBytesOf (d := d)  hc18, ?_⟩
    obtain ⟨rr19, NN20, hc21, h⟩ := f_bd h
    refine ⟨NN20, s_X7_addBytesOf (d := d)  hc21, ?_⟩
    obtain ⟨rr22, NN23, hc24, h⟩ := f_bd h
    refine ⟨NN23, s_X7_addBytesOf (d := d)  hc24, ?_⟩
    obtain ⟨rr25, NN26, hc27, h⟩ := f_bd h
    refine ⟨NN26, s_X7_addBytesOf (d := d)  hc27, ?_⟩
    obtain ⟨rr28, NN29, hc30, h⟩ := f_bd h
    refine ⟨NN29, s_X7_addBytesOf (d := d)  hc30, ?_⟩
    cases h; rfl
  · rw [if_neg (not_not_intro c)] at h
    cases h; rfl
def f_X10_image (M : e_M) : Option (Int × e_M) := (if (M 1 15) < 3 then (if (0 ≤ (M 1 15) ∧ (M 1 15) < 3) then (f_b (f_X5_copyFrom (58 + 2 * (M 1 15).toNat) ((58 + 2 * (M 1 15).toNat) + 1) 765 55 56 765 M) fun _ NN2 => (if (0 ≤ (NN2 1 15) ∧ (NN2 1 15) < 3) then (f_b (f_X5_push (58 + 2 * (NN2 1 15).toNat) ((58 + 2 * (NN2 1 15).toNat) + 1) 765 NN2) fun _ NN4 => (some (((e_up NN4 1 15 (e_w ((NN4 1 15) + 1))) 1 15), (e_up NN4 1 15 (e_w ((NN4 1 15) + 1)))))) else none)) else none) else (some ((-1), M)))
theorem s_X10_image {X : e_X} {d gn : Nat} {M M' : e_M} {v : Int} (h : f_X10_image    M = some (v, M')) : e_E X (d + 3) YX10_image [.inr (.inr 1)] (557, gn, e_RF, M) (.inl (some (.inl v)), (557, gn, e_RF, M')) := by
  unfold f_X10_image at h
  refine wp_X10_image_0 (d := d + 2)  M  (f_mn) ?_
  refine ⟨fun c => ?_, fun c => ?_⟩
  · rw [if_pos c] at h
    obtain ⟨c5, h⟩ := f_gd h
    refine ⟨c5, ?_⟩
    obtain ⟨rr6, NN7, hc8, h⟩ := f_bd h
    refine ⟨NN7, s_X5_copyFrom (d := d + 1) (sq_57 c5.1 c5.2).1 (sq_57 c5.1 c5.2).2.1 (sq_57 c5.1 c5.2).2.2 (sb_57 c5.1 c5.2).2.2.2 (sb_57 c5.1 c5.2).1 (sb_57 c5.1 c5.2).2.1 (sb_57 c5.1 c5.2).2.2.1 rfl (Nat.le_of_ble_eq_true rfl) (by decide) rfl rfl (Nat.le_of_ble_eq_true rfl) (by decide) hc8, ?_⟩
    obtain ⟨c9, h⟩ := f_gd h
    refine ⟨c9, ?_⟩
    obtain ⟨rr10, NN11, hc12, h⟩ := f_bd h
    refine ⟨NN11, s_X5_push (d := d) (sq_57 c9.1 c9.2).1 (sq_57 c9.1 c9.2).2.1 (sq_57 c9.1 c9.2).2.2 (sb_57 c9.1 c9.2).2.2.2 (sb_57 c9.1 c9.2).1 (sb_57 c9.1 c9.2).2.1 (sb_57 c9.1 c9.2).2.2.1 hc12, ?_⟩
    cases h; rfl
  · rw [if_neg c] at h
    cases h; rfl
def f_X10_lone_4 : Nat → Int → Int → e_M → Option (Int × e_M)
  | 0, _, _, _ => none
  | n + 1, v1, v2, M => (if (M 4 1) ≤ v2 then (some (v1, M)) else (f_b (f_X8_ableBits_town n v2 M) fun rr1 NN2 => (f_b (f_J6_bitCount_0f7a4 rr1 NN2) fun rr3 NN4 => (if ¬ rr3 = 1 then (f_X10_lone_4 n v1 (e_w (v2 + 1)) NN4) else (f_X10_lone_4 n (e_or v1 (e_shl 1 v2)) (e_w (v2 + 1)) NN4)))))
theorem s_X10_lone_4 {X : e_X} {d gn : Nat} : ∀ n : Nat, ∀ (v1 v2 : Int) (M M' : e_M) (v : Int), f_X10_lone_4  n v1 v2 M = some (v, M') → e_G X (d + 1) YX10_lone 4 [some (.inr (.inr 1)), some (.inl v1), some (.inl v2)] [] (557, gn, e_RF, M) (.inl (some (.inl v)), (557, gn, e_RF, M')) := by
  intro n
  induction n with
  | zero => intro v1 v2 M M' v h; cases h
  | succ n ih =>
    intro v1 v2 M M' v h
    rw [f_X10_lone_4] at h
    refine wp_X10_lone_4 (d := d)  M v1 v2 (f_mn) ?_
    refine ⟨fun c => ?_, fun c => ?_⟩
    · rw [if_pos c] at h
      cases h; rfl
    · rw [if_neg c] at h
      obtain ⟨rr5, NN6, hc7, h⟩ := f_bd h
      refine ⟨rr5, NN6, s_X8_ableBits_town (d := d)  hc7, ?_⟩
      obtain ⟨rr8, NN9, hc10, h⟩ := f_bd h
      refine ⟨rr8, NN9, s_J6_bitCount_0f7a4 (d := d)  hc10, ?_⟩
      refine ⟨fun c => ?_, fun c => ?_⟩
      · rw [if_pos c] at h
        exact ih _ _ _ _ _ h
      · rw [if_neg (not_not_intro c)] at h
        exact ih _ _ _ _ _ h
def f_X10_lone (n : Nat) (M : e_M) : Option (Int × e_M) := (f_X10_lone_4 n 0 0 M)
theorem s_X10_lone {X : e_X} {d gn : Nat} {n : Nat} {M M' : e_M} {v : Int} (h : f_X10_lone  n  M = some (v, M')) : e_E X (d + 1) YX10_lone [.inr (.inr 1)] (557, gn, e_RF, M) (.inl (some (.inl v)), (557, gn, e_RF, M')) := by
  unfold f_X10_lone at h
  refine wp_X10_lone_0 (d := d)  M  ?_
  exact s_X10_lone_4  _ _ _ _ _ _ h
def f_X10_met_79 : Nat → Int → Int → Int → Int → Int → Int → Int → Int → e_M → Option ((Int ⊕ Nat) × e_M)
  | 0, _, _, _, _, _, _, _, _, _ => none
  | n + 1, p1, p2, p3, v4, v6, v8, v10, v12, M => (if 56 ≤ v12 then (if ¬ p3 = 0 then (some ((.inl v10), M)) else (some ((.inl v8), M))) else (if ¬ (e_cmp (e_wl (Int.tmod v10 2)) 0) = 0 then (if ¬ p3 = 0 then (some ((.inl v10), M)) else (some ((.inl v8), M))) else (if ¬ (e_cmp (e_wl (Int.tmod v8 2)) 0) = 0 then (if ¬ p3 = 0 then (some ((.inl v10), M)) else (some ((.inl v8), M))) else (f_X10_met_79 n p1 p2 p3 v4 v6 (e_wl (Int.tdiv v8 2)) (e_wl (Int.tdiv v10 2)) (e_w (v12 + 1)) M))))
theorem s_X10_met_79 {X : e_X} {d gn : Nat} : ∀ n : Nat, ∀ (p1 p2 p3 v4 v6 v8 v10 v12 : Int) (M M' : e_M) (v : Int ⊕ Nat), f_X10_met_79  n p1 p2 p3 v4 v6 v8 v10 v12 M = some (v, M') → e_G X (d + 10) YX10_met 79 [some (.inr (.inr 1)), some (.inl p1), some (.inl p2), some (.inl p3), some (.inr (.inl v4)), none, some (.inr (.inl v6)), none, some (.inr (.inl v8)), none, some (.inr (.inl v10)), none, some (.inl v12)] [] (557, gn, e_RF, M) (f_oL gn v M') := by
  intro n
  induction n with
  | zero => intro p1 p2 p3 v4 v6 v8 v10 v12 M M' v h; cases h
  | succ n ih =>
    intro p1 p2 p3 v4 v6 v8 v10 v12 M M' v h
    rw [f_X10_met_79] at h
    refine wp_X10_met_79 (d := d + 9)  M p1 p2 p3 v4 v6 v8 v10 v12 ?_
    refine ⟨fun c => ?_, fun c => ?_⟩
    · rw [if_pos c] at h
      refine wp_X10_met_130 (d := d + 9)  _ _ _ _ _ _ _ _ _ ?_
      refine ⟨fun c => ?_, fun c => ?_⟩
      · rw [if_pos c] at h
        cases h; rfl
      · rw [if_neg (not_not_intro c)] at h
        cases h; rfl
    · rw [if_neg c] at h
      refine ⟨fun c => ?_, fun c => ?_⟩
      · rw [if_pos c] at h
        refine wp_X10_met_130 (d := d + 9)  _ _ _ _ _ _ _ _ _ ?_
        refine ⟨fun c => ?_, fun c => ?_⟩
        · rw [if_pos c] at h
          cases h; rfl
        · rw [if_neg (not_not_intro c)] at h
          cases h; rfl
      · rw [if_neg (not_not_intro c)] at h
        refine ⟨fun c => ?_, fun c => ?_⟩
        · rw [if_pos c] at h
          refine wp_X10_met_130 (d := d + 9)  _ _ _ _ _ _ _ _ _ ?_
          refine ⟨fun c => ?_, fun c => ?_⟩
          · rw [if_pos c] at h
            cases h; rfl
          · rw [if_neg (not_not_intro c)] at h
            cases h; rfl
        · rw [if_neg (not_not_intro c)] at h
          exact ih _ _ _ _ _ _ _ _ _ _ _ h
def f_X10_met_32 : Nat → Int → Int → Int → Int → Int → Int → e_M → Option ((Int ⊕ Nat) × e_M)
  | 0, _, _, _, _, _, _, _ => none
  | n + 1, p1, p2, p3, v4, v6, v8, M => (if p1 ≤ v8 then (f_X10_met_79 n p1 p2 p3 v4 v6 (e_wl (v4 - v6)) v4 0 M) else (f_X10_met_32 n p1 p2 p3 (e_wl (v4 * 256)) (e_wl (v6 * (e_w (256 - (e_w (p2 * p2)))))) (e_w (v8 + 1)) M))
theorem s_X10_met_32 {X : e_X} {d gn : Nat} : ∀ n : Nat, ∀ (p1 p2 p3 v4 v6 v8 : Int) (M M' : e_M) (v : Int ⊕ Nat), f_X10_met_32  n p1 p2 p3 v4 v6 v8 M = some (v, M') → e_G X (d + 10) YX10_met 32 [some (.inr (.inr 1)), some (.inl p1), some (.inl p2), some (.inl p3), some (.inr (.inl v4)), none, some (.inr (.inl v6)), none, some (.inl v8), none, none, none, none] [] (557, gn, e_RF, M) (f_oL gn v M') := by
  intro n
  induction n with
  | zero => intro p1 p2 p3 v4 v6 v8 M M' v h; cases h
  | succ n ih =>
    intro p1 p2 p3 v4 v6 v8 M M' v h
    rw [f_X10_met_32] at h
    refine wp_X10_met_32 (d := d + 9)  M p1 p2 p3 v4 v6 v8 ?_
    refine ⟨fun c => ?_, fun c => ?_⟩
    · rw [if_pos c] at h
      exact s_X10_met_79  _ _ _ _ _ _ _ _ _ _ _ _ h
    · rw [if_neg c] at h
      exact ih _ _ _ _ _ _ _ _ _ h
def f_X10_met (n : Nat) (p1 p2 p3 : Int) (M : e_M) : Option ((Int ⊕ Nat) × e_M) := (f_t (f_X10_needWithin p1 0 7 M) fun _ NN2 => (f_t (f_X10_needWithin p2 0 16 NN2) fun _ NN4 => (f_t (f_X10_needWithin p3 0 1 NN4) fun _ NN6 => (f_X10_met_32 n p1 p2 p3 1 1 0 NN6))))
theorem s_X10_met {X : e_X} {d gn : Nat} {n : Nat} {p1 p2 p3 : Int} {M M' : e_M} {v : Int ⊕ Nat} (h : f_X10_met  n p1 p2 p3 M = some (v, M')) : e_E X (d + 10) YX10_met [.inr (.inr 1), .inl p1, .inl p2, .inl p3] (557, gn, e_RF, M) (f_oL gn v M') := by
  unfold f_X10_met at h
  refine wp_X10_met_0 (d := d + 9)  M p1 p2 p3 (f_mnL) ?_
  rcases f_td h with ⟨rr7, NN8, hc9, h⟩ | ⟨rr7, NN8, hc9, h⟩
  · refine Or.inl ⟨NN8, s_X10_needWithin (d := d)  hc9, ?_⟩
    rcases f_td h with ⟨rr10, NN11, hc12, h⟩ | ⟨rr10, NN11, hc12, h⟩
    · refine Or.inl ⟨NN11, s_X10_needWithin (d := d)  hc12, ?_⟩
      rcases f_td h with ⟨rr13, NN14, hc15, h⟩ | ⟨rr13, NN14, hc15, h⟩
      · refine Or.inl ⟨NN14, s_X10_needWithin (d := d)  hc15, ?_⟩
        exact s_X10_met_32  _ _ _ _ _ _ _ _ _ _ h
      · exact Or.inr ⟨rr13, NN14, s_X10_needWithin (d := d)  hc15, by cases h; rfl⟩
    · exact Or.inr ⟨rr10, NN11, s_X10_needWithin (d := d)  hc12, by cases h; rfl⟩
  · exact Or.inr ⟨rr7, NN8, s_X10_needWithin (d := d)  hc9, by cases h; rfl⟩
def f_X10_missed_4 : Nat → Int → Int → e_M → Option (Int × e_M)
  | 0, _, _, _ => none
  | n + 1, v1, v2, M => (if (M 4 2) ≤ v2 then (some (v1, M)) else (f_b (f_X3_isDone_now v2 M) fun rr1 NN2 => (if ¬ rr1 = 0 then (f_X10_missed_4 n v1 (e_w (v2 + 1)) NN2) else (if (0 ≤ v2 ∧ v2 < 12) then (if (NN2 36 2) ≤ (NN2 42 v2.toNat) then (f_X10_missed_4 n v1 (e_w (v2 + 1)) NN2) else (f_X10_missed_4 n (e_or v1 (e_shl 1 v2)) (e_w (v2 + 1)) NN2)) else none))))
theorem s_X10_missed_4 {X : e_X} {d gn : Nat} : ∀ n : Nat, ∀ (v1 v2 : Int) (M M' : e_M) (v : Int), f_X10_missed_4  n v1 v2 M = some (v, M') → e_G X (d + 1) YX10_missed 4 [some (.inr (.inr 1)), some (.inl v1), some (.inl v2)] [] (557, gn, e_RF, M) (.inl (some (.inl v)), (557, gn, e_RF, M')) := by
  intro n
  induction n with
  | zero => intro v1 v2 M M' v h; cases h
  | succ n ih =>
    intro v1 v2 M M' v h
    rw [f_X10_missed_4] at h
    refine wp_X10_missed_4 (d := d)  M v1 v2 (f_mn) ?_
    refine ⟨fun c => ?_, fun c => ?_⟩
    · rw [if_pos c] at h
      cases h; rfl
    · rw [if_neg c] at h
      obtain ⟨rr3, NN4, hc5, h⟩ := f_bd h
      refine ⟨rr3, NN4, s_X3_isDone_now (d := d)  hc5, ?_⟩
      refine ⟨fun c => ?_, fun c => ?_⟩
      · rw [if_pos c] at h
        exact ih _ _ _ _ _ h
      · rw [if_neg (not_not_intro c)] at h
        obtain ⟨c6, h⟩ := f_gd h
        refine ⟨c6, ?_⟩
        refine ⟨fun c => ?_, fun c => ?_⟩
        · rw [if_pos c] at h
          exact ih _ _ _ _ _ h
        · rw [if_neg c] at h
          exact ih _ _ _ _ _ h
def f_X10_missed (n : Nat) (M : e_M) : Option (Int × e_M) := (f_X10_missed_4 n 0 0 M)
theorem s_X10_missed {X : e_X} {d gn : Nat} {n : Nat} {M M' : e_M} {v : Int} (h : f_X10_missed  n  M = some (v, M')) : e_E X (d + 1) YX10_missed [.inr (.inr 1)] (557, gn, e_RF, M) (.inl (some (.inl v)), (557, gn, e_RF, M')) := by
  unfold f_X10_missed at h
  refine wp_X10_missed_0 (d := d)  M  ?_
  exact s_X10_missed_4  _ _ _ _ _ _ h
def f_X10_needText (p1 p2 : Int) (M : e_M) : Option ((Int ⊕ Nat) × e_M) := (f_t (f_X10_needWithin p1 0 (min (M 2 1) p2) M) fun _ NN2 => (some ((.inl 0), NN2)))
theorem s_X10_needText {X : e_X} {d gn : Nat} {p1 p2 : Int} {M M' : e_M} {v : Int ⊕ Nat} (h : f_X10_needText   p1 p2 M = some (v, M')) : e_E X (d + 10) YX10_needText [.inr (.inr 1), .inl p1, .inl p2] (557, gn, e_RF, M) (f_oV gn v M') := by
  unfold f_X10_needText at h
  refine wp_X10_needText_0 (d := d + 9)  M p1 p2 (f_mnV) ?_
  rcases f_td h with ⟨rr3, NN4, hc5, h⟩ | ⟨rr3, NN4, hc5, h⟩
  · refine Or.inl ⟨NN4, s_X10_needWithin (d := d)  hc5, ?_⟩
    cases h; rfl
  · exact Or.inr ⟨rr3, NN4, s_X10_needWithin (d := d)  hc5, by cases h; rfl⟩
def f_X10_needTwo (p1 p2 p3 : Int) (M : e_M) : Option ((Int ⊕ Nat) × e_M) := (f_t (f_X10_needPerson p1 M) fun _ NN2 => (f_t (f_X10_needPerson p2 NN2) fun _ NN4 => (if ¬ p1 = p2 then (f_t (f_X10_needWithin p3 0 20 NN4) fun _ NN10 => (some ((.inl 0), NN10))) else (f_t (f_X10_refuseArgument NN4) fun _ NN6 => (f_t (f_X10_needWithin p3 0 20 NN6) fun _ NN8 => (some ((.inl 0), NN8)))))))
theorem s_X10_needTwo {X : e_X} {d gn : Nat} {p1 p2 p3 : Int} {M M' : e_M} {v : Int ⊕ Nat} (h : f_X10_needTwo   p1 p2 p3 M = some (v, M')) : e_E X (d + 10) YX10_needTwo [.inr (.inr 1), .inl p1, .inl p2, .inl p3] (557, gn, e_RF, M) (f_oV gn v M') := by
  unfold f_X10_needTwo at h
  refine wp_X10_needTwo_0 (d := d + 9)  M p1 p2 p3 (f_mnV) ?_
  rcases f_td h with ⟨rr11, NN12, hc13, h⟩ | ⟨rr11, NN12, hc13, h⟩
  · refine Or.inl ⟨NN12, s_X10_needPerson (d := d)  hc13, ?_⟩
    rcases f_td h with ⟨rr14, NN15, hc16, h⟩ | ⟨rr14, NN15, hc16, h⟩
    · refine Or.inl ⟨NN15, s_X10_needPerson (d := d)  hc16, ?_⟩
      refine ⟨fun c => ?_, fun c => ?_⟩
      · rw [if_pos c] at h
        refine wp_X10_needTwo_19 (d := d + 9)  _ _ _ _ (f_mnV) ?_
        rcases f_td h with ⟨rr17, NN18, hc19, h⟩ | ⟨rr17, NN18, hc19, h⟩
        · refine Or.inl ⟨NN18, s_X10_needWithin (d := d)  hc19, ?_⟩
          cases h; rfl
        · exact Or.inr ⟨rr17, NN18, s_X10_needWithin (d := d)  hc19, by cases h; rfl⟩
      · rw [if_neg (not_not_intro c)] at h
        rcases f_td h with ⟨rr20, NN21, hc22, h⟩ | ⟨rr20, NN21, hc22, h⟩
        · refine Or.inl ⟨NN21, s_X10_refuseArgument (d := d + 1)  hc22, ?_⟩
          refine wp_X10_needTwo_19 (d := d + 9)  _ _ _ _ (f_mnV) ?_
          rcases f_td h with ⟨rr23, NN24, hc25, h⟩ | ⟨rr23, NN24, hc25, h⟩
          · refine Or.inl ⟨NN24, s_X10_needWithin (d := d)  hc25, ?_⟩
            cases h; rfl
          · exact Or.inr ⟨rr23, NN24, s_X10_needWithin (d := d)  hc25, by cases h; rfl⟩
        · exact Or.inr ⟨rr20, NN21, s_X10_refuseArgument (d := d + 1)  hc22, by cases h; rfl⟩
    · exact Or.inr ⟨rr14, NN15, s_X10_needPerson (d := d)  hc16, by cases h; rfl⟩
  · exact Or.inr ⟨rr11, NN12, s_X10_needPerson (d := d)  hc13, by cases h; rfl⟩
def f_X10_open_L35 : Nat → Nat → Int → Int → Int → Int → Int → Int → Int → Int → e_M → Option ((Int ⊕ Nat) × e_M)
  | 0, _, _, _, _, _, _, _, _, _, _ => none
  | n + 1, k, p1, p2, p3, v4, v5, v6, v7, v8, M => (if k = 0 then (if 1 < v7 then (if p3 = 0 then (some ((.inl v4), M)) else (if p3 = 1 then (some ((.inl v5), M)) else (some ((.inl v6), M)))) else (f_X10_open_L35 n 1 p1 p2 p3 v4 v5 v6 v7 0 M)) else (if 1 < v8 then (f_X10_open_L35 n 0 p1 p2 p3 v4 v5 v6 (e_w (v7 + 1)) 0 M) else (f_b (f_X10_shopHas v7 v8 p1 p2 M) fun rr1 NN2 => (f_b (f_X10_shopHas v8 v7 p1 p2 NN2) fun rr3 NN4 => (f_b (f_X10_shopHas (e_w (1 - v7)) v8 p1 p2 NN4) fun rr5 NN6 => (if rr1 < rr5 then (f_X10_open_L35 n 1 p1 p2 p3 v4 v5 v6 v7 (e_w (v8 + 1)) NN6) else (f_b (f_X10_shopHas (e_w (1 - v8)) v7 p1 p2 NN6) fun rr7 NN8 => (if rr3 < rr7 then (f_X10_open_L35 n 1 p1 p2 p3 v4 v5 v6 v7 (e_w (v8 + 1)) NN8) else (if ¬ v4 = 0 then (f_X10_open_L35 n 1 p1 p2 p3 (e_w (v4 + 1)) v5 v6 v7 (e_w (v8 + 1)) NN8) else (f_X10_open_L35 n 1 p1 p2 p3 (e_w (v4 + 1)) (e_w ((e_w (10 * v7)) + v8)) (e_w (rr1 + rr3)) v7 (e_w (v8 + 1)) NN8))))))))))
theorem s_X10_open_L35 {X : e_X} {d gn : Nat} : ∀ n : Nat, (∀ (p1 p2 p3 v4 v5 v6 v7 : Int) (M M' : e_M) (v : Int ⊕ Nat), f_X10_open_L35  n 0 p1 p2 p3 v4 v5 v6 v7 0 M = some (v, M') → e_G X (d + 10) YX10_open 35 [some (.inr (.inr 1)), some (.inl p1), some (.inl p2), some (.inl p3), some (.inl v4), some (.inl v5), some (.inl v6), some (.inl v7), none, none, none] [] (557, gn, e_RF, M) (f_oT gn v M')) ∧ (∀ (p1 p2 p3 v4 v5 v6 v7 v8 : Int) (M M' : e_M) (v : Int ⊕ Nat), f_X10_open_L35  n 1 p1 p2 p3 v4 v5 v6 v7 v8 M = some (v, M') → e_G X (d + 10) YX10_open 44 [some (.inr (.inr 1)), some (.inl p1), some (.inl p2), some (.inl p3), some (.inl v4), some (.inl v5), some (.inl v6), some (.inl v7), some (.inl v8), none, none] [] (557, gn, e_RF, M) (f_oT gn v M')) := by
  intro n
  induction n with
  | zero => exact ⟨(by intro p1 p2 p3 v4 v5 v6 v7 M M' v h; cases h), (by intro p1 p2 p3 v4 v5 v6 v7 v8 M M' v h; cases h)⟩
  | succ n ih =>
    refine ⟨?_, ?_⟩
    · intro p1 p2 p3 v4 v5 v6 v7 M M' v h
      rw [f_X10_open_L35, if_pos rfl] at h
      refine wp_X10_open_35 (d := d + 9)  M p1 p2 p3 v4 v5 v6 v7 ?_
      refine ⟨fun c => ?_, fun c => ?_⟩
      · rw [if_pos c] at h
        refine ⟨fun c => ?_, fun c => ?_, fun c => ?_⟩
        · rw [if_pos c] at h
          cases h; rfl
        · rw [if_neg (by omega), if_pos c] at h
          cases h; rfl
        · rw [if_neg (by omega), if_neg (by omega)] at h
          cases h; rfl
      · rw [if_neg c] at h
        exact ih.2 _ _ _ _ _ _ _ _ _ _ _ h
    · intro p1 p2 p3 v4 v5 v6 v7 v8 M M' v h
      rw [f_X10_open_L35, if_neg (by decide)] at h
      refine wp_X10_open_44 (d := d + 9)  M p1 p2 p3 v4 v5 v6 v7 v8 (f_mnT) ?_
      refine ⟨fun c => ?_, fun c => ?_⟩
      · rw [if_pos c] at h
        exact ih.1 _ _ _ _ _ _ _ _ _ _ h
      · rw [if_neg c] at h
        obtain ⟨rr9, NN10, hc11, h⟩ := f_bd h
        refine ⟨rr9, NN10, s_X10_shopHas (d := d + 9)  hc11, ?_⟩
        obtain ⟨rr12, NN13, hc14, h⟩ := f_bd h
        refine ⟨rr12, NN13, s_X10_shopHas (d := d + 9)  hc14, ?_⟩
        obtain ⟨rr15, NN16, hc17, h⟩ := f_bd h
        refine ⟨rr15, NN16, s_X10_shopHas (d := d + 9)  hc17, ?_⟩
        refine ⟨fun c => ?_, fun c => ?_⟩
        · rw [if_pos c] at h
          exact ih.2 _ _ _ _ _ _ _ _ _ _ _ h
        · rw [if_neg c] at h
          obtain ⟨rr18, NN19, hc20, h⟩ := f_bd h
          refine ⟨rr18, NN19, s_X10_shopHas (d := d + 9)  hc20, ?_⟩
          refine ⟨fun c => ?_, fun c => ?_⟩
          · rw [if_pos c] at h
            exact ih.2 _ _ _ _ _ _ _ _ _ _ _ h
          · rw [if_neg c] at h
            refine ⟨fun c => ?_, fun c => ?_⟩
            · rw [if_pos c] at h
              exact ih.2 _ _ _ _ _ _ _ _ _ _ _ h
            · rw [if_neg (not_not_intro c)] at h
              exact ih.2 _ _ _ _ _ _ _ _ _ _ _ h
theorem s_X10_open_35 {X : e_X} {d gn : Nat} (n : Nat) : (∀ (p1 p2 p3 v4 v5 v6 v7 : Int) (M M' : e_M) (v : Int ⊕ Nat), f_X10_open_L35  n 0 p1 p2 p3 v4 v5 v6 v7 0 M = some (v, M') → e_G X (d + 10) YX10_open 35 [some (.inr (.inr 1)), some (.inl p1), some (.inl p2), some (.inl p3), some (.inl v4), some (.inl v5), some (.inl v6), some (.inl v7), none, none, none] [] (557, gn, e_RF, M) (f_oT gn v M')) := (s_X10_open_L35  n).1
theorem s_X10_open_44 {X : e_X} {d gn : Nat} (n : Nat) : (∀ (p1 p2 p3 v4 v5 v6 v7 v8 : Int) (M M' : e_M) (v : Int ⊕ Nat), f_X10_open_L35  n 1 p1 p2 p3 v4 v5 v6 v7 v8 M = some (v, M') → e_G X (d + 10) YX10_open 44 [some (.inr (.inr 1)), some (.inl p1), some (.inl p2), some (.inl p3), some (.inl v4), some (.inl v5), some (.inl v6), some (.inl v7), some (.inl v8), none, none] [] (557, gn, e_RF, M) (f_oT gn v M')) := (s_X10_open_L35  n).2
def f_X10_open (n : Nat) (p1 p2 p3 : Int) (M : e_M) : Option ((Int ⊕ Nat) × e_M) := (f_t (f_X10_needWithin p1 0 99 M) fun _ NN22 => (f_t (f_X10_needWithin p2 0 99 NN22) fun _ NN24 => (f_t (f_X10_needWithin p3 0 2 NN24) fun _ NN26 => (f_X10_open_L35 n 0 p1 p2 p3 0 (-1) 0 0 0 NN26))))
theorem s_X10_open {X : e_X} {d gn : Nat} {n : Nat} {p1 p2 p3 : Int} {M M' : e_M} {v : Int ⊕ Nat} (h : f_X10_open  n p1 p2 p3 M = some (v, M')) : e_E X (d + 10) YX10_open [.inr (.inr 1), .inl p1, .inl p2, .inl p3] (557, gn, e_RF, M) (f_oT gn v M') := by
  unfold f_X10_open at h
  refine wp_X10_open_0 (d := d + 9)  M p1 p2 p3 (f_mnT) ?_
  rcases f_td h with ⟨rr27, NN28, hc29, h⟩ | ⟨rr27, NN28, hc29, h⟩
  · refine Or.inl ⟨NN28, s_X10_needWithin (d := d)  hc29, ?_⟩
    rcases f_td h with ⟨rr30, NN31, hc32, h⟩ | ⟨rr30, NN31, hc32, h⟩
    · refine Or.inl ⟨NN31, s_X10_needWithin (d := d)  hc32, ?_⟩
      rcases f_td h with ⟨rr33, NN34, hc35, h⟩ | ⟨rr33, NN34, hc35, h⟩
      · refine Or.inl ⟨NN34, s_X10_needWithin (d := d)  hc35, ?_⟩
        exact s_X10_open_35  _ _ _ _ _ _ _ _ _ _ _ h
      · exact Or.inr ⟨rr33, NN34, s_X10_needWithin (d := d)  hc35, by cases h; rfl⟩
    · exact Or.inr ⟨rr30, NN31, s_X10_needWithin (d := d)  hc32, by cases h; rfl⟩
  · exact Or.inr ⟨rr27, NN28, s_X10_needWithin (d := d)  hc29, by cases h; rfl⟩
def f_X10_restore (M : e_M) : Option (Int × e_M) := (if 0 < (M 1 15) then (if (0 ≤ ((e_up M 1 15 (e_w ((M 1 15) - 1))) 1 15) ∧ ((e_up M 1 15 (e_w ((M 1 15) - 1))) 1 15) < 3) then (f_b (f_X5_popInto (58 + 2 * ((e_up M 1 15 (e_w ((M 1 15) - 1))) 1 15).toNat) ((58 + 2 * ((e_up M 1 15 (e_w ((M 1 15) - 1))) 1 15).toNat) + 1) 765 (e_up M 1 15 (e_w ((M 1 15) - 1)))) fun rr1 NN2 => (if (0 ≤ (NN2 1 15) ∧ (NN2 1 15) < 3) then (f_b (f_X5_copyFrom 55 56 765 (58 + 2 * (NN2 1 15).toNat) ((58 + 2 * (NN2 1 15).toNat) + 1) 765 NN2) fun _ NN4 => (f_b (f_X4_forgetRefused NN4) fun _ NN6 => (some ((NN6 1 15), NN6)))) else none)) else none) else (some ((-1), M)))
theorem s_X10_restore {X : e_X} {d gn : Nat} {M M' : e_M} {v : Int} (h : f_X10_restore    M = some (v, M')) : e_E X (d + 3) YX10_restore [.inr (.inr 1)] (557, gn, e_RF, M) (.inl (some (.inl v)), (557, gn, e_RF, M')) := by
  unfold f_X10_restore at h
  refine wp_X10_restore_0 (d := d + 2)  M  (f_mn) ?_
  refine ⟨fun c => ?_, fun c => ?_⟩
  · rw [if_pos c] at h
    obtain ⟨c7, h⟩ := f_gd h
    refine ⟨c7, ?_⟩
    obtain ⟨rr8, NN9, hc10, h⟩ := f_bd h
    refine ⟨rr8, NN9, s_X5_popInto (d := d) (sq_57 c7.1 c7.2).1 (sq_57 c7.1 c7.2).2.1 (sq_57 c7.1 c7.2).2.2 (sb_57 c7.1 c7.2).2.2.2 (sb_57 c7.1 c7.2).1 (sb_57 c7.1 c7.2).2.1 (sb_57 c7.1 c7.2).2.2.1 hc10, ?_⟩
    obtain ⟨c11, h⟩ := f_gd h
    refine ⟨c11, ?_⟩
    obtain ⟨rr12, NN13, hc14, h⟩ := f_bd h
    refine ⟨NN13, s_X5_copyFrom (d := d + 1) rfl (Nat.le_of_ble_eq_true rfl) (by decide) rfl rfl (Nat.le_of_ble_eq_true rfl) (by decide) (sq_57 c11.1 c11.2).1 (sq_57 c11.1 c11.2).2.1 (sq_57 c11.1 c11.2).2.2 (sb_57 c11.1 c11.2).2.2.2 (sb_57 c11.1 c11.2).1 (sb_57 c11.1 c11.2).2.1 (sb_57 c11.1 c11.2).2.2.1 hc14, ?_⟩
    obtain ⟨rr15, NN16, hc17, h⟩ := f_bd h
    refine ⟨NN16, s_X4_forgetRefused (d := d + 2)  hc17, ?_⟩
    cases h; rfl
  · rw [if_neg c] at h
    cases h; rfl
