def f_X10_cheapest_14 : Nat → Int → Int → Int → Int → e_M → Option ((Int ⊕ Nat) × e_M)
  | 0, _, _, _, _, _ => none
  | n + 1, p1, v2, v3, v4, M => (if (M 4 0) ≤ v4 then (if ¬ p1 = 0 then (some ((.inl v3), M)) else (some ((.inl v2), M))) else (f_b (f_X3_hasBought_now v4 M) fun rr1 NN2 => (if ¬ rr1 = 0 then (f_X10_cheapest_14 n p1 v2 v3 (e_w (v4 + 1)) NN2) else (f_b (f_X3_priceFor_now n v4 NN2) fun rr3 NN4 => (if v2 = (-1) then (f_X10_cheapest_14 n p1 v4 rr3 (e_w (v4 + 1)) NN4) else (if v3 ≤ rr3 then (f_X10_cheapest_14 n p1 v2 v3 (e_w (v4 + 1)) NN4) else (f_X10_cheapest_14 n p1 v4 rr3 (e_w (v4 + 1)) NN4)))))))
theorem s_X10_cheapest_14 {X : e_X} {d gn : Nat} : ∀ n : Nat, ∀ (p1 v2 v3 v4 : Int) (M M' : e_M) (v : Int ⊕ Nat), f_X10_cheapest_14  n p1 v2 v3 v4 M = some (v, M') → e_G X (d + 10) YX10_cheapest 14 [some (.inr (.inr 1)), some (.inl p1), some (.inl v2), some (.inl v3), some (.inl v4), none] [] (557, gn, e_RF, M) (f_oT gn v M') := by
  intro n
  induction n with
  | zero => intro p1 v2 v3 v4 M M' v h; cases h
  | succ n ih =>
    intro p1 v2 v3 v4 M M' v h
    rw [f_X10_cheapest_14] at h
    refine wp_X10_cheapest_14 (d := d + 9)  M p1 v2 v3 v4 (f_mnT) ?_
    refine ⟨fun c => ?_, fun c => ?_⟩
    · rw [if_pos c] at h
      refine ⟨fun c => ?_, fun c => ?_⟩
      · rw [if_pos c] at h
        cases h; rfl
      · rw [if_neg (not_not_intro c)] at h
        cases h; rfl
    · rw [if_neg c] at h
      obtain ⟨rr5, NN6, hc7, h⟩ := f_bd h
      refine ⟨rr5, NN6, s_X3_hasBought_now (d := d + 9)  hc7, ?_⟩
      refine ⟨fun c => ?_, fun c => ?_⟩
      · rw [if_pos c] at h
        exact ih _ _ _ _ _ _ _ h
      · rw [if_neg (not_not_intro c)] at h
        obtain ⟨rr8, NN9, hc10, h⟩ := f_bd h
        refine ⟨rr8, NN9, s_X3_priceFor_now (d := d + 7)  hc10, ?_⟩
        refine ⟨fun c => ?_, fun c => ?_⟩
        · rw [if_pos c] at h
          exact ih _ _ _ _ _ _ _ h
        · rw [if_neg c] at h
          refine ⟨fun c => ?_, fun c => ?_⟩
          · rw [if_pos c] at h
            exact ih _ _ _ _ _ _ _ h
          · rw [if_neg c] at h
            exact ih _ _ _ _ _ _ _ h
def f_X10_cheapest (n : Nat) (p1 : Int) (M : e_M) : Option ((Int ⊕ Nat) × e_M) := (f_t (f_X10_needWithin p1 0 1 M) fun _ NN12 => (f_X10_cheapest_14 n p1 (-1) (-1) 0 NN12))
theorem s_X10_cheapest {X : e_X} {d gn : Nat} {n : Nat} {p1 : Int} {M M' : e_M} {v : Int ⊕ Nat} (h : f_X10_cheapest  n p1 M = some (v, M')) : e_E X (d + 10) YX10_cheapest [.inr (.inr 1), .inl p1] (557, gn, e_RF, M) (f_oT gn v M') := by
  unfold f_X10_cheapest at h
  refine wp_X10_cheapest_0 (d := d + 9)  M p1 (f_mnT) ?_
  rcases f_td h with ⟨rr13, NN14, hc15, h⟩ | ⟨rr13, NN14, hc15, h⟩
  · refine Or.inl ⟨NN14, s_X10_needWithin (d := d)  hc15, ?_⟩
    exact s_X10_cheapest_14  _ _ _ _ _ _ _ _ h
  · exact Or.inr ⟨rr13, NN14, s_X10_needWithin (d := d)  hc15, by cases h; rfl⟩
def f_X10_clear (n : Nat) (p1 p2 : Int) (M : e_M) : Option ((Int ⊕ Nat) × e_M) := (f_t (f_X10_needPerson p1 M) fun _ NN2 => (f_t (f_X10_needWithin p2 0 20 NN2) fun _ NN4 => (f_b (f_X10_bitsBelow p2 NN4) fun rr5 NN6 => (f_b (f_X3_busyBits_now n p1 p2 NN6) fun rr7 NN8 => (some ((.inl (e_and rr5 (e_xor rr7 (-1)))), NN8))))))
theorem s_X10_clear {X : e_X} {d gn : Nat} {n : Nat} {p1 p2 : Int} {M M' : e_M} {v : Int ⊕ Nat} (h : f_X10_clear  n p1 p2 M = some (v, M')) : e_E X (d + 10) YX10_clear [.inr (.inr 1), .inl p1, .inl p2] (557, gn, e_RF, M) (f_oT gn v M') := by
  unfold f_X10_clear at h
  refine wp_X10_clear_0 (d := d + 9)  M p1 p2 (f_mnT) ?_
  rcases f_td h with ⟨rr9, NN10, hc11, h⟩ | ⟨rr9, NN10, hc11, h⟩
  · refine Or.inl ⟨NN10, s_X10_needPerson (d := d)  hc11, ?_⟩
    rcases f_td h with ⟨rr12, NN13, hc14, h⟩ | ⟨rr12, NN13, hc14, h⟩
    · refine Or.inl ⟨NN13, s_X10_needWithin (d := d)  hc14, ?_⟩
      obtain ⟨rr15, NN16, hc17, h⟩ := f_bd h
      refine ⟨rr15, NN16, s_X10_bitsBelow (d := d + 9)  hc17, ?_⟩
      obtain ⟨rr18, NN19, hc20, h⟩ := f_bd h
      refine ⟨rr18, NN19, s_X3_busyBits_now (d := d + 8)  hc20, ?_⟩
      cases h; rfl
    · exact Or.inr ⟨rr12, NN13, s_X10_needWithin (d := d)  hc14, by cases h; rfl⟩
  · exact Or.inr ⟨rr9, NN10, s_X10_needPerson (d := d)  hc11, by cases h; rfl⟩
def f_X10_debt_9 : Nat → Int → Int → Int → e_M → Option ((Int ⊕ Nat) × e_M)
  | 0, _, _, _, _ => none
  | n + 1, p1, v2, v3, M => (if (M 4 2) ≤ v3 then (some ((.inl v2), M)) else (if (0 ≤ v3 ∧ v3 < 12) then (if ¬ (M 9 v3.toNat) = p1 then (f_X10_debt_9 n p1 v2 (e_w (v3 + 1)) M) else (f_b (f_X3_isAhead_now v3 M) fun rr1 NN2 => (if rr1 = 0 then (f_X10_debt_9 n p1 v2 (e_w (v3 + 1)) NN2) else (if (0 ≤ v3 ∧ v3 < 12) then (f_X10_debt_9 n p1 (e_w (v2 + (NN2 11 v3.toNat))) (e_w (v3 + 1)) NN2) else none)))) else none))
theorem s_X10_debt_9 {X : e_X} {d gn : Nat} : ∀ n : Nat, ∀ (p1 v2 v3 : Int) (M M' : e_M) (v : Int ⊕ Nat), f_X10_debt_9  n p1 v2 v3 M = some (v, M') → e_G X (d + 10) YX10_debt 9 [some (.inr (.inr 1)), some (.inl p1), some (.inl v2), some (.inl v3)] [] (557, gn, e_RF, M) (f_oT gn v M') := by
  intro n
  induction n with
  | zero => intro p1 v2 v3 M M' v h; cases h
  | succ n ih =>
    intro p1 v2 v3 M M' v h
    rw [f_X10_debt_9] at h
    refine wp_X10_debt_9 (d := d + 9)  M p1 v2 v3 (f_mnT) ?_
    refine ⟨fun c => ?_, fun c => ?_⟩
    · rw [if_pos c] at h
      cases h; rfl
    · rw [if_neg c] at h
      obtain ⟨c3, h⟩ := f_gd h
      refine ⟨c3, ?_⟩
      refine ⟨fun c => ?_, fun c => ?_⟩
      · rw [if_pos c] at h
        exact ih _ _ _ _ _ _ h
      · rw [if_neg (not_not_intro c)] at h
        obtain ⟨rr4, NN5, hc6, h⟩ := f_bd h
        refine ⟨rr4, NN5, s_X3_isAhead_now (d := d + 8)  hc6, ?_⟩
        refine ⟨fun c => ?_, fun c => ?_⟩
        · rw [if_pos c] at h
          exact ih _ _ _ _ _ _ h
        · rw [if_neg c] at h
          obtain ⟨c7, h⟩ := f_gd h
          refine ⟨c7, ?_⟩
          exact ih _ _ _ _ _ _ h
def f_X10_debt (n : Nat) (p1 : Int) (M : e_M) : Option ((Int ⊕ Nat) × e_M) := (f_t (f_X10_needPerson p1 M) fun _ NN9 => (f_X10_debt_9 n p1 0 0 NN9))
theorem s_X10_debt {X : e_X} {d gn : Nat} {n : Nat} {p1 : Int} {M M' : e_M} {v : Int ⊕ Nat} (h : f_X10_debt  n p1 M = some (v, M')) : e_E X (d + 10) YX10_debt [.inr (.inr 1), .inl p1] (557, gn, e_RF, M) (f_oT gn v M') := by
  unfold f_X10_debt at h
  refine wp_X10_debt_0 (d := d + 9)  M p1 (f_mnT) ?_
  rcases f_td h with ⟨rr10, NN11, hc12, h⟩ | ⟨rr10, NN11, hc12, h⟩
  · refine Or.inl ⟨NN11, s_X10_needPerson (d := d)  hc12, ?_⟩
    exact s_X10_debt_9  _ _ _ _ _ _ _ h
  · exact Or.inr ⟨rr10, NN11, s_X10_needPerson (d := d)  hc12, by cases h; rfl⟩
def f_X10_given (n : Nat) (M : e_M) : Option (Int × e_M) := (f_b (f_X3_stayingBits_now n M) fun rr1 NN2 => (f_b (f_X1_giveTo n rr1 NN2) fun rr3 NN4 => (some (rr3, NN4))))
theorem s_X10_given {X : e_X} {d gn : Nat} {n : Nat} {M M' : e_M} {v : Int} (h : f_X10_given  n  M = some (v, M')) : e_E X (d + 3) YX10_given [.inr (.inr 1)] (557, gn, e_RF, M) (.inl (some (.inl v)), (557, gn, e_RF, M')) := by
  unfold f_X10_given at h
  refine wp_X10_given_0 (d := d + 2)  M  (f_mn) ?_
  obtain ⟨rr5, NN6, hc7, h⟩ := f_bd h
  refine ⟨rr5, NN6, s_X3_stayingBits_now (d := d + 1)  hc7, ?_⟩
  obtain ⟨rr8, NN9, hc10, h⟩ := f_bd h
  refine ⟨rr8, NN9, s_X1_giveTo (d := d)  hc10, ?_⟩
  cases h; rfl
def f_X10_giver (n : Nat) (p1 : Int) (M : e_M) : Option ((Int ⊕ Nat) × e_M) := (f_t (f_X10_needDuty p1 M) fun _ NN2 => (f_b (f_X3_stayingBits_now n NN2) fun rr3 NN4 => (f_b (f_X1_giveTo n rr3 NN4) fun rr5 NN6 => (if (0 ≤ p1 ∧ p1 < 6) then (some ((.inl (NN6 52 p1.toNat)), NN6)) else none))))
theorem s_X10_giver {X : e_X} {d gn : Nat} {n : Nat} {p1 : Int} {M M' : e_M} {v : Int ⊕ Nat} (h : f_X10_giver  n p1 M = some (v, M')) : e_E X (d + 10) YX10_giver [.inr (.inr 1), .inl p1] (557, gn, e_RF, M) (f_oT gn v M') := by
  unfold f_X10_giver at h
  refine wp_X10_giver_0 (d := d + 9)  M p1 (f_mnT) ?_
  rcases f_td h with ⟨rr7, NN8, hc9, h⟩ | ⟨rr7, NN8, hc9, h⟩
  · refine Or.inl ⟨NN8, s_X10_needDuty (d := d)  hc9, ?_⟩
    obtain ⟨rr10, NN11, hc12, h⟩ := f_bd h
    refine ⟨rr10, NN11, s_X3_stayingBits_now (d := d + 8)  hc12, ?_⟩
    obtain ⟨rr13, NN14, hc15, h⟩ := f_bd h
    refine ⟨rr13, NN14, s_X1_giveTo (d := d + 7)  hc15, ?_⟩
    obtain ⟨c16, h⟩ := f_gd h
    exact ⟨c16, by cases h; rfl⟩
  · exact Or.inr ⟨rr7, NN8, s_X10_needDuty (d := d)  hc9, by cases h; rfl⟩
def f_X10_left (n : Nat) (M : e_M) : Option (Int × e_M) := (f_b (f_X3_stayingBits_now n M) fun rr1 NN2 => (f_b (f_X3_leftBy_now n rr1 NN2) fun rr3 NN4 => (some (rr3, NN4))))
theorem s_X10_left {X : e_X} {d gn : Nat} {n : Nat} {M M' : e_M} {v : Int} (h : f_X10_left  n  M = some (v, M')) : e_E X (d + 2) YX10_left [.inr (.inr 1)] (557, gn, e_RF, M) (.inl (some (.inl v)), (557, gn, e_RF, M')) := by
  unfold f_X10_left at h
  refine wp_X10_left_0 (d := d + 1)  M  (f_mn) ?_
  obtain ⟨rr5, NN6, hc7, h⟩ := f_bd h
  refine ⟨rr5, NN6, s_X3_stayingBits_now (d := d)  hc7, ?_⟩
  obtain ⟨rr8, NN9, hc10, h⟩ := f_bd h
  refine ⟨rr8, NN9, s_X3_leftBy_now (d := d)  hc10, ?_⟩
  cases h; rfl
def f_X10_next_17 : Nat → Int → Int → Int → Int → e_M → Option ((Int ⊕ Nat) × e_M)
  | 0, _, _, _, _, _ => none
  | n + 1, p1, p2, v3, v4, M => (if (M 4 2) ≤ v4 then (if ¬ v3 = (-1) then (if ¬ p2 = 0 then (if (0 ≤ v3 ∧ v3 < 12) then (some ((.inl (e_w ((M 42 v3.toNat) - (M 36 2)))), M)) else none) else (some ((.inl v3), M))) else (some ((.inl (-1)), M))) else (if (0 ≤ v4 ∧ v4 < 12) then (if ¬ (M 9 v4.toNat) = p1 then (f_X10_next_17 n p1 p2 v3 (e_w (v4 + 1)) M) else (f_b (f_X3_isAhead_now v4 M) fun rr1 NN2 => (if rr1 = 0 then (f_X10_next_17 n p1 p2 v3 (e_w (v4 + 1)) NN2) else (if v3 = (-1) then (f_X10_next_17 n p1 p2 v4 (e_w (v4 + 1)) NN2) else (if (0 ≤ v4 ∧ v4 < 12) then (if (0 ≤ v3 ∧ v3 < 12) then (if (NN2 42 v3.toNat) ≤ (NN2 42 v4.toNat) then (f_X10_next_17 n p1 p2 v3 (e_w (v4 + 1)) NN2) else (f_X10_next_17 n p1 p2 v4 (e_w (v4 + 1)) NN2)) else none) else none))))) else none))
theorem s_X10_next_17 {X : e_X} {d gn : Nat} : ∀ n : Nat, ∀ (p1 p2 v3 v4 : Int) (M M' : e_M) (v : Int ⊕ Nat), f_X10_next_17  n p1 p2 v3 v4 M = some (v, M') → e_G X (d + 10) YX10_next 17 [some (.inr (.inr 1)), some (.inl p1), some (.inl p2), some (.inl v3), some (.inl v4)] [] (557, gn, e_RF, M) (f_oT gn v M') := by
  intro n
  induction n with
  | zero => intro p1 p2 v3 v4 M M' v h; cases h
  | succ n ih =>
    intro p1 p2 v3 v4 M M' v h
    rw [f_X10_next_17] at h
    refine wp_X10_next_17 (d := d + 9)  M p1 p2 v3 v4 (f_mnT) ?_
    refine ⟨fun c => ?_, fun c => ?_⟩
    · rw [if_pos c] at h
      refine ⟨fun c => ?_, fun c => ?_⟩
      · rw [if_pos c] at h
        refine ⟨fun c => ?_, fun c => ?_⟩
        · rw [if_pos c] at h
          obtain ⟨c3, h⟩ := f_gd h
          exact ⟨c3, by cases h; rfl⟩
        · rw [if_neg (not_not_intro c)] at h
          cases h; rfl
      · rw [if_neg (not_not_intro c)] at h
        cases h; rfl
    · rw [if_neg c] at h
      obtain ⟨c4, h⟩ := f_gd h
      refine ⟨c4, ?_⟩
      refine ⟨fun c => ?_, fun c => ?_⟩
      · rw [if_pos c] at h
        exact ih _ _ _ _ _ _ _ h
      · rw [if_neg (not_not_intro c)] at h
        obtain ⟨rr5, NN6, hc7, h⟩ := f_bd h
        refine ⟨rr5, NN6, s_X3_isAhead_now (d := d + 8)  hc7, ?_⟩
        refine ⟨fun c => ?_, fun c => ?_⟩
        · rw [if_pos c] at h
          exact ih _ _ _ _ _ _ _ h
        · rw [if_neg c] at h
          refine ⟨fun c => ?_, fun c => ?_⟩
          · rw [if_pos c] at h
            exact ih _ _ _ _ _ _ _ h
          · rw [if_neg c] at h
            obtain ⟨c8, h⟩ := f_gd h
            refine ⟨c8, ?_⟩
            obtain ⟨c9, h⟩ := f_gd h
            refine ⟨c9, ?_⟩
            refine ⟨fun c => ?_, fun c => ?_⟩
            · rw [if_pos c] at h
              exact ih _ _ _ _ _ _ _ h
            · rw [if_neg c] at h
              exact ih _ _ _ _ _ _ _ h
def f_X10_next (n : Nat) (p1 p2 : Int) (M : e_M) : Option ((Int ⊕ Nat) × e_M) := (f_t (f_X10_needPerson p1 M) fun _ NN11 => (f_t (f_X10_needWithin p2 0 1 NN11) fun _ NN13 => (f_X10_next_17 n p1 p2 (-1) 0 NN13)))
theorem s_X10_next {X : e_X} {d gn : Nat} {n : Nat} {p1 p2 : Int} {M M' : e_M} {v : Int ⊕ Nat} (h : f_X10_next  n p1 p2 M = some (v, M')) : e_E X (d + 10) YX10_next [.inr (.inr 1), .inl p1, .inl p2] (557, gn, e_RF, M) (f_oT gn v M') := by
  unfold f_X10_next at h
  refine wp_X10_next_0 (d := d + 9)  M p1 p2 (f_mnT) ?_
  rcases f_td h with ⟨rr14, NN15, hc16, h⟩ | ⟨rr14, NN15, hc16, h⟩
  · refine Or.inl ⟨NN15, s_X10_needPerson (d := d)  hc16, ?_⟩
    rcases f_td h with ⟨rr17, NN18, hc19, h⟩ | ⟨rr17, NN18, hc19, h⟩
    · refine Or.inl ⟨NN18, s_X10_needWithin (d := d)  hc19, ?_⟩
      exact s_X10_next_17  _ _ _ _ _ _ _ _ h
    · exact Or.inr ⟨rr17, NN18, s_X10_needWithin (d := d)  hc19, by cases h; rfl⟩
  · exact Or.inr ⟨rr14, NN15, s_X10_needPerson (d := d)  hc16, by cases h; rfl⟩
def f_X10_price (n : Nat) (p1 : Int) (M : e_M) : Option ((Int ⊕ Nat) × e_M) := (f_t (f_X10_needPerson p1 M) fun _ NN2 => (f_b (f_X3_priceFor_now n p1 NN2) fun rr3 NN4 => (some ((.inl rr3), NN4))))
theorem s_X10_price {X : e_X} {d gn : Nat} {n : Nat} {p1 : Int} {M M' : e_M} {v : Int ⊕ Nat} (h : f_X10_price  n p1 M = some (v, M')) : e_E X (d + 10) YX10_price [.inr (.inr 1), .inl p1] (557, gn, e_RF, M) (f_oT gn v M') := by
  unfold f_X10_price at h
  refine wp_X10_price_0 (d := d + 9)  M p1 (f_mnT) ?_
  rcases f_td h with ⟨rr5, NN6, hc7, h⟩ | ⟨rr5, NN6, hc7, h⟩
  · refine Or.inl ⟨NN6, s_X10_needPerson (d := d)  hc7, ?_⟩
    obtain ⟨rr8, NN9, hc10, h⟩ := f_bd h
    refine ⟨rr8, NN9, s_X3_priceFor_now (d := d + 7)  hc10, ?_⟩
    cases h; rfl
  · exact Or.inr ⟨rr5, NN6, s_X10_needPerson (d := d)  hc7, by cases h; rfl⟩
def f_X10_told (n : Nat) (p1 : Int) (M : e_M) : Option ((Int ⊕ Nat) × e_M) := (f_t (f_X10_needWithin p1 0 10 M) fun _ NN2 => (if p1 = 0 then (some ((.inl (NN2 4 0)), NN2)) else (if p1 = 1 then (some ((.inl (NN2 4 1)), NN2)) else (if p1 = 2 then (some ((.inl (NN2 4 2)), NN2)) else (if p1 = 3 then (some ((.inl (NN2 36 2)), NN2)) else (if p1 = 4 then (f_b (f_X3_boughtBits_now n NN2) fun rr7 NN8 => (some ((.inl rr7), NN8))) else (if p1 = 5 then (some ((.inl (NN2 36 4)), NN2)) else (if p1 = 6 then (some ((.inl (NN2 36 3)), NN2)) else (if p1 = 7 then (f_b (f_X3_coinsOfAll_now n NN2) fun rr5 NN6 => (some ((.inl rr5), NN6))) else (if p1 = 8 then (f_b (f_X3_daysOfAll_now n NN2) fun rr3 NN4 => (some ((.inl rr3), NN4))) else (if p1 = 9 then (some ((.inl (NN2 28 0)), NN2)) else (some ((.inl (NN2 32 6)), NN2)))))))))))))
theorem s_X10_told {X : e_X} {d gn : Nat} {n : Nat} {p1 : Int} {M M' : e_M} {v : Int ⊕ Nat} (h : f_X10_told  n p1 M = some (v, M')) : e_E X (d + 10) YX10_told [.inr (.inr 1), .inl p1] (557, gn, e_RF, M) (f_oT gn v M') := by
  unfold f_X10_told at h
  refine wp_X10_told_0 (d := d + 9)  M p1 (f_mnT) ?_
  rcases f_td h with ⟨rr9, NN10, hc11, h⟩ | ⟨rr9, NN10, hc11, h⟩
  · refine Or.inl ⟨NN10, s_X10_needWithin (d := d)  hc11, ?_⟩
    refine ⟨fun c => ?_, fun c => ?_, fun c => ?_, fun c => ?_, fun c => ?_, fun c => ?_, fun c => ?_, fun c => ?_, fun c => ?_, fun c => ?_, fun c => ?_⟩
    · rw [if_pos c] at h
      cases h; rfl
    · rw [if_neg (by omega), if_pos c] at h
      cases h; rfl
    · rw [if_neg (by omega), if_neg (by omega), if_pos c] at h
      cases h; rfl
    · rw [if_neg (by omega), if_neg (by omega), if_neg (by omega), if_pos c] at h
      cases h; rfl
    · rw [if_neg (by omega), if_neg (by omega), if_neg (by omega), if_neg (by omega), if_pos c] at h
      obtain ⟨rr12, NN13, hc14, h⟩ := f_bd h
      refine ⟨rr12, NN13, s_X3_boughtBits_now (d := d + 9)  hc14, ?_⟩
      cases h; rfl
    · rw [if_neg (by omega), if_neg (by omega), if_neg (by omega), if_neg (by omega), if_neg (by omega), if_pos c] at h
      cases h; rfl
    · rw [if_neg (by omega), if_neg (by omega), if_neg (by omega), if_neg (by omega), if_neg (by omega), if_neg (by omega), if_pos c] at h
      cases h; rfl
    · rw [if_neg (by omega), if_neg (by omega), if_neg (by omega), if_neg (by omega), if_neg (by omega), if_neg (by omega), if_neg (by omega), if_pos c] at h
      obtain ⟨rr15, NN16, hc17, h⟩ := f_bd h
      refine ⟨rr15, NN16, s_X3_coinsOfAll_now (d := d + 9)  hc17, ?_⟩
      cases h; rfl
    · rw [if_neg (by omega), if_neg (by omega), if_neg (by omega), if_neg (by omega), if_neg (by omega), if_neg (by omega), if_neg (by omega), if_neg (by omega), if_pos c] at h
      obtain ⟨rr18, NN19, hc20, h⟩ := f_bd h
      refine ⟨rr18, NN19, s_X3_daysOfAll_now (d := d + 7)  hc20, ?_⟩
      cases h; rfl
    · rw [if_neg (by omega), if_neg (by omega), if_neg (by omega), if_neg (by omega), if_neg (by omega), if_neg (by omega), if_neg (by omega), if_neg (by omega), if_neg (by omega), if_pos c] at h
      cases h; rfl
    · rw [if_neg (by omega), if_neg (by omega), if_neg (by omega), if_neg (by omega), if_neg (by omega), if_neg (by omega), if_neg (by omega), if_neg (by omega), if_neg (by omega), if_neg (by omega)] at h
      cases h; rfl
  · exact Or.inr ⟨rr9, NN10, s_X10_needWithin (d := d)  hc11, by cases h; rfl⟩
def f_X10_tryWeeks_13 : Nat → Int → Int → e_M → Option (Int × e_M)
  | 0, _, _, _ => none
  | n + 1, p1, v2, M => (if p1 ≤ v2 then (some (0, M)) else (f_b (f_X3_passWeek_trial n M) fun _ NN2 => (f_X10_tryWeeks_13 n p1 (e_w (v2 + 1)) NN2)))
theorem s_X10_tryWeeks_13 {X : e_X} {d gn : Nat} : ∀ n : Nat, ∀ (p1 v2 : Int) (M M' : e_M) (v : Int), f_X10_tryWeeks_13  n p1 v2 M = some (v, M') → e_G X (d + 3) YX10_tryWeeks 13 [some (.inr (.inr 1)), some (.inl p1), some (.inl v2)] [] (557, gn, e_RF, M) (.inl none, (557, gn, e_RF, M')) := by
  intro n
  induction n with
  | zero => intro p1 v2 M M' v h; cases h
  | succ n ih =>
    intro p1 v2 M M' v h
    rw [f_X10_tryWeeks_13] at h
    refine wp_X10_tryWeeks_13 (d := d + 2)  M p1 v2 (f_mn) ?_
    refine ⟨fun c => ?_, fun c => ?_⟩
    · rw [if_pos c] at h
      cases h; rfl
    · rw [if_neg c] at h
      obtain ⟨rr3, NN4, hc5, h⟩ := f_bd h
      refine ⟨NN4, s_X3_passWeek_trial (d := d)  hc5, ?_⟩
      exact ih _ _ _ _ _ h
def f_X10_tryWeeks (n : Nat) (p1 : Int) (M : e_M) : Option (Int × e_M) := (f_b (f_X3_copyFrom_trial M) fun _ NN7 => (f_X10_tryWeeks_13 n p1 0 NN7))
theorem s_X10_tryWeeks {X : e_X} {d gn : Nat} {n : Nat} {p1 : Int} {M M' : e_M} {v : Int} (h : f_X10_tryWeeks  n p1 M = some (v, M')) : e_E X (d + 3) YX10_tryWeeks [.inr (.inr 1), .inl p1] (557, gn, e_RF, M) (.inl none, (557, gn, e_RF, M')) := by
  unfold f_X10_tryWeeks at h
  refine wp_X10_tryWeeks_0 (d := d + 2)  M p1 (f_mn) ?_
  obtain ⟨rr8, NN9, hc10, h⟩ := f_bd h
  refine ⟨NN9, s_X3_copyFrom_trial (d := d + 1)  hc10, ?_⟩
  exact s_X10_tryWeeks_13  _ _ _ _ _ _ h
def f_X10_would (n : Nat) (p1 p2 p3 p4 p5 p6 p7 p8 : Int) (M : e_M) : Option ((Int ⊕ Nat) × e_M) := (f_t (f_X10_needWithin p1 0 300 M) fun _ NN2 => (f_t (f_X10_needWithin p2 0 5 NN2) fun _ NN4 => (f_t (f_X10_needWithin p3 0 999 NN4) fun _ NN6 => (f_t (f_X10_needWithin p4 0 999 NN6) fun _ NN8 => (f_t (f_X10_needWithin p5 0 30 NN8) fun _ NN10 => (f_t (f_X10_needWithin p6 0 6 NN10) fun _ NN12 => (f_t (f_X10_needWithin p7 0 12 NN12) fun _ NN14 => (f_t (f_X10_needWithin p8 0 5 NN14) fun _ NN16 => (f_b (f_X2_priceOfSeen_law n (e_up (e_up (e_up (e_up (e_up (e_up (e_up (e_up NN16 23 0 p1) 23 1 p2) 23 2 p3) 23 3 p4) 23 4 p5) 23 5 p6) 23 6 p7) 23 7 p8)) fun rr17 NN18 => (some ((.inl rr17), NN18)))))))))))
theorem s_X10_would {X : e_X} {d gn : Nat} {n : Nat} {p1 p2 p3 p4 p5 p6 p7 p8 : Int} {M M' : e_M} {v : Int ⊕ Nat} (h : f_X10_would  n p1 p2 p3 p4 p5 p6 p7 p8 M = some (v, M')) : e_E X (d + 10) YX10_would [.inr (.inr 1), .inl p1, .inl p2, .inl p3, .inl p4, .inl p5, .inl p6, .inl p7, .inl p8] (557, gn, e_RF, M) (f_oT gn v M') := by
  unfold f_X10_would at h
  refine wp_X10_would_0 (d := d + 9)  M p1 p2 p3 p4 p5 p6 p7 p8 (f_mnT) ?_
  rcases f_td h with ⟨rr19, NN20, hc21, h⟩ | ⟨rr19, NN20, hc21, h⟩
  · refine Or.inl ⟨NN20, s_X10_needWithin (d := d)  hc21, ?_⟩
    rcases f_td h with ⟨rr22, NN23, hc24, h⟩ | ⟨rr22, NN23, hc24, h⟩
    · refine Or.inl ⟨NN23, s_X10_needWithin (d := d)  hc24, ?_⟩
      rcases f_td h with ⟨rr25, NN26, hc27, h⟩ | ⟨rr25, NN26, hc27, h⟩
      · refine Or.inl ⟨NN26, s_X10_needWithin (d := d)  hc27, ?_⟩
        rcases f_td h with ⟨rr28, NN29, hc30, h⟩ | ⟨rr28, NN29, hc30, h⟩
        · refine Or.inl ⟨NN29, s_X10_needWithin (d := d)  hc30, ?_⟩
          rcases f_td h with ⟨rr31, NN32, hc33, h⟩ | ⟨rr31, NN32, hc33, h⟩
          · refine Or.inl ⟨NN32, s_X10_needWithin (d := d)  hc33, ?_⟩
            rcases f_td h with ⟨rr34, NN35, hc36, h⟩ | ⟨rr34, NN35, hc36, h⟩
            · refine Or.inl ⟨NN35, s_X10_needWithin (d := d)  hc36, ?_⟩
              rcases f_td h with ⟨rr37, NN38, hc39, h⟩ | ⟨rr37, NN38, hc39, h⟩
              · refine Or.inl ⟨NN38, s_X10_needWithin (d := d)  hc39, ?_⟩
                rcases f_td h with ⟨rr40, NN41, hc42, h⟩ | ⟨rr40, NN41, hc42, h⟩
                · refine Or.inl ⟨NN41, s_X10_needWithin (d := d)  hc42, ?_⟩
                  obtain ⟨rr43, NN44, hc45, h⟩ := f_bd h
                  refine ⟨rr43, NN44, s_X2_priceOfSeen_law (d := d + 8)  hc45, ?_⟩
                  cases h; rfl
                · exact Or.inr ⟨rr40, NN41, s_X10_needWithin (d := d)  hc42, by cases h; rfl⟩
              · exact Or.inr ⟨rr37, NN38, s_X10_needWithin (d := d)  hc39, by cases h; rfl⟩
            · exact Or.inr ⟨rr34, NN35, s_X10_needWithin (d := d)  hc36, by cases h; rfl⟩
          · exact Or.inr ⟨rr31, NN32, s_X10_needWithin (d := d)  hc33, by cases h; rfl⟩
        · exact Or.inr ⟨rr28, NN29, s_X10_needWithin (d := d)  hc30, by cases h; rfl⟩
      · exact Or.inr ⟨rr25, NN26, s_X10_needWithin (d := d)  hc27, by cases h; rfl⟩
    · exact Or.inr ⟨rr22, NN23, s_X10_needWithin (d := d)  hc24, by cases h; rfl⟩
  · exact Or.inr ⟨rr19, NN20, s_X10_needWithin (d := d)  hc21, by cases h; rfl⟩
def f_X11_ahead_53 : Nat → Int → Int → Int → e_M → Option (Int × e_M)
  | 0, _, _, _, _ => none
  | n + 1, p1, p2, v3, M => (if p1 ≤ v3 then (if ¬ p2 = 0 then (if ¬ p2 = 1 then (f_b (f_X11_doneIn 533 n M) fun rr7 NN8 => (some (rr7, NN8))) else (f_b (f_X11_sumOf 533 n 6 M) fun rr5 NN6 => (some (rr5, NN6)))) else (f_b (f_X11_sumOf 533 n 0 M) fun rr3 NN4 => (some (rr3, NN4)))) else (f_b (f_X11_weekEnds 533 n M) fun _ NN2 => (f_X11_ahead_53 n p1 p2 (e_w (v3 + 1)) NN2)))
theorem s_X11_ahead_53 {X : e_X} {d gn : Nat} : ∀ n : Nat, ∀ (p1 p2 v3 : Int) (M M' : e_M) (v : Int), f_X11_ahead_53  n p1 p2 v3 M = some (v, M') → e_G X (d + 3) YX11_ahead 53 [some (.inr (.inr 64)), some (.inl p1), some (.inl p2), some (.inl v3)] [] (557, gn, e_RF, M) (.inl (some (.inl v)), (557, gn, e_RF, M')) := by
  intro n
  induction n with
  | zero => intro p1 p2 v3 M M' v h; cases h
  | succ n ih =>
    intro p1 p2 v3 M M' v h
    rw [f_X11_ahead_53] at h
    refine wp_X11_ahead_53 (d := d + 2)  M p1 p2 v3 (f_mn) ?_
    refine ⟨fun c => ?_, fun c => ?_⟩
    · rw [if_pos c] at h
      refine ⟨fun c => ?_, fun c => ?_⟩
      · rw [if_pos c] at h
        refine ⟨fun c => ?_, fun c => ?_⟩
        · rw [if_pos c] at h
          obtain ⟨rr9, NN10, hc11, h⟩ := f_bd h
          refine ⟨rr9, NN10, s_X11_doneIn (d := d + 2) rfl (Nat.le_of_ble_eq_true rfl) (by decide) hc11, ?_⟩
          cases h; rfl
        · rw [if_neg (not_not_intro c)] at h
          obtain ⟨rr12, NN13, hc14, h⟩ := f_bd h
          refine ⟨rr12, NN13, s_X11_sumOf (d := d + 2) rfl (Nat.le_of_ble_eq_true rfl) (by decide) hc14, ?_⟩
          cases h; rfl
      · rw [if_neg (not_not_intro c)] at h
        obtain ⟨rr15, NN16, hc17, h⟩ := f_bd h
        refine ⟨rr15, NN16, s_X11_sumOf (d := d + 2) rfl (Nat.le_of_ble_eq_true rfl) (by decide) hc17, ?_⟩
        cases h; rfl
    · rw [if_neg c] at h
      obtain ⟨rr18, NN19, hc20, h⟩ := f_bd h
      refine ⟨NN19, s_X11_weekEnds (d := d) rfl (Nat.le_of_ble_eq_true rfl) (by decide) hc20, ?_⟩
      exact ih _ _ _ _ _ _ h
def f_X11_ahead (n : Nat) (p1 p2 : Int) (M : e_M) : Option (Int × e_M) := (f_b (f_X11_in p1 0 99 (e_up M 64 0 0)) fun rr21 NN22 => (if rr21 = 0 then (f_b (f_X11_bad 1 1 1 NN22) fun rr33 NN34 => (if rr33 = 0 then (f_b (f_X11_copies 532 533 n NN34) fun _ NN36 => (f_X11_ahead_53 n p1 p2 0 NN36)) else (some (0, NN34)))) else (f_b (f_X11_in p2 0 2 NN22) fun rr23 NN24 => (if ¬ rr23 = 0 then (f_b (f_X11_bad 0 1 1 NN24) fun rr29 NN30 => (if rr29 = 0 then (f_b (f_X11_copies 532 533 n NN30) fun _ NN32 => (f_X11_ahead_53 n p1 p2 0 NN32)) else (some (0, NN30)))) else (f_b (f_X11_bad 1 1 1 NN24) fun rr25 NN26 => (if rr25 = 0 then (f_b (f_X11_copies 532 533 n NN26) fun _ NN28 => (f_X11_ahead_53 n p1 p2 0 NN28)) else (some (0, NN26))))))))
theorem s_X11_ahead {X : e_X} {d gn : Nat} {n : Nat} {p1 p2 : Int} {M M' : e_M} {v : Int} (h : f_X11_ahead  n p1 p2 M = some (v, M')) : e_E X (d + 3) YX11_ahead [.inr (.inr 64), .inl p1, .inl p2] (557, gn, e_RF, M) (.inl (some (.inl v)), (557, gn, e_RF, M')) := by
  unfold f_X11_ahead at h
  refine wp_X11_ahead_0 (d := d + 2)  M p1 p2 (f_mn) ?_
  obtain ⟨rr37, NN38, hc39, h⟩ := f_bd h
  refine ⟨rr37, NN38, s_X11_in (d := d + 2)  hc39, ?_⟩
  refine ⟨fun c => ?_, fun c => ?_⟩
  · rw [if_pos c] at h
    refine wp_X11_ahead_25 (d := d + 2)  _ _ _ ?_
    refine wp_X11_ahead_30 (d := d + 2)  _ _ _ _ (f_mn) ?_
    obtain ⟨rr40, NN41, hc42, h⟩ := f_bd h
    refine ⟨rr40, NN41, s_X11_bad (d := d + 2)  hc42, ?_⟩
    refine ⟨fun c => ?_, fun c => ?_⟩
    · rw [if_pos c] at h
      obtain ⟨rr43, NN44, hc45, h⟩ := f_bd h
      refine ⟨NN44, s_X11_copies (d := d + 2) rfl (Nat.le_of_ble_eq_true rfl) (by decide) rfl (Nat.le_of_ble_eq_true rfl) (by decide) hc45, ?_⟩
      exact s_X11_ahead_53  _ _ _ _ _ _ _ h
    · rw [if_neg c] at h
      cases h; rfl
  · rw [if_neg c] at h
    obtain ⟨rr46, NN47, hc48, h⟩ := f_bd h
    refine ⟨rr46, NN47, s_X11_in (d := d + 2)  hc48, ?_⟩
    refine ⟨fun c => ?_, fun c => ?_⟩
    · rw [if_pos c] at h
      refine wp_X11_ahead_30 (d := d + 2)  _ _ _ _ (f_mn) ?_
      obtain ⟨rr49, NN50, hc51, h⟩ := f_bd h
      refine ⟨rr49, NN50, s_X11_bad (d := d + 2)  hc51, ?_⟩
      refine ⟨fun c => ?_, fun c => ?_⟩
      · rw [if_pos c] at h
        obtain ⟨rr52, NN53, hc54, h⟩ := f_bd h
        refine ⟨NN53, s_X11_copies (d := d + 2) rfl (Nat.le_of_ble_eq_true rfl) (by decide) rfl (Nat.le_of_ble_eq_true rfl) (by decide) hc54, ?_⟩
        exact s_X11_ahead_53  _ _ _ _ _ _ _ h
      · rw [if_neg c] at h
        cases h; rfl
    · rw [if_neg (not_not_intro c)] at h
      refine wp_X11_ahead_25 (d := d + 2)  _ _ _ ?_
      refine wp_X11_ahead_30 (d := d + 2)  _ _ _ _ (f_mn) ?_
      obtain ⟨rr55, NN56, hc57, h⟩ := f_bd h
      refine ⟨rr55, NN56, s_X11_bad (d := d + 2)  hc57, ?_⟩
      refine ⟨fun c => ?_, fun c => ?_⟩
      · rw [if_pos c] at h
        obtain ⟨rr58, NN59, hc60, h⟩ := f_bd h
        refine ⟨NN59, s_X11_copies (d := d + 2) rfl (Nat.le_of_ble_eq_true rfl) (by decide) rfl (Nat.le_of_ble_eq_true rfl) (by decide) hc60, ?_⟩
        exact s_X11_ahead_53  _ _ _ _ _ _ _ h
      · rw [if_neg c] at h
        cases h; rfl
def f_X11_apart_56 (n : Nat) (p1 p2 p3 w0 : Int) (M : e_M) : Option (Int × e_M) := (f_b (f_X11_bad w0 2 1 M) fun rr1 NN2 => (if rr1 = 0 then (f_b (f_X11_hadBy n p1 p3 NN2) fun rr3 NN4 => (f_b (f_X11_hadBy n p2 p3 NN4) fun rr5 NN6 => (if rr3 = (-1) then (some ((-1), NN6)) else (if ¬ rr5 = (-1) then (if (e_w (rr3 + rr5)) ≤ p3 then (f_b (f_X11_choose n p3 rr3 NN6) fun rr7 NN8 => (f_b (f_X11_choose n (e_w (p3 - rr3)) rr5 NN8) fun rr9 NN10 => (some ((e_w (rr7 * rr9)), NN10)))) else (some (0, NN6))) else (some ((-1), NN6)))))) else (some (0, NN2))))
theorem s_X11_apart_56 {X : e_X} {d gn : Nat} {n : Nat} {p1 p2 p3 w0 : Int} {M M' : e_M} {v : Int} (h : f_X11_apart_56  n p1 p2 p3 w0 M = some (v, M')) : e_G X (d + 2) YX11_apart 56 [some (.inr (.inr 64)), some (.inl p1), some (.inl p2), some (.inl p3), none, none] [.inl w0, .inr (.inr 64)] (557, gn, e_RF, M) (.inl (some (.inl v)), (557, gn, e_RF, M')) := by
  unfold f_X11_apart_56 at h
  refine wp_X11_apart_56 (d := d + 1)  M p1 p2 p3 w0 (f_mn) ?_
  obtain ⟨rr11, NN12, hc13, h⟩ := f_bd h
  refine ⟨rr11, NN12, s_X11_bad (d := d + 1)  hc13, ?_⟩
  refine ⟨fun c => ?_, fun c => ?_⟩
  · rw [if_pos c] at h
    obtain ⟨rr14, NN15, hc16, h⟩ := f_bd h
    refine ⟨rr14, NN15, s_X11_hadBy (d := d)  hc16, ?_⟩
    obtain ⟨rr17, NN18, hc19, h⟩ := f_bd h
    refine ⟨rr17, NN18, s_X11_hadBy (d := d)  hc19, ?_⟩
    refine ⟨fun c => ?_, fun c => ?_⟩
    · rw [if_pos c] at h
      cases h; rfl
    · rw [if_neg c] at h
      refine ⟨fun c => ?_, fun c => ?_⟩
      · rw [if_pos c] at h
        refine ⟨fun c => ?_, fun c => ?_⟩
        · rw [if_pos c] at h
          obtain ⟨rr20, NN21, hc22, h⟩ := f_bd h
          refine ⟨rr20, NN21, s_X11_choose (d := d + 1)  hc22, ?_⟩
          obtain ⟨rr23, NN24, hc25, h⟩ := f_bd h
          refine ⟨rr23, NN24, s_X11_choose (d := d + 1)  hc25, ?_⟩
          cases h; rfl
        · rw [if_neg c] at h
          cases h; rfl
      · rw [if_neg (not_not_intro c)] at h
        cases h; rfl
  · rw [if_neg c] at h
    cases h; rfl
def f_X11_apart_27 (n : Nat) (p1 p2 p3 w0 : Int) (M : e_M) : Option (Int × e_M) := (f_b (f_X11_bad w0 1 0 M) fun rr26 NN27 => (if ¬ rr26 = 0 then (some (0, NN27)) else (if p1 = p2 then (f_X11_apart_56 n p1 p2 p3 1 NN27) else (f_b (f_X11_in p3 0 20 NN27) fun rr28 NN29 => (if ¬ rr28 = 0 then (f_X11_apart_56 n p1 p2 p3 0 NN29) else (f_X11_apart_56 n p1 p2 p3 1 NN29))))))
theorem s_X11_apart_27 {X : e_X} {d gn : Nat} {n : Nat} {p1 p2 p3 w0 : Int} {M M' : e_M} {v : Int} (h : f_X11_apart_27  n p1 p2 p3 w0 M = some (v, M')) : e_G X (d + 2) YX11_apart 27 [some (.inr (.inr 64)), some (.inl p1), some (.inl p2), some (.inl p3), none, none] [.inl w0, .inr (.inr 64)] (557, gn, e_RF, M) (.inl (some (.inl v)), (557, gn, e_RF, M')) := by
  unfold f_X11_apart_27 at h
  refine wp_X11_apart_27 (d := d + 1)  M p1 p2 p3 w0 (f_mn) ?_
  obtain ⟨rr30, NN31, hc32, h⟩ := f_bd h
  refine ⟨rr30, NN31, s_X11_bad (d := d + 1)  hc32, ?_⟩
  refine ⟨fun c => ?_, fun c => ?_⟩
  · rw [if_pos c] at h
    cases h; rfl
  · rw [if_neg (not_not_intro c)] at h
    refine ⟨fun c => ?_, fun c => ?_⟩
    · rw [if_pos c] at h
      refine wp_X11_apart_51 (d := d + 1)  _ _ _ _ ?_
      exact s_X11_apart_56  h
    · rw [if_neg c] at h
      obtain ⟨rr33, NN34, hc35, h⟩ := f_bd h
      refine ⟨rr33, NN34, s_X11_in (d := d + 1)  hc35, ?_⟩
      refine ⟨fun c => ?_, fun c => ?_⟩
      · rw [if_pos c] at h
        exact s_X11_apart_56  h
      · rw [if_neg (not_not_intro c)] at h
        refine wp_X11_apart_51 (d := d + 1)  _ _ _ _ ?_
        exact s_X11_apart_56  h
def f_X11_apart (n : Nat) (p1 p2 p3 : Int) (M : e_M) : Option (Int × e_M) := (f_b (f_X11_isPerson p1 (e_up M 64 0 0)) fun rr36 NN37 => (if rr36 = 0 then (f_X11_apart_27 n p1 p2 p3 1 NN37) else (f_b (f_X11_isPerson p2 NN37) fun rr38 NN39 => (if ¬ rr38 = 0 then (f_X11_apart_27 n p1 p2 p3 0 NN39) else (f_X11_apart_27 n p1 p2 p3 1 NN39)))))
theorem s_X11_apart {X : e_X} {d gn : Nat} {n : Nat} {p1 p2 p3 : Int} {M M' : e_M} {v : Int} (h : f_X11_apart  n p1 p2 p3 M = some (v, M')) : e_E X (d + 2) YX11_apart [.inr (.inr 64), .inl p1, .inl p2, .inl p3] (557, gn, e_RF, M) (.inl (some (.inl v)), (557, gn, e_RF, M')) := by
  unfold f_X11_apart at h
  refine wp_X11_apart_0 (d := d + 1)  M p1 p2 p3 (f_mn) ?_
  obtain ⟨rr40, NN41, hc42, h⟩ := f_bd h
  refine ⟨rr40, NN41, s_X11_isPerson (d := d)  hc42, ?_⟩
  refine ⟨fun c => ?_, fun c => ?_⟩
  · rw [if_pos c] at h
    refine wp_X11_apart_22 (d := d + 1)  _ _ _ _ ?_
    exact s_X11_apart_27  h
  · rw [if_neg c] at h
    obtain ⟨rr43, NN44, hc45, h⟩ := f_bd h
    refine ⟨rr43, NN44, s_X11_isPerson (d := d)  hc45, ?_⟩
    refine ⟨fun c => ?_, fun c => ?_⟩
    · rw [if_pos c] at h
      exact s_X11_apart_27  h
    · rw [if_neg (not_not_intro c)] at h
      refine wp_X11_apart_22 (d := d + 1)  _ _ _ _ ?_
      exact s_X11_apart_27  h
def f_X11_book_48 : Nat → Int → Int → Int → e_M → Option (Int × e_M)
  | 0, _, _, _, _ => none
  | n + 1, p1, v2, v3, M => (if ¬ (M 64 5) = 0 then (if (M 64 5) = 0 then (f_b (f_X11_lays_m_line n v2 (e_up (e_up M 64 3 (-1)) 64 35 v2)) fun _ NN38 => (some (v2, NN38))) else (f_b (f_X11_ends M) fun rr35 NN36 => (some (rr35, NN36)))) else (if (M 64 2) ≤ (M 64 4) then (if (M 64 5) = 0 then (f_b (f_X11_lays_m_line n v2 (e_up (e_up M 64 3 (-1)) 64 35 v2)) fun _ NN34 => (some (v2, NN34))) else (f_b (f_X11_ends M) fun rr31 NN32 => (some (rr31, NN32)))) else (f_b (f_X11_number n 0 (e_w ((M 68 0) - 1)) M) fun rr1 NN2 => (if ¬ (NN2 64 5) = 0 then (f_b (f_X11_number n 0 140 NN2) fun rr23 NN24 => (f_b (f_X11_sign n 59 NN24) fun _ NN26 => (if ¬ (NN26 64 5) = 0 then (f_b (f_X11_blanks n NN26) fun _ NN30 => (f_X11_book_48 n p1 v2 v3 NN30)) else (if (0 ≤ v2 ∧ v2 < 6) then (if (0 ≤ v2 ∧ v2 < 6) then (f_b (f_X11_blanks n (e_up (e_up NN26 (443 + v2.toNat) 0 rr1) (443 + v2.toNat) 1 rr23)) fun _ NN28 => (f_X11_book_48 n p1 (e_w (v2 + 1)) (e_or v3 (e_shl 1 rr1)) NN28)) else none) else none)))) else (f_b (f_X11_has v3 rr1 NN2) fun rr3 NN4 => (if rr3 = 0 then (f_b (f_X11_number n 0 140 NN4) fun rr15 NN16 => (f_b (f_X11_sign n 59 NN16) fun _ NN18 => (if ¬ (NN18 64 5) = 0 then (f_b (f_X11_blanks n NN18) fun _ NN22 => (f_X11_book_48 n p1 v2 v3 NN22)) else (if (0 ≤ v2 ∧ v2 < 6) then (if (0 ≤ v2 ∧ v2 < 6) then (f_b (f_X11_blanks n (e_up (e_up NN18 (443 + v2.toNat) 0 rr1) (443 + v2.toNat) 1 rr15)) fun _ NN20 => (f_X11_book_48 n p1 (e_w (v2 + 1)) (e_or v3 (e_shl 1 rr1)) NN20)) else none) else none)))) else (f_b (f_X11_wrong 2 (M 64 4) NN4) fun _ NN6 => (f_b (f_X11_number n 0 140 NN6) fun rr7 NN8 => (f_b (f_X11_sign n 59 NN8) fun _ NN10 => (if ¬ (NN10 64 5) = 0 then (f_b (f_X11_blanks n NN10) fun _ NN14 => (f_X11_book_48 n p1 v2 v3 NN14)) else (if (0 ≤ v2 ∧ v2 < 6) then (if (0 ≤ v2 ∧ v2 < 6) then (f_b (f_X11_blanks n (e_up (e_up NN10 (443 + v2.toNat) 0 rr1) (443 + v2.toNat) 1 rr7)) fun _ NN12 => (f_X11_book_48 n p1 (e_w (v2 + 1)) (e_or v3 (e_shl 1 rr1)) NN12)) else none) else none)))))))))))
theorem s_X11_book_48 {X : e_X} {d gn : Nat} : ∀ n : Nat, ∀ (p1 v2 v3 : Int) (M M' : e_M) (v : Int), f_X11_book_48  n p1 v2 v3 M = some (v, M') → e_G X (d + 3) YX11_book 48 [some (.inr (.inr 64)), some (.inl p1), some (.inl v2), some (.inl v3), none, none, none] [] (557, gn, e_RF, M) (.inl (some (.inl v)), (557, gn, e_RF, M')) := by
  intro n
  induction n with
  | zero => intro p1 v2 v3 M M' v h; cases h
  | succ n ih =>
    intro p1 v2 v3 M M' v h
    rw [f_X11_book_48] at h
    refine wp_X11_book_48 (d := d + 2)  M p1 v2 v3 (f_mn) ?_
    refine ⟨fun c => ?_, fun c => ?_⟩
    · rw [if_pos c] at h
      refine wp_X11_book_170 (d := d + 2)  _ _ _ _ (f_mn) ?_
      refine ⟨fun c => ?_, fun c => ?_⟩
      · rw [if_pos c] at h
        obtain ⟨rr39, NN40, hc41, h⟩ := f_bd h
        refine ⟨NN40, s_X11_lays_m_line (d := d + 2)  hc41, ?_⟩
        cases h; rfl
      · rw [if_neg c] at h
        obtain ⟨rr42, NN43, hc44, h⟩ := f_bd h
        refine ⟨rr42, NN43, s_X11_ends (d := d + 2)  hc44, ?_⟩
        cases h; rfl
    · rw [if_neg (not_not_intro c)] at h
      refine ⟨fun c => ?_, fun c => ?_⟩
      · rw [if_pos c] at h
        refine wp_X11_book_170 (d := d + 2)  _ _ _ _ (f_mn) ?_
        refine ⟨fun c => ?_, fun c => ?_⟩
        · rw [if_pos c] at h
          obtain ⟨rr45, NN46, hc47, h⟩ := f_bd h
          refine ⟨NN46, s_X11_lays_m_line (d := d + 2)  hc47, ?_⟩
          cases h; rfl
        · rw [if_neg c] at h
          obtain ⟨rr48, NN49, hc50, h⟩ := f_bd h
          refine ⟨rr48, NN49, s_X11_ends (d := d + 2)  hc50, ?_⟩
          cases h; rfl
      · rw [if_neg c] at h
        obtain ⟨rr51, NN52, hc53, h⟩ := f_bd h
        refine ⟨rr51, NN52, s_X11_number (d := d)  hc53, ?_⟩
        refine ⟨fun c => ?_, fun c => ?_⟩
        · rw [if_pos c] at h
          refine wp_X11_book_110 (d := d + 2)  _ _ _ _ _ _ (f_mn) ?_
          obtain ⟨rr54, NN55, hc56, h⟩ := f_bd h
          refine ⟨rr54, NN55, s_X11_number (d := d)  hc56, ?_⟩
          obtain ⟨rr57, NN58, hc59, h⟩ := f_bd h
          refine ⟨NN58, s_X11_sign (d := d)  hc59, ?_⟩
          refine ⟨fun c => ?_, fun c => ?_⟩
          · rw [if_pos c] at h
            refine wp_X11_book_163 (d := d + 2)  _ _ _ _ _ _ _ (f_mn) ?_
            obtain ⟨rr60, NN61, hc62, h⟩ := f_bd h
            refine ⟨NN61, s_X11_blanks (d := d + 1)  hc62, ?_⟩
            exact ih _ _ _ _ _ _ h
          · rw [if_neg (not_not_intro c)] at h
            obtain ⟨c63, h⟩ := f_gd h
            refine ⟨c63, ?_⟩
            obtain ⟨c64, h⟩ := f_gd h
            refine ⟨c64, ?_⟩
            refine wp_X11_book_163 (d := d + 2)  _ _ _ _ _ _ _ (f_mn) ?_
            obtain ⟨rr65, NN66, hc67, h⟩ := f_bd h
            refine ⟨NN66, s_X11_blanks (d := d + 1)  hc67, ?_⟩
            exact ih _ _ _ _ _ _ h
        · rw [if_neg (not_not_intro c)] at h
          obtain ⟨rr68, NN69, hc70, h⟩ := f_bd h
          refine ⟨rr68, NN69, s_X11_has (d := d + 2)  hc70, ?_⟩
          refine ⟨fun c => ?_, fun c => ?_⟩
          · rw [if_pos c] at h
            refine wp_X11_book_110 (d := d + 2)  _ _ _ _ _ _ (f_mn) ?_
            obtain ⟨rr71, NN72, hc73, h⟩ := f_bd h
            refine ⟨rr71, NN72, s_X11_number (d := d)  hc73, ?_⟩
            obtain ⟨rr74, NN75, hc76, h⟩ := f_bd h
            refine ⟨NN75, s_X11_sign (d := d)  hc76, ?_⟩
            refine ⟨fun c => ?_, fun c => ?_⟩
            · rw [if_pos c] at h
              refine wp_X11_book_163 (d := d + 2)  _ _ _ _ _ _ _ (f_mn) ?_
              obtain ⟨rr77, NN78, hc79, h⟩ := f_bd h
              refine ⟨NN78, s_X11_blanks (d := d + 1)  hc79, ?_⟩
              exact ih _ _ _ _ _ _ h
            · rw [if_neg (not_not_intro c)] at h
              obtain ⟨c80, h⟩ := f_gd h
              refine ⟨c80, ?_⟩
              obtain ⟨c81, h⟩ := f_gd h
              refine ⟨c81, ?_⟩
              refine wp_X11_book_163 (d := d + 2)  _ _ _ _ _ _ _ (f_mn) ?_
              obtain ⟨rr82, NN83, hc84, h⟩ := f_bd h
              refine ⟨NN83, s_X11_blanks (d := d + 1)  hc84, ?_⟩
              exact ih _ _ _ _ _ _ h
          · rw [if_neg c] at h
            obtain ⟨rr85, NN86, hc87, h⟩ := f_bd h
            refine ⟨NN86, s_X11_wrong (d := d + 2)  hc87, ?_⟩
            refine wp_X11_book_110 (d := d + 2)  _ _ _ _ _ _ (f_mn) ?_
            obtain ⟨rr88, NN89, hc90, h⟩ := f_bd h
            refine ⟨rr88, NN89, s_X11_number (d := d)  hc90, ?_⟩
            obtain ⟨rr91, NN92, hc93, h⟩ := f_bd h
            refine ⟨NN92, s_X11_sign (d := d)  hc93, ?_⟩
            refine ⟨fun c => ?_, fun c => ?_⟩
            · rw [if_pos c] at h
              refine wp_X11_book_163 (d := d + 2)  _ _ _ _ _ _ _ (f_mn) ?_
              obtain ⟨rr94, NN95, hc96, h⟩ := f_bd h
              refine ⟨NN95, s_X11_blanks (d := d + 1)  hc96, ?_⟩
              exact ih _ _ _ _ _ _ h
            · rw [if_neg (not_not_intro c)] at h
              obtain ⟨c97, h⟩ := f_gd h
              refine ⟨c97, ?_⟩
              obtain ⟨c98, h⟩ := f_gd h
              refine ⟨c98, ?_⟩
              refine wp_X11_book_163 (d := d + 2)  _ _ _ _ _ _ _ (f_mn) ?_
              obtain ⟨rr99, NN100, hc101, h⟩ := f_bd h
              refine ⟨NN100, s_X11_blanks (d := d + 1)  hc101, ?_⟩
              exact ih _ _ _ _ _ _ h
def f_X11_book (n : Nat) (p1 : Int) (M : e_M) : Option (Int × e_M) := (f_b (f_X11_in p1 0 ((e_up M 64 0 0) 64 1) (e_up M 64 0 0)) fun rr102 NN103 => (if rr102 = 0 then (f_b (f_X11_bad 1 1 1 NN103) fun rr112 NN113 => (if rr112 = 0 then (f_b (f_X11_starts n p1 NN113) fun _ NN115 => (f_X11_book_48 n p1 0 0 NN115)) else (some (0, NN113)))) else (if p1 ≤ 60 then (f_b (f_X11_bad 0 1 1 NN103) fun rr108 NN109 => (if rr108 = 0 then (f_b (f_X11_starts n p1 NN109) fun _ NN111 => (f_X11_book_48 n p1 0 0 NN111)) else (some (0, NN109)))) else (f_b (f_X11_bad 1 1 1 NN103) fun rr104 NN105 => (if rr104 = 0 then (f_b (f_X11_starts n p1 NN105) fun _ NN107 => (f_X11_book_48 n p1 0 0 NN107)) else (some (0, NN105)))))))
theorem s_X11_book {X : e_X} {d gn : Nat} {n : Nat} {p1 : Int} {M M' : e_M} {v : Int} (h : f_X11_book  n p1 M = some (v, M')) : e_E X (d + 3) YX11_book [.inr (.inr 64), .inl p1] (557, gn, e_RF, M) (.inl (some (.inl v)), (557, gn, e_RF, M')) := by
  unfold f_X11_book at h
  refine wp_X11_book_0 (d := d + 2)  M p1 (f_mn) ?_
  obtain ⟨rr116, NN117, hc118, h⟩ := f_bd h
  refine ⟨rr116, NN117, s_X11_in (d := d + 2)  hc118, ?_⟩
  refine ⟨fun c => ?_, fun c => ?_⟩
  · rw [if_pos c] at h
    refine wp_X11_book_24 (d := d + 2)  _ _ ?_
    refine wp_X11_book_29 (d := d + 2)  _ _ _ (f_mn) ?_
    obtain ⟨rr119, NN120, hc121, h⟩ := f_bd h
    refine ⟨rr119, NN120, s_X11_bad (d := d + 2)  hc121, ?_⟩
    refine ⟨fun c => ?_, fun c => ?_⟩
    · rw [if_pos c] at h
      obtain ⟨rr122, NN123, hc124, h⟩ := f_bd h
      refine ⟨NN123, s_X11_starts (d := d)  hc124, ?_⟩
      exact s_X11_book_48  _ _ _ _ _ _ _ h
    · rw [if_neg c] at h
      cases h; rfl
  · rw [if_neg c] at h
    refine ⟨fun c => ?_, fun c => ?_⟩
    · rw [if_pos c] at h
      refine wp_X11_book_29 (d := d + 2)  _ _ _ (f_mn) ?_
      obtain ⟨rr125, NN126, hc127, h⟩ := f_bd h
      refine ⟨rr125, NN126, s_X11_bad (d := d + 2)  hc127, ?_⟩
      refine ⟨fun c => ?_, fun c => ?_⟩
      · rw [if_pos c] at h
        obtain ⟨rr128, NN129, hc130, h⟩ := f_bd h
        refine ⟨NN129, s_X11_starts (d := d)  hc130, ?_⟩
        exact s_X11_book_48  _ _ _ _ _ _ _ h
      · rw [if_neg c] at h
        cases h; rfl
    · rw [if_neg c] at h
      refine wp_X11_book_24 (d := d + 2)  _ _ ?_
      refine wp_X11_book_29 (d := d + 2)  _ _ _ (f_mn) ?_
      obtain ⟨rr131, NN132, hc133, h⟩ := f_bd h
      refine ⟨rr131, NN132, s_X11_bad (d := d + 2)  hc133, ?_⟩
      refine ⟨fun c => ?_, fun c => ?_⟩
      · rw [if_pos c] at h
        obtain ⟨rr134, NN135, hc136, h⟩ := f_bd h
        refine ⟨NN135, s_X11_starts (d := d)  hc136, ?_⟩
        exact s_X11_book_48  _ _ _ _ _ _ _ h
      · rw [if_neg c] at h
        cases h; rfl
def f_X11_canBuy (q0 : Nat) (n : Nat) (p2 : Int) (M : e_M) : Option (Int × e_M) := (f_b (f_X11_isSold q0 p2 M) fun rr1 NN2 => (if ¬ rr1 = 0 then (some (0, NN2)) else (if (0 ≤ (e_w (0 + p2)) ∧ (e_w (0 + p2)) < 56) then (f_b (f_X11_priceOf q0 n p2 NN2) fun rr3 NN4 => (if (NN2 q0 (e_w (0 + p2)).toNat) < rr3 then (some (0, NN4)) else (some (1, NN4)))) else none)))
theorem s_X11_canBuy {X : e_X} {d gn : Nat} {q0 : Nat} (hq0 : e_SH q0 = (20, 56)) (kq0 : q0 ≤ 557) (zq0 : q0 ≠ 0) {n : Nat} {p2 : Int} {M M' : e_M} {v : Int} (h : f_X11_canBuy q0 n p2 M = some (v, M')) : e_E X (d + 5) YX11_canBuy [.inr (.inr 64), .inr (.inr q0), .inl p2] (557, gn, e_RF, M) (.inl (some (.inl v)), (557, gn, e_RF, M')) := by
  unfold f_X11_canBuy at h
  refine wp_X11_canBuy_0 (d := d + 4) hq0 kq0 zq0 M p2 (f_mn) ?_
  obtain ⟨rr5, NN6, hc7, h⟩ := f_bd h
  refine ⟨rr5, NN6, s_X11_isSold (d := d + 4) hq0 kq0 zq0 hc7, ?_⟩
  refine ⟨fun c => ?_, fun c => ?_⟩
  · rw [if_pos c] at h
    cases h; rfl
  · rw [if_neg (not_not_intro c)] at h
    obtain ⟨c8, h⟩ := f_gd h
    refine ⟨c8, ?_⟩
    obtain ⟨rr9, NN10, hc11, h⟩ := f_bd h
    refine ⟨rr9, NN10, s_X11_priceOf (d := d) hq0 kq0 zq0 hc11, ?_⟩
    refine ⟨fun c => ?_, fun c => ?_⟩
    · rw [if_pos c] at h
      cases h; rfl
    · rw [if_neg c] at h
      cases h; rfl
def f_X11_cheapest_37 : Nat → Int → Int → Int → Int → e_M → Option (Int × e_M)
  | 0, _, _, _, _, _ => none
  | n + 1, p1, v2, v3, v4, M => (if (M 68 0) ≤ v4 then (if ¬ p1 = 0 then (some (v3, M)) else (some (v2, M))) else (f_b (f_X11_priceOf 532 n v4 M) fun rr1 NN2 => (f_b (f_X11_isSold 532 v4 NN2) fun rr3 NN4 => (if ¬ rr3 = 0 then (f_X11_cheapest_37 n p1 v2 v3 (e_w (v4 + 1)) NN4) else (if v2 = (-1) then (f_X11_cheapest_37 n p1 v4 rr1 (e_w (v4 + 1)) NN4) else (if rr1 < v3 then (f_X11_cheapest_37 n p1 v4 rr1 (e_w (v4 + 1)) NN4) else (f_X11_cheapest_37 n p1 v2 v3 (e_w (v4 + 1)) NN4)))))))
theorem s_X11_cheapest_37 {X : e_X} {d gn : Nat} : ∀ n : Nat, ∀ (p1 v2 v3 v4 : Int) (M M' : e_M) (v : Int), f_X11_cheapest_37  n p1 v2 v3 v4 M = some (v, M') → e_G X (d + 5) YX11_cheapest 37 [some (.inr (.inr 64)), some (.inl p1), some (.inl v2), some (.inl v3), some (.inl v4), none] [] (557, gn, e_RF, M) (.inl (some (.inl v)), (557, gn, e_RF, M')) := by
  intro n
  induction n with
  | zero => intro p1 v2 v3 v4 M M' v h; cases h
  | succ n ih =>
    intro p1 v2 v3 v4 M M' v h
    rw [f_X11_cheapest_37] at h
    refine wp_X11_cheapest_37 (d := d + 4)  M p1 v2 v3 v4 (f_mn) ?_
    refine ⟨fun c => ?_, fun c => ?_⟩
    · rw [if_pos c] at h
      refine ⟨fun c => ?_, fun c => ?_⟩
      · rw [if_pos c] at h
        cases h; rfl
      · rw [if_neg (not_not_intro c)] at h
        cases h; rfl
    · rw [if_neg c] at h
      obtain ⟨rr5, NN6, hc7, h⟩ := f_bd h
      refine ⟨rr5, NN6, s_X11_priceOf (d := d) rfl (Nat.le_of_ble_eq_true rfl) (by decide) hc7, ?_⟩
      obtain ⟨rr8, NN9, hc10, h⟩ := f_bd h
      refine ⟨rr8, NN9, s_X11_isSold (d := d + 4) rfl (Nat.le_of_ble_eq_true rfl) (by decide) hc10, ?_⟩
      refine ⟨fun c => ?_, fun c => ?_⟩
      · rw [if_pos c] at h
        exact ih _ _ _ _ _ _ _ h
      · rw [if_neg (not_not_intro c)] at h
        refine ⟨fun c => ?_, fun c => ?_⟩
        · rw [if_pos c] at h
          exact ih _ _ _ _ _ _ _ h
        · rw [if_neg c] at h
          refine ⟨fun c => ?_, fun c => ?_⟩
          · rw [if_pos c] at h
            exact ih _ _ _ _ _ _ _ h
          · rw [if_neg c] at h
            exact ih _ _ _ _ _ _ _ h
def f_X11_cheapest (n : Nat) (p1 : Int) (M : e_M) : Option (Int × e_M) := (f_b (f_X11_in p1 0 1 (e_up M 64 0 0)) fun rr11 NN12 => (if ¬ rr11 = 0 then (f_b (f_X11_bad 0 1 1 NN12) fun rr15 NN16 => (if rr15 = 0 then (f_X11_cheapest_37 n p1 (-1) (-1) 0 NN16) else (some (0, NN16)))) else (f_b (f_X11_bad 1 1 1 NN12) fun rr13 NN14 => (if rr13 = 0 then (f_X11_cheapest_37 n p1 (-1) (-1) 0 NN14) else (some (0, NN14))))))
theorem s_X11_cheapest {X : e_X} {d gn : Nat} {n : Nat} {p1 : Int} {M M' : e_M} {v : Int} (h : f_X11_cheapest  n p1 M = some (v, M')) : e_E X (d + 5) YX11_cheapest [.inr (.inr 64), .inl p1] (557, gn, e_RF, M) (.inl (some (.inl v)), (557, gn, e_RF, M')) := by
  unfold f_X11_cheapest at h
  refine wp_X11_cheapest_0 (d := d + 4)  M p1 (f_mn) ?_
  obtain ⟨rr17, NN18, hc19, h⟩ := f_bd h
  refine ⟨rr17, NN18, s_X11_in (d := d + 4)  hc19, ?_⟩
  refine ⟨fun c => ?_, fun c => ?_⟩
  · rw [if_pos c] at h
    refine wp_X11_cheapest_20 (d := d + 4)  _ _ _ (f_mn) ?_
    obtain ⟨rr20, NN21, hc22, h⟩ := f_bd h
    refine ⟨rr20, NN21, s_X11_bad (d := d + 4)  hc22, ?_⟩
    refine ⟨fun c => ?_, fun c => ?_⟩
    · rw [if_pos c] at h
      exact s_X11_cheapest_37  _ _ _ _ _ _ _ _ h
    · rw [if_neg c] at h
      cases h; rfl
  · rw [if_neg (not_not_intro c)] at h
    refine wp_X11_cheapest_20 (d := d + 4)  _ _ _ (f_mn) ?_
    obtain ⟨rr23, NN24, hc25, h⟩ := f_bd h
    refine ⟨rr23, NN24, s_X11_bad (d := d + 4)  hc25, ?_⟩
    refine ⟨fun c => ?_, fun c => ?_⟩
    · rw [if_pos c] at h
      exact s_X11_cheapest_37  _ _ _ _ _ _ _ _ h
    · rw [if_neg c] at h
      cases h; rfl
def f_X11_due (n : Nat) (M : e_M) : Option (Int × e_M) := (f_b (f_X11_copies 532 533 n (e_up M 64 0 0)) fun _ NN2 => (f_b (f_X11_weekEnds 533 n NN2) fun _ NN4 => (f_b (f_X11_sumOf 533 n 24 NN4) fun rr5 NN6 => (f_b (f_X11_sumOf 532 n 24 NN6) fun rr7 NN8 => (some ((e_w (rr5 - rr7)), NN8))))))
theorem s_X11_due {X : e_X} {d gn : Nat} {n : Nat} {M M' : e_M} {v : Int} (h : f_X11_due  n  M = some (v, M')) : e_E X (d + 3) YX11_due [.inr (.inr 64)] (557, gn, e_RF, M) (.inl (some (.inl v)), (557, gn, e_RF, M')) := by
  unfold f_X11_due at h
  refine wp_X11_due_0 (d := d + 2)  M  (f_mn) ?_
  obtain ⟨rr9, NN10, hc11, h⟩ := f_bd h
  refine ⟨NN10, s_X11_copies (d := d + 2) rfl (Nat.le_of_ble_eq_true rfl) (by decide) rfl (Nat.le_of_ble_eq_true rfl) (by decide) hc11, ?_⟩
  obtain ⟨rr12, NN13, hc14, h⟩ := f_bd h
  refine ⟨NN13, s_X11_weekEnds (d := d) rfl (Nat.le_of_ble_eq_true rfl) (by decide) hc14, ?_⟩
  obtain ⟨rr15, NN16, hc17, h⟩ := f_bd h
  refine ⟨rr15, NN16, s_X11_sumOf (d := d + 2) rfl (Nat.le_of_ble_eq_true rfl) (by decide) hc17, ?_⟩
  obtain ⟨rr18, NN19, hc20, h⟩ := f_bd h
  refine ⟨rr18, NN19, s_X11_sumOf (d := d + 2) rfl (Nat.le_of_ble_eq_true rfl) (by decide) hc20, ?_⟩
  cases h; rfl
def f_X11_isPaid_69 : Nat → Int → Int → Int → Int → Int → Int → Int → e_M → Option (Int × e_M)
  | 0, _, _, _, _, _, _, _, _ => none
  | n + 1, p1, p2, p3, v4, v5, v6, v7, M => (if p2 ≤ v7 then (some (1, M)) else (f_b (f_X11_has p3 v7 M) fun rr1 NN2 => (if ¬ rr1 = 0 then (if (0 ≤ p1 ∧ p1 < 6) then (if (0 ≤ p1 ∧ p1 < 6) then (f_b (f_X11_ones n (e_and (NN2 72 p1.toNat) (e_xor v6 (-1))) NN2) fun rr5 NN6 => (f_b (f_X11_priceBy n (e_w ((M 532 55) + v7)) 0 v5 v4 (NN2 (81 + p1.toNat) 1) rr5 0 p1 NN6) fun rr7 NN8 => (f_b (f_X11_isKept n p1 (e_w ((M 532 55) + v7)) NN8) fun rr9 NN10 => (if ¬ rr9 = 0 then (some (0, NN10)) else (if rr7 ≤ v4 then (f_X11_isPaid_69 n p1 p2 p3 (e_w (v4 - rr7)) (e_w (v5 + 1)) v6 (e_w (v7 + 1)) NN10) else (some (0, NN10))))))) else none) else none) else (if (0 ≤ p1 ∧ p1 < 6) then (f_b (f_X11_less 999 (e_w (v4 + (NN2 (81 + p1.toNat) 1))) NN2) fun rr3 NN4 => (f_X11_isPaid_69 n p1 p2 p3 rr3 v5 v6 (e_w (v7 + 1)) NN4)) else none))))
theorem s_X11_isPaid_69 {X : e_X} {d gn : Nat} : ∀ n : Nat, ∀ (p1 p2 p3 v4 v5 v6 v7 : Int) (M M' : e_M) (v : Int), f_X11_isPaid_69  n p1 p2 p3 v4 v5 v6 v7 M = some (v, M') → e_G X (d + 4) YX11_isPaid 69 [some (.inr (.inr 64)), some (.inl p1), some (.inl p2), some (.inl p3), some (.inl v4), some (.inl v5), some (.inl v6), some (.inl v7), none, none] [] (557, gn, e_RF, M) (.inl (some (.inl v)), (557, gn, e_RF, M')) := by
  intro n
  induction n with
  | zero => intro p1 p2 p3 v4 v5 v6 v7 M M' v h; cases h
  | succ n ih =>
    intro p1 p2 p3 v4 v5 v6 v7 M M' v h
    rw [f_X11_isPaid_69] at h
    refine wp_X11_isPaid_69 (d := d + 3)  M p1 p2 p3 v4 v5 v6 v7 (f_mn) ?_
    refine ⟨fun c => ?_, fun c => ?_⟩
    · rw [if_pos c] at h
      cases h; rfl
    · rw [if_neg c] at h
      obtain ⟨rr11, NN12, hc13, h⟩ := f_bd h
      refine ⟨rr11, NN12, s_X11_has (d := d + 3)  hc13, ?_⟩
      refine ⟨fun c => ?_, fun c => ?_⟩
      · rw [if_pos c] at h
        obtain ⟨c14, h⟩ := f_gd h
        refine ⟨c14, ?_⟩
        obtain ⟨c15, h⟩ := f_gd h
        refine ⟨c15, ?_⟩
        obtain ⟨rr16, NN17, hc18, h⟩ := f_bd h
        refine ⟨rr16, NN17, s_X11_ones (d := d + 3)  hc18, ?_⟩
        obtain ⟨rr19, NN20, hc21, h⟩ := f_bd h
        refine ⟨rr19, NN20, s_X11_priceBy (d := d)  hc21, ?_⟩
        obtain ⟨rr22, NN23, hc24, h⟩ := f_bd h
        refine ⟨rr22, NN23, s_X11_isKept (d := d + 3)  hc24, ?_⟩
        refine ⟨fun c => ?_, fun c => ?_⟩
        · rw [if_pos c] at h
          cases h; rfl
        · rw [if_neg (not_not_intro c)] at h
          refine ⟨fun c => ?_, fun c => ?_⟩
          · rw [if_pos c] at h
            exact ih _ _ _ _ _ _ _ _ _ _ h
          · rw [if_neg c] at h
            cases h; rfl
      · rw [if_neg (not_not_intro c)] at h
        obtain ⟨c25, h⟩ := f_gd h
        refine ⟨c25, ?_⟩
        obtain ⟨rr26, NN27, hc28, h⟩ := f_bd h
        refine ⟨rr26, NN27, s_X11_less (d := d + 3)  hc28, ?_⟩
        exact ih _ _ _ _ _ _ _ _ _ _ h
def f_X11_isPaid_27 : Nat → Int → Int → Int → Int → Int → Int → Int → e_M → Option (Int × e_M)
  | 0, _, _, _, _, _, _, _, _ => none
  | n + 1, p1, p2, p3, v4, v5, v6, v7, M => (if (M 68 0) ≤ v7 then (f_X11_isPaid_69 n p1 p2 p3 v4 v5 v6 0 M) else (if ¬ v7 = p1 then (if (0 ≤ v7 ∧ v7 < 6) then (f_X11_isPaid_27 n p1 p2 p3 v4 v5 (e_or v6 (M 72 v7.toNat)) (e_w (v7 + 1)) M) else none) else (f_X11_isPaid_27 n p1 p2 p3 v4 v5 (e_or v6 0) (e_w (v7 + 1)) M)))
theorem s_X11_isPaid_27 {X : e_X} {d gn : Nat} : ∀ n : Nat, ∀ (p1 p2 p3 v4 v5 v6 v7 : Int) (M M' : e_M) (v : Int), f_X11_isPaid_27  n p1 p2 p3 v4 v5 v6 v7 M = some (v, M') → e_G X (d + 4) YX11_isPaid 27 [some (.inr (.inr 64)), some (.inl p1), some (.inl p2), some (.inl p3), some (.inl v4), some (.inl v5), some (.inl v6), some (.inl v7), none, none] [] (557, gn, e_RF, M) (.inl (some (.inl v)), (557, gn, e_RF, M')) := by
  intro n
  induction n with
  | zero => intro p1 p2 p3 v4 v5 v6 v7 M M' v h; cases h
  | succ n ih =>
    intro p1 p2 p3 v4 v5 v6 v7 M M' v h
    rw [f_X11_isPaid_27] at h
    refine wp_X11_isPaid_27 (d := d + 3)  M p1 p2 p3 v4 v5 v6 v7 ?_
    refine ⟨fun c => ?_, fun c => ?_⟩
    · rw [if_pos c] at h
      exact s_X11_isPaid_69  _ _ _ _ _ _ _ _ _ _ _ h
    · rw [if_neg c] at h
      refine ⟨fun c => ?_, fun c => ?_⟩
      · rw [if_pos c] at h
        obtain ⟨c29, h⟩ := f_gd h
        refine ⟨c29, ?_⟩
        exact ih _ _ _ _ _ _ _ _ _ _ h
      · rw [if_neg (not_not_intro c)] at h
        exact ih _ _ _ _ _ _ _ _ _ _ h
def f_X11_isPaid (n : Nat) (p1 p2 p3 : Int) (M : e_M) : Option (Int × e_M) := (if (0 ≤ (e_w (0 + p1)) ∧ (e_w (0 + p1)) < 56) then (if (0 ≤ (e_w (12 + p1)) ∧ (e_w (12 + p1)) < 56) then (f_X11_isPaid_27 n p1 p2 p3 (M 532 (e_w (0 + p1)).toNat) (M 532 (e_w (12 + p1)).toNat) 0 0 M) else none) else none)
theorem s_X11_isPaid {X : e_X} {d gn : Nat} {n : Nat} {p1 p2 p3 : Int} {M M' : e_M} {v : Int} (h : f_X11_isPaid  n p1 p2 p3 M = some (v, M')) : e_E X (d + 4) YX11_isPaid [.inr (.inr 64), .inl p1, .inl p2, .inl p3] (557, gn, e_RF, M) (.inl (some (.inl v)), (557, gn, e_RF, M')) := by
  unfold f_X11_isPaid at h
  refine wp_X11_isPaid_0 (d := d + 3)  M p1 p2 p3 ?_
  obtain ⟨c30, h⟩ := f_gd h
  refine ⟨c30, ?_⟩
  obtain ⟨c31, h⟩ := f_gd h
  refine ⟨c31, ?_⟩
  exact s_X11_isPaid_27  _ _ _ _ _ _ _ _ _ _ _ h
def f_X11_isWord (n : Nat) (p1 p2 p3 p4 p5 p6 : Int) (M : e_M) : Option (Int × e_M) := (if ¬ (M 64 5) = 0 then (some (0, M)) else (f_b (f_X11_wordHere n M) fun rr1 NN2 => (f_b (f_X11_six p1 p2 p3 p4 p5 p6 NN2) fun rr3 NN4 => (if ¬ rr1 = rr3 then (some (0, NN4)) else (some (1, NN4))))))
theorem s_X11_isWord {X : e_X} {d gn : Nat} {n : Nat} {p1 p2 p3 p4 p5 p6 : Int} {M M' : e_M} {v : Int} (h : f_X11_isWord  n p1 p2 p3 p4 p5 p6 M = some (v, M')) : e_E X (d + 3) YX11_isWord [.inr (.inr 64), .inl p1, .inl p2, .inl p3, .inl p4, .inl p5, .inl p6] (557, gn, e_RF, M) (.inl (some (.inl v)), (557, gn, e_RF, M')) := by
  unfold f_X11_isWord at h
  refine wp_X11_isWord_0 (d := d + 2)  M p1 p2 p3 p4 p5 p6 (f_mn) ?_
  refine ⟨fun c => ?_, fun c => ?_⟩
  · rw [if_pos c] at h
    cases h; rfl
  · rw [if_neg (not_not_intro c)] at h
    obtain ⟨rr5, NN6, hc7, h⟩ := f_bd h
    refine ⟨rr5, NN6, s_X11_wordHere (d := d)  hc7, ?_⟩
    obtain ⟨rr8, NN9, hc10, h⟩ := f_bd h
    refine ⟨rr8, NN9, s_X11_six (d := d + 2)  hc10, ?_⟩
    refine ⟨fun c => ?_, fun c => ?_⟩
    · rw [if_pos c] at h
      cases h; rfl
    · rw [if_neg (not_not_intro c)] at h
      cases h; rfl
def f_X11_kindHere (n : Nat) (M : e_M) : Option (Int × e_M) := (f_b (f_X11_isWord n 16 5 18 19 15 14 M) fun rr1 NN2 => (if rr1 = 0 then (f_b (f_X11_isWord n 4 21 20 25 0 0 NN2) fun rr3 NN4 => (if rr3 = 0 then (f_b (f_X11_isWord n 20 1 19 11 0 0 NN4) fun rr5 NN6 => (if rr5 = 0 then (f_b (f_X11_isWord n 3 1 14 0 0 0 NN6) fun rr7 NN8 => (if rr7 = 0 then (some ((-1), NN8)) else (some (3, NN8)))) else (some (2, NN6)))) else (some (1, NN4)))) else (some (0, NN2))))
theorem s_X11_kindHere {X : e_X} {d gn : Nat} {n : Nat} {M M' : e_M} {v : Int} (h : f_X11_kindHere  n  M = some (v, M')) : e_E X (d + 4) YX11_kindHere [.inr (.inr 64)] (557, gn, e_RF, M) (.inl (some (.inl v)), (557, gn, e_RF, M')) := by
  unfold f_X11_kindHere at h
  refine wp_X11_kindHere_0 (d := d + 3)  M  (f_mn) ?_
  obtain ⟨rr9, NN10, hc11, h⟩ := f_bd h
  refine ⟨rr9, NN10, s_X11_isWord (d := d)  hc11, ?_⟩
  refine ⟨fun c => ?_, fun c => ?_⟩
  · rw [if_pos c] at h
    obtain ⟨rr12, NN13, hc14, h⟩ := f_bd h
    refine ⟨rr12, NN13, s_X11_isWord (d := d)  hc14, ?_⟩
    refine ⟨fun c => ?_, fun c => ?_⟩
    · rw [if_pos c] at h
      obtain ⟨rr15, NN16, hc17, h⟩ := f_bd h
      refine ⟨rr15, NN16, s_X11_isWord (d := d)  hc17, ?_⟩
      refine ⟨fun c => ?_, fun c => ?_⟩
      · rw [if_pos c] at h
        obtain ⟨rr18, NN19, hc20, h⟩ := f_bd h
        refine ⟨rr18, NN19, s_X11_isWord (d := d)  hc20, ?_⟩
        refine ⟨fun c => ?_, fun c => ?_⟩
        · rw [if_pos c] at h
          cases h; rfl
        · rw [if_neg c] at h
          cases h; rfl
      · rw [if_neg c] at h
        cases h; rfl
    · rw [if_neg c] at h
      cases h; rfl
  · rw [if_neg c] at h
    cases h; rfl
def f_X11_loses_44 : Nat → Int → Int → e_M → Option (Int × e_M)
  | 0, _, _, _ => none
  | n + 1, p1, v2, M => (if p1 ≤ v2 then (some ((e_w ((M 533 54) - (M 532 54))), M)) else (f_b (f_X11_weekEnds 533 n M) fun _ NN2 => (f_X11_loses_44 n p1 (e_w (v2 + 1)) NN2)))
theorem s_X11_loses_44 {X : e_X} {d gn : Nat} : ∀ n : Nat, ∀ (p1 v2 : Int) (M M' : e_M) (v : Int), f_X11_loses_44  n p1 v2 M = some (v, M') → e_G X (d + 3) YX11_loses 44 [some (.inr (.inr 64)), some (.inl p1), some (.inl v2)] [] (557, gn, e_RF, M) (.inl (some (.inl v)), (557, gn, e_RF, M')) := by
  intro n
  induction n with
  | zero => intro p1 v2 M M' v h; cases h
  | succ n ih =>
    intro p1 v2 M M' v h
    rw [f_X11_loses_44] at h
    refine wp_X11_loses_44 (d := d + 2)  M p1 v2 (f_mn) ?_
    refine ⟨fun c => ?_, fun c => ?_⟩
    · rw [if_pos c] at h
      cases h; rfl
    · rw [if_neg c] at h
      obtain ⟨rr3, NN4, hc5, h⟩ := f_bd h
      refine ⟨NN4, s_X11_weekEnds (d := d) rfl (Nat.le_of_ble_eq_true rfl) (by decide) hc5, ?_⟩
      exact ih _ _ _ _ _ h
def f_X11_loses (n : Nat) (p1 : Int) (M : e_M) : Option (Int × e_M) := (f_b (f_X11_in p1 0 99 (e_up M 64 0 0)) fun rr6 NN7 => (if ¬ rr6 = 0 then (f_b (f_X11_bad 0 1 1 NN7) fun rr12 NN13 => (if rr12 = 0 then (f_b (f_X11_copies 532 533 n NN13) fun _ NN15 => (f_X11_loses_44 n p1 0 NN15)) else (some (0, NN13)))) else (f_b (f_X11_bad 1 1 1 NN7) fun rr8 NN9 => (if rr8 = 0 then (f_b (f_X11_copies 532 533 n NN9) fun _ NN11 => (f_X11_loses_44 n p1 0 NN11)) else (some (0, NN9))))))
theorem s_X11_loses {X : e_X} {d gn : Nat} {n : Nat} {p1 : Int} {M M' : e_M} {v : Int} (h : f_X11_loses  n p1 M = some (v, M')) : e_E X (d + 3) YX11_loses [.inr (.inr 64), .inl p1] (557, gn, e_RF, M) (.inl (some (.inl v)), (557, gn, e_RF, M')) := by
  unfold f_X11_loses at h
  refine wp_X11_loses_0 (d := d + 2)  M p1 (f_mn) ?_
  obtain ⟨rr16, NN17, hc18, h⟩ := f_bd h
  refine ⟨rr16, NN17, s_X11_in (d := d + 2)  hc18, ?_⟩
  refine ⟨fun c => ?_, fun c => ?_⟩
  · rw [if_pos c] at h
    refine wp_X11_loses_21 (d := d + 2)  _ _ _ (f_mn) ?_
    obtain ⟨rr19, NN20, hc21, h⟩ := f_bd h
    refine ⟨rr19, NN20, s_X11_bad (d := d + 2)  hc21, ?_⟩
    refine ⟨fun c => ?_, fun c => ?_⟩
    · rw [if_pos c] at h
      obtain ⟨rr22, NN23, hc24, h⟩ := f_bd h
      refine ⟨NN23, s_X11_copies (d := d + 2) rfl (Nat.le_of_ble_eq_true rfl) (by decide) rfl (Nat.le_of_ble_eq_true rfl) (by decide) hc24, ?_⟩
      exact s_X11_loses_44  _ _ _ _ _ _ h
    · rw [if_neg c] at h
      cases h; rfl
  · rw [if_neg (not_not_intro c)] at h
    refine wp_X11_loses_21 (d := d + 2)  _ _ _ (f_mn) ?_
    obtain ⟨rr25, NN26, hc27, h⟩ := f_bd h
    refine ⟨rr25, NN26, s_X11_bad (d := d + 2)  hc27, ?_⟩
    refine ⟨fun c => ?_, fun c => ?_⟩
    · rw [if_pos c] at h
      obtain ⟨rr28, NN29, hc30, h⟩ := f_bd h
      refine ⟨NN29, s_X11_copies (d := d + 2) rfl (Nat.le_of_ble_eq_true rfl) (by decide) rfl (Nat.le_of_ble_eq_true rfl) (by decide) hc30, ?_⟩
      exact s_X11_loses_44  _ _ _ _ _ _ h
    · rw [if_neg c] at h
      cases h; rfl
def f_X11_price (n : Nat) (p1 : Int) (M : e_M) : Option (Int × e_M) := (f_b (f_X11_isPerson p1 (e_up M 64 0 0)) fun rr1 NN2 => (if ¬ rr1 = 0 then (f_b (f_X11_bad 0 1 0 NN2) fun rr7 NN8 => (if rr7 = 0 then (f_b (f_X11_priceOf 532 n p1 NN8) fun rr9 NN10 => (some (rr9, NN10))) else (some (0, NN8)))) else (f_b (f_X11_bad 1 1 0 NN2) fun rr3 NN4 => (if rr3 = 0 then (f_b (f_X11_priceOf 532 n p1 NN4) fun rr5 NN6 => (some (rr5, NN6))) else (some (0, NN4))))))
theorem s_X11_price {X : e_X} {d gn : Nat} {n : Nat} {p1 : Int} {M M' : e_M} {v : Int} (h : f_X11_price  n p1 M = some (v, M')) : e_E X (d + 5) YX11_price [.inr (.inr 64), .inl p1] (557, gn, e_RF, M) (.inl (some (.inl v)), (557, gn, e_RF, M')) := by
  unfold f_X11_price at h
  refine wp_X11_price_0 (d := d + 4)  M p1 (f_mn) ?_
  obtain ⟨rr11, NN12, hc13, h⟩ := f_bd h
  refine ⟨rr11, NN12, s_X11_isPerson (d := d + 3)  hc13, ?_⟩
  refine ⟨fun c => ?_, fun c => ?_⟩
  · rw [if_pos c] at h
    refine wp_X11_price_19 (d := d + 4)  _ _ _ (f_mn) ?_
    obtain ⟨rr14, NN15, hc16, h⟩ := f_bd h
    refine ⟨rr14, NN15, s_X11_bad (d := d + 4)  hc16, ?_⟩
    refine ⟨fun c => ?_, fun c => ?_⟩
    · rw [if_pos c] at h
      obtain ⟨rr17, NN18, hc19, h⟩ := f_bd h
      refine ⟨rr17, NN18, s_X11_priceOf (d := d) rfl (Nat.le_of_ble_eq_true rfl) (by decide) hc19, ?_⟩
      cases h; rfl
    · rw [if_neg c] at h
      cases h; rfl
  · rw [if_neg (not_not_intro c)] at h
    refine wp_X11_price_19 (d := d + 4)  _ _ _ (f_mn) ?_
    obtain ⟨rr20, NN21, hc22, h⟩ := f_bd h
    refine ⟨rr20, NN21, s_X11_bad (d := d + 4)  hc22, ?_⟩
    refine ⟨fun c => ?_, fun c => ?_⟩
    · rw [if_pos c] at h
      obtain ⟨rr23, NN24, hc25, h⟩ := f_bd h
      refine ⟨rr23, NN24, s_X11_priceOf (d := d) rfl (Nat.le_of_ble_eq_true rfl) (by decide) hc25, ?_⟩
      cases h; rfl
    · rw [if_neg c] at h
      cases h; rfl
def f_X11_skips_72 : Nat → Int → Int → Int → Int → Int → e_M → Option (Int × e_M)
  | 0, _, _, _, _, _, _ => none
  | n + 1, p1, p2, p3, v4, v5, M => (if v5 < 0 then (if ¬ p3 = 1 then (f_b (f_X11_ones n v4 M) fun rr7 NN8 => (some (rr7, NN8))) else (some (v4, M))) else (f_b (f_X11_ones n v5 M) fun rr1 NN2 => (f_b (f_X11_ones n v4 NN2) fun rr3 NN4 => (if rr1 < rr3 then (f_X11_skips_72 n p1 p2 p3 v4 (e_w (v5 + (-1))) NN4) else (f_b (f_X11_isPaid n p1 p2 v5 NN4) fun rr5 NN6 => (if rr5 = 0 then (f_X11_skips_72 n p1 p2 p3 v4 (e_w (v5 + (-1))) NN6) else (f_X11_skips_72 n p1 p2 p3 v5 (e_w (v5 + (-1))) NN6)))))))
theorem s_X11_skips_72 {X : e_X} {d gn : Nat} : ∀ n : Nat, ∀ (p1 p2 p3 v4 v5 : Int) (M M' : e_M) (v : Int), f_X11_skips_72  n p1 p2 p3 v4 v5 M = some (v, M') → e_G X (d + 5) YX11_skips 72 [some (.inr (.inr 64)), some (.inl p1), some (.inl p2), some (.inl p3), some (.inl v4), some (.inl v5)] [] (557, gn, e_RF, M) (.inl (some (.inl v)), (557, gn, e_RF, M')) := by
  intro n
  induction n with
  | zero => intro p1 p2 p3 v4 v5 M M' v h; cases h
  | succ n ih =>
    intro p1 p2 p3 v4 v5 M M' v h
    rw [f_X11_skips_72] at h
    refine wp_X11_skips_72 (d := d + 4)  M p1 p2 p3 v4 v5 (f_mn) ?_
    refine ⟨fun c => ?_, fun c => ?_⟩
    · rw [if_pos c] at h
      refine ⟨fun c => ?_, fun c => ?_⟩
      · rw [if_pos c] at h
        obtain ⟨rr9, NN10, hc11, h⟩ := f_bd h
        refine ⟨rr9, NN10, s_X11_ones (d := d + 4)  hc11, ?_⟩
        cases h; rfl
      · rw [if_neg (not_not_intro c)] at h
        cases h; rfl
    · rw [if_neg c] at h
      obtain ⟨rr12, NN13, hc14, h⟩ := f_bd h
      refine ⟨rr12, NN13, s_X11_ones (d := d + 4)  hc14, ?_⟩
      obtain ⟨rr15, NN16, hc17, h⟩ := f_bd h
      refine ⟨rr15, NN16, s_X11_ones (d := d + 4)  hc17, ?_⟩
      refine ⟨fun c => ?_, fun c => ?_⟩
      · rw [if_pos c] at h
        exact ih _ _ _ _ _ _ _ _ h
      · rw [if_neg c] at h
        obtain ⟨rr18, NN19, hc20, h⟩ := f_bd h
        refine ⟨rr18, NN19, s_X11_isPaid (d := d)  hc20, ?_⟩
        refine ⟨fun c => ?_, fun c => ?_⟩
        · rw [if_pos c] at h
          exact ih _ _ _ _ _ _ _ _ h
        · rw [if_neg c] at h
          exact ih _ _ _ _ _ _ _ _ h
def f_X11_skips_19 (n : Nat) (p1 p2 p3 w0 : Int) (M : e_M) : Option (Int × e_M) := (f_b (f_X11_bad w0 1 0 M) fun rr21 NN22 => (if ¬ rr21 = 0 then (some (0, NN22)) else (f_b (f_X11_in p2 0 10 NN22) fun rr23 NN24 => (if rr23 = 0 then (f_b (f_X11_bad 1 2 1 NN24) fun rr31 NN32 => (if rr31 = 0 then (f_X11_skips_72 n p1 p2 p3 0 (e_w ((e_shl 1 p2) - 1)) NN32) else (some (0, NN32)))) else (f_b (f_X11_in p3 0 1 NN24) fun rr25 NN26 => (if ¬ rr25 = 0 then (f_b (f_X11_bad 0 2 1 NN26) fun rr29 NN30 => (if rr29 = 0 then (f_X11_skips_72 n p1 p2 p3 0 (e_w ((e_shl 1 p2) - 1)) NN30) else (some (0, NN30)))) else (f_b (f_X11_bad 1 2 1 NN26) fun rr27 NN28 => (if rr27 = 0 then (f_X11_skips_72 n p1 p2 p3 0 (e_w ((e_shl 1 p2) - 1)) NN28) else (some (0, NN28))))))))))
theorem s_X11_skips_19 {X : e_X} {d gn : Nat} {n : Nat} {p1 p2 p3 w0 : Int} {M M' : e_M} {v : Int} (h : f_X11_skips_19  n p1 p2 p3 w0 M = some (v, M')) : e_G X (d + 5) YX11_skips 19 [some (.inr (.inr 64)), some (.inl p1), some (.inl p2), some (.inl p3), none, none] [.inl w0, .inr (.inr 64)] (557, gn, e_RF, M) (.inl (some (.inl v)), (557, gn, e_RF, M')) := by
  unfold f_X11_skips_19 at h
  refine wp_X11_skips_19 (d := d + 4)  M p1 p2 p3 w0 (f_mn) ?_
  obtain ⟨rr33, NN34, hc35, h⟩ := f_bd h
  refine ⟨rr33, NN34, s_X11_bad (d := d + 4)  hc35, ?_⟩
  refine ⟨fun c => ?_, fun c => ?_⟩
  · rw [if_pos c] at h
    cases h; rfl
  · rw [if_neg (not_not_intro c)] at h
    obtain ⟨rr36, NN37, hc38, h⟩ := f_bd h
    refine ⟨rr36, NN37, s_X11_in (d := d + 4)  hc38, ?_⟩
    refine ⟨fun c => ?_, fun c => ?_⟩
    · rw [if_pos c] at h
      refine wp_X11_skips_47 (d := d + 4)  _ _ _ _ ?_
      refine wp_X11_skips_52 (d := d + 4)  _ _ _ _ _ (f_mn) ?_
      obtain ⟨rr39, NN40, hc41, h⟩ := f_bd h
      refine ⟨rr39, NN40, s_X11_bad (d := d + 4)  hc41, ?_⟩
      refine ⟨fun c => ?_, fun c => ?_⟩
      · rw [if_pos c] at h
        exact s_X11_skips_72  _ _ _ _ _ _ _ _ _ h
      · rw [if_neg c] at h
        cases h; rfl
    · rw [if_neg c] at h
      obtain ⟨rr42, NN43, hc44, h⟩ := f_bd h
      refine ⟨rr42, NN43, s_X11_in (d := d + 4)  hc44, ?_⟩
      refine ⟨fun c => ?_, fun c => ?_⟩
      · rw [if_pos c] at h
        refine wp_X11_skips_52 (d := d + 4)  _ _ _ _ _ (f_mn) ?_
        obtain ⟨rr45, NN46, hc47, h⟩ := f_bd h
        refine ⟨rr45, NN46, s_X11_bad (d := d + 4)  hc47, ?_⟩
        refine ⟨fun c => ?_, fun c => ?_⟩
        · rw [if_pos c] at h
          exact s_X11_skips_72  _ _ _ _ _ _ _ _ _ h
        · rw [if_neg c] at h
          cases h; rfl
      · rw [if_neg (not_not_intro c)] at h
        refine wp_X11_skips_47 (d := d + 4)  _ _ _ _ ?_
        refine wp_X11_skips_52 (d := d + 4)  _ _ _ _ _ (f_mn) ?_
        obtain ⟨rr48, NN49, hc50, h⟩ := f_bd h
        refine ⟨rr48, NN49, s_X11_bad (d := d + 4)  hc50, ?_⟩
        refine ⟨fun c => ?_, fun c => ?_⟩
        · rw [if_pos c] at h
          exact s_X11_skips_72  _ _ _ _ _ _ _ _ _ h
        · rw [if_neg c] at h
          cases h; rfl
def f_X11_skips (n : Nat) (p1 p2 p3 : Int) (M : e_M) : Option (Int × e_M) := (f_b (f_X11_isPerson p1 (e_up M 64 0 0)) fun rr51 NN52 => (if ¬ rr51 = 0 then (f_X11_skips_19 n p1 p2 p3 0 NN52) else (f_X11_skips_19 n p1 p2 p3 1 NN52)))
theorem s_X11_skips {X : e_X} {d gn : Nat} {n : Nat} {p1 p2 p3 : Int} {M M' : e_M} {v : Int} (h : f_X11_skips  n p1 p2 p3 M = some (v, M')) : e_E X (d + 5) YX11_skips [.inr (.inr 64), .inl p1, .inl p2, .inl p3] (557, gn, e_RF, M) (.inl (some (.inl v)), (557, gn, e_RF, M')) := by
  unfold f_X11_skips at h
  refine wp_X11_skips_0 (d := d + 4)  M p1 p2 p3 (f_mn) ?_
  obtain ⟨rr53, NN54, hc55, h⟩ := f_bd h
  refine ⟨rr53, NN54, s_X11_isPerson (d := d + 3)  hc55, ?_⟩
  refine ⟨fun c => ?_, fun c => ?_⟩
  · rw [if_pos c] at h
    exact s_X11_skips_19  h
  · rw [if_neg (not_not_intro c)] at h
    exact s_X11_skips_19  h
def f_X11_stepHere (n : Nat) (M : e_M) : Option (Int × e_M) := (f_b (f_X11_isWord n 2 21 25 0 0 0 M) fun rr1 NN2 => (if rr1 = 0 then (f_b (f_X11_isWord n 19 5 12 12 0 0 NN2) fun rr3 NN4 => (if rr3 = 0 then (f_b (f_X11_isWord n 12 1 20 5 18 0 NN4) fun rr5 NN6 => (if rr5 = 0 then (f_b (f_X11_isWord n 23 5 5 11 0 0 NN6) fun rr7 NN8 => (if rr7 = 0 then (f_b (f_X11_isWord n 1 7 1 9 14 0 NN8) fun rr9 NN10 => (if rr9 = 0 then (some ((-1), NN10)) else (some (4, NN10)))) else (some (3, NN8)))) else (some (2, NN6)))) else (some (1, NN4)))) else (some (0, NN2))))
theorem s_X11_stepHere {X : e_X} {d gn : Nat} {n : Nat} {M M' : e_M} {v : Int} (h : f_X11_stepHere  n  M = some (v, M')) : e_E X (d + 4) YX11_stepHere [.inr (.inr 64)] (557, gn, e_RF, M) (.inl (some (.inl v)), (557, gn, e_RF, M')) := by
  unfold f_X11_stepHere at h
  refine wp_X11_stepHere_0 (d := d + 3)  M  (f_mn) ?_
  obtain ⟨rr11, NN12, hc13, h⟩ := f_bd h
  refine ⟨rr11, NN12, s_X11_isWord (d := d)  hc13, ?_⟩
  refine ⟨fun c => ?_, fun c => ?_⟩
  · rw [if_pos c] at h
    obtain ⟨rr14, NN15, hc16, h⟩ := f_bd h
    refine ⟨rr14, NN15, s_X11_isWord (d := d)  hc16, ?_⟩
    refine ⟨fun c => ?_, fun c => ?_⟩
    · rw [if_pos c] at h
      obtain ⟨rr17, NN18, hc19, h⟩ := f_bd h
      refine ⟨rr17, NN18, s_X11_isWord (d := d)  hc19, ?_⟩
      refine ⟨fun c => ?_, fun c => ?_⟩
      · rw [if_pos c] at h
        obtain ⟨rr20, NN21, hc22, h⟩ := f_bd h
        refine ⟨rr20, NN21, s_X11_isWord (d := d)  hc22, ?_⟩
        refine ⟨fun c => ?_, fun c => ?_⟩
        · rw [if_pos c] at h
          obtain ⟨rr23, NN24, hc25, h⟩ := f_bd h
          refine ⟨rr23, NN24, s_X11_isWord (d := d)  hc25, ?_⟩
          refine ⟨fun c => ?_, fun c => ?_⟩
          · rw [if_pos c] at h
            cases h; rfl
          · rw [if_neg c] at h
            cases h; rfl
        · rw [if_neg c] at h
          cases h; rfl
      · rw [if_neg c] at h
        cases h; rfl
    · rw [if_neg c] at h
      cases h; rfl
  · rw [if_neg c] at h
    cases h; rfl
def f_X11_takes (n : Nat) (p1 p2 p3 p4 p5 p6 : Int) (M : e_M) : Option (Int × e_M) := (f_b (f_X11_isWord n p1 p2 p3 p4 p5 p6 M) fun rr1 NN2 => (if rr1 = 0 then (if (rr1 = 0 ∨ rr1 = 1) then (some (rr1, NN2)) else none) else (f_b (f_X11_skipWord n NN2) fun _ NN4 => (if (rr1 = 0 ∨ rr1 = 1) then (some (rr1, NN4)) else none))))
theorem s_X11_takes {X : e_X} {d gn : Nat} {n : Nat} {p1 p2 p3 p4 p5 p6 : Int} {M M' : e_M} {v : Int} (h : f_X11_takes  n p1 p2 p3 p4 p5 p6 M = some (v, M')) : e_E X (d + 4) YX11_takes [.inr (.inr 64), .inl p1, .inl p2, .inl p3, .inl p4, .inl p5, .inl p6] (557, gn, e_RF, M) (.inl (some (.inl v)), (557, gn, e_RF, M')) := by
  unfold f_X11_takes at h
  refine wp_X11_takes_0 (d := d + 3)  M p1 p2 p3 p4 p5 p6 (f_mn) ?_
  obtain ⟨rr5, NN6, hc7, h⟩ := f_bd h
  refine ⟨rr5, NN6, s_X11_isWord (d := d)  hc7, ?_⟩
  refine ⟨fun c => ?_, fun c => ?_⟩
  · rw [if_pos c] at h
    obtain ⟨c8, h⟩ := f_gd h
    exact ⟨c8, by cases h; rfl⟩
  · rw [if_neg c] at h
    obtain ⟨rr9, NN10, hc11, h⟩ := f_bd h
    refine ⟨NN10, s_X11_skipWord (d := d + 2)  hc11, ?_⟩
    obtain ⟨c12, h⟩ := f_gd h
    exact ⟨c12, by cases h; rfl⟩
def f_X3_buyOff_now (n : Nat) (p1 : Int) (M : e_M) : Option (Int × e_M) := (f_b (f_X3_hasBought_now p1 M) fun rr1 NN2 => (if rr1 = 0 then (f_b (f_X3_priceFor_now n p1 NN2) fun rr3 NN4 => (if (0 ≤ p1 ∧ p1 < 6) then (if rr3 ≤ (NN4 37 p1.toNat) then (if (0 ≤ p1 ∧ p1 < 6) then (if (0 ≤ p1 ∧ p1 < 6) then (if (0 ≤ p1 ∧ p1 < 6) then (some (1, (e_up (e_up NN4 37 p1.toNat (e_w ((NN4 37 p1.toNat) - rr3))) 40 p1.toNat rr3))) else none) else none) else none) else (some (0, NN4))) else none)) else (some (0, NN2))))
theorem s_X3_buyOff_now {X : e_X} {d gn : Nat} {n : Nat} {p1 : Int} {M M' : e_M} {v : Int} (h : f_X3_buyOff_now  n p1 M = some (v, M')) : e_E X (d + 3) YX3_buyOff [.inr (.inr 36), .inl p1] (557, gn, e_RF, M) (.inl (some (.inl v)), (557, gn, e_RF, M')) := by
  unfold f_X3_buyOff_now at h
  refine wp_X3_buyOff_now_0 (d := d + 2)  M p1 (f_mn) ?_
  obtain ⟨rr5, NN6, hc7, h⟩ := f_bd h
  refine ⟨rr5, NN6, s_X3_hasBought_now (d := d + 2)  hc7, ?_⟩
  refine ⟨fun c => ?_, fun c => ?_⟩
  · rw [if_pos c] at h
    obtain ⟨rr8, NN9, hc10, h⟩ := f_bd h
    refine ⟨rr8, NN9, s_X3_priceFor_now (d := d)  hc10, ?_⟩
    obtain ⟨c11, h⟩ := f_gd h
    refine ⟨c11, ?_⟩
    refine ⟨fun c => ?_, fun c => ?_⟩
    · rw [if_pos c] at h
      obtain ⟨c12, h⟩ := f_gd h
      refine ⟨c12, ?_⟩
      obtain ⟨c13, h⟩ := f_gd h
      refine ⟨c13, ?_⟩
      obtain ⟨c14, h⟩ := f_gd h
      exact ⟨c14, by cases h; rfl⟩
    · rw [if_neg c] at h
      cases h; rfl
  · rw [if_neg c] at h
    cases h; rfl
def f_X3_buyOff_trial (n : Nat) (p1 : Int) (M : e_M) : Option (Int × e_M) := (f_b (f_X3_hasBought_trial p1 M) fun rr1 NN2 => (if rr1 = 0 then (f_b (f_X3_priceFor_trial n p1 NN2) fun rr3 NN4 => (if (0 ≤ p1 ∧ p1 < 6) then (if rr3 ≤ (NN4 44 p1.toNat) then (if (0 ≤ p1 ∧ p1 < 6) then (if (0 ≤ p1 ∧ p1 < 6) then (if (0 ≤ p1 ∧ p1 < 6) then (some (1, (e_up (e_up NN4 44 p1.toNat (e_w ((NN4 44 p1.toNat) - rr3))) 47 p1.toNat rr3))) else none) else none) else none) else (some (0, NN4))) else none)) else (some (0, NN2))))
theorem s_X3_buyOff_trial {X : e_X} {d gn : Nat} {n : Nat} {p1 : Int} {M M' : e_M} {v : Int} (h : f_X3_buyOff_trial  n p1 M = some (v, M')) : e_E X (d + 3) YX3_buyOff [.inr (.inr 43), .inl p1] (557, gn, e_RF, M) (.inl (some (.inl v)), (557, gn, e_RF, M')) := by
  unfold f_X3_buyOff_trial at h
  refine wp_X3_buyOff_trial_0 (d := d + 2)  M p1 (f_mn) ?_
  obtain ⟨rr5, NN6, hc7, h⟩ := f_bd h
  refine ⟨rr5, NN6, s_X3_hasBought_trial (d := d + 2)  hc7, ?_⟩
  refine ⟨fun c => ?_, fun c => ?_⟩
  · rw [if_pos c] at h
    obtain ⟨rr8, NN9, hc10, h⟩ := f_bd h
    refine ⟨rr8, NN9, s_X3_priceFor_trial (d := d)  hc10, ?_⟩
    obtain ⟨c11, h⟩ := f_gd h
    refine ⟨c11, ?_⟩
    refine ⟨fun c => ?_, fun c => ?_⟩
    · rw [if_pos c] at h
      obtain ⟨c12, h⟩ := f_gd h
      refine ⟨c12, ?_⟩
      obtain ⟨c13, h⟩ := f_gd h
      refine ⟨c13, ?_⟩
      obtain ⟨c14, h⟩ := f_gd h
      exact ⟨c14, by cases h; rfl⟩
    · rw [if_neg c] at h
      cases h; rfl
  · rw [if_neg c] at h
    cases h; rfl
def f_X3_canBuy_now (n : Nat) (p1 : Int) (M : e_M) : Option (Int × e_M) := (f_b (f_X3_hasBought_now p1 M) fun rr1 NN2 => (if ¬ rr1 = 0 then (some (0, NN2)) else (if (0 ≤ p1 ∧ p1 < 6) then (f_b (f_X3_priceFor_now n p1 NN2) fun rr3 NN4 => (if (NN2 37 p1.toNat) < rr3 then (some (0, NN4)) else (some (1, NN4)))) else none)))
theorem s_X3_canBuy_now {X : e_X} {d gn : Nat} {n : Nat} {p1 : Int} {M M' : e_M} {v : Int} (h : f_X3_canBuy_now  n p1 M = some (v, M')) : e_E X (d + 3) YX3_canBuy [.inr (.inr 36), .inl p1] (557, gn, e_RF, M) (.inl (some (.inl v)), (557, gn, e_RF, M')) := by
  unfold f_X3_canBuy_now at h
  refine wp_X3_canBuy_now_0 (d := d + 2)  M p1 (f_mn) ?_
  obtain ⟨rr5, NN6, hc7, h⟩ := f_bd h
  refine ⟨rr5, NN6, s_X3_hasBought_now (d := d + 2)  hc7, ?_⟩
  refine ⟨fun c => ?_, fun c => ?_⟩
  · rw [if_pos c] at h
    cases h; rfl
  · rw [if_neg (not_not_intro c)] at h
    obtain ⟨c8, h⟩ := f_gd h
    refine ⟨c8, ?_⟩
    obtain ⟨rr9, NN10, hc11, h⟩ := f_bd h
    refine ⟨rr9, NN10, s_X3_priceFor_now (d := d)  hc11, ?_⟩
    refine ⟨fun c => ?_, fun c => ?_⟩
    · rw [if_pos c] at h
      cases h; rfl
    · rw [if_neg c] at h
      cases h; rfl
def f_X3_canBuy_trial (n : Nat) (p1 : Int) (M : e_M) : Option (Int × e_M) := (f_b (f_X3_hasBought_trial p1 M) fun rr1 NN2 => (if ¬ rr1 = 0 then (some (0, NN2)) else (if (0 ≤ p1 ∧ p1 < 6) then (f_b (f_X3_priceFor_trial n p1 NN2) fun rr3 NN4 => (if (NN2 44 p1.toNat) < rr3 then (some (0, NN4)) else (some (1, NN4)))) else none)))
theorem s_X3_canBuy_trial {X : e_X} {d gn : Nat} {n : Nat} {p1 : Int} {M M' : e_M} {v : Int} (h : f_X3_canBuy_trial  n p1 M = some (v, M')) : e_E X (d + 3) YX3_canBuy [.inr (.inr 43), .inl p1] (557, gn, e_RF, M) (.inl (some (.inl v)), (557, gn, e_RF, M')) := by
  unfold f_X3_canBuy_trial at h
  refine wp_X3_canBuy_trial_0 (d := d + 2)  M p1 (f_mn) ?_
  obtain ⟨rr5, NN6, hc7, h⟩ := f_bd h
  refine ⟨rr5, NN6, s_X3_hasBought_trial (d := d + 2)  hc7, ?_⟩
  refine ⟨fun c => ?_, fun c => ?_⟩
  · rw [if_pos c] at h
    cases h; rfl
  · rw [if_neg (not_not_intro c)] at h
    obtain ⟨c8, h⟩ := f_gd h
    refine ⟨c8, ?_⟩
    obtain ⟨rr9, NN10, hc11, h⟩ := f_bd h
    refine ⟨rr9, NN10, s_X3_priceFor_trial (d := d)  hc11, ?_⟩
    refine ⟨fun c => ?_, fun c => ?_⟩
    · rw [if_pos c] at h
      cases h; rfl
    · rw [if_neg c] at h
      cases h; rfl
def f_X3_passWeekByWork_now (n : Nat) (M : e_M) : Option (Int × e_M) := (if (M 36 2) < 300 then (f_b (f_X3_passWeek_now n M) fun _ NN2 => (some (1, NN2))) else (some (0, M)))
theorem s_X3_passWeekByWork_now {X : e_X} {d gn : Nat} {n : Nat} {M M' : e_M} {v : Int} (h : f_X3_passWeekByWork_now  n  M = some (v, M')) : e_E X (d + 3) YX3_passWeekByWork [.inr (.inr 36)] (557, gn, e_RF, M) (.inl (some (.inl v)), (557, gn, e_RF, M')) := by
  unfold f_X3_passWeekByWork_now at h
  refine wp_X3_passWeekByWork_now_0 (d := d + 2)  M  (f_mn) ?_
  refine ⟨fun c => ?_, fun c => ?_⟩
  · rw [if_pos c] at h
    obtain ⟨rr3, NN4, hc5, h⟩ := f_bd h
    refine ⟨NN4, s_X3_passWeek_now (d := d)  hc5, ?_⟩
    cases h; rfl
  · rw [if_neg c] at h
    cases h; rfl
def f_X3_passWeekByWork_trial (n : Nat) (M : e_M) : Option (Int × e_M) := (if (M 43 2) < 300 then (f_b (f_X3_passWeek_trial n M) fun _ NN2 => (some (1, NN2))) else (some (0, M)))
theorem s_X3_passWeekByWork_trial {X : e_X} {d gn : Nat} {n : Nat} {M M' : e_M} {v : Int} (h : f_X3_passWeekByWork_trial  n  M = some (v, M')) : e_E X (d + 3) YX3_passWeekByWork [.inr (.inr 43)] (557, gn, e_RF, M) (.inl (some (.inl v)), (557, gn, e_RF, M')) := by
  unfold f_X3_passWeekByWork_trial at h
  refine wp_X3_passWeekByWork_trial_0 (d := d + 2)  M  (f_mn) ?_
  refine ⟨fun c => ?_, fun c => ?_⟩
  · rw [if_pos c] at h
    obtain ⟨rr3, NN4, hc5, h⟩ := f_bd h
    refine ⟨NN4, s_X3_passWeek_trial (d := d)  hc5, ?_⟩
    cases h; rfl
  · rw [if_neg c] at h
    cases h; rfl
def f_X4_stepSucceeds (n : Nat) (p1 p2 : Int) (M : e_M) : Option (Int × e_M) := (if p1 = 0 then (f_b (f_X3_buyOff_now n p2 M) fun rr7 NN8 => (if (rr7 = 0 ∨ rr7 = 1) then (some (rr7, NN8)) else none)) else (if p1 = 1 then (f_b (f_X3_sellBack_now p2 M) fun rr5 NN6 => (if (rr5 = 0 ∨ rr5 = 1) then (some (rr5, NN6)) else none)) else (if p1 = 2 then (f_b (f_X3_putOff_now p2 M) fun rr3 NN4 => (if (rr3 = 0 ∨ rr3 = 1) then (some (rr3, NN4)) else none)) else (if p1 = 3 then (f_b (f_X3_passWeekByWork_now n M) fun rr1 NN2 => (if (rr1 = 0 ∨ rr1 = 1) then (some (rr1, NN2)) else none)) else (some (0, M))))))
theorem s_X4_stepSucceeds {X : e_X} {d gn : Nat} {n : Nat} {p1 p2 : Int} {M M' : e_M} {v : Int} (h : f_X4_stepSucceeds  n p1 p2 M = some (v, M')) : e_E X (d + 4) YX4_stepSucceeds [.inr (.inr 36), .inl p1, .inl p2] (557, gn, e_RF, M) (.inl (some (.inl v)), (557, gn, e_RF, M')) := by
  unfold f_X4_stepSucceeds at h
  refine wp_X4_stepSucceeds_0 (d := d + 3)  M p1 p2 (f_mn) ?_
  refine ⟨fun c => ?_, fun c => ?_, fun c => ?_, fun c => ?_, fun c => ?_⟩
  · rw [if_pos c] at h
    obtain ⟨rr9, NN10, hc11, h⟩ := f_bd h
    refine ⟨rr9, NN10, s_X3_buyOff_now (d := d)  hc11, ?_⟩
    obtain ⟨c12, h⟩ := f_gd h
    exact ⟨c12, by cases h; rfl⟩
  · rw [if_neg (by omega), if_pos c] at h
    obtain ⟨rr13, NN14, hc15, h⟩ := f_bd h
    refine ⟨rr13, NN14, s_X3_sellBack_now (d := d + 2)  hc15, ?_⟩
    obtain ⟨c16, h⟩ := f_gd h
    exact ⟨c16, by cases h; rfl⟩
  · rw [if_neg (by omega), if_neg (by omega), if_pos c] at h
    obtain ⟨rr17, NN18, hc19, h⟩ := f_bd h
    refine ⟨rr17, NN18, s_X3_putOff_now (d := d + 1)  hc19, ?_⟩
    obtain ⟨c20, h⟩ := f_gd h
    exact ⟨c20, by cases h; rfl⟩
  · rw [if_neg (by omega), if_neg (by omega), if_neg (by omega), if_pos c] at h
    obtain ⟨rr21, NN22, hc23, h⟩ := f_bd h
    refine ⟨rr21, NN22, s_X3_passWeekByWork_now (d := d)  hc23, ?_⟩
    obtain ⟨c24, h⟩ := f_gd h
    exact ⟨c24, by cases h; rfl⟩
  · rw [if_neg (by omega), if_neg (by omega), if_neg (by omega), if_neg (by omega)] at h
    cases h; rfl
def f_X6_searchFor (n : Nat) (p2 p3 : Int) (M : e_M) : Option (Int × e_M) := (if (0 ≤ p2 ∧ p2 < 6) then (f_b (f_X3_busyBits_now n p2 ((e_up (e_up (e_up (e_up M 53 2 p2) 53 3 (min p3 10)) 53 4 ((e_up (e_up M 53 2 p2) 53 3 (min p3 10)) 36 2)) 53 5 ((e_up (e_up (e_up M 53 2 p2) 53 3 (min p3 10)) 53 4 ((e_up (e_up M 53 2 p2) 53 3 (min p3 10)) 36 2)) 39 p2.toNat)) 53 3) (e_up (e_up (e_up (e_up M 53 2 p2) 53 3 (min p3 10)) 53 4 ((e_up (e_up M 53 2 p2) 53 3 (min p3 10)) 36 2)) 53 5 ((e_up (e_up (e_up M 53 2 p2) 53 3 (min p3 10)) 53 4 ((e_up (e_up M 53 2 p2) 53 3 (min p3 10)) 36 2)) 39 p2.toNat))) fun rr1 NN2 => (f_b (f_X10_bitsBelow ((e_up (e_up (e_up NN2 53 6 rr1) 53 7 0) 53 8 0) 4 0) (e_up (e_up (e_up NN2 53 6 rr1) 53 7 0) 53 8 0)) fun rr3 NN4 => (if (0 ≤ p2 ∧ p2 < 6) then (if (0 ≤ p2 ∧ p2 < 6) then (f_b (f_X8_skillsOf_town n (e_and rr3 (e_xor (e_shl 1 p2) (-1))) (e_up (e_up NN4 23 1 0) 23 4 ((e_up NN4 23 1 0) 6 p2.toNat))) fun rr5 NN6 => (f_b (f_J6_bitCount_0f7a4 (e_and ((e_up (e_up NN4 23 1 0) 23 4 ((e_up NN4 23 1 0) 6 p2.toNat)) 7 p2.toNat) (e_xor rr5 (-1))) NN6) fun rr7 NN8 => (if (0 ≤ p2 ∧ p2 < 6) then (f_b (f_k_X6_searchFrom n 0 0 ((e_up (e_up (e_up NN8 23 5 rr7) 23 6 0) 23 7 p2) 37 p2.toNat) (e_up (e_up (e_up NN8 23 5 rr7) 23 6 0) 23 7 p2)) fun _ NN10 => (some (0, NN10))) else none))) else none) else none))) else none)
theorem s_X6_searchFor {X : e_X} {d gn : Nat} {n : Nat} {p2 p3 : Int} {M M' : e_M} {v : Int} (h : f_X6_searchFor  n p2 p3 M = some (v, M')) : e_E X (d + 14) YX6_searchFor [.inr (.inr 53), .inr (.inr 36), .inl p2, .inl p3] (557, gn, e_RF, M) (.inl none, (557, gn, e_RF, M')) := by
  unfold f_X6_searchFor at h
  refine wp_X6_searchFor_0 (d := d + 13)  M p2 p3 (f_mn) ?_
  obtain ⟨c11, h⟩ := f_gd h
  refine ⟨c11, ?_⟩
  obtain ⟨rr12, NN13, hc14, h⟩ := f_bd h
  refine ⟨rr12, NN13, s_X3_busyBits_now (d := d + 12)  hc14, ?_⟩
  obtain ⟨rr15, NN16, hc17, h⟩ := f_bd h
  refine ⟨rr15, NN16, s_X10_bitsBelow (d := d + 13)  hc17, ?_⟩
  obtain ⟨c18, h⟩ := f_gd h
  refine ⟨c18, ?_⟩
  obtain ⟨c19, h⟩ := f_gd h
  refine ⟨c19, ?_⟩
  obtain ⟨rr20, NN21, hc22, h⟩ := f_bd h
  refine ⟨rr20, NN21, s_X8_skillsOf_town (d := d + 13)  hc22, ?_⟩
  obtain ⟨rr23, NN24, hc25, h⟩ := f_bd h
  refine ⟨rr23, NN24, s_J6_bitCount_0f7a4 (d := d + 13)  hc25, ?_⟩
  obtain ⟨c26, h⟩ := f_gd h
  refine ⟨c26, ?_⟩
  obtain ⟨rr27, NN28, hc29, h⟩ := f_bd h
  refine ⟨NN28, s_k_X6_searchFrom (d := d)  hc29, ?_⟩
  cases h; rfl
def f_X8_readClause (n : Nat) (p2 : Int) (M : e_M) : Option (Int × e_M) := (if p2 = 0 then (f_b (f_X8_readPerson n M) fun _ NN8 => (some (0, NN8))) else (if p2 = 1 then (f_b (f_X8_readDuty n M) fun _ NN6 => (some (0, NN6))) else (if p2 = 2 then (f_b (f_X8_readSkill n M) fun _ NN4 => (some (0, NN4))) else (if p2 = 3 then (f_b (f_X8_readTask n M) fun _ NN2 => (some (0, NN2))) else (some (0, M))))))
theorem s_X8_readClause {X : e_X} {d gn : Nat} {n : Nat} {p2 : Int} {M M' : e_M} {v : Int} (h : f_X8_readClause  n p2 M = some (v, M')) : e_E X (d + 4) YX8_readClause [.inr (.inr 12), .inr (.inr 2), .inl p2] (557, gn, e_RF, M) (.inl none, (557, gn, e_RF, M')) := by
  unfold f_X8_readClause at h
  refine wp_X8_readClause_0 (d := d + 3)  M p2 (f_mn) ?_
  refine ⟨fun c => ?_, fun c => ?_, fun c => ?_, fun c => ?_, fun c => ?_⟩
  · rw [if_pos c] at h
    obtain ⟨rr9, NN10, hc11, h⟩ := f_bd h
    refine ⟨NN10, s_X8_readPerson (d := d)  hc11, ?_⟩
    cases h; rfl
  · rw [if_neg (by omega), if_pos c] at h
    obtain ⟨rr12, NN13, hc14, h⟩ := f_bd h
    refine ⟨NN13, s_X8_readDuty (d := d)  hc14, ?_⟩
    cases h; rfl
  · rw [if_neg (by omega), if_neg (by omega), if_pos c] at h
    obtain ⟨rr15, NN16, hc17, h⟩ := f_bd h
    refine ⟨NN16, s_X8_readSkill (d := d)  hc17, ?_⟩
    cases h; rfl
  · rw [if_neg (by omega), if_neg (by omega), if_neg (by omega), if_pos c] at h
    obtain ⟨rr18, NN19, hc20, h⟩ := f_bd h
    refine ⟨NN19, s_X8_readTask (d := d)  hc20, ?_⟩
    cases h; rfl
  · rw [if_neg (by omega), if_neg (by omega), if_neg (by omega), if_neg (by omega)] at h
    cases h; rfl
def f_X9_tradeAmong_39 (n : Nat) (p1 p2 p3 v4 : Int) (M : e_M) : Option (Int × e_M) := (f_b (f_X9_drawBelow p1 M) fun rr1 NN2 => (f_b (f_X9_drawBelow 16 NN2) fun rr3 NN4 => (if p3 ≤ rr3 then (some (0, NN4)) else (f_b (f_X3_sellBack_trial rr1 NN4) fun rr5 NN6 => (some (0, NN6))))))
theorem s_X9_tradeAmong_39 {X : e_X} {d gn : Nat} {n : Nat} {p1 p2 p3 v4 : Int} {M M' : e_M} {v : Int} (h : f_X9_tradeAmong_39  n p1 p2 p3 v4 M = some (v, M')) : e_G X (d + 4) YX9_tradeAmong 39 [some (.inr (.inr 54)), some (.inl p1), some (.inl p2), some (.inl p3), some (.inl v4), none] [] (557, gn, e_RF, M) (.inl none, (557, gn, e_RF, M')) := by
  unfold f_X9_tradeAmong_39 at h
  refine wp_X9_tradeAmong_39 (d := d + 3)  M p1 p2 p3 v4 (f_mn) ?_
  obtain ⟨rr7, NN8, hc9, h⟩ := f_bd h
  refine ⟨rr7, NN8, s_X9_drawBelow (d := d + 3)  hc9, ?_⟩
  obtain ⟨rr10, NN11, hc12, h⟩ := f_bd h
  refine ⟨rr10, NN11, s_X9_drawBelow (d := d + 3)  hc12, ?_⟩
  refine ⟨fun c => ?_, fun c => ?_⟩
  · rw [if_pos c] at h
    cases h; rfl
  · rw [if_neg c] at h
    obtain ⟨rr13, NN14, hc15, h⟩ := f_bd h
    refine ⟨rr13, NN14, s_X3_sellBack_trial (d := d + 2)  hc15, ?_⟩
    cases h; rfl
def f_X9_tradeAmong (n : Nat) (p1 p2 p3 : Int) (M : e_M) : Option (Int × e_M) := (f_b (f_X9_drawBelow p1 M) fun rr16 NN17 => (f_b (f_X9_drawBelow 16 NN17) fun rr18 NN19 => (if p2 ≤ rr18 then (f_X9_tradeAmong_39 n p1 p2 p3 rr16 NN19) else (f_b (f_X3_buyOff_trial n rr16 NN19) fun rr20 NN21 => (if rr20 = 0 then (f_X9_tradeAmong_39 n p1 p2 p3 rr16 NN21) else (f_X9_tradeAmong_39 n p1 p2 p3 rr16 (e_up NN21 54 2 (e_w ((NN21 54 2) + 1)))))))))
theorem s_X9_tradeAmong {X : e_X} {d gn : Nat} {n : Nat} {p1 p2 p3 : Int} {M M' : e_M} {v : Int} (h : f_X9_tradeAmong  n p1 p2 p3 M = some (v, M')) : e_E X (d + 4) YX9_tradeAmong [.inr (.inr 54), .inl p1, .inl p2, .inl p3] (557, gn, e_RF, M) (.inl none, (557, gn, e_RF, M')) := by
  unfold f_X9_tradeAmong at h
  refine wp_X9_tradeAmong_0 (d := d + 3)  M p1 p2 p3 (f_mn) ?_
  obtain ⟨rr22, NN23, hc24, h⟩ := f_bd h
  refine ⟨rr22, NN23, s_X9_drawBelow (d := d + 3)  hc24, ?_⟩
  obtain ⟨rr25, NN26, hc27, h⟩ := f_bd h
  refine ⟨rr25, NN26, s_X9_drawBelow (d := d + 3)  hc27, ?_⟩
  refine ⟨fun c => ?_, fun c => ?_⟩
  · rw [if_pos c] at h
    exact s_X9_tradeAmong_39  h
  · rw [if_neg c] at h
    obtain ⟨rr28, NN29, hc30, h⟩ := f_bd h
    refine ⟨rr28, NN29, s_X3_buyOff_trial (d := d)  hc30, ?_⟩
    refine ⟨fun c => ?_, fun c => ?_⟩
    · rw [if_pos c] at h
      exact s_X9_tradeAmong_39  h
    · rw [if_neg c] at h
      exact s_X9_tradeAmong_39  h
def f_X4_runSteps_L14 (rc_X4_runSteps : Int → Int → Int → e_M → Option (Int × e_M)) : Nat → Nat → Int → Int → Int → Int → Int → Int → e_M → Option (Int × e_M)
  | 0, _, _, _, _, _, _, _, _ => none
  | n + 1, k, p2, p3, p4, v5, v6, v7, M => (if k = 0 then (if 30 ≤ v6 then (some (0, M)) else (if p3 ≤ v5 then (some (0, M)) else (if 200 ≤ (M 32 4) then (some (0, M)) else (if (0 ≤ v5 ∧ v5 < 30) then (if ¬ ((e_up M 32 4 (e_w ((M 32 4) + 1))) 33 v5.toNat) = 4 then (if (0 ≤ v5 ∧ v5 < 30) then (if (0 ≤ v5 ∧ v5 < 30) then (f_b (f_X4_stepSucceeds n ((e_up M 32 4 (e_w ((M 32 4) + 1))) 33 v5.toNat) ((e_up M 32 4 (e_w ((M 32 4) + 1))) 34 v5.toNat) (e_up M 32 4 (e_w ((M 32 4) + 1)))) fun rr1 NN2 => (if rr1 = 0 then (if (0 ≤ v5 ∧ v5 < 30) then (f_X4_runSteps_L14 rc_X4_runSteps n 0 p2 p3 p4 ((e_up NN2 32 6 (e_w ((NN2 32 6) + 1))) 35 v5.toNat) (e_w (v6 + 1)) 0 (e_up NN2 32 6 (e_w ((NN2 32 6) + 1)))) else none) else (if (0 ≤ v5 ∧ v5 < 30) then (f_X4_runSteps_L14 rc_X4_runSteps n 0 p2 p3 p4 ((e_up NN2 32 5 (e_w ((NN2 32 5) + 1))) 35 v5.toNat) (e_w (v6 + 1)) 0 (e_up NN2 32 5 (e_w ((NN2 32 5) + 1)))) else none))) else none) else none) else (f_X4_runSteps_L14 rc_X4_runSteps n 1 p2 p3 p4 v5 v6 0 (e_up M 32 4 (e_w ((M 32 4) + 1))))) else none)))) else (if (0 ≤ v5 ∧ v5 < 30) then (if (M 34 v5.toNat) ≤ v7 then (if (0 ≤ v5 ∧ v5 < 30) then (f_X4_runSteps_L14 rc_X4_runSteps n 0 p2 p3 p4 (M 35 v5.toNat) (e_w (v6 + 1)) 0 M) else none) else (if 200 ≤ (M 32 4) then (if (0 ≤ v5 ∧ v5 < 30) then (f_X4_runSteps_L14 rc_X4_runSteps n 0 p2 p3 p4 (M 35 v5.toNat) (e_w (v6 + 1)) 0 M) else none) else (if (0 ≤ v5 ∧ v5 < 30) then (f_b (rc_X4_runSteps (e_w (v5 + 1)) (M 35 v5.toNat) (e_w (p4 + 1)) M) fun _ NN4 => (f_X4_runSteps_L14 rc_X4_runSteps n 1 p2 p3 p4 v5 v6 (e_w (v7 + 1)) NN4)) else none))) else none))
theorem s_X4_runSteps_L14 {X : e_X} {d gn : Nat} {rc_X4_runSteps : Int → Int → Int → e_M → Option (Int × e_M)} (hc_X4_runSteps : ∀ (p2 p3 p4 : Int) (M M' : e_M) (v : Int), rc_X4_runSteps p2 p3 p4 M = some (v, M') → e_E X (d + 4) YX4_runSteps [.inr (.inr 32), .inr (.inr 36), .inl p2, .inl p3, .inl p4] (557, gn, e_RF, M) (.inl none, (557, gn, e_RF, M'))) : ∀ n : Nat, (∀ (p2 p3 p4 v5 v6 : Int) (M M' : e_M) (v : Int), f_X4_runSteps_L14 rc_X4_runSteps  n 0 p2 p3 p4 v5 v6 0 M = some (v, M') → e_G X (d + 5) YX4_runSteps 14 [some (.inr (.inr 32)), some (.inr (.inr 36)), some (.inl p2), some (.inl p3), some (.inl p4), some (.inl v5), some (.inl v6), none] [] (557, gn, e_RF, M) (.inl none, (557, gn, e_RF, M'))) ∧ (∀ (p2 p3 p4 v5 v6 v7 : Int) (M M' : e_M) (v : Int), f_X4_runSteps_L14 rc_X4_runSteps  n 1 p2 p3 p4 v5 v6 v7 M = some (v, M') → e_G X (d + 5) YX4_runSteps 61 [some (.inr (.inr 32)), some (.inr (.inr 36)), some (.inl p2), some (.inl p3), some (.inl p4), some (.inl v5), some (.inl v6), some (.inl v7)] [] (557, gn, e_RF, M) (.inl none, (557, gn, e_RF, M'))) := by
  intro n
  induction n with
  | zero => exact ⟨(by intro p2 p3 p4 v5 v6 M M' v h; cases h), (by intro p2 p3 p4 v5 v6 v7 M M' v h; cases h)⟩
  | succ n ih =>
    refine ⟨?_, ?_⟩
    · intro p2 p3 p4 v5 v6 M M' v h
      rw [f_X4_runSteps_L14, if_pos rfl] at h
      refine wp_X4_runSteps_14 (d := d + 4)  M p2 p3 p4 v5 v6 (f_mn) ?_
      refine ⟨fun c => ?_, fun c => ?_⟩
      · rw [if_pos c] at h
        cases h; rfl
      · rw [if_neg c] at h
        refine ⟨fun c => ?_, fun c => ?_⟩
        · rw [if_pos c] at h
          cases h; rfl
        · rw [if_neg c] at h
          refine ⟨fun c => ?_, fun c => ?_⟩
          · rw [if_pos c] at h
            cases h; rfl
          · rw [if_neg c] at h
            obtain ⟨c5, h⟩ := f_gd h
            refine ⟨c5, ?_⟩
            refine ⟨fun c => ?_, fun c => ?_⟩
            · rw [if_pos c] at h
              obtain ⟨c6, h⟩ := f_gd h
              refine ⟨c6, ?_⟩
              obtain ⟨c7, h⟩ := f_gd h
              refine ⟨c7, ?_⟩
              obtain ⟨rr8, NN9, hc10, h⟩ := f_bd h
              refine ⟨rr8, NN9, s_X4_stepSucceeds (d := d)  hc10, ?_⟩
              refine ⟨fun c => ?_, fun c => ?_⟩
              · rw [if_pos c] at h
                refine wp_X4_runSteps_156 (d := d + 4)  _ _ _ _ _ _ ?_
                obtain ⟨c11, h⟩ := f_gd h
                refine ⟨c11, ?_⟩
                exact ih.1 _ _ _ _ _ _ _ _ h
              · rw [if_neg c] at h
                refine wp_X4_runSteps_156 (d := d + 4)  _ _ _ _ _ _ ?_
                obtain ⟨c12, h⟩ := f_gd h
                refine ⟨c12, ?_⟩
                exact ih.1 _ _ _ _ _ _ _ _ h
            · rw [if_neg (not_not_intro c)] at h
              exact ih.2 _ _ _ _ _ _ _ _ _ h
    · intro p2 p3 p4 v5 v6 v7 M M' v h
      rw [f_X4_runSteps_L14, if_neg (by decide)] at h
      refine wp_X4_runSteps_61 (d := d + 4)  M p2 p3 p4 v5 v6 v7 (f_mn) ?_
      obtain ⟨c13, h⟩ := f_gd h
      refine ⟨c13, ?_⟩
      refine ⟨fun c => ?_, fun c => ?_⟩
      · rw [if_pos c] at h
        refine wp_X4_runSteps_109 (d := d + 4)  _ _ _ _ _ _ _ ?_
        refine wp_X4_runSteps_156 (d := d + 4)  _ _ _ _ _ _ ?_
        obtain ⟨c14, h⟩ := f_gd h
        refine ⟨c14, ?_⟩
        exact ih.1 _ _ _ _ _ _ _ _ h
      · rw [if_neg c] at h
        refine ⟨fun c => ?_, fun c => ?_⟩
        · rw [if_pos c] at h
          refine wp_X4_runSteps_109 (d := d + 4)  _ _ _ _ _ _ _ ?_
          refine wp_X4_runSteps_156 (d := d + 4)  _ _ _ _ _ _ ?_
          obtain ⟨c15, h⟩ := f_gd h
          refine ⟨c15, ?_⟩
          exact ih.1 _ _ _ _ _ _ _ _ h
        · rw [if_neg c] at h
          obtain ⟨c16, h⟩ := f_gd h
          refine ⟨c16, ?_⟩
          obtain ⟨rr17, NN18, hc19, h⟩ := f_bd h
          refine ⟨NN18, hc_X4_runSteps _ _ _ _ _ _ hc19, ?_⟩
          exact ih.2 _ _ _ _ _ _ _ _ _ h
theorem s_X4_runSteps_14 {X : e_X} {d gn : Nat} {rc_X4_runSteps : Int → Int → Int → e_M → Option (Int × e_M)} (hc_X4_runSteps : ∀ (p2 p3 p4 : Int) (M M' : e_M) (v : Int), rc_X4_runSteps p2 p3 p4 M = some (v, M') → e_E X (d + 4) YX4_runSteps [.inr (.inr 32), .inr (.inr 36), .inl p2, .inl p3, .inl p4] (557, gn, e_RF, M) (.inl none, (557, gn, e_RF, M'))) (n : Nat) : (∀ (p2 p3 p4 v5 v6 : Int) (M M' : e_M) (v : Int), f_X4_runSteps_L14 rc_X4_runSteps  n 0 p2 p3 p4 v5 v6 0 M = some (v, M') → e_G X (d + 5) YX4_runSteps 14 [some (.inr (.inr 32)), some (.inr (.inr 36)), some (.inl p2), some (.inl p3), some (.inl p4), some (.inl v5), some (.inl v6), none] [] (557, gn, e_RF, M) (.inl none, (557, gn, e_RF, M'))) := (s_X4_runSteps_L14 hc_X4_runSteps  n).1
theorem s_X4_runSteps_61 {X : e_X} {d gn : Nat} {rc_X4_runSteps : Int → Int → Int → e_M → Option (Int × e_M)} (hc_X4_runSteps : ∀ (p2 p3 p4 : Int) (M M' : e_M) (v : Int), rc_X4_runSteps p2 p3 p4 M = some (v, M') → e_E X (d + 4) YX4_runSteps [.inr (.inr 32), .inr (.inr 36), .inl p2, .inl p3, .inl p4] (557, gn, e_RF, M) (.inl none, (557, gn, e_RF, M'))) (n : Nat) : (∀ (p2 p3 p4 v5 v6 v7 : Int) (M M' : e_M) (v : Int), f_X4_runSteps_L14 rc_X4_runSteps  n 1 p2 p3 p4 v5 v6 v7 M = some (v, M') → e_G X (d + 5) YX4_runSteps 61 [some (.inr (.inr 32)), some (.inr (.inr 36)), some (.inl p2), some (.inl p3), some (.inl p4), some (.inl v5), some (.inl v6), some (.inl v7)] [] (557, gn, e_RF, M) (.inl none, (557, gn, e_RF, M'))) := (s_X4_runSteps_L14 hc_X4_runSteps  n).2
def f_X4_runSteps (rc_X4_runSteps : Int → Int → Int → e_M → Option (Int × e_M)) (n : Nat) (p2 p3 p4 : Int) (M : e_M) : Option (Int × e_M) := (if p4 ≤ 6 then (f_X4_runSteps_L14 rc_X4_runSteps n 0 p2 p3 p4 p2 0 0 M) else (some (0, M)))
theorem s_X4_runSteps {X : e_X} {d gn : Nat} {rc_X4_runSteps : Int → Int → Int → e_M → Option (Int × e_M)} (hc_X4_runSteps : ∀ (p2 p3 p4 : Int) (M M' : e_M) (v : Int), rc_X4_runSteps p2 p3 p4 M = some (v, M') → e_E X (d + 4) YX4_runSteps [.inr (.inr 32), .inr (.inr 36), .inl p2, .inl p3, .inl p4] (557, gn, e_RF, M) (.inl none, (557, gn, e_RF, M'))) {n : Nat} {p2 p3 p4 : Int} {M M' : e_M} {v : Int} (h : f_X4_runSteps rc_X4_runSteps  n p2 p3 p4 M = some (v, M')) : e_E X (d + 5) YX4_runSteps [.inr (.inr 32), .inr (.inr 36), .inl p2, .inl p3, .inl p4] (557, gn, e_RF, M) (.inl none, (557, gn, e_RF, M')) := by
  unfold f_X4_runSteps at h
  refine wp_X4_runSteps_0 (d := d + 4)  M p2 p3 p4 ?_
  refine ⟨fun c => ?_, fun c => ?_⟩
  · rw [if_pos c] at h
    exact s_X4_runSteps_14 hc_X4_runSteps  _ _ _ _ _ _ _ _ _ h
  · rw [if_neg c] at h
    cases h; rfl
def g_X4_runSteps (n : Nat) : Nat → Nat → Int → Int → Int → e_M → Option (Int × e_M)
  | 0, _, _, _, _, _ => none
  | k + 1, t, a1, a2, a3, M => f_X4_runSteps (fun x1 x2 x3 N => g_X4_runSteps n k 0 x1 x2 x3 N) n a1 a2 a3 M
theorem sg_X4_runSteps {X : e_X} {d gn n : Nat} : ∀ k : Nat, (∀ (p2 p3 p4 : Int) (M M' : e_M) (v : Int), g_X4_runSteps n k 0 p2 p3 p4 M = some (v, M') → e_E X (d + k + 4) YX4_runSteps [.inr (.inr 32), .inr (.inr 36), .inl p2, .inl p3, .inl p4] (557, gn, e_RF, M) (.inl none, (557, gn, e_RF, M'))) := by
  intro k
  induction k with
  | zero => exact (by intros; rename_i h; cases h)
  | succ k ih =>
    rw [show d + (k + 1) + 4 = d + k + 4 + 1 by omega]
    skip
    · intro p2 p3 p4 M M' v h
      rw [g_X4_runSteps] at h
      exact s_X4_runSteps (d := d + k) ih h
theorem sk_X4_runSteps {X : e_X} {d gn n : Nat} (k : Nat) : (∀ (p2 p3 p4 : Int) (M M' : e_M) (v : Int), g_X4_runSteps n k 0 p2 p3 p4 M = some (v, M') → e_E X (d + k + 4) YX4_runSteps [.inr (.inr 32), .inr (.inr 36), .inl p2, .inl p3, .inl p4] (557, gn, e_RF, M) (.inl none, (557, gn, e_RF, M'))) := (sg_X4_runSteps k)
def f_k_X4_runSteps (n : Nat) (p2 p3 p4 : Int) (M : e_M) : Option (Int × e_M) := g_X4_runSteps n 10 0 p2 p3 p4 M
theorem s_k_X4_runSteps {X : e_X} {d gn n : Nat} {p2 p3 p4 : Int} {M M' : e_M} {v : Int} (h : f_k_X4_runSteps n p2 p3 p4 M = some (v, M')) : e_E X (d + 14) YX4_runSteps [.inr (.inr 32), .inr (.inr 36), .inl p2, .inl p3, .inl p4] (557, gn, e_RF, M) (.inl none, (557, gn, e_RF, M')) := sk_X4_runSteps (d := d) 10 _ _ _ _ _ _ h
