def f_J6_bitCount_0f7a4 (p0 : Int) (M : e_M) : Option (Int × e_M) := (some ((e_and (e_w ((e_w ((e_and (e_w ((e_w ((e_and (e_w (p0 - (e_and (e_ushr p0 1) 1431655765))) 858993459) + (e_and (e_ushr (e_w (p0 - (e_and (e_ushr p0 1) 1431655765))) 2) 858993459))) + (e_ushr (e_w ((e_and (e_w (p0 - (e_and (e_ushr p0 1) 1431655765))) 858993459) + (e_and (e_ushr (e_w (p0 - (e_and (e_ushr p0 1) 1431655765))) 2) 858993459))) 4))) 252645135) + (e_ushr (e_and (e_w ((e_w ((e_and (e_w (p0 - (e_and (e_ushr p0 1) 1431655765))) 858993459) + (e_and (e_ushr (e_w (p0 - (e_and (e_ushr p0 1) 1431655765))) 2) 858993459))) + (e_ushr (e_w ((e_and (e_w (p0 - (e_and (e_ushr p0 1) 1431655765))) 858993459) + (e_and (e_ushr (e_w (p0 - (e_and (e_ushr p0 1) 1431655765))) 2) 858993459))) 4))) 252645135) 8))) + (e_ushr (e_w ((e_and (e_w ((e_w ((e_and (e_w (p0 - (e_and (e_ushr p0 1) 1431655765))) 858993459) + (e_and (e_ushr (e_w (p0 - (e_and (e_ushr p0 1) 1431655765))) 2) 858993459))) + (e_ushr (e_w ((e_and (e_w (p0 - (e_and (e_ushr p0 1) 1431655765))) 858993459) + (e_and (e_ushr (e_w (p0 - (e_and (e_ushr p0 1) 1431655765))) 2) 858993459))) 4))) 252645135) + (e_ushr (e_and (e_w ((e_w ((e_and (e_w (p0 - (e_and (e_ushr p0 1) 1431655765))) 858993459) + (e_and (e_ushr (e_w (p0 - (e_and (e_ushr p0 1) 1431655765))) 2) 858993459))) + (e_ushr (e_w ((e_and (e_w (p0 - (e_and (e_ushr p0 1) 1431655765))) 858993459) + (e_and (e_ushr (e_w (p0 - (e_and (e_ushr p0 1) 1431655765))) 2) 858993459))) 4))) 252645135) 8))) 16))) 63), M))
theorem s_J6_bitCount_0f7a4 {X : e_X} {d gn : Nat} {p0 : Int} {M M' : e_M} {v : Int} (h : f_J6_bitCount_0f7a4   p0 M = some (v, M')) : e_E X d YJ6_bitCount_0f7a4 [.inl p0] (557, gn, e_RF, M) (.inl (some (.inl v)), (557, gn, e_RF, M')) := by
  unfold f_J6_bitCount_0f7a4 at h
  refine wp_J6_bitCount_0f7a4_0  M p0 ?_
  cases h; rfl
def f_X0_copyFrom_book (M : e_M) : Option (Int × e_M) := (some (0, (e_cp (e_up (e_up M 28 0 (M 30 0)) 28 1 ((e_up M 28 0 (M 30 0)) 30 1)) 31 0 29 0 6)))
theorem s_X0_copyFrom_book {X : e_X} {d gn : Nat} {M M' : e_M} {v : Int} (h : f_X0_copyFrom_book    M = some (v, M')) : e_E X (d + 1) YX0_copyFrom [.inr (.inr 28), .inr (.inr 30)] (557, gn, e_RF, M) (.inl none, (557, gn, e_RF, M')) := by
  unfold f_X0_copyFrom_book at h
  refine wp_X0_copyFrom_book_0 (d := d)  M  ?_
  cases h; rfl
def f_X0_drop_book (M : e_M) : Option (Int × e_M) := (some (0, (e_up (e_up M 28 0 0) 28 1 0)))
theorem s_X0_drop_book {X : e_X} {d gn : Nat} {M M' : e_M} {v : Int} (h : f_X0_drop_book    M = some (v, M')) : e_E X d YX0_drop [.inr (.inr 28)] (557, gn, e_RF, M) (.inl none, (557, gn, e_RF, M')) := by
  unfold f_X0_drop_book at h
  refine wp_X0_drop_book_0  M  ?_
  cases h; rfl
def f_X0_drop_bookDraft (M : e_M) : Option (Int × e_M) := (some (0, (e_up (e_up M 30 0 0) 30 1 0)))
theorem s_X0_drop_bookDraft {X : e_X} {d gn : Nat} {M M' : e_M} {v : Int} (h : f_X0_drop_bookDraft    M = some (v, M')) : e_E X d YX0_drop [.inr (.inr 30)] (557, gn, e_RF, M) (.inl none, (557, gn, e_RF, M')) := by
  unfold f_X0_drop_bookDraft at h
  refine wp_X0_drop_bookDraft_0  M  ?_
  cases h; rfl
def f_X0_hasLine_book (p1 : Int) (M : e_M) : Option (Int × e_M) := (if (e_and (e_shr (M 28 1) p1) 1) = 0 then (some (0, M)) else (some (1, M)))
theorem s_X0_hasLine_book {X : e_X} {d gn : Nat} {p1 : Int} {M M' : e_M} {v : Int} (h : f_X0_hasLine_book   p1 M = some (v, M')) : e_E X d YX0_hasLine [.inr (.inr 28), .inl p1] (557, gn, e_RF, M) (.inl (some (.inl v)), (557, gn, e_RF, M')) := by
  unfold f_X0_hasLine_book at h
  refine wp_X0_hasLine_book_0  M p1 ?_
  refine ⟨fun c => ?_, fun c => ?_⟩
  · rw [if_pos c] at h
    cases h; rfl
  · rw [if_neg c] at h
    cases h; rfl
def f_X0_hasLine_bookDraft (p1 : Int) (M : e_M) : Option (Int × e_M) := (if (e_and (e_shr (M 30 1) p1) 1) = 0 then (some (0, M)) else (some (1, M)))
theorem s_X0_hasLine_bookDraft {X : e_X} {d gn : Nat} {p1 : Int} {M M' : e_M} {v : Int} (h : f_X0_hasLine_bookDraft   p1 M = some (v, M')) : e_E X d YX0_hasLine [.inr (.inr 30), .inl p1] (557, gn, e_RF, M) (.inl (some (.inl v)), (557, gn, e_RF, M')) := by
  unfold f_X0_hasLine_bookDraft at h
  refine wp_X0_hasLine_bookDraft_0  M p1 ?_
  refine ⟨fun c => ?_, fun c => ?_⟩
  · rw [if_pos c] at h
    cases h; rfl
  · rw [if_neg c] at h
    cases h; rfl
def f_X0_mondaysHad_book (p1 p2 : Int) (M : e_M) : Option (Int × e_M) := (if (0 ≤ p1 ∧ p1 < 6) then (if (e_w ((M 29 p1.toNat) - (e_w (6 * p2)))) < 0 then (some ((-1), M)) else (if p2 < (e_w ((M 29 p1.toNat) - (e_w (6 * p2)))) then (some ((-1), M)) else (some ((e_w ((M 29 p1.toNat) - (e_w (6 * p2)))), M)))) else none)
theorem s_X0_mondaysHad_book {X : e_X} {d gn : Nat} {p1 p2 : Int} {M M' : e_M} {v : Int} (h : f_X0_mondaysHad_book   p1 p2 M = some (v, M')) : e_E X d YX0_mondaysHad [.inr (.inr 28), .inl p1, .inl p2] (557, gn, e_RF, M) (.inl (some (.inl v)), (557, gn, e_RF, M')) := by
  unfold f_X0_mondaysHad_book at h
  refine wp_X0_mondaysHad_book_0  M p1 p2 ?_
  obtain ⟨c1, h⟩ := f_gd h
  refine ⟨c1, ?_⟩
  refine ⟨fun c => ?_, fun c => ?_⟩
  · rw [if_pos c] at h
    cases h; rfl
  · rw [if_neg c] at h
    refine ⟨fun c => ?_, fun c => ?_⟩
    · rw [if_pos c] at h
      cases h; rfl
    · rw [if_neg c] at h
      cases h; rfl
def f_X0_mondaysHad_bookDraft (p1 p2 : Int) (M : e_M) : Option (Int × e_M) := (if (0 ≤ p1 ∧ p1 < 6) then (if (e_w ((M 31 p1.toNat) - (e_w (6 * p2)))) < 0 then (some ((-1), M)) else (if p2 < (e_w ((M 31 p1.toNat) - (e_w (6 * p2)))) then (some ((-1), M)) else (some ((e_w ((M 31 p1.toNat) - (e_w (6 * p2)))), M)))) else none)
theorem s_X0_mondaysHad_bookDraft {X : e_X} {d gn : Nat} {p1 p2 : Int} {M M' : e_M} {v : Int} (h : f_X0_mondaysHad_bookDraft   p1 p2 M = some (v, M')) : e_E X d YX0_mondaysHad [.inr (.inr 30), .inl p1, .inl p2] (557, gn, e_RF, M) (.inl (some (.inl v)), (557, gn, e_RF, M')) := by
  unfold f_X0_mondaysHad_bookDraft at h
  refine wp_X0_mondaysHad_bookDraft_0  M p1 p2 ?_
  obtain ⟨c1, h⟩ := f_gd h
  refine ⟨c1, ?_⟩
  refine ⟨fun c => ?_, fun c => ?_⟩
  · rw [if_pos c] at h
    cases h; rfl
  · rw [if_neg c] at h
    refine ⟨fun c => ?_, fun c => ?_⟩
    · rw [if_pos c] at h
      cases h; rfl
    · rw [if_neg c] at h
      cases h; rfl
def f_X10_bitsBelow (p0 : Int) (M : e_M) : Option (Int × e_M) := (some ((e_w ((e_shl 1 p0) - 1)), M))
theorem s_X10_bitsBelow {X : e_X} {d gn : Nat} {p0 : Int} {M M' : e_M} {v : Int} (h : f_X10_bitsBelow   p0 M = some (v, M')) : e_E X d YX10_bitsBelow [.inl p0] (557, gn, e_RF, M) (.inl (some (.inl v)), (557, gn, e_RF, M')) := by
  unfold f_X10_bitsBelow at h
  refine wp_X10_bitsBelow_0  M p0 ?_
  cases h; rfl
def f_X10_choose_16 : Nat → Int → Int → Int → Int → e_M → Option (Int × e_M)
  | 0, _, _, _, _, _ => none
  | n + 1, p0, p1, v2, v4, M => (if p1 < v4 then (some (v2, M)) else (if v4 ≠ 0 then (f_X10_choose_16 n p0 p1 (e_wl (Int.tdiv (e_wl (v2 * (e_w ((e_w (p0 - p1)) + v4)))) v4)) (e_w (v4 + 1)) M) else none))
theorem s_X10_choose_16 {X : e_X} {d gn : Nat} : ∀ n : Nat, ∀ (p0 p1 v2 v4 : Int) (M M' : e_M) (v : Int), f_X10_choose_16  n p0 p1 v2 v4 M = some (v, M') → e_G X d YX10_choose 16 [some (.inl p0), some (.inl p1), some (.inr (.inl v2)), none, some (.inl v4)] [] (557, gn, e_RF, M) (.inl (some (.inr (.inl v))), (557, gn, e_RF, M')) := by
  intro n
  induction n with
  | zero => intro p0 p1 v2 v4 M M' v h; cases h
  | succ n ih =>
    intro p0 p1 v2 v4 M M' v h
    rw [f_X10_choose_16] at h
    refine wp_X10_choose_16  M p0 p1 v2 v4 ?_
    refine ⟨fun c => ?_, fun c => ?_⟩
    · rw [if_pos c] at h
      cases h; rfl
    · rw [if_neg c] at h
      obtain ⟨c1, h⟩ := f_gd h
      refine ⟨c1, ?_⟩
      exact ih _ _ _ _ _ _ _ h
def f_X10_choose (n : Nat) (p0 p1 : Int) (M : e_M) : Option (Int × e_M) := (if p1 < 0 then (some (0, M)) else (if p1 ≤ p0 then (f_X10_choose_16 n p0 p1 1 1 M) else (some (0, M))))
theorem s_X10_choose {X : e_X} {d gn : Nat} {n : Nat} {p0 p1 : Int} {M M' : e_M} {v : Int} (h : f_X10_choose  n p0 p1 M = some (v, M')) : e_E X d YX10_choose [.inl p0, .inl p1] (557, gn, e_RF, M) (.inl (some (.inr (.inl v))), (557, gn, e_RF, M')) := by
  unfold f_X10_choose at h
  refine wp_X10_choose_0  M p0 p1 ?_
  refine ⟨fun c => ?_, fun c => ?_⟩
  · rw [if_pos c] at h
    cases h; rfl
  · rw [if_neg c] at h
    refine ⟨fun c => ?_, fun c => ?_⟩
    · rw [if_pos c] at h
      exact s_X10_choose_16  _ _ _ _ _ _ _ _ h
    · rw [if_neg c] at h
      cases h; rfl
def f_X10_count (p1 : Int) (M : e_M) : Option (Int × e_M) := (if p1 = 0 then (some ((M 1 15), M)) else (if p1 = 1 then (some ((M 2 1), M)) else (if p1 = 2 then (some ((M 55 1), M)) else (some ((-1), M)))))
theorem s_X10_count {X : e_X} {d gn : Nat} {p1 : Int} {M M' : e_M} {v : Int} (h : f_X10_count   p1 M = some (v, M')) : e_E X d YX10_count [.inr (.inr 1), .inl p1] (557, gn, e_RF, M) (.inl (some (.inl v)), (557, gn, e_RF, M')) := by
  unfold f_X10_count at h
  refine wp_X10_count_0  M p1 ?_
  refine ⟨fun c => ?_, fun c => ?_, fun c => ?_, fun c => ?_⟩
  · rw [if_pos c] at h
    cases h; rfl
  · rw [if_neg (by omega), if_pos c] at h
    cases h; rfl
  · rw [if_neg (by omega), if_neg (by omega), if_pos c] at h
    cases h; rfl
  · rw [if_neg (by omega), if_neg (by omega), if_neg (by omega)] at h
    cases h; rfl
def f_X10_fault (M : e_M) : Option (Int × e_M) := (some ((M 2 5), M))
theorem s_X10_fault {X : e_X} {d gn : Nat} {M M' : e_M} {v : Int} (h : f_X10_fault    M = some (v, M')) : e_E X d YX10_fault [.inr (.inr 1)] (557, gn, e_RF, M) (.inl (some (.inl v)), (557, gn, e_RF, M')) := by
  unfold f_X10_fault at h
  refine wp_X10_fault_0  M  ?_
  cases h; rfl
def f_X10_needDuty (p1 : Int) (M : e_M) : Option ((Int ⊕ Nat) × e_M) := (if p1 < 0 then (f_t (f_X10_refuseMissing M) fun _ NN4 => (some ((.inl 0), NN4))) else (if p1 < (M 4 1) then (some ((.inl 0), M)) else (f_t (f_X10_refuseMissing M) fun _ NN2 => (some ((.inl 0), NN2)))))
theorem s_X10_needDuty {X : e_X} {d gn : Nat} {p1 : Int} {M M' : e_M} {v : Int ⊕ Nat} (h : f_X10_needDuty   p1 M = some (v, M')) : e_E X (d + 9) YX10_needDuty [.inr (.inr 1), .inl p1] (557, gn, e_RF, M) (f_oV gn v M') := by
  unfold f_X10_needDuty at h
  refine wp_X10_needDuty_0 (d := d + 8)  M p1 ?_
  refine ⟨fun c => ?_, fun c => ?_⟩
  · rw [if_pos c] at h
    refine wp_X10_needDuty_15 (d := d + 8)  _ _ (f_mnV) ?_
    rcases f_td h with ⟨rr5, NN6, hc7, h⟩ | ⟨rr5, NN6, hc7, h⟩
    · refine Or.inl ⟨NN6, s_X10_refuseMissing (d := d)  hc7, ?_⟩
      cases h; rfl
    · exact Or.inr ⟨rr5, NN6, s_X10_refuseMissing (d := d)  hc7, by cases h; rfl⟩
  · rw [if_neg c] at h
    refine ⟨fun c => ?_, fun c => ?_⟩
    · rw [if_pos c] at h
      cases h; rfl
    · rw [if_neg c] at h
      refine wp_X10_needDuty_15 (d := d + 8)  _ _ (f_mnV) ?_
      rcases f_td h with ⟨rr8, NN9, hc10, h⟩ | ⟨rr8, NN9, hc10, h⟩
      · refine Or.inl ⟨NN9, s_X10_refuseMissing (d := d)  hc10, ?_⟩
        cases h; rfl
      · exact Or.inr ⟨rr8, NN9, s_X10_refuseMissing (d := d)  hc10, by cases h; rfl⟩
def f_X10_needPerson (p1 : Int) (M : e_M) : Option ((Int ⊕ Nat) × e_M) := (if p1 < 0 then (f_t (f_X10_refuseMissing M) fun _ NN4 => (some ((.inl 0), NN4))) else (if p1 < (M 4 0) then (some ((.inl 0), M)) else (f_t (f_X10_refuseMissing M) fun _ NN2 => (some ((.inl 0), NN2)))))
theorem s_X10_needPerson {X : e_X} {d gn : Nat} {p1 : Int} {M M' : e_M} {v : Int ⊕ Nat} (h : f_X10_needPerson   p1 M = some (v, M')) : e_E X (d + 9) YX10_needPerson [.inr (.inr 1), .inl p1] (557, gn, e_RF, M) (f_oV gn v M') := by
  unfold f_X10_needPerson at h
  refine wp_X10_needPerson_0 (d := d + 8)  M p1 ?_
  refine ⟨fun c => ?_, fun c => ?_⟩
  · rw [if_pos c] at h
    refine wp_X10_needPerson_15 (d := d + 8)  _ _ (f_mnV) ?_
    rcases f_td h with ⟨rr5, NN6, hc7, h⟩ | ⟨rr5, NN6, hc7, h⟩
    · refine Or.inl ⟨NN6, s_X10_refuseMissing (d := d)  hc7, ?_⟩
      cases h; rfl
    · exact Or.inr ⟨rr5, NN6, s_X10_refuseMissing (d := d)  hc7, by cases h; rfl⟩
  · rw [if_neg c] at h
    refine ⟨fun c => ?_, fun c => ?_⟩
    · rw [if_pos c] at h
      cases h; rfl
    · rw [if_neg c] at h
      refine wp_X10_needPerson_15 (d := d + 8)  _ _ (f_mnV) ?_
      rcases f_td h with ⟨rr8, NN9, hc10, h⟩ | ⟨rr8, NN9, hc10, h⟩
      · refine Or.inl ⟨NN9, s_X10_refuseMissing (d := d)  hc10, ?_⟩
        cases h; rfl
      · exact Or.inr ⟨rr8, NN9, s_X10_refuseMissing (d := d)  hc10, by cases h; rfl⟩
def f_X10_needTask (p1 : Int) (M : e_M) : Option ((Int ⊕ Nat) × e_M) := (if p1 < 0 then (f_t (f_X10_refuseMissing M) fun _ NN4 => (some ((.inl 0), NN4))) else (if p1 < (M 4 2) then (some ((.inl 0), M)) else (f_t (f_X10_refuseMissing M) fun _ NN2 => (some ((.inl 0), NN2)))))
theorem s_X10_needTask {X : e_X} {d gn : Nat} {p1 : Int} {M M' : e_M} {v : Int ⊕ Nat} (h : f_X10_needTask   p1 M = some (v, M')) : e_E X (d + 9) YX10_needTask [.inr (.inr 1), .inl p1] (557, gn, e_RF, M) (f_oV gn v M') := by
  unfold f_X10_needTask at h
  refine wp_X10_needTask_0 (d := d + 8)  M p1 ?_
  refine ⟨fun c => ?_, fun c => ?_⟩
  · rw [if_pos c] at h
    refine wp_X10_needTask_15 (d := d + 8)  _ _ (f_mnV) ?_
    rcases f_td h with ⟨rr5, NN6, hc7, h⟩ | ⟨rr5, NN6, hc7, h⟩
    · refine Or.inl ⟨NN6, s_X10_refuseMissing (d := d)  hc7, ?_⟩
      cases h; rfl
    · exact Or.inr ⟨rr5, NN6, s_X10_refuseMissing (d := d)  hc7, by cases h; rfl⟩
  · rw [if_neg c] at h
    refine ⟨fun c => ?_, fun c => ?_⟩
    · rw [if_pos c] at h
      cases h; rfl
    · rw [if_neg c] at h
      refine wp_X10_needTask_15 (d := d + 8)  _ _ (f_mnV) ?_
      rcases f_td h with ⟨rr8, NN9, hc10, h⟩ | ⟨rr8, NN9, hc10, h⟩
      · refine Or.inl ⟨NN9, s_X10_refuseMissing (d := d)  hc10, ?_⟩
        cases h; rfl
      · exact Or.inr ⟨rr8, NN9, s_X10_refuseMissing (d := d)  hc10, by cases h; rfl⟩
def f_X10_needWithin (p1 p2 p3 : Int) (M : e_M) : Option ((Int ⊕ Nat) × e_M) := (if p1 < p2 then (f_t (f_X10_refuseArgument M) fun _ NN4 => (some ((.inl 0), NN4))) else (if p1 ≤ p3 then (some ((.inl 0), M)) else (f_t (f_X10_refuseArgument M) fun _ NN2 => (some ((.inl 0), NN2)))))
theorem s_X10_needWithin {X : e_X} {d gn : Nat} {p1 p2 p3 : Int} {M M' : e_M} {v : Int ⊕ Nat} (h : f_X10_needWithin   p1 p2 p3 M = some (v, M')) : e_E X (d + 9) YX10_needWithin [.inr (.inr 1), .inl p1, .inl p2, .inl p3] (557, gn, e_RF, M) (f_oV gn v M') := by
  unfold f_X10_needWithin at h
  refine wp_X10_needWithin_0 (d := d + 8)  M p1 p2 p3 ?_
  refine ⟨fun c => ?_, fun c => ?_⟩
  · rw [if_pos c] at h
    refine wp_X10_needWithin_10 (d := d + 8)  _ _ _ _ (f_mnV) ?_
    rcases f_td h with ⟨rr5, NN6, hc7, h⟩ | ⟨rr5, NN6, hc7, h⟩
    · refine Or.inl ⟨NN6, s_X10_refuseArgument (d := d)  hc7, ?_⟩
      cases h; rfl
    · exact Or.inr ⟨rr5, NN6, s_X10_refuseArgument (d := d)  hc7, by cases h; rfl⟩
  · rw [if_neg c] at h
    refine ⟨fun c => ?_, fun c => ?_⟩
    · rw [if_pos c] at h
      cases h; rfl
    · rw [if_neg c] at h
      refine wp_X10_needWithin_10 (d := d + 8)  _ _ _ _ (f_mnV) ?_
      rcases f_td h with ⟨rr8, NN9, hc10, h⟩ | ⟨rr8, NN9, hc10, h⟩
      · refine Or.inl ⟨NN9, s_X10_refuseArgument (d := d)  hc10, ?_⟩
        cases h; rfl
      · exact Or.inr ⟨rr8, NN9, s_X10_refuseArgument (d := d)  hc10, by cases h; rfl⟩
def f_X10_needYear (p1 p2 p3 : Int) (M : e_M) : Option ((Int ⊕ Nat) × e_M) := (f_t (f_X10_needWithin p1 1 96 M) fun _ NN2 => (f_t (f_X10_needWithin p2 0 16 NN2) fun _ NN4 => (f_t (f_X10_needWithin p3 0 16 NN4) fun _ NN6 => (some ((.inl 0), NN6)))))
theorem s_X10_needYear {X : e_X} {d gn : Nat} {p1 p2 p3 : Int} {M M' : e_M} {v : Int ⊕ Nat} (h : f_X10_needYear   p1 p2 p3 M = some (v, M')) : e_E X (d + 10) YX10_needYear [.inr (.inr 1), .inl p1, .inl p2, .inl p3] (557, gn, e_RF, M) (f_oV gn v M') := by
  unfold f_X10_needYear at h
  refine wp_X10_needYear_0 (d := d + 9)  M p1 p2 p3 (f_mnV) ?_
  rcases f_td h with ⟨rr7, NN8, hc9, h⟩ | ⟨rr7, NN8, hc9, h⟩
  · refine Or.inl ⟨NN8, s_X10_needWithin (d := d)  hc9, ?_⟩
    rcases f_td h with ⟨rr10, NN11, hc12, h⟩ | ⟨rr10, NN11, hc12, h⟩
    · refine Or.inl ⟨NN11, s_X10_needWithin (d := d)  hc12, ?_⟩
      rcases f_td h with ⟨rr13, NN14, hc15, h⟩ | ⟨rr13, NN14, hc15, h⟩
      · refine Or.inl ⟨NN14, s_X10_needWithin (d := d)  hc15, ?_⟩
        cases h; rfl
      · exact Or.inr ⟨rr13, NN14, s_X10_needWithin (d := d)  hc15, by cases h; rfl⟩
    · exact Or.inr ⟨rr10, NN11, s_X10_needWithin (d := d)  hc12, by cases h; rfl⟩
  · exact Or.inr ⟨rr7, NN8, s_X10_needWithin (d := d)  hc9, by cases h; rfl⟩
def f_X10_person (p1 p2 : Int) (M : e_M) : Option ((Int ⊕ Nat) × e_M) := (f_t (f_X10_needPerson p1 M) fun _ NN2 => (f_t (f_X10_needWithin p2 0 6 NN2) fun _ NN4 => (if p2 = 0 then (if (0 ≤ p1 ∧ p1 < 6) then (some ((.inl (NN4 37 p1.toNat)), NN4)) else none) else (if p2 = 1 then (if (0 ≤ p1 ∧ p1 < 6) then (some ((.inl (NN4 6 p1.toNat)), NN4)) else none) else (if p2 = 2 then (if (0 ≤ p1 ∧ p1 < 6) then (some ((.inl (NN4 38 p1.toNat)), NN4)) else none) else (if p2 = 3 then (if (0 ≤ p1 ∧ p1 < 6) then (some ((.inl (NN4 39 p1.toNat)), NN4)) else none) else (if p2 = 4 then (if (0 ≤ p1 ∧ p1 < 6) then (some ((.inl (NN4 7 p1.toNat)), NN4)) else none) else (if p2 = 5 then (if (0 ≤ p1 ∧ p1 < 6) then (some ((.inl (NN4 40 p1.toNat)), NN4)) else none) else (if (0 ≤ p1 ∧ p1 < 6) then (some ((.inl (NN4 41 p1.toNat)), NN4)) else none)))))))))
theorem s_X10_person {X : e_X} {d gn : Nat} {p1 p2 : Int} {M M' : e_M} {v : Int ⊕ Nat} (h : f_X10_person   p1 p2 M = some (v, M')) : e_E X (d + 10) YX10_person [.inr (.inr 1), .inl p1, .inl p2] (557, gn, e_RF, M) (f_oT gn v M') := by
  unfold f_X10_person at h
  refine wp_X10_person_0 (d := d + 9)  M p1 p2 (f_mnT) ?_
  rcases f_td h with ⟨rr5, NN6, hc7, h⟩ | ⟨rr5, NN6, hc7, h⟩
  · refine Or.inl ⟨NN6, s_X10_needPerson (d := d)  hc7, ?_⟩
    rcases f_td h with ⟨rr8, NN9, hc10, h⟩ | ⟨rr8, NN9, hc10, h⟩
    · refine Or.inl ⟨NN9, s_X10_needWithin (d := d)  hc10, ?_⟩
      refine ⟨fun c => ?_, fun c => ?_, fun c => ?_, fun c => ?_, fun c => ?_, fun c => ?_, fun c => ?_⟩
      · rw [if_pos c] at h
        obtain ⟨c11, h⟩ := f_gd h
        exact ⟨c11, by cases h; rfl⟩
      · rw [if_neg (by omega), if_pos c] at h
        obtain ⟨c12, h⟩ := f_gd h
        exact ⟨c12, by cases h; rfl⟩
      · rw [if_neg (by omega), if_neg (by omega), if_pos c] at h
        obtain ⟨c13, h⟩ := f_gd h
        exact ⟨c13, by cases h; rfl⟩
      · rw [if_neg (by omega), if_neg (by omega), if_neg (by omega), if_pos c] at h
        obtain ⟨c14, h⟩ := f_gd h
        exact ⟨c14, by cases h; rfl⟩
      · rw [if_neg (by omega), if_neg (by omega), if_neg (by omega), if_neg (by omega), if_pos c] at h
        obtain ⟨c15, h⟩ := f_gd h
        exact ⟨c15, by cases h; rfl⟩
      · rw [if_neg (by omega), if_neg (by omega), if_neg (by omega), if_neg (by omega), if_neg (by omega), if_pos c] at h
        obtain ⟨c16, h⟩ := f_gd h
        exact ⟨c16, by cases h; rfl⟩
      · rw [if_neg (by omega), if_neg (by omega), if_neg (by omega), if_neg (by omega), if_neg (by omega), if_neg (by omega)] at h
        obtain ⟨c17, h⟩ := f_gd h
        exact ⟨c17, by cases h; rfl⟩
    · exact Or.inr ⟨rr8, NN9, s_X10_needWithin (d := d)  hc10, by cases h; rfl⟩
  · exact Or.inr ⟨rr5, NN6, s_X10_needPerson (d := d)  hc7, by cases h; rfl⟩
def f_X10_richest_11 : Nat → Int → Int → Int → e_M → Option ((Int ⊕ Nat) × e_M)
  | 0, _, _, _, _ => none
  | n + 1, p1, v2, v3, M => (if (M 4 0) ≤ v3 then (if p1 = 0 then (some ((.inl v2), M)) else (if ¬ v2 = (-1) then (if (0 ≤ v2 ∧ v2 < 6) then (some ((.inl (M 37 v2.toNat)), M)) else none) else (some ((.inl v2), M)))) else (if v2 = (-1) then (f_X10_richest_11 n p1 v3 (e_w (v3 + 1)) M) else (if (0 ≤ v3 ∧ v3 < 6) then (if (0 ≤ v2 ∧ v2 < 6) then (if (M 37 v3.toNat) ≤ (M 37 v2.toNat) then (f_X10_richest_11 n p1 v2 (e_w (v3 + 1)) M) else (f_X10_richest_11 n p1 v3 (e_w (v3 + 1)) M)) else none) else none)))
theorem s_X10_richest_11 {X : e_X} {d gn : Nat} : ∀ n : Nat, ∀ (p1 v2 v3 : Int) (M M' : e_M) (v : Int ⊕ Nat), f_X10_richest_11  n p1 v2 v3 M = some (v, M') → e_G X (d + 10) YX10_richest 11 [some (.inr (.inr 1)), some (.inl p1), some (.inl v2), some (.inl v3)] [] (557, gn, e_RF, M) (f_oT gn v M') := by
  intro n
  induction n with
  | zero => intro p1 v2 v3 M M' v h; cases h
  | succ n ih =>
    intro p1 v2 v3 M M' v h
    rw [f_X10_richest_11] at h
    refine wp_X10_richest_11 (d := d + 9)  M p1 v2 v3 ?_
    refine ⟨fun c => ?_, fun c => ?_⟩
    · rw [if_pos c] at h
      refine ⟨fun c => ?_, fun c => ?_⟩
      · rw [if_pos c] at h
        cases h; rfl
      · rw [if_neg c] at h
        refine ⟨fun c => ?_, fun c => ?_⟩
        · rw [if_pos c] at h
          obtain ⟨c1, h⟩ := f_gd h
          exact ⟨c1, by cases h; rfl⟩
        · rw [if_neg (not_not_intro c)] at h
          cases h; rfl
    · rw [if_neg c] at h
      refine ⟨fun c => ?_, fun c => ?_⟩
      · rw [if_pos c] at h
        exact ih _ _ _ _ _ _ h
      · rw [if_neg c] at h
        obtain ⟨c2, h⟩ := f_gd h
        refine ⟨c2, ?_⟩
        obtain ⟨c3, h⟩ := f_gd h
        refine ⟨c3, ?_⟩
        refine ⟨fun c => ?_, fun c => ?_⟩
        · rw [if_pos c] at h
          exact ih _ _ _ _ _ _ h
        · rw [if_neg c] at h
          exact ih _ _ _ _ _ _ h
def f_X10_richest (n : Nat) (p1 : Int) (M : e_M) : Option ((Int ⊕ Nat) × e_M) := (f_t (f_X10_needWithin p1 0 1 M) fun _ NN5 => (f_X10_richest_11 n p1 (-1) 0 NN5))
theorem s_X10_richest {X : e_X} {d gn : Nat} {n : Nat} {p1 : Int} {M M' : e_M} {v : Int ⊕ Nat} (h : f_X10_richest  n p1 M = some (v, M')) : e_E X (d + 10) YX10_richest [.inr (.inr 1), .inl p1] (557, gn, e_RF, M) (f_oT gn v M') := by
  unfold f_X10_richest at h
  refine wp_X10_richest_0 (d := d + 9)  M p1 (f_mnT) ?_
  rcases f_td h with ⟨rr6, NN7, hc8, h⟩ | ⟨rr6, NN7, hc8, h⟩
  · refine Or.inl ⟨NN7, s_X10_needWithin (d := d)  hc8, ?_⟩
    exact s_X10_richest_11  _ _ _ _ _ _ _ h
  · exact Or.inr ⟨rr6, NN7, s_X10_needWithin (d := d)  hc8, by cases h; rfl⟩
def f_X10_shopHas (p0 p1 p2 p3 : Int) (M : e_M) : Option (Int × e_M) := (if ¬ p0 = 0 then (if ¬ p1 = 0 then (some (0, M)) else (some ((-1), M))) else (if ¬ p1 = 0 then (some (p3, M)) else (some (p2, M))))
theorem s_X10_shopHas {X : e_X} {d gn : Nat} {p0 p1 p2 p3 : Int} {M M' : e_M} {v : Int} (h : f_X10_shopHas   p0 p1 p2 p3 M = some (v, M')) : e_E X d YX10_shopHas [.inl p0, .inl p1, .inl p2, .inl p3] (557, gn, e_RF, M) (.inl (some (.inl v)), (557, gn, e_RF, M')) := by
  unfold f_X10_shopHas at h
  refine wp_X10_shopHas_0  M p0 p1 p2 p3 ?_
  refine ⟨fun c => ?_, fun c => ?_⟩
  · rw [if_pos c] at h
    refine ⟨fun c => ?_, fun c => ?_⟩
    · rw [if_pos c] at h
      cases h; rfl
    · rw [if_neg (not_not_intro c)] at h
      cases h; rfl
  · rw [if_neg (not_not_intro c)] at h
    refine ⟨fun c => ?_, fun c => ?_⟩
    · rw [if_pos c] at h
      cases h; rfl
    · rw [if_neg (not_not_intro c)] at h
      cases h; rfl
def f_X10_spare (p1 p2 : Int) (M : e_M) : Option ((Int ⊕ Nat) × e_M) := (f_t (f_X10_needPerson p1 M) fun _ NN2 => (f_t (f_X10_needWithin p2 0 99 NN2) fun _ NN4 => (if (0 ≤ p1 ∧ p1 < 6) then (if (0 ≤ p1 ∧ p1 < 6) then (some ((.inl (min 999 (e_w ((NN4 37 p1.toNat) + (e_w (p2 * (NN4 6 p1.toNat))))))), NN4)) else none) else none)))
theorem s_X10_spare {X : e_X} {d gn : Nat} {p1 p2 : Int} {M M' : e_M} {v : Int ⊕ Nat} (h : f_X10_spare   p1 p2 M = some (v, M')) : e_E X (d + 10) YX10_spare [.inr (.inr 1), .inl p1, .inl p2] (557, gn, e_RF, M) (f_oT gn v M') := by
  unfold f_X10_spare at h
  refine wp_X10_spare_0 (d := d + 9)  M p1 p2 (f_mnT) ?_
  rcases f_td h with ⟨rr5, NN6, hc7, h⟩ | ⟨rr5, NN6, hc7, h⟩
  · refine Or.inl ⟨NN6, s_X10_needPerson (d := d)  hc7, ?_⟩
    rcases f_td h with ⟨rr8, NN9, hc10, h⟩ | ⟨rr8, NN9, hc10, h⟩
    · refine Or.inl ⟨NN9, s_X10_needWithin (d := d)  hc10, ?_⟩
      obtain ⟨c11, h⟩ := f_gd h
      refine ⟨c11, ?_⟩
      obtain ⟨c12, h⟩ := f_gd h
      exact ⟨c12, by cases h; rfl⟩
    · exact Or.inr ⟨rr8, NN9, s_X10_needWithin (d := d)  hc10, by cases h; rfl⟩
  · exact Or.inr ⟨rr5, NN6, s_X10_needPerson (d := d)  hc7, by cases h; rfl⟩
def f_X10_status (p1 : Int) (M : e_M) : Option (Int × e_M) := (if p1 = 0 then (some ((M 1 16), M)) else (if p1 = 1 then (some ((M 1 17), M)) else (some ((-1), M))))
theorem s_X10_status {X : e_X} {d gn : Nat} {p1 : Int} {M M' : e_M} {v : Int} (h : f_X10_status   p1 M = some (v, M')) : e_E X d YX10_status [.inr (.inr 1), .inl p1] (557, gn, e_RF, M) (.inl (some (.inl v)), (557, gn, e_RF, M')) := by
  unfold f_X10_status at h
  refine wp_X10_status_0  M p1 ?_
  refine ⟨fun c => ?_, fun c => ?_, fun c => ?_⟩
  · rw [if_pos c] at h
    cases h; rfl
  · rw [if_neg (by omega), if_pos c] at h
    cases h; rfl
  · rw [if_neg (by omega), if_neg (by omega)] at h
    cases h; rfl
def f_X10_youngest_11 : Nat → Int → Int → Int → e_M → Option ((Int ⊕ Nat) × e_M)
  | 0, _, _, _, _ => none
  | n + 1, p1, v2, v3, M => (if (M 4 0) ≤ v3 then (if p1 = 0 then (some ((.inl v2), M)) else (if ¬ v2 = (-1) then (if (0 ≤ v2 ∧ v2 < 6) then (some ((.inl (M 38 v2.toNat)), M)) else none) else (some ((.inl v2), M)))) else (if v2 = (-1) then (f_X10_youngest_11 n p1 v3 (e_w (v3 + 1)) M) else (if (0 ≤ v3 ∧ v3 < 6) then (if (0 ≤ v2 ∧ v2 < 6) then (if (M 38 v2.toNat) ≤ (M 38 v3.toNat) then (f_X10_youngest_11 n p1 v2 (e_w (v3 + 1)) M) else (f_X10_youngest_11 n p1 v3 (e_w (v3 + 1)) M)) else none) else none)))
theorem s_X10_youngest_11 {X : e_X} {d gn : Nat} : ∀ n : Nat, ∀ (p1 v2 v3 : Int) (M M' : e_M) (v : Int ⊕ Nat), f_X10_youngest_11  n p1 v2 v3 M = some (v, M') → e_G X (d + 10) YX10_youngest 11 [some (.inr (.inr 1)), some (.inl p1), some (.inl v2), some (.inl v3)] [] (557, gn, e_RF, M) (f_oT gn v M') := by
  intro n
  induction n with
  | zero => intro p1 v2 v3 M M' v h; cases h
  | succ n ih =>
    intro p1 v2 v3 M M' v h
    rw [f_X10_youngest_11] at h
    refine wp_X10_youngest_11 (d := d + 9)  M p1 v2 v3 ?_
    refine ⟨fun c => ?_, fun c => ?_⟩
    · rw [if_pos c] at h
      refine ⟨fun c => ?_, fun c => ?_⟩
      · rw [if_pos c] at h
        cases h; rfl
      · rw [if_neg c] at h
        refine ⟨fun c => ?_, fun c => ?_⟩
        · rw [if_pos c] at h
          obtain ⟨c1, h⟩ := f_gd h
          exact ⟨c1, by cases h; rfl⟩
        · rw [if_neg (not_not_intro c)] at h
          cases h; rfl
    · rw [if_neg c] at h
      refine ⟨fun c => ?_, fun c => ?_⟩
      · rw [if_pos c] at h
        exact ih _ _ _ _ _ _ h
      · rw [if_neg c] at h
        obtain ⟨c2, h⟩ := f_gd h
        refine ⟨c2, ?_⟩
        obtain ⟨c3, h⟩ := f_gd h
        refine ⟨c3, ?_⟩
        refine ⟨fun c => ?_, fun c => ?_⟩
        · rw [if_pos c] at h
          exact ih _ _ _ _ _ _ h
        · rw [if_neg c] at h
          exact ih _ _ _ _ _ _ h
def f_X10_youngest (n : Nat) (p1 : Int) (M : e_M) : Option ((Int ⊕ Nat) × e_M) := (f_t (f_X10_needWithin p1 0 1 M) fun _ NN5 => (f_X10_youngest_11 n p1 (-1) 0 NN5))
theorem s_X10_youngest {X : e_X} {d gn : Nat} {n : Nat} {p1 : Int} {M M' : e_M} {v : Int ⊕ Nat} (h : f_X10_youngest  n p1 M = some (v, M')) : e_E X (d + 10) YX10_youngest [.inr (.inr 1), .inl p1] (557, gn, e_RF, M) (f_oT gn v M') := by
  unfold f_X10_youngest at h
  refine wp_X10_youngest_0 (d := d + 9)  M p1 (f_mnT) ?_
  rcases f_td h with ⟨rr6, NN7, hc8, h⟩ | ⟨rr6, NN7, hc8, h⟩
  · refine Or.inl ⟨NN7, s_X10_needWithin (d := d)  hc8, ?_⟩
    exact s_X10_youngest_11  _ _ _ _ _ _ _ h
  · exact Or.inr ⟨rr6, NN7, s_X10_needWithin (d := d)  hc8, by cases h; rfl⟩
def f_X11_bad (p1 p2 p3 : Int) (M : e_M) : Option (Int × e_M) := (if p1 = 0 then (if (M 64 0) = 0 then (some (0, M)) else (some (1, M))) else (if ¬ (M 64 0) = 0 then (if (M 64 0) = 0 then (some (0, M)) else (some (1, M))) else (if (0 ≤ p3 ∧ p3 < 2) then (if (0 ≤ p3 ∧ p3 < 2) then (if ((e_up (e_up M 64 0 p2) 66 p3.toNat (e_w (((e_up M 64 0 p2) 66 p3.toNat) + 1))) 64 0) = 0 then (some (0, (e_up (e_up M 64 0 p2) 66 p3.toNat (e_w (((e_up M 64 0 p2) 66 p3.toNat) + 1))))) else (some (1, (e_up (e_up M 64 0 p2) 66 p3.toNat (e_w (((e_up M 64 0 p2) 66 p3.toNat) + 1)))))) else none) else none)))
theorem s_X11_bad {X : e_X} {d gn : Nat} {p1 p2 p3 : Int} {M M' : e_M} {v : Int} (h : f_X11_bad   p1 p2 p3 M = some (v, M')) : e_E X d YX11_bad [.inr (.inr 64), .inl p1, .inl p2, .inl p3] (557, gn, e_RF, M) (.inl (some (.inl v)), (557, gn, e_RF, M')) := by
  unfold f_X11_bad at h
  refine wp_X11_bad_0  M p1 p2 p3 ?_
  refine ⟨fun c => ?_, fun c => ?_⟩
  · rw [if_pos c] at h
    refine wp_X11_bad_26  _ _ _ _ ?_
    refine ⟨fun c => ?_, fun c => ?_⟩
    · rw [if_pos c] at h
      cases h; rfl
    · rw [if_neg c] at h
      cases h; rfl
  · rw [if_neg c] at h
    refine ⟨fun c => ?_, fun c => ?_⟩
    · rw [if_pos c] at h
      refine wp_X11_bad_26  _ _ _ _ ?_
      refine ⟨fun c => ?_, fun c => ?_⟩
      · rw [if_pos c] at h
        cases h; rfl
      · rw [if_neg c] at h
        cases h; rfl
    · rw [if_neg (not_not_intro c)] at h
      obtain ⟨c1, h⟩ := f_gd h
      refine ⟨c1, ?_⟩
      obtain ⟨c2, h⟩ := f_gd h
      refine ⟨c2, ?_⟩
      refine wp_X11_bad_26  _ _ _ _ ?_
      refine ⟨fun c => ?_, fun c => ?_⟩
      · rw [if_pos c] at h
        cases h; rfl
      · rw [if_neg c] at h
        cases h; rfl
def f_X11_byteAt (p1 : Int) (M : e_M) : Option (Int × e_M) := (if p1 < (M 64 2) then (if (0 ≤ p1 ∧ p1 < 600) then (some ((M 65 p1.toNat), M)) else none) else (some ((-1), M)))
theorem s_X11_byteAt {X : e_X} {d gn : Nat} {p1 : Int} {M M' : e_M} {v : Int} (h : f_X11_byteAt   p1 M = some (v, M')) : e_E X d YX11_byteAt [.inr (.inr 64), .inl p1] (557, gn, e_RF, M) (.inl (some (.inl v)), (557, gn, e_RF, M')) := by
  unfold f_X11_byteAt at h
  refine wp_X11_byteAt_0  M p1 ?_
  refine ⟨fun c => ?_, fun c => ?_⟩
  · rw [if_pos c] at h
    obtain ⟨c1, h⟩ := f_gd h
    exact ⟨c1, by cases h; rfl⟩
  · rw [if_neg c] at h
    cases h; rfl
def f_X11_choose_4 : Nat → Int → Int → Int → Int → e_M → Option (Int × e_M)
  | 0, _, _, _, _, _ => none
  | n + 1, p0, p1, v2, v3, M => (if p1 < v3 then (some (v2, M)) else (if v3 ≠ 0 then (f_X11_choose_4 n p0 p1 (e_w (Int.tdiv (e_w (v2 * (e_w ((e_w (p0 - p1)) + v3)))) v3)) (e_w (v3 + 1)) M) else none))
theorem s_X11_choose_4 {X : e_X} {d gn : Nat} : ∀ n : Nat, ∀ (p0 p1 v2 v3 : Int) (M M' : e_M) (v : Int), f_X11_choose_4  n p0 p1 v2 v3 M = some (v, M') → e_G X d YX11_choose 4 [some (.inl p0), some (.inl p1), some (.inl v2), some (.inl v3)] [] (557, gn, e_RF, M) (.inl (some (.inl v)), (557, gn, e_RF, M')) := by
  intro n
  induction n with
  | zero => intro p0 p1 v2 v3 M M' v h; cases h
  | succ n ih =>
    intro p0 p1 v2 v3 M M' v h
    rw [f_X11_choose_4] at h
    refine wp_X11_choose_4  M p0 p1 v2 v3 ?_
    refine ⟨fun c => ?_, fun c => ?_⟩
    · rw [if_pos c] at h
      cases h; rfl
    · rw [if_neg c] at h
      obtain ⟨c1, h⟩ := f_gd h
      refine ⟨c1, ?_⟩
      exact ih _ _ _ _ _ _ _ h
def f_X11_choose (n : Nat) (p0 p1 : Int) (M : e_M) : Option (Int × e_M) := (f_X11_choose_4 n p0 p1 1 1 M)
theorem s_X11_choose {X : e_X} {d gn : Nat} {n : Nat} {p0 p1 : Int} {M M' : e_M} {v : Int} (h : f_X11_choose  n p0 p1 M = some (v, M')) : e_E X d YX11_choose [.inl p0, .inl p1] (557, gn, e_RF, M) (.inl (some (.inl v)), (557, gn, e_RF, M')) := by
  unfold f_X11_choose at h
  refine wp_X11_choose_0  M p0 p1 ?_
  exact s_X11_choose_4  _ _ _ _ _ _ _ _ h
def f_X11_copies_2 (q0 : Nat) (q1 : Nat) : Nat → Int → e_M → Option (Int × e_M)
  | 0, _, _ => none
  | n + 1, v2, M => (if 56 ≤ v2 then (some (0, M)) else (if (0 ≤ v2 ∧ v2 < 56) then (if (0 ≤ v2 ∧ v2 < 56) then (f_X11_copies_2 q0 q1 n (e_w (v2 + 1)) (e_up M q1 v2.toNat (M q0 v2.toNat))) else none) else none))
theorem s_X11_copies_2 {X : e_X} {d gn : Nat} {q0 : Nat} {q1 : Nat} (hq0 : e_SH q0 = (20, 56)) (kq0 : q0 ≤ 557) (zq0 : q0 ≠ 0) (hq1 : e_SH q1 = (20, 56)) (kq1 : q1 ≤ 557) (zq1 : q1 ≠ 0) : ∀ n : Nat, ∀ (v2 : Int) (M M' : e_M) (v : Int), f_X11_copies_2 q0 q1 n v2 M = some (v, M') → e_G X d YX11_copies 2 [some (.inr (.inr q0)), some (.inr (.inr q1)), some (.inl v2)] [] (557, gn, e_RF, M) (.inl none, (557, gn, e_RF, M')) := by
  intro n
  induction n with
  | zero => intro v2 M M' v h; cases h
  | succ n ih =>
    intro v2 M M' v h
    rw [f_X11_copies_2] at h
    refine wp_X11_copies_2 hq0 kq0 zq0 hq1 kq1 zq1 M v2 ?_
    refine ⟨fun c => ?_, fun c => ?_⟩
    · rw [if_pos c] at h
      cases h; rfl
    · rw [if_neg c] at h
      obtain ⟨c1, h⟩ := f_gd h
      refine ⟨c1, ?_⟩
      obtain ⟨c2, h⟩ := f_gd h
      refine ⟨c2, ?_⟩
      exact ih _ _ _ _ h
def f_X11_copies (q0 : Nat) (q1 : Nat) (n : Nat) (M : e_M) : Option (Int × e_M) := (f_X11_copies_2 q0 q1 n 0 M)
theorem s_X11_copies {X : e_X} {d gn : Nat} {q0 : Nat} {q1 : Nat} (hq0 : e_SH q0 = (20, 56)) (kq0 : q0 ≤ 557) (zq0 : q0 ≠ 0) (hq1 : e_SH q1 = (20, 56)) (kq1 : q1 ≤ 557) (zq1 : q1 ≠ 0) {n : Nat} {M M' : e_M} {v : Int} (h : f_X11_copies q0 q1 n  M = some (v, M')) : e_E X d YX11_copies [.inr (.inr q0), .inr (.inr q1)] (557, gn, e_RF, M) (.inl none, (557, gn, e_RF, M')) := by
  unfold f_X11_copies at h
  refine wp_X11_copies_0 hq0 kq0 zq0 hq1 kq1 zq1 M  ?_
  exact s_X11_copies_2 hq0 kq0 zq0 hq1 kq1 zq1 _ _ _ _ _ h
def f_X11_count (p1 : Int) (M : e_M) : Option (Int × e_M) := (if ¬ p1 = 0 then (if ¬ p1 = 1 then (if ¬ p1 = 2 then (some ((-1), (e_up M 64 0 0))) else (some (((e_up M 64 0 0) 64 36), (e_up M 64 0 0)))) else (some (((e_up M 64 0 0) 64 1), (e_up M 64 0 0)))) else (some (((e_up M 64 0 0) 64 38), (e_up M 64 0 0))))
theorem s_X11_count {X : e_X} {d gn : Nat} {p1 : Int} {M M' : e_M} {v : Int} (h : f_X11_count   p1 M = some (v, M')) : e_E X d YX11_count [.inr (.inr 64), .inl p1] (557, gn, e_RF, M) (.inl (some (.inl v)), (557, gn, e_RF, M')) := by
  unfold f_X11_count at h
  refine wp_X11_count_0  M p1 ?_
  refine ⟨fun c => ?_, fun c => ?_⟩
  · rw [if_pos c] at h
    refine ⟨fun c => ?_, fun c => ?_⟩
    · rw [if_pos c] at h
      refine ⟨fun c => ?_, fun c => ?_⟩
      · rw [if_pos c] at h
        cases h; rfl
      · rw [if_neg (not_not_intro c)] at h
        cases h; rfl
    · rw [if_neg (not_not_intro c)] at h
      cases h; rfl
  · rw [if_neg (not_not_intro c)] at h
    cases h; rfl
def f_X11_doneIn_4 (q0 : Nat) : Nat → Int → Int → e_M → Option (Int × e_M)
  | 0, _, _, _ => none
  | n + 1, v2, v3, M => (if (M 68 2) ≤ v3 then (some (v2, M)) else (if (0 ≤ (e_w (42 + v3)) ∧ (e_w (42 + v3)) < 56) then (f_X11_doneIn_4 q0 n (e_or v2 (e_shl (M q0 (e_w (42 + v3)).toNat) v3)) (e_w (v3 + 1)) M) else none))
theorem s_X11_doneIn_4 {X : e_X} {d gn : Nat} {q0 : Nat} (hq0 : e_SH q0 = (20, 56)) (kq0 : q0 ≤ 557) (zq0 : q0 ≠ 0) : ∀ n : Nat, ∀ (v2 v3 : Int) (M M' : e_M) (v : Int), f_X11_doneIn_4 q0 n v2 v3 M = some (v, M') → e_G X d YX11_doneIn 4 [some (.inr (.inr 64)), some (.inr (.inr q0)), some (.inl v2), some (.inl v3)] [] (557, gn, e_RF, M) (.inl (some (.inl v)), (557, gn, e_RF, M')) := by
  intro n
  induction n with
  | zero => intro v2 v3 M M' v h; cases h
  | succ n ih =>
    intro v2 v3 M M' v h
    rw [f_X11_doneIn_4] at h
    refine wp_X11_doneIn_4 hq0 kq0 zq0 M v2 v3 ?_
    refine ⟨fun c => ?_, fun c => ?_⟩
    · rw [if_pos c] at h
      cases h; rfl
    · rw [if_neg c] at h
      obtain ⟨c1, h⟩ := f_gd h
      refine ⟨c1, ?_⟩
      exact ih _ _ _ _ _ h
def f_X11_doneIn (q0 : Nat) (n : Nat) (M : e_M) : Option (Int × e_M) := (f_X11_doneIn_4 q0 n 0 0 M)
theorem s_X11_doneIn {X : e_X} {d gn : Nat} {q0 : Nat} (hq0 : e_SH q0 = (20, 56)) (kq0 : q0 ≤ 557) (zq0 : q0 ≠ 0) {n : Nat} {M M' : e_M} {v : Int} (h : f_X11_doneIn q0 n  M = some (v, M')) : e_E X d YX11_doneIn [.inr (.inr 64), .inr (.inr q0)] (557, gn, e_RF, M) (.inl (some (.inl v)), (557, gn, e_RF, M')) := by
  unfold f_X11_doneIn at h
  refine wp_X11_doneIn_0 hq0 kq0 zq0 M  ?_
  exact s_X11_doneIn_4 hq0 kq0 zq0 _ _ _ _ _ _ h
def f_X11_draw (p1 : Int) (M : e_M) : Option (Int × e_M) := (if p1 ≠ 0 then (some ((e_w (Int.tmod (e_and (e_shr ((e_up M 64 45 (e_w ((e_w ((M 64 45) * 1103515245)) + 12345))) 64 45) 16) 32767) p1)), (e_up M 64 45 (e_w ((e_w ((M 64 45) * 1103515245)) + 12345))))) else none)
theorem s_X11_draw {X : e_X} {d gn : Nat} {p1 : Int} {M M' : e_M} {v : Int} (h : f_X11_draw   p1 M = some (v, M')) : e_E X d YX11_draw [.inr (.inr 64), .inl p1] (557, gn, e_RF, M) (.inl (some (.inl v)), (557, gn, e_RF, M')) := by
  unfold f_X11_draw at h
  refine wp_X11_draw_0  M p1 ?_
  obtain ⟨c1, h⟩ := f_gd h
  exact ⟨c1, by cases h; rfl⟩
def f_X11_ends (M : e_M) : Option (Int × e_M) := (some ((e_w (((e_up M 64 3 (M 64 6)) 64 5) - 10)), (e_up M 64 3 (M 64 6))))
theorem s_X11_ends {X : e_X} {d gn : Nat} {M M' : e_M} {v : Int} (h : f_X11_ends    M = some (v, M')) : e_E X d YX11_ends [.inr (.inr 64)] (557, gn, e_RF, M) (.inl (some (.inl v)), (557, gn, e_RF, M')) := by
  unfold f_X11_ends at h
  refine wp_X11_ends_0  M  ?_
  cases h; rfl
def f_X11_fault (M : e_M) : Option (Int × e_M) := (some (((e_up M 64 0 0) 64 3), (e_up M 64 0 0)))
theorem s_X11_fault {X : e_X} {d gn : Nat} {M M' : e_M} {v : Int} (h : f_X11_fault    M = some (v, M')) : e_E X d YX11_fault [.inr (.inr 64)] (557, gn, e_RF, M) (.inl (some (.inl v)), (557, gn, e_RF, M')) := by
  unfold f_X11_fault at h
  refine wp_X11_fault_0  M  ?_
  cases h; rfl
def f_X11_feed_23 : Nat → Int → Int → Int → Int → Int → Int → e_M → Option (Int × e_M)
  | 0, _, _, _, _, _, _, _ => none
  | n + 1, p1, p2, p3, p4, p5, v6, M => (if 20 ≤ v6 then (some ((M 64 1), M)) else (if 4 ≤ v6 then (if 8 ≤ v6 then (if 12 ≤ v6 then (if 16 ≤ v6 then (if (0 ≤ (M 64 1) ∧ (M 64 1) < 600) then (f_X11_feed_23 n p1 p2 p3 p4 p5 (e_w (v6 + 1)) (e_up (e_up M 65 (M 64 1).toNat (e_and (e_shr p5 (e_w (24 - (e_w (8 * (e_w (Int.tmod v6 4))))))) 255)) 64 1 (e_w (((e_up M 65 (M 64 1).toNat (e_and (e_shr p5 (e_w (24 - (e_w (8 * (e_w (Int.tmod v6 4))))))) 255)) 64 1) + 1)))) else none) else (if (0 ≤ (M 64 1) ∧ (M 64 1) < 600) then (f_X11_feed_23 n p1 p2 p3 p4 p5 (e_w (v6 + 1)) (e_up (e_up M 65 (M 64 1).toNat (e_and (e_shr p4 (e_w (24 - (e_w (8 * (e_w (Int.tmod v6 4))))))) 255)) 64 1 (e_w (((e_up M 65 (M 64 1).toNat (e_and (e_shr p4 (e_w (24 - (e_w (8 * (e_w (Int.tmod v6 4))))))) 255)) 64 1) + 1)))) else none)) else (if (0 ≤ (M 64 1) ∧ (M 64 1) < 600) then (f_X11_feed_23 n p1 p2 p3 p4 p5 (e_w (v6 + 1)) (e_up (e_up M 65 (M 64 1).toNat (e_and (e_shr p3 (e_w (24 - (e_w (8 * (e_w (Int.tmod v6 4))))))) 255)) 64 1 (e_w (((e_up M 65 (M 64 1).toNat (e_and (e_shr p3 (e_w (24 - (e_w (8 * (e_w (Int.tmod v6 4))))))) 255)) 64 1) + 1)))) else none)) else (if (0 ≤ (M 64 1) ∧ (M 64 1) < 600) then (f_X11_feed_23 n p1 p2 p3 p4 p5 (e_w (v6 + 1)) (e_up (e_up M 65 (M 64 1).toNat (e_and (e_shr p2 (e_w (24 - (e_w (8 * (e_w (Int.tmod v6 4))))))) 255)) 64 1 (e_w (((e_up M 65 (M 64 1).toNat (e_and (e_shr p2 (e_w (24 - (e_w (8 * (e_w (Int.tmod v6 4))))))) 255)) 64 1) + 1)))) else none)) else (if (0 ≤ (M 64 1) ∧ (M 64 1) < 600) then (f_X11_feed_23 n p1 p2 p3 p4 p5 (e_w (v6 + 1)) (e_up (e_up M 65 (M 64 1).toNat (e_and (e_shr p1 (e_w (24 - (e_w (8 * (e_w (Int.tmod v6 4))))))) 255)) 64 1 (e_w (((e_up M 65 (M 64 1).toNat (e_and (e_shr p1 (e_w (24 - (e_w (8 * (e_w (Int.tmod v6 4))))))) 255)) 64 1) + 1)))) else none)))
theorem s_X11_feed_23 {X : e_X} {d gn : Nat} : ∀ n : Nat, ∀ (p1 p2 p3 p4 p5 v6 : Int) (M M' : e_M) (v : Int), f_X11_feed_23  n p1 p2 p3 p4 p5 v6 M = some (v, M') → e_G X d YX11_feed 23 [some (.inr (.inr 64)), some (.inl p1), some (.inl p2), some (.inl p3), some (.inl p4), some (.inl p5), some (.inl v6), none] [] (557, gn, e_RF, M) (.inl (some (.inl v)), (557, gn, e_RF, M')) := by
  intro n
  induction n with
  | zero => intro p1 p2 p3 p4 p5 v6 M M' v h; cases h
  | succ n ih =>
    intro p1 p2 p3 p4 p5 v6 M M' v h
    rw [f_X11_feed_23] at h
    refine wp_X11_feed_23  M p1 p2 p3 p4 p5 v6 ?_
    refine ⟨fun c => ?_, fun c => ?_⟩
    · rw [if_pos c] at h
      cases h; rfl
    · rw [if_neg c] at h
      refine ⟨fun c => ?_, fun c => ?_⟩
      · rw [if_pos c] at h
        refine ⟨fun c => ?_, fun c => ?_⟩
        · rw [if_pos c] at h
          refine ⟨fun c => ?_, fun c => ?_⟩
          · rw [if_pos c] at h
            refine ⟨fun c => ?_, fun c => ?_⟩
            · rw [if_pos c] at h
              refine wp_X11_feed_76  _ _ _ _ _ _ _ _ ?_
              obtain ⟨c1, h⟩ := f_gd h
              refine ⟨c1, ?_⟩
              exact ih _ _ _ _ _ _ _ _ _ h
            · rw [if_neg c] at h
              refine wp_X11_feed_76  _ _ _ _ _ _ _ _ ?_
              obtain ⟨c2, h⟩ := f_gd h
              refine ⟨c2, ?_⟩
              exact ih _ _ _ _ _ _ _ _ _ h
          · rw [if_neg c] at h
            refine wp_X11_feed_76  _ _ _ _ _ _ _ _ ?_
            obtain ⟨c3, h⟩ := f_gd h
            refine ⟨c3, ?_⟩
            exact ih _ _ _ _ _ _ _ _ _ h
        · rw [if_neg c] at h
          refine wp_X11_feed_76  _ _ _ _ _ _ _ _ ?_
          obtain ⟨c4, h⟩ := f_gd h
          refine ⟨c4, ?_⟩
          exact ih _ _ _ _ _ _ _ _ _ h
      · rw [if_neg c] at h
        refine wp_X11_feed_76  _ _ _ _ _ _ _ _ ?_
        obtain ⟨c5, h⟩ := f_gd h
        refine ⟨c5, ?_⟩
        exact ih _ _ _ _ _ _ _ _ _ h
def f_X11_feed (n : Nat) (p1 p2 p3 p4 p5 : Int) (M : e_M) : Option (Int × e_M) := (if (e_w (((e_up M 64 0 0) 64 1) + 20)) ≤ 600 then (f_X11_feed_23 n p1 p2 p3 p4 p5 0 (e_up M 64 0 0)) else (some ((-1), (e_up M 64 0 0))))
theorem s_X11_feed {X : e_X} {d gn : Nat} {n : Nat} {p1 p2 p3 p4 p5 : Int} {M M' : e_M} {v : Int} (h : f_X11_feed  n p1 p2 p3 p4 p5 M = some (v, M')) : e_E X d YX11_feed [.inr (.inr 64), .inl p1, .inl p2, .inl p3, .inl p4, .inl p5] (557, gn, e_RF, M) (.inl (some (.inl v)), (557, gn, e_RF, M')) := by
  unfold f_X11_feed at h
  refine wp_X11_feed_0  M p1 p2 p3 p4 p5 ?_
  refine ⟨fun c => ?_, fun c => ?_⟩
  · rw [if_pos c] at h
    exact s_X11_feed_23  _ _ _ _ _ _ _ _ _ _ h
  · rw [if_neg c] at h
    cases h; rfl
def f_X11_has (p0 p1 : Int) (M : e_M) : Option (Int × e_M) := (if ¬ (e_and (e_shr p0 p1) 1) = 1 then (some (0, M)) else (some (1, M)))
theorem s_X11_has {X : e_X} {d gn : Nat} {p0 p1 : Int} {M M' : e_M} {v : Int} (h : f_X11_has   p0 p1 M = some (v, M')) : e_E X d YX11_has [.inl p0, .inl p1] (557, gn, e_RF, M) (.inl (some (.inl v)), (557, gn, e_RF, M')) := by
  unfold f_X11_has at h
  refine wp_X11_has_0  M p0 p1 ?_
  refine ⟨fun c => ?_, fun c => ?_⟩
  · rw [if_pos c] at h
    cases h; rfl
  · rw [if_neg (not_not_intro c)] at h
    cases h; rfl
def f_X11_hasBy (p0 p1 p2 p3 : Int) (M : e_M) : Option (Int × e_M) := (if ¬ p0 = 0 then (if ¬ p1 = 0 then (some (0, M)) else (some ((-1), M))) else (if ¬ p1 = 0 then (some (p3, M)) else (some (p2, M))))
theorem s_X11_hasBy {X : e_X} {d gn : Nat} {p0 p1 p2 p3 : Int} {M M' : e_M} {v : Int} (h : f_X11_hasBy   p0 p1 p2 p3 M = some (v, M')) : e_E X d YX11_hasBy [.inl p0, .inl p1, .inl p2, .inl p3] (557, gn, e_RF, M) (.inl (some (.inl v)), (557, gn, e_RF, M')) := by
  unfold f_X11_hasBy at h
  refine wp_X11_hasBy_0  M p0 p1 p2 p3 ?_
  refine ⟨fun c => ?_, fun c => ?_⟩
  · rw [if_pos c] at h
    refine ⟨fun c => ?_, fun c => ?_⟩
    · rw [if_pos c] at h
      cases h; rfl
    · rw [if_neg (not_not_intro c)] at h
      cases h; rfl
  · rw [if_neg (not_not_intro c)] at h
    refine ⟨fun c => ?_, fun c => ?_⟩
    · rw [if_pos c] at h
      cases h; rfl
    · rw [if_neg (not_not_intro c)] at h
      cases h; rfl
def f_X11_in (p0 p1 p2 : Int) (M : e_M) : Option (Int × e_M) := (if p0 < p1 then (some (0, M)) else (if p2 < p0 then (some (0, M)) else (some (1, M))))
theorem s_X11_in {X : e_X} {d gn : Nat} {p0 p1 p2 : Int} {M M' : e_M} {v : Int} (h : f_X11_in   p0 p1 p2 M = some (v, M')) : e_E X d YX11_in [.inl p0, .inl p1, .inl p2] (557, gn, e_RF, M) (.inl (some (.inl v)), (557, gn, e_RF, M')) := by
  unfold f_X11_in at h
  refine wp_X11_in_0  M p0 p1 p2 ?_
  refine ⟨fun c => ?_, fun c => ?_⟩
  · rw [if_pos c] at h
    cases h; rfl
  · rw [if_neg c] at h
    refine ⟨fun c => ?_, fun c => ?_⟩
    · rw [if_pos c] at h
      cases h; rfl
    · rw [if_neg c] at h
      cases h; rfl
def f_X11_isBest (p0 p1 p2 p3 : Int) (M : e_M) : Option (Int × e_M) := (f_b (f_X11_hasBy p0 p1 p2 p3 M) fun rr1 NN2 => (f_b (f_X11_hasBy (e_w (1 - p0)) p1 p2 p3 NN2) fun rr3 NN4 => (if rr1 < rr3 then (some (0, NN4)) else (some (1, NN4)))))
theorem s_X11_isBest {X : e_X} {d gn : Nat} {p0 p1 p2 p3 : Int} {M M' : e_M} {v : Int} (h : f_X11_isBest   p0 p1 p2 p3 M = some (v, M')) : e_E X (d + 1) YX11_isBest [.inl p0, .inl p1, .inl p2, .inl p3] (557, gn, e_RF, M) (.inl (some (.inl v)), (557, gn, e_RF, M')) := by
  unfold f_X11_isBest at h
  refine wp_X11_isBest_0 (d := d)  M p0 p1 p2 p3 (f_mn) ?_
  obtain ⟨rr5, NN6, hc7, h⟩ := f_bd h
  refine ⟨rr5, NN6, s_X11_hasBy (d := d)  hc7, ?_⟩
  obtain ⟨rr8, NN9, hc10, h⟩ := f_bd h
  refine ⟨rr8, NN9, s_X11_hasBy (d := d)  hc10, ?_⟩
  refine ⟨fun c => ?_, fun c => ?_⟩
  · rw [if_pos c] at h
    cases h; rfl
  · rw [if_neg c] at h
    cases h; rfl
def f_X11_isDigit (p0 : Int) (M : e_M) : Option (Int × e_M) := (if p0 < 48 then (some (0, M)) else (if 57 < p0 then (some (0, M)) else (some (1, M))))
theorem s_X11_isDigit {X : e_X} {d gn : Nat} {p0 : Int} {M M' : e_M} {v : Int} (h : f_X11_isDigit   p0 M = some (v, M')) : e_E X d YX11_isDigit [.inl p0] (557, gn, e_RF, M) (.inl (some (.inl v)), (557, gn, e_RF, M')) := by
  unfold f_X11_isDigit at h
  refine wp_X11_isDigit_0  M p0 ?_
  refine ⟨fun c => ?_, fun c => ?_⟩
  · rw [if_pos c] at h
    cases h; rfl
  · rw [if_neg c] at h
    refine ⟨fun c => ?_, fun c => ?_⟩
    · rw [if_pos c] at h
      cases h; rfl
    · rw [if_neg c] at h
      cases h; rfl
def f_X11_isKept_2 : Nat → Int → Int → Int → e_M → Option (Int × e_M)
  | 0, _, _, _, _ => none
  | n + 1, p1, p2, v3, M => (if (M 68 2) ≤ v3 then (some (0, M)) else (if (0 ≤ v3 ∧ v3 < 12) then (if ¬ (M (101 + v3.toNat) 0) = p1 then (f_X11_isKept_2 n p1 p2 (e_w (v3 + 1)) M) else (if (0 ≤ (e_w (42 + v3)) ∧ (e_w (42 + v3)) < 56) then (if ¬ (M 532 (e_w (42 + v3)).toNat) = 0 then (f_X11_isKept_2 n p1 p2 (e_w (v3 + 1)) M) else (if (0 ≤ (e_w (30 + v3)) ∧ (e_w (30 + v3)) < 56) then (if ¬ (M 532 (e_w (30 + v3)).toNat) = p2 then (f_X11_isKept_2 n p1 p2 (e_w (v3 + 1)) M) else (some (1, M))) else none)) else none)) else none))
theorem s_X11_isKept_2 {X : e_X} {d gn : Nat} : ∀ n : Nat, ∀ (p1 p2 v3 : Int) (M M' : e_M) (v : Int), f_X11_isKept_2  n p1 p2 v3 M = some (v, M') → e_G X d YX11_isKept 2 [some (.inr (.inr 64)), some (.inl p1), some (.inl p2), some (.inl v3)] [] (557, gn, e_RF, M) (.inl (some (.inl v)), (557, gn, e_RF, M')) := by
  intro n
  induction n with
  | zero => intro p1 p2 v3 M M' v h; cases h
  | succ n ih =>
    intro p1 p2 v3 M M' v h
    rw [f_X11_isKept_2] at h
    refine wp_X11_isKept_2  M p1 p2 v3 ?_
    refine ⟨fun c => ?_, fun c => ?_⟩
    · rw [if_pos c] at h
      cases h; rfl
    · rw [if_neg c] at h
      obtain ⟨c1, h⟩ := f_gd h
      refine ⟨c1, ?_⟩
      refine ⟨fun c => ?_, fun c => ?_⟩
      · rw [if_pos c] at h
        exact ih _ _ _ _ _ _ h
      · rw [if_neg (not_not_intro c)] at h
        obtain ⟨c2, h⟩ := f_gd h
        refine ⟨c2, ?_⟩
        refine ⟨fun c => ?_, fun c => ?_⟩
        · rw [if_pos c] at h
          exact ih _ _ _ _ _ _ h
        · rw [if_neg (not_not_intro c)] at h
          obtain ⟨c3, h⟩ := f_gd h
          refine ⟨c3, ?_⟩
          refine ⟨fun c => ?_, fun c => ?_⟩
          · rw [if_pos c] at h
            exact ih _ _ _ _ _ _ h
          · rw [if_neg (not_not_intro c)] at h
            cases h; rfl
def f_X11_isKept (n : Nat) (p1 p2 : Int) (M : e_M) : Option (Int × e_M) := (f_X11_isKept_2 n p1 p2 0 M)
theorem s_X11_isKept {X : e_X} {d gn : Nat} {n : Nat} {p1 p2 : Int} {M M' : e_M} {v : Int} (h : f_X11_isKept  n p1 p2 M = some (v, M')) : e_E X d YX11_isKept [.inr (.inr 64), .inl p1, .inl p2] (557, gn, e_RF, M) (.inl (some (.inl v)), (557, gn, e_RF, M')) := by
  unfold f_X11_isKept at h
  refine wp_X11_isKept_0  M p1 p2 ?_
  exact s_X11_isKept_2  _ _ _ _ _ _ _ h
def f_X11_isPerson (p1 : Int) (M : e_M) : Option (Int × e_M) := (f_b (f_X11_in p1 0 (e_w ((M 68 0) - 1)) M) fun rr1 NN2 => (if (rr1 = 0 ∨ rr1 = 1) then (some (rr1, NN2)) else none))
theorem s_X11_isPerson {X : e_X} {d gn : Nat} {p1 : Int} {M M' : e_M} {v : Int} (h : f_X11_isPerson   p1 M = some (v, M')) : e_E X (d + 1) YX11_isPerson [.inr (.inr 64), .inl p1] (557, gn, e_RF, M) (.inl (some (.inl v)), (557, gn, e_RF, M')) := by
  unfold f_X11_isPerson at h
  refine wp_X11_isPerson_0 (d := d)  M p1 (f_mn) ?_
  obtain ⟨rr3, NN4, hc5, h⟩ := f_bd h
  refine ⟨rr3, NN4, s_X11_in (d := d)  hc5, ?_⟩
  obtain ⟨c6, h⟩ := f_gd h
  exact ⟨c6, by cases h; rfl⟩
def f_X11_isSmall (p0 : Int) (M : e_M) : Option (Int × e_M) := (if p0 < 97 then (some (0, M)) else (if 122 < p0 then (some (0, M)) else (some (1, M))))
theorem s_X11_isSmall {X : e_X} {d gn : Nat} {p0 : Int} {M M' : e_M} {v : Int} (h : f_X11_isSmall   p0 M = some (v, M')) : e_E X d YX11_isSmall [.inl p0] (557, gn, e_RF, M) (.inl (some (.inl v)), (557, gn, e_RF, M')) := by
  unfold f_X11_isSmall at h
  refine wp_X11_isSmall_0  M p0 ?_
  refine ⟨fun c => ?_, fun c => ?_⟩
  · rw [if_pos c] at h
    cases h; rfl
  · rw [if_neg c] at h
    refine ⟨fun c => ?_, fun c => ?_⟩
    · rw [if_pos c] at h
      cases h; rfl
    · rw [if_neg c] at h
      cases h; rfl
def f_X11_isSold (q0 : Nat) (p1 : Int) (M : e_M) : Option (Int × e_M) := (if (0 ≤ (e_w (18 + p1)) ∧ (e_w (18 + p1)) < 56) then (if (M q0 (e_w (18 + p1)).toNat) = (-1) then (some (0, M)) else (some (1, M))) else none)
theorem s_X11_isSold {X : e_X} {d gn : Nat} {q0 : Nat} (hq0 : e_SH q0 = (20, 56)) (kq0 : q0 ≤ 557) (zq0 : q0 ≠ 0) {p1 : Int} {M M' : e_M} {v : Int} (h : f_X11_isSold q0  p1 M = some (v, M')) : e_E X d YX11_isSold [.inr (.inr q0), .inl p1] (557, gn, e_RF, M) (.inl (some (.inl v)), (557, gn, e_RF, M')) := by
  unfold f_X11_isSold at h
  refine wp_X11_isSold_0 hq0 kq0 zq0 M p1 ?_
  obtain ⟨c1, h⟩ := f_gd h
  refine ⟨c1, ?_⟩
  refine ⟨fun c => ?_, fun c => ?_⟩
  · rw [if_pos c] at h
    cases h; rfl
  · rw [if_neg c] at h
    cases h; rfl
def f_X11_isToday (q0 : Nat) (p2 : Int) (M : e_M) : Option (Int × e_M) := (if (0 ≤ (e_w (42 + p2)) ∧ (e_w (42 + p2)) < 56) then (if ¬ (M q0 (e_w (42 + p2)).toNat) = 0 then (some (0, M)) else (if (0 ≤ (e_w (30 + p2)) ∧ (e_w (30 + p2)) < 56) then (if ¬ (M q0 (e_w (30 + p2)).toNat) = (M q0 55) then (some (0, M)) else (some (1, M))) else none)) else none)
theorem s_X11_isToday {X : e_X} {d gn : Nat} {q0 : Nat} (hq0 : e_SH q0 = (20, 56)) (kq0 : q0 ≤ 557) (zq0 : q0 ≠ 0) {p2 : Int} {M M' : e_M} {v : Int} (h : f_X11_isToday q0  p2 M = some (v, M')) : e_E X d YX11_isToday [.inr (.inr 64), .inr (.inr q0), .inl p2] (557, gn, e_RF, M) (.inl (some (.inl v)), (557, gn, e_RF, M')) := by
  unfold f_X11_isToday at h
  refine wp_X11_isToday_0 hq0 kq0 zq0 M p2 ?_
  obtain ⟨c1, h⟩ := f_gd h
  refine ⟨c1, ?_⟩
  refine ⟨fun c => ?_, fun c => ?_⟩
  · rw [if_pos c] at h
    cases h; rfl
  · rw [if_neg (not_not_intro c)] at h
    obtain ⟨c2, h⟩ := f_gd h
    refine ⟨c2, ?_⟩
    refine ⟨fun c => ?_, fun c => ?_⟩
    · rw [if_pos c] at h
      cases h; rfl
    · rw [if_neg (not_not_intro c)] at h
      cases h; rfl
def f_X11_isYear (p0 p1 p2 : Int) (M : e_M) : Option (Int × e_M) := (f_b (f_X11_in p0 1 96 M) fun rr1 NN2 => (if rr1 = 0 then (some (0, NN2)) else (f_b (f_X11_in p1 0 16 NN2) fun rr3 NN4 => (if rr3 = 0 then (some (0, NN4)) else (f_b (f_X11_in p2 0 16 NN4) fun rr5 NN6 => (if rr5 = 0 then (some (0, NN6)) else (some (1, NN6))))))))
theorem s_X11_isYear {X : e_X} {d gn : Nat} {p0 p1 p2 : Int} {M M' : e_M} {v : Int} (h : f_X11_isYear   p0 p1 p2 M = some (v, M')) : e_E X (d + 1) YX11_isYear [.inl p0, .inl p1, .inl p2] (557, gn, e_RF, M) (.inl (some (.inl v)), (557, gn, e_RF, M')) := by
  unfold f_X11_isYear at h
  refine wp_X11_isYear_0 (d := d)  M p0 p1 p2 (f_mn) ?_
  obtain ⟨rr7, NN8, hc9, h⟩ := f_bd h
  refine ⟨rr7, NN8, s_X11_in (d := d)  hc9, ?_⟩
  refine ⟨fun c => ?_, fun c => ?_⟩
  · rw [if_pos c] at h
    cases h; rfl
  · rw [if_neg c] at h
    obtain ⟨rr10, NN11, hc12, h⟩ := f_bd h
    refine ⟨rr10, NN11, s_X11_in (d := d)  hc12, ?_⟩
    refine ⟨fun c => ?_, fun c => ?_⟩
    · rw [if_pos c] at h
      cases h; rfl
    · rw [if_neg c] at h
      obtain ⟨rr13, NN14, hc15, h⟩ := f_bd h
      refine ⟨rr13, NN14, s_X11_in (d := d)  hc15, ?_⟩
      refine ⟨fun c => ?_, fun c => ?_⟩
      · rw [if_pos c] at h
        cases h; rfl
      · rw [if_neg c] at h
        cases h; rfl
def f_X11_lays_m_law_L2 : Nat → Nat → Int → Int → Int → e_M → Option (Int × e_M)
  | 0, _, _, _, _, _ => none
  | n + 1, k, p2, v3, v4, M => (if k = 0 then (if p2 ≤ v3 then (some (0, M)) else (f_X11_lays_m_law_L2 n 1 p2 v3 0 M)) else (if (0 ≤ v3 ∧ v3 < 160) then (if 2 ≤ v4 then (f_X11_lays_m_law_L2 n 0 p2 (e_w (v3 + 1)) 0 M) else (if (0 ≤ v3 ∧ v3 < 160) then (if (0 ≤ v3 ∧ v3 < 160) then (if (0 ≤ v4 ∧ v4 < 2) then (if (0 ≤ v4 ∧ v4 < 2) then (f_X11_lays_m_law_L2 n 1 p2 v3 (e_w (v4 + 1)) (e_up M (114 + v3.toNat) v4.toNat (M (275 + v3.toNat) v4.toNat))) else none) else none) else none) else none)) else none))
theorem s_X11_lays_m_law_L2 {X : e_X} {d gn : Nat} : ∀ n : Nat, (∀ (p2 v3 : Int) (M M' : e_M) (v : Int), f_X11_lays_m_law_L2  n 0 p2 v3 0 M = some (v, M') → e_G X d YX11_lays 2 [some (.inr (.inr 274)), some (.inr (.inr 113)), some (.inl p2), some (.inl v3), none] [] (557, gn, e_RF, M) (.inl none, (557, gn, e_RF, M'))) ∧ (∀ (p2 v3 v4 : Int) (M M' : e_M) (v : Int), f_X11_lays_m_law_L2  n 1 p2 v3 v4 M = some (v, M') → e_G X d YX11_lays 10 [some (.inr (.inr 274)), some (.inr (.inr 113)), some (.inl p2), some (.inl v3), some (.inl v4)] [] (557, gn, e_RF, M) (.inl none, (557, gn, e_RF, M'))) := by
  intro n
  induction n with
  | zero => exact ⟨(by intro p2 v3 M M' v h; cases h), (by intro p2 v3 v4 M M' v h; cases h)⟩
  | succ n ih =>
    refine ⟨?_, ?_⟩
    · intro p2 v3 M M' v h
      rw [f_X11_lays_m_law_L2, if_pos rfl] at h
      refine wp_X11_lays_m_law_2  M p2 v3 ?_
      refine ⟨fun c => ?_, fun c => ?_⟩
      · rw [if_pos c] at h
        cases h; rfl
      · rw [if_neg c] at h
        exact ih.2 _ _ _ _ _ _ h
    · intro p2 v3 v4 M M' v h
      rw [f_X11_lays_m_law_L2, if_neg (by decide)] at h
      refine wp_X11_lays_m_law_10  M p2 v3 v4 ?_
      obtain ⟨c1, h⟩ := f_gd h
      refine ⟨c1, ?_⟩
      refine ⟨fun c => ?_, fun c => ?_⟩
      · rw [if_pos c] at h
        exact ih.1 _ _ _ _ _ h
      · rw [if_neg c] at h
        obtain ⟨c2, h⟩ := f_gd h
        refine ⟨c2, ?_⟩
        obtain ⟨c3, h⟩ := f_gd h
        refine ⟨c3, ?_⟩
        obtain ⟨c4, h⟩ := f_gd h
        refine ⟨c4, ?_⟩
        obtain ⟨c5, h⟩ := f_gd h
        refine ⟨c5, ?_⟩
        exact ih.2 _ _ _ _ _ _ h
theorem s_X11_lays_m_law_2 {X : e_X} {d gn : Nat} (n : Nat) : (∀ (p2 v3 : Int) (M M' : e_M) (v : Int), f_X11_lays_m_law_L2  n 0 p2 v3 0 M = some (v, M') → e_G X d YX11_lays 2 [some (.inr (.inr 274)), some (.inr (.inr 113)), some (.inl p2), some (.inl v3), none] [] (557, gn, e_RF, M) (.inl none, (557, gn, e_RF, M'))) := (s_X11_lays_m_law_L2  n).1
theorem s_X11_lays_m_law_10 {X : e_X} {d gn : Nat} (n : Nat) : (∀ (p2 v3 v4 : Int) (M M' : e_M) (v : Int), f_X11_lays_m_law_L2  n 1 p2 v3 v4 M = some (v, M') → e_G X d YX11_lays 10 [some (.inr (.inr 274)), some (.inr (.inr 113)), some (.inl p2), some (.inl v3), some (.inl v4)] [] (557, gn, e_RF, M) (.inl none, (557, gn, e_RF, M'))) := (s_X11_lays_m_law_L2  n).2
def f_X11_lays_m_law (n : Nat) (p2 : Int) (M : e_M) : Option (Int × e_M) := (f_X11_lays_m_law_L2 n 0 p2 0 0 M)
theorem s_X11_lays_m_law {X : e_X} {d gn : Nat} {n : Nat} {p2 : Int} {M M' : e_M} {v : Int} (h : f_X11_lays_m_law  n p2 M = some (v, M')) : e_E X d YX11_lays [.inr (.inr 274), .inr (.inr 113), .inl p2] (557, gn, e_RF, M) (.inl none, (557, gn, e_RF, M')) := by
  unfold f_X11_lays_m_law at h
  refine wp_X11_lays_m_law_0  M p2 ?_
  exact s_X11_lays_m_law_2  _ _ _ _ _ _ h
def f_X11_lays_m_line_L2 : Nat → Nat → Int → Int → Int → e_M → Option (Int × e_M)
  | 0, _, _, _, _, _ => none
  | n + 1, k, p2, v3, v4, M => (if k = 0 then (if p2 ≤ v3 then (some (0, M)) else (f_X11_lays_m_line_L2 n 1 p2 v3 0 M)) else (if (0 ≤ v3 ∧ v3 < 6) then (if 2 ≤ v4 then (f_X11_lays_m_line_L2 n 0 p2 (e_w (v3 + 1)) 0 M) else (if (0 ≤ v3 ∧ v3 < 6) then (if (0 ≤ v3 ∧ v3 < 6) then (if (0 ≤ v4 ∧ v4 < 2) then (if (0 ≤ v4 ∧ v4 < 2) then (f_X11_lays_m_line_L2 n 1 p2 v3 (e_w (v4 + 1)) (e_up M (436 + v3.toNat) v4.toNat (M (443 + v3.toNat) v4.toNat))) else none) else none) else none) else none)) else none))
theorem s_X11_lays_m_line_L2 {X : e_X} {d gn : Nat} : ∀ n : Nat, (∀ (p2 v3 : Int) (M M' : e_M) (v : Int), f_X11_lays_m_line_L2  n 0 p2 v3 0 M = some (v, M') → e_G X d YX11_lays 2 [some (.inr (.inr 442)), some (.inr (.inr 435)), some (.inl p2), some (.inl v3), none] [] (557, gn, e_RF, M) (.inl none, (557, gn, e_RF, M'))) ∧ (∀ (p2 v3 v4 : Int) (M M' : e_M) (v : Int), f_X11_lays_m_line_L2  n 1 p2 v3 v4 M = some (v, M') → e_G X d YX11_lays 10 [some (.inr (.inr 442)), some (.inr (.inr 435)), some (.inl p2), some (.inl v3), some (.inl v4)] [] (557, gn, e_RF, M) (.inl none, (557, gn, e_RF, M'))) := by
  intro n
  induction n with
  | zero => exact ⟨(by intro p2 v3 M M' v h; cases h), (by intro p2 v3 v4 M M' v h; cases h)⟩
  | succ n ih =>
    refine ⟨?_, ?_⟩
    · intro p2 v3 M M' v h
      rw [f_X11_lays_m_line_L2, if_pos rfl] at h
      refine wp_X11_lays_m_line_2  M p2 v3 ?_
      refine ⟨fun c => ?_, fun c => ?_⟩
      · rw [if_pos c] at h
        cases h; rfl
      · rw [if_neg c] at h
        exact ih.2 _ _ _ _ _ _ h
    · intro p2 v3 v4 M M' v h
      rw [f_X11_lays_m_line_L2, if_neg (by decide)] at h
      refine wp_X11_lays_m_line_10  M p2 v3 v4 ?_
      obtain ⟨c1, h⟩ := f_gd h
      refine ⟨c1, ?_⟩
      refine ⟨fun c => ?_, fun c => ?_⟩
      · rw [if_pos c] at h
        exact ih.1 _ _ _ _ _ h
      · rw [if_neg c] at h
        obtain ⟨c2, h⟩ := f_gd h
        refine ⟨c2, ?_⟩
        obtain ⟨c3, h⟩ := f_gd h
        refine ⟨c3, ?_⟩
        obtain ⟨c4, h⟩ := f_gd h
        refine ⟨c4, ?_⟩
        obtain ⟨c5, h⟩ := f_gd h
        refine ⟨c5, ?_⟩
        exact ih.2 _ _ _ _ _ _ h
theorem s_X11_lays_m_line_2 {X : e_X} {d gn : Nat} (n : Nat) : (∀ (p2 v3 : Int) (M M' : e_M) (v : Int), f_X11_lays_m_line_L2  n 0 p2 v3 0 M = some (v, M') → e_G X d YX11_lays 2 [some (.inr (.inr 442)), some (.inr (.inr 435)), some (.inl p2), some (.inl v3), none] [] (557, gn, e_RF, M) (.inl none, (557, gn, e_RF, M'))) := (s_X11_lays_m_line_L2  n).1
theorem s_X11_lays_m_line_10 {X : e_X} {d gn : Nat} (n : Nat) : (∀ (p2 v3 v4 : Int) (M M' : e_M) (v : Int), f_X11_lays_m_line_L2  n 1 p2 v3 v4 M = some (v, M') → e_G X d YX11_lays 10 [some (.inr (.inr 442)), some (.inr (.inr 435)), some (.inl p2), some (.inl v3), some (.inl v4)] [] (557, gn, e_RF, M) (.inl none, (557, gn, e_RF, M'))) := (s_X11_lays_m_line_L2  n).2
def f_X11_lays_m_line (n : Nat) (p2 : Int) (M : e_M) : Option (Int × e_M) := (f_X11_lays_m_line_L2 n 0 p2 0 0 M)
theorem s_X11_lays_m_line {X : e_X} {d gn : Nat} {n : Nat} {p2 : Int} {M M' : e_M} {v : Int} (h : f_X11_lays_m_line  n p2 M = some (v, M')) : e_E X d YX11_lays [.inr (.inr 442), .inr (.inr 435), .inl p2] (557, gn, e_RF, M) (.inl none, (557, gn, e_RF, M')) := by
  unfold f_X11_lays_m_line at h
  refine wp_X11_lays_m_line_0  M p2 ?_
  exact s_X11_lays_m_line_2  _ _ _ _ _ _ h
def f_X11_lays_m_person_L2 : Nat → Nat → Int → Int → Int → e_M → Option (Int × e_M)
  | 0, _, _, _, _, _ => none
  | n + 1, k, p2, v3, v4, M => (if k = 0 then (if p2 ≤ v3 then (some (0, M)) else (f_X11_lays_m_person_L2 n 1 p2 v3 0 M)) else (if (0 ≤ v3 ∧ v3 < 6) then (if 2 ≤ v4 then (f_X11_lays_m_person_L2 n 0 p2 (e_w (v3 + 1)) 0 M) else (if (0 ≤ v3 ∧ v3 < 6) then (if (0 ≤ v3 ∧ v3 < 6) then (if (0 ≤ v4 ∧ v4 < 2) then (if (0 ≤ v4 ∧ v4 < 2) then (f_X11_lays_m_person_L2 n 1 p2 v3 (e_w (v4 + 1)) (e_up M (81 + v3.toNat) v4.toNat (M (74 + v3.toNat) v4.toNat))) else none) else none) else none) else none)) else none))
theorem s_X11_lays_m_person_L2 {X : e_X} {d gn : Nat} : ∀ n : Nat, (∀ (p2 v3 : Int) (M M' : e_M) (v : Int), f_X11_lays_m_person_L2  n 0 p2 v3 0 M = some (v, M') → e_G X d YX11_lays 2 [some (.inr (.inr 73)), some (.inr (.inr 80)), some (.inl p2), some (.inl v3), none] [] (557, gn, e_RF, M) (.inl none, (557, gn, e_RF, M'))) ∧ (∀ (p2 v3 v4 : Int) (M M' : e_M) (v : Int), f_X11_lays_m_person_L2  n 1 p2 v3 v4 M = some (v, M') → e_G X d YX11_lays 10 [some (.inr (.inr 73)), some (.inr (.inr 80)), some (.inl p2), some (.inl v3), some (.inl v4)] [] (557, gn, e_RF, M) (.inl none, (557, gn, e_RF, M'))) := by
  intro n
  induction n with
  | zero => exact ⟨(by intro p2 v3 M M' v h; cases h), (by intro p2 v3 v4 M M' v h; cases h)⟩
  | succ n ih =>
    refine ⟨?_, ?_⟩
    · intro p2 v3 M M' v h
      rw [f_X11_lays_m_person_L2, if_pos rfl] at h
      refine wp_X11_lays_m_person_2  M p2 v3 ?_
      refine ⟨fun c => ?_, fun c => ?_⟩
      · rw [if_pos c] at h
        cases h; rfl
      · rw [if_neg c] at h
        exact ih.2 _ _ _ _ _ _ h
    · intro p2 v3 v4 M M' v h
      rw [f_X11_lays_m_person_L2, if_neg (by decide)] at h
      refine wp_X11_lays_m_person_10  M p2 v3 v4 ?_
      obtain ⟨c1, h⟩ := f_gd h
      refine ⟨c1, ?_⟩
      refine ⟨fun c => ?_, fun c => ?_⟩
      · rw [if_pos c] at h
        exact ih.1 _ _ _ _ _ h
      · rw [if_neg c] at h
        obtain ⟨c2, h⟩ := f_gd h
        refine ⟨c2, ?_⟩
        obtain ⟨c3, h⟩ := f_gd h
        refine ⟨c3, ?_⟩
        obtain ⟨c4, h⟩ := f_gd h
        refine ⟨c4, ?_⟩
        obtain ⟨c5, h⟩ := f_gd h
        refine ⟨c5, ?_⟩
        exact ih.2 _ _ _ _ _ _ h
theorem s_X11_lays_m_person_2 {X : e_X} {d gn : Nat} (n : Nat) : (∀ (p2 v3 : Int) (M M' : e_M) (v : Int), f_X11_lays_m_person_L2  n 0 p2 v3 0 M = some (v, M') → e_G X d YX11_lays 2 [some (.inr (.inr 73)), some (.inr (.inr 80)), some (.inl p2), some (.inl v3), none] [] (557, gn, e_RF, M) (.inl none, (557, gn, e_RF, M'))) := (s_X11_lays_m_person_L2  n).1
theorem s_X11_lays_m_person_10 {X : e_X} {d gn : Nat} (n : Nat) : (∀ (p2 v3 v4 : Int) (M M' : e_M) (v : Int), f_X11_lays_m_person_L2  n 1 p2 v3 v4 M = some (v, M') → e_G X d YX11_lays 10 [some (.inr (.inr 73)), some (.inr (.inr 80)), some (.inl p2), some (.inl v3), some (.inl v4)] [] (557, gn, e_RF, M) (.inl none, (557, gn, e_RF, M'))) := (s_X11_lays_m_person_L2  n).2
def f_X11_lays_m_person (n : Nat) (p2 : Int) (M : e_M) : Option (Int × e_M) := (f_X11_lays_m_person_L2 n 0 p2 0 0 M)
theorem s_X11_lays_m_person {X : e_X} {d gn : Nat} {n : Nat} {p2 : Int} {M M' : e_M} {v : Int} (h : f_X11_lays_m_person  n p2 M = some (v, M')) : e_E X d YX11_lays [.inr (.inr 73), .inr (.inr 80), .inl p2] (557, gn, e_RF, M) (.inl none, (557, gn, e_RF, M')) := by
  unfold f_X11_lays_m_person at h
  refine wp_X11_lays_m_person_0  M p2 ?_
  exact s_X11_lays_m_person_2  _ _ _ _ _ _ h
def f_X11_lays_m_task_L2 : Nat → Nat → Int → Int → Int → e_M → Option (Int × e_M)
  | 0, _, _, _, _, _ => none
  | n + 1, k, p2, v3, v4, M => (if k = 0 then (if p2 ≤ v3 then (some (0, M)) else (f_X11_lays_m_task_L2 n 1 p2 v3 0 M)) else (if (0 ≤ v3 ∧ v3 < 12) then (if 3 ≤ v4 then (f_X11_lays_m_task_L2 n 0 p2 (e_w (v3 + 1)) 0 M) else (if (0 ≤ v3 ∧ v3 < 12) then (if (0 ≤ v3 ∧ v3 < 12) then (if (0 ≤ v4 ∧ v4 < 3) then (if (0 ≤ v4 ∧ v4 < 3) then (f_X11_lays_m_task_L2 n 1 p2 v3 (e_w (v4 + 1)) (e_up M (101 + v3.toNat) v4.toNat (M (88 + v3.toNat) v4.toNat))) else none) else none) else none) else none)) else none))
theorem s_X11_lays_m_task_L2 {X : e_X} {d gn : Nat} : ∀ n : Nat, (∀ (p2 v3 : Int) (M M' : e_M) (v : Int), f_X11_lays_m_task_L2  n 0 p2 v3 0 M = some (v, M') → e_G X d YX11_lays 2 [some (.inr (.inr 87)), some (.inr (.inr 100)), some (.inl p2), some (.inl v3), none] [] (557, gn, e_RF, M) (.inl none, (557, gn, e_RF, M'))) ∧ (∀ (p2 v3 v4 : Int) (M M' : e_M) (v : Int), f_X11_lays_m_task_L2  n 1 p2 v3 v4 M = some (v, M') → e_G X d YX11_lays 10 [some (.inr (.inr 87)), some (.inr (.inr 100)), some (.inl p2), some (.inl v3), some (.inl v4)] [] (557, gn, e_RF, M) (.inl none, (557, gn, e_RF, M'))) := by
  intro n
  induction n with
  | zero => exact ⟨(by intro p2 v3 M M' v h; cases h), (by intro p2 v3 v4 M M' v h; cases h)⟩
  | succ n ih =>
    refine ⟨?_, ?_⟩
    · intro p2 v3 M M' v h
      rw [f_X11_lays_m_task_L2, if_pos rfl] at h
      refine wp_X11_lays_m_task_2  M p2 v3 ?_
      refine ⟨fun c => ?_, fun c => ?_⟩
      · rw [if_pos c] at h
        cases h; rfl
      · rw [if_neg c] at h
        exact ih.2 _ _ _ _ _ _ h
    · intro p2 v3 v4 M M' v h
      rw [f_X11_lays_m_task_L2, if_neg (by decide)] at h
      refine wp_X11_lays_m_task_10  M p2 v3 v4 ?_
      obtain ⟨c1, h⟩ := f_gd h
      refine ⟨c1, ?_⟩
      refine ⟨fun c => ?_, fun c => ?_⟩
      · rw [if_pos c] at h
        exact ih.1 _ _ _ _ _ h
      · rw [if_neg c] at h
        obtain ⟨c2, h⟩ := f_gd h
        refine ⟨c2, ?_⟩
        obtain ⟨c3, h⟩ := f_gd h
        refine ⟨c3, ?_⟩
        obtain ⟨c4, h⟩ := f_gd h
        refine ⟨c4, ?_⟩
        obtain ⟨c5, h⟩ := f_gd h
        refine ⟨c5, ?_⟩
        exact ih.2 _ _ _ _ _ _ h
theorem s_X11_lays_m_task_2 {X : e_X} {d gn : Nat} (n : Nat) : (∀ (p2 v3 : Int) (M M' : e_M) (v : Int), f_X11_lays_m_task_L2  n 0 p2 v3 0 M = some (v, M') → e_G X d YX11_lays 2 [some (.inr (.inr 87)), some (.inr (.inr 100)), some (.inl p2), some (.inl v3), none] [] (557, gn, e_RF, M) (.inl none, (557, gn, e_RF, M'))) := (s_X11_lays_m_task_L2  n).1
theorem s_X11_lays_m_task_10 {X : e_X} {d gn : Nat} (n : Nat) : (∀ (p2 v3 v4 : Int) (M M' : e_M) (v : Int), f_X11_lays_m_task_L2  n 1 p2 v3 v4 M = some (v, M') → e_G X d YX11_lays 10 [some (.inr (.inr 87)), some (.inr (.inr 100)), some (.inl p2), some (.inl v3), some (.inl v4)] [] (557, gn, e_RF, M) (.inl none, (557, gn, e_RF, M'))) := (s_X11_lays_m_task_L2  n).2
def f_X11_lays_m_task (n : Nat) (p2 : Int) (M : e_M) : Option (Int × e_M) := (f_X11_lays_m_task_L2 n 0 p2 0 0 M)
theorem s_X11_lays_m_task {X : e_X} {d gn : Nat} {n : Nat} {p2 : Int} {M M' : e_M} {v : Int} (h : f_X11_lays_m_task  n p2 M = some (v, M')) : e_E X d YX11_lays [.inr (.inr 87), .inr (.inr 100), .inl p2] (557, gn, e_RF, M) (.inl none, (557, gn, e_RF, M')) := by
  unfold f_X11_lays_m_task at h
  refine wp_X11_lays_m_task_0  M p2 ?_
  exact s_X11_lays_m_task_2  _ _ _ _ _ _ h
def f_X11_leftIn_4 (q0 : Nat) : Nat → Int → Int → e_M → Option (Int × e_M)
  | 0, _, _, _ => none
  | n + 1, v2, v3, M => (if (M 68 0) ≤ v3 then (some ((e_and (e_w ((e_shl 1 (M 68 1)) - 1)) (e_xor v2 (-1))), M)) else (f_b (f_X11_isSold q0 v3 M) fun rr1 NN2 => (if rr1 = 0 then (if (0 ≤ v3 ∧ v3 < 6) then (f_X11_leftIn_4 q0 n (e_or v2 (NN2 72 v3.toNat)) (e_w (v3 + 1)) NN2) else none) else (f_X11_leftIn_4 q0 n (e_or v2 0) (e_w (v3 + 1)) NN2))))
theorem s_X11_leftIn_4 {X : e_X} {d gn : Nat} {q0 : Nat} (hq0 : e_SH q0 = (20, 56)) (kq0 : q0 ≤ 557) (zq0 : q0 ≠ 0) : ∀ n : Nat, ∀ (v2 v3 : Int) (M M' : e_M) (v : Int), f_X11_leftIn_4 q0 n v2 v3 M = some (v, M') → e_G X (d + 1) YX11_leftIn 4 [some (.inr (.inr 64)), some (.inr (.inr q0)), some (.inl v2), some (.inl v3)] [] (557, gn, e_RF, M) (.inl (some (.inl v)), (557, gn, e_RF, M')) := by
  intro n
  induction n with
  | zero => intro v2 v3 M M' v h; cases h
  | succ n ih =>
    intro v2 v3 M M' v h
    rw [f_X11_leftIn_4] at h
    refine wp_X11_leftIn_4 (d := d) hq0 kq0 zq0 M v2 v3 (f_mn) ?_
    refine ⟨fun c => ?_, fun c => ?_⟩
    · rw [if_pos c] at h
      cases h; rfl
    · rw [if_neg c] at h
      obtain ⟨rr3, NN4, hc5, h⟩ := f_bd h
      refine ⟨rr3, NN4, s_X11_isSold (d := d) hq0 kq0 zq0 hc5, ?_⟩
      refine ⟨fun c => ?_, fun c => ?_⟩
      · rw [if_pos c] at h
        obtain ⟨c6, h⟩ := f_gd h
        refine ⟨c6, ?_⟩
        exact ih _ _ _ _ _ h
      · rw [if_neg c] at h
        exact ih _ _ _ _ _ h
def f_X11_leftIn (q0 : Nat) (n : Nat) (M : e_M) : Option (Int × e_M) := (f_X11_leftIn_4 q0 n 0 0 M)
theorem s_X11_leftIn {X : e_X} {d gn : Nat} {q0 : Nat} (hq0 : e_SH q0 = (20, 56)) (kq0 : q0 ≤ 557) (zq0 : q0 ≠ 0) {n : Nat} {M M' : e_M} {v : Int} (h : f_X11_leftIn q0 n  M = some (v, M')) : e_E X (d + 1) YX11_leftIn [.inr (.inr 64), .inr (.inr q0)] (557, gn, e_RF, M) (.inl (some (.inl v)), (557, gn, e_RF, M')) := by
  unfold f_X11_leftIn at h
  refine wp_X11_leftIn_0 (d := d) hq0 kq0 zq0 M  ?_
  exact s_X11_leftIn_4 hq0 kq0 zq0 _ _ _ _ _ _ h
def f_X11_less (p0 p1 : Int) (M : e_M) : Option (Int × e_M) := (if p1 ≤ p0 then (some (p1, M)) else (some (p0, M)))
theorem s_X11_less {X : e_X} {d gn : Nat} {p0 p1 : Int} {M M' : e_M} {v : Int} (h : f_X11_less   p0 p1 M = some (v, M')) : e_E X d YX11_less [.inl p0, .inl p1] (557, gn, e_RF, M) (.inl (some (.inl v)), (557, gn, e_RF, M')) := by
  unfold f_X11_less at h
  refine wp_X11_less_0  M p0 p1 ?_
  refine ⟨fun c => ?_, fun c => ?_⟩
  · rw [if_pos c] at h
    cases h; rfl
  · rw [if_neg c] at h
    cases h; rfl
def f_X11_lone_L9 : Nat → Nat → Int → Int → Int → Int → e_M → Option (Int × e_M)
  | 0, _, _, _, _, _, _ => none
  | n + 1, k, v1, v2, v3, v4, M => (if k = 0 then (if (M 68 1) ≤ v2 then (some (v1, M)) else (f_X11_lone_L9 n 1 v1 v2 0 0 M)) else (if (M 68 0) ≤ v4 then (if ¬ v3 = 1 then (f_X11_lone_L9 n 0 (e_or v1 0) (e_w (v2 + 1)) 0 0 M) else (f_X11_lone_L9 n 0 (e_or v1 (e_shl 1 v2)) (e_w (v2 + 1)) 0 0 M)) else (if (0 ≤ v4 ∧ v4 < 6) then (f_b (f_X11_has (M 72 v4.toNat) v2 M) fun rr1 NN2 => (if rr1 = 0 then (f_X11_lone_L9 n 1 v1 v2 (e_w (v3 + 0)) (e_w (v4 + 1)) NN2) else (f_X11_lone_L9 n 1 v1 v2 (e_w (v3 + 1)) (e_w (v4 + 1)) NN2))) else none)))
theorem s_X11_lone_L9 {X : e_X} {d gn : Nat} : ∀ n : Nat, (∀ (v1 v2 : Int) (M M' : e_M) (v : Int), f_X11_lone_L9  n 0 v1 v2 0 0 M = some (v, M') → e_G X (d + 1) YX11_lone 9 [some (.inr (.inr 64)), some (.inl v1), some (.inl v2), none, none] [] (557, gn, e_RF, M) (.inl (some (.inl v)), (557, gn, e_RF, M'))) ∧ (∀ (v1 v2 v3 v4 : Int) (M M' : e_M) (v : Int), f_X11_lone_L9  n 1 v1 v2 v3 v4 M = some (v, M') → e_G X (d + 1) YX11_lone 24 [some (.inr (.inr 64)), some (.inl v1), some (.inl v2), some (.inl v3), some (.inl v4)] [] (557, gn, e_RF, M) (.inl (some (.inl v)), (557, gn, e_RF, M'))) := by
  intro n
  induction n with
  | zero => exact ⟨(by intro v1 v2 M M' v h; cases h), (by intro v1 v2 v3 v4 M M' v h; cases h)⟩
  | succ n ih =>
    refine ⟨?_, ?_⟩
    · intro v1 v2 M M' v h
      rw [f_X11_lone_L9, if_pos rfl] at h
      refine wp_X11_lone_9 (d := d)  M v1 v2 ?_
      refine ⟨fun c => ?_, fun c => ?_⟩
      · rw [if_pos c] at h
        cases h; rfl
      · rw [if_neg c] at h
        exact ih.2 _ _ _ _ _ _ _ h
    · intro v1 v2 v3 v4 M M' v h
      rw [f_X11_lone_L9, if_neg (by decide)] at h
      refine wp_X11_lone_24 (d := d)  M v1 v2 v3 v4 (f_mn) ?_
      refine ⟨fun c => ?_, fun c => ?_⟩
      · rw [if_pos c] at h
        refine ⟨fun c => ?_, fun c => ?_⟩
        · rw [if_pos c] at h
          exact ih.1 _ _ _ _ _ h
        · rw [if_neg (not_not_intro c)] at h
          exact ih.1 _ _ _ _ _ h
      · rw [if_neg c] at h
        obtain ⟨c3, h⟩ := f_gd h
        refine ⟨c3, ?_⟩
        obtain ⟨rr4, NN5, hc6, h⟩ := f_bd h
        refine ⟨rr4, NN5, s_X11_has (d := d)  hc6, ?_⟩
        refine ⟨fun c => ?_, fun c => ?_⟩
        · rw [if_pos c] at h
          exact ih.2 _ _ _ _ _ _ _ h
        · rw [if_neg c] at h
          exact ih.2 _ _ _ _ _ _ _ h
theorem s_X11_lone_9 {X : e_X} {d gn : Nat} (n : Nat) : (∀ (v1 v2 : Int) (M M' : e_M) (v : Int), f_X11_lone_L9  n 0 v1 v2 0 0 M = some (v, M') → e_G X (d + 1) YX11_lone 9 [some (.inr (.inr 64)), some (.inl v1), some (.inl v2), none, none] [] (557, gn, e_RF, M) (.inl (some (.inl v)), (557, gn, e_RF, M'))) := (s_X11_lone_L9  n).1
theorem s_X11_lone_24 {X : e_X} {d gn : Nat} (n : Nat) : (∀ (v1 v2 v3 v4 : Int) (M M' : e_M) (v : Int), f_X11_lone_L9  n 1 v1 v2 v3 v4 M = some (v, M') → e_G X (d + 1) YX11_lone 24 [some (.inr (.inr 64)), some (.inl v1), some (.inl v2), some (.inl v3), some (.inl v4)] [] (557, gn, e_RF, M) (.inl (some (.inl v)), (557, gn, e_RF, M'))) := (s_X11_lone_L9  n).2
def f_X11_lone (n : Nat) (M : e_M) : Option (Int × e_M) := (f_X11_lone_L9 n 0 0 0 0 0 (e_up M 64 0 0))
theorem s_X11_lone {X : e_X} {d gn : Nat} {n : Nat} {M M' : e_M} {v : Int} (h : f_X11_lone  n  M = some (v, M')) : e_E X (d + 1) YX11_lone [.inr (.inr 64)] (557, gn, e_RF, M) (.inl (some (.inl v)), (557, gn, e_RF, M')) := by
  unfold f_X11_lone at h
  refine wp_X11_lone_0 (d := d)  M  ?_
  exact s_X11_lone_9  _ _ _ _ _ _ h
def f_X11_met_104 : Nat → Int → Int → Int → Int → Int → Int → Int → Int → e_M → Option (Int × e_M)
  | 0, _, _, _, _, _, _, _, _, _ => none
  | n + 1, p1, p2, p3, v4, v6, v8, v10, v12, M => (if (e_cmp v12 0) = 0 then (if ¬ p3 = 0 then (if v10 ≠ 0 then (some ((e_wl (Int.tdiv v6 v10)), M)) else none) else (if v10 ≠ 0 then (some ((e_wl (Int.tdiv v8 v10)), M)) else none)) else (if v12 ≠ 0 then (f_X11_met_104 n p1 p2 p3 v4 v6 v8 v12 (e_wl (Int.tmod v10 v12)) M) else none))
theorem s_X11_met_104 {X : e_X} {d gn : Nat} : ∀ n : Nat, ∀ (p1 p2 p3 v4 v6 v8 v10 v12 : Int) (M M' : e_M) (v : Int), f_X11_met_104  n p1 p2 p3 v4 v6 v8 v10 v12 M = some (v, M') → e_G X (d + 1) YX11_met 104 [some (.inr (.inr 64)), some (.inl p1), some (.inl p2), some (.inl p3), some (.inr (.inl v4)), none, some (.inr (.inl v6)), none, some (.inr (.inl v8)), none, some (.inr (.inl v10)), none, some (.inr (.inl v12)), none, none, none] [] (557, gn, e_RF, M) (.inl (some (.inr (.inl v))), (557, gn, e_RF, M')) := by
  intro n
  induction n with
  | zero => intro p1 p2 p3 v4 v6 v8 v10 v12 M M' v h; cases h
  | succ n ih =>
    intro p1 p2 p3 v4 v6 v8 v10 v12 M M' v h
    rw [f_X11_met_104] at h
    refine wp_X11_met_104 (d := d)  M p1 p2 p3 v4 v6 v8 v10 v12 ?_
    refine ⟨fun c => ?_, fun c => ?_⟩
    · rw [if_pos c] at h
      refine ⟨fun c => ?_, fun c => ?_⟩
      · rw [if_pos c] at h
        obtain ⟨c1, h⟩ := f_gd h
        exact ⟨c1, by cases h; rfl⟩
      · rw [if_neg (not_not_intro c)] at h
        obtain ⟨c2, h⟩ := f_gd h
        exact ⟨c2, by cases h; rfl⟩
    · rw [if_neg c] at h
      obtain ⟨c3, h⟩ := f_gd h
      refine ⟨c3, ?_⟩
      exact ih _ _ _ _ _ _ _ _ _ _ _ h
def f_X11_met_64 : Nat → Int → Int → Int → Int → Int → Int → e_M → Option (Int × e_M)
  | 0, _, _, _, _, _, _, _ => none
  | n + 1, p1, p2, p3, v4, v6, v8, M => (if p1 ≤ v8 then (f_X11_met_104 n p1 p2 p3 v4 v6 (e_wl (v6 - v4)) v6 (e_wl (v6 - v4)) M) else (f_X11_met_64 n p1 p2 p3 (e_wl (v4 * (e_w (256 - (e_w (p2 * p2)))))) v6 (e_w (v8 + 1)) M))
theorem s_X11_met_64 {X : e_X} {d gn : Nat} : ∀ n : Nat, ∀ (p1 p2 p3 v4 v6 v8 : Int) (M M' : e_M) (v : Int), f_X11_met_64  n p1 p2 p3 v4 v6 v8 M = some (v, M') → e_G X (d + 1) YX11_met 64 [some (.inr (.inr 64)), some (.inl p1), some (.inl p2), some (.inl p3), some (.inr (.inl v4)), none, some (.inr (.inl v6)), none, some (.inl v8), none, none, none, none, none, none, none] [] (557, gn, e_RF, M) (.inl (some (.inr (.inl v))), (557, gn, e_RF, M')) := by
  intro n
  induction n with
  | zero => intro p1 p2 p3 v4 v6 v8 M M' v h; cases h
  | succ n ih =>
    intro p1 p2 p3 v4 v6 v8 M M' v h
    rw [f_X11_met_64] at h
    refine wp_X11_met_64 (d := d)  M p1 p2 p3 v4 v6 v8 ?_
    refine ⟨fun c => ?_, fun c => ?_⟩
    · rw [if_pos c] at h
      exact s_X11_met_104  _ _ _ _ _ _ _ _ _ _ _ _ h
    · rw [if_neg c] at h
      exact ih _ _ _ _ _ _ _ _ _ h
def f_X11_met (n : Nat) (p1 p2 p3 : Int) (M : e_M) : Option (Int × e_M) := (f_b (f_X11_in p1 0 7 (e_up M 64 0 0)) fun rr4 NN5 => (if rr4 = 0 then (f_b (f_X11_bad 1 1 1 NN5) fun rr16 NN17 => (if rr16 = 0 then (f_X11_met_64 n p1 p2 p3 1 (e_lshl 1 (e_w (8 * p1))) 0 NN17) else (some (0, NN17)))) else (f_b (f_X11_in p2 0 16 NN5) fun rr6 NN7 => (if rr6 = 0 then (f_b (f_X11_bad 1 1 1 NN7) fun rr14 NN15 => (if rr14 = 0 then (f_X11_met_64 n p1 p2 p3 1 (e_lshl 1 (e_w (8 * p1))) 0 NN15) else (some (0, NN15)))) else (f_b (f_X11_in p3 0 1 NN7) fun rr8 NN9 => (if ¬ rr8 = 0 then (f_b (f_X11_bad 0 1 1 NN9) fun rr12 NN13 => (if rr12 = 0 then (f_X11_met_64 n p1 p2 p3 1 (e_lshl 1 (e_w (8 * p1))) 0 NN13) else (some (0, NN13)))) else (f_b (f_X11_bad 1 1 1 NN9) fun rr10 NN11 => (if rr10 = 0 then (f_X11_met_64 n p1 p2 p3 1 (e_lshl 1 (e_w (8 * p1))) 0 NN11) else (some (0, NN11))))))))))
theorem s_X11_met {X : e_X} {d gn : Nat} {n : Nat} {p1 p2 p3 : Int} {M M' : e_M} {v : Int} (h : f_X11_met  n p1 p2 p3 M = some (v, M')) : e_E X (d + 1) YX11_met [.inr (.inr 64), .inl p1, .inl p2, .inl p3] (557, gn, e_RF, M) (.inl (some (.inr (.inl v))), (557, gn, e_RF, M')) := by
  unfold f_X11_met at h
  refine wp_X11_met_0 (d := d)  M p1 p2 p3 (f_mn) ?_
  obtain ⟨rr18, NN19, hc20, h⟩ := f_bd h
  refine ⟨rr18, NN19, s_X11_in (d := d)  hc20, ?_⟩
  refine ⟨fun c => ?_, fun c => ?_⟩
  · rw [if_pos c] at h
    refine wp_X11_met_35 (d := d)  _ _ _ _ ?_
    refine wp_X11_met_40 (d := d)  _ _ _ _ _ (f_mn) ?_
    obtain ⟨rr21, NN22, hc23, h⟩ := f_bd h
    refine ⟨rr21, NN22, s_X11_bad (d := d)  hc23, ?_⟩
    refine ⟨fun c => ?_, fun c => ?_⟩
    · rw [if_pos c] at h
      exact s_X11_met_64  _ _ _ _ _ _ _ _ _ _ h
    · rw [if_neg c] at h
      cases h; rfl
  · rw [if_neg c] at h
    obtain ⟨rr24, NN25, hc26, h⟩ := f_bd h
    refine ⟨rr24, NN25, s_X11_in (d := d)  hc26, ?_⟩
    refine ⟨fun c => ?_, fun c => ?_⟩
    · rw [if_pos c] at h
      refine wp_X11_met_35 (d := d)  _ _ _ _ ?_
      refine wp_X11_met_40 (d := d)  _ _ _ _ _ (f_mn) ?_
      obtain ⟨rr27, NN28, hc29, h⟩ := f_bd h
      refine ⟨rr27, NN28, s_X11_bad (d := d)  hc29, ?_⟩
      refine ⟨fun c => ?_, fun c => ?_⟩
      · rw [if_pos c] at h
        exact s_X11_met_64  _ _ _ _ _ _ _ _ _ _ h
      · rw [if_neg c] at h
        cases h; rfl
    · rw [if_neg c] at h
      obtain ⟨rr30, NN31, hc32, h⟩ := f_bd h
      refine ⟨rr30, NN31, s_X11_in (d := d)  hc32, ?_⟩
      refine ⟨fun c => ?_, fun c => ?_⟩
      · rw [if_pos c] at h
        refine wp_X11_met_40 (d := d)  _ _ _ _ _ (f_mn) ?_
        obtain ⟨rr33, NN34, hc35, h⟩ := f_bd h
        refine ⟨rr33, NN34, s_X11_bad (d := d)  hc35, ?_⟩
        refine ⟨fun c => ?_, fun c => ?_⟩
        · rw [if_pos c] at h
          exact s_X11_met_64  _ _ _ _ _ _ _ _ _ _ h
        · rw [if_neg c] at h
          cases h; rfl
      · rw [if_neg (not_not_intro c)] at h
        refine wp_X11_met_35 (d := d)  _ _ _ _ ?_
        refine wp_X11_met_40 (d := d)  _ _ _ _ _ (f_mn) ?_
        obtain ⟨rr36, NN37, hc38, h⟩ := f_bd h
        refine ⟨rr36, NN37, s_X11_bad (d := d)  hc38, ?_⟩
        refine ⟨fun c => ?_, fun c => ?_⟩
        · rw [if_pos c] at h
          exact s_X11_met_64  _ _ _ _ _ _ _ _ _ _ h
        · rw [if_neg c] at h
          cases h; rfl
def f_X11_missed_9 : Nat → Int → Int → e_M → Option (Int × e_M)
  | 0, _, _, _ => none
  | n + 1, v1, v2, M => (if (M 68 2) ≤ v2 then (some (v1, M)) else (if (0 ≤ (e_w (42 + v2)) ∧ (e_w (42 + v2)) < 56) then (if ¬ (M 532 (e_w (42 + v2)).toNat) = 0 then (f_X11_missed_9 n (e_or v1 0) (e_w (v2 + 1)) M) else (if (0 ≤ (e_w (30 + v2)) ∧ (e_w (30 + v2)) < 56) then (if (M 532 55) ≤ (M 532 (e_w (30 + v2)).toNat) then (f_X11_missed_9 n (e_or v1 0) (e_w (v2 + 1)) M) else (f_X11_missed_9 n (e_or v1 (e_shl 1 v2)) (e_w (v2 + 1)) M)) else none)) else none))
theorem s_X11_missed_9 {X : e_X} {d gn : Nat} : ∀ n : Nat, ∀ (v1 v2 : Int) (M M' : e_M) (v : Int), f_X11_missed_9  n v1 v2 M = some (v, M') → e_G X d YX11_missed 9 [some (.inr (.inr 64)), some (.inl v1), some (.inl v2)] [] (557, gn, e_RF, M) (.inl (some (.inl v)), (557, gn, e_RF, M')) := by
  intro n
  induction n with
  | zero => intro v1 v2 M M' v h; cases h
  | succ n ih =>
    intro v1 v2 M M' v h
    rw [f_X11_missed_9] at h
    refine wp_X11_missed_9  M v1 v2 ?_
    refine ⟨fun c => ?_, fun c => ?_⟩
    · rw [if_pos c] at h
      cases h; rfl
    · rw [if_neg c] at h
      obtain ⟨c1, h⟩ := f_gd h
      refine ⟨c1, ?_⟩
      refine ⟨fun c => ?_, fun c => ?_⟩
      · rw [if_pos c] at h
        exact ih _ _ _ _ _ h
      · rw [if_neg (not_not_intro c)] at h
        obtain ⟨c2, h⟩ := f_gd h
        refine ⟨c2, ?_⟩
        refine ⟨fun c => ?_, fun c => ?_⟩
        · rw [if_pos c] at h
          exact ih _ _ _ _ _ h
        · rw [if_neg c] at h
          exact ih _ _ _ _ _ h
def f_X11_missed (n : Nat) (M : e_M) : Option (Int × e_M) := (f_X11_missed_9 n 0 0 (e_up M 64 0 0))
theorem s_X11_missed {X : e_X} {d gn : Nat} {n : Nat} {M M' : e_M} {v : Int} (h : f_X11_missed  n  M = some (v, M')) : e_E X d YX11_missed [.inr (.inr 64)] (557, gn, e_RF, M) (.inl (some (.inl v)), (557, gn, e_RF, M')) := by
  unfold f_X11_missed at h
  refine wp_X11_missed_0  M  ?_
  exact s_X11_missed_9  _ _ _ _ _ _ h
def f_X11_more (p0 p1 : Int) (M : e_M) : Option (Int × e_M) := (if p0 ≤ p1 then (some (p1, M)) else (some (p0, M)))
theorem s_X11_more {X : e_X} {d gn : Nat} {p0 p1 : Int} {M M' : e_M} {v : Int} (h : f_X11_more   p0 p1 M = some (v, M')) : e_E X d YX11_more [.inl p0, .inl p1] (557, gn, e_RF, M) (.inl (some (.inl v)), (557, gn, e_RF, M')) := by
  unfold f_X11_more at h
  refine wp_X11_more_0  M p0 p1 ?_
  refine ⟨fun c => ?_, fun c => ?_⟩
  · rw [if_pos c] at h
    cases h; rfl
  · rw [if_neg c] at h
    cases h; rfl
def f_X11_mostOf (p0 : Int) (M : e_M) : Option (Int × e_M) := (if ¬ p0 = 2 then (some (6, M)) else (some (12, M)))
theorem s_X11_mostOf {X : e_X} {d gn : Nat} {p0 : Int} {M M' : e_M} {v : Int} (h : f_X11_mostOf   p0 M = some (v, M')) : e_E X d YX11_mostOf [.inl p0] (557, gn, e_RF, M) (.inl (some (.inl v)), (557, gn, e_RF, M')) := by
  unfold f_X11_mostOf at h
  refine wp_X11_mostOf_0  M p0 ?_
  refine ⟨fun c => ?_, fun c => ?_⟩
  · rw [if_pos c] at h
    cases h; rfl
  · rw [if_neg (not_not_intro c)] at h
    cases h; rfl
def f_X11_next_57 : Nat → Int → Int → Int → Int → e_M → Option (Int × e_M)
  | 0, _, _, _, _, _ => none
  | n + 1, p1, p2, v3, v4, M => (if (M 68 2) ≤ v4 then (if p2 = 0 then (some (v3, M)) else (if ¬ v3 = (-1) then (if (0 ≤ (e_w (30 + v3)) ∧ (e_w (30 + v3)) < 56) then (some ((e_w ((M 532 (e_w (30 + v3)).toNat) - (M 532 55))), M)) else none) else (some (v3, M)))) else (if (0 ≤ v4 ∧ v4 < 12) then (if ¬ (M (101 + v4.toNat) 0) = p1 then (f_X11_next_57 n p1 p2 v3 (e_w (v4 + 1)) M) else (if (0 ≤ (e_w (42 + v4)) ∧ (e_w (42 + v4)) < 56) then (if (M 532 (e_w (42 + v4)).toNat) = 1 then (f_X11_next_57 n p1 p2 v3 (e_w (v4 + 1)) M) else (if (0 ≤ (e_w (30 + v4)) ∧ (e_w (30 + v4)) < 56) then (if (M 532 55) ≤ (M 532 (e_w (30 + v4)).toNat) then (if v3 = (-1) then (f_X11_next_57 n p1 p2 v4 (e_w (v4 + 1)) M) else (if (0 ≤ (e_w (30 + v4)) ∧ (e_w (30 + v4)) < 56) then (if (0 ≤ (e_w (30 + v3)) ∧ (e_w (30 + v3)) < 56) then (if (M 532 (e_w (30 + v3)).toNat) ≤ (M 532 (e_w (30 + v4)).toNat) then (f_X11_next_57 n p1 p2 v3 (e_w (v4 + 1)) M) else (f_X11_next_57 n p1 p2 v4 (e_w (v4 + 1)) M)) else none) else none)) else (f_X11_next_57 n p1 p2 v3 (e_w (v4 + 1)) M)) else none)) else none)) else none))
theorem s_X11_next_57 {X : e_X} {d gn : Nat} : ∀ n : Nat, ∀ (p1 p2 v3 v4 : Int) (M M' : e_M) (v : Int), f_X11_next_57  n p1 p2 v3 v4 M = some (v, M') → e_G X (d + 2) YX11_next 57 [some (.inr (.inr 64)), some (.inl p1), some (.inl p2), some (.inl v3), some (.inl v4)] [] (557, gn, e_RF, M) (.inl (some (.inl v)), (557, gn, e_RF, M')) := by
  intro n
  induction n with
  | zero => intro p1 p2 v3 v4 M M' v h; cases h
  | succ n ih =>
    intro p1 p2 v3 v4 M M' v h
    rw [f_X11_next_57] at h
    refine wp_X11_next_57 (d := d + 1)  M p1 p2 v3 v4 ?_
    refine ⟨fun c => ?_, fun c => ?_⟩
    · rw [if_pos c] at h
      refine ⟨fun c => ?_, fun c => ?_⟩
      · rw [if_pos c] at h
        cases h; rfl
      · rw [if_neg c] at h
        refine ⟨fun c => ?_, fun c => ?_⟩
        · rw [if_pos c] at h
          obtain ⟨c1, h⟩ := f_gd h
          exact ⟨c1, by cases h; rfl⟩
        · rw [if_neg (not_not_intro c)] at h
          cases h; rfl
    · rw [if_neg c] at h
      obtain ⟨c2, h⟩ := f_gd h
      refine ⟨c2, ?_⟩
      refine ⟨fun c => ?_, fun c => ?_⟩
      · rw [if_pos c] at h
        exact ih _ _ _ _ _ _ _ h
      · rw [if_neg (not_not_intro c)] at h
        obtain ⟨c3, h⟩ := f_gd h
        refine ⟨c3, ?_⟩
        refine ⟨fun c => ?_, fun c => ?_⟩
        · rw [if_pos c] at h
          exact ih _ _ _ _ _ _ _ h
        · rw [if_neg c] at h
          obtain ⟨c4, h⟩ := f_gd h
          refine ⟨c4, ?_⟩
          refine ⟨fun c => ?_, fun c => ?_⟩
          · rw [if_pos c] at h
            refine ⟨fun c => ?_, fun c => ?_⟩
            · rw [if_pos c] at h
              exact ih _ _ _ _ _ _ _ h
            · rw [if_neg c] at h
              obtain ⟨c5, h⟩ := f_gd h
              refine ⟨c5, ?_⟩
              obtain ⟨c6, h⟩ := f_gd h
              refine ⟨c6, ?_⟩
              refine ⟨fun c => ?_, fun c => ?_⟩
              · rw [if_pos c] at h
                exact ih _ _ _ _ _ _ _ h
              · rw [if_neg c] at h
                exact ih _ _ _ _ _ _ _ h
          · rw [if_neg c] at h
            exact ih _ _ _ _ _ _ _ h
def f_X11_next_19 (n : Nat) (p1 p2 w0 : Int) (M : e_M) : Option (Int × e_M) := (f_b (f_X11_bad w0 1 0 M) fun rr7 NN8 => (if ¬ rr7 = 0 then (some (0, NN8)) else (f_b (f_X11_in p2 0 1 NN8) fun rr9 NN10 => (if ¬ rr9 = 0 then (f_b (f_X11_bad 0 2 1 NN10) fun rr13 NN14 => (if rr13 = 0 then (f_X11_next_57 n p1 p2 (-1) 0 NN14) else (some (0, NN14)))) else (f_b (f_X11_bad 1 2 1 NN10) fun rr11 NN12 => (if rr11 = 0 then (f_X11_next_57 n p1 p2 (-1) 0 NN12) else (some (0, NN12))))))))
theorem s_X11_next_19 {X : e_X} {d gn : Nat} {n : Nat} {p1 p2 w0 : Int} {M M' : e_M} {v : Int} (h : f_X11_next_19  n p1 p2 w0 M = some (v, M')) : e_G X (d + 2) YX11_next 19 [some (.inr (.inr 64)), some (.inl p1), some (.inl p2), none, none] [.inl w0, .inr (.inr 64)] (557, gn, e_RF, M) (.inl (some (.inl v)), (557, gn, e_RF, M')) := by
  unfold f_X11_next_19 at h
  refine wp_X11_next_19 (d := d + 1)  M p1 p2 w0 (f_mn) ?_
  obtain ⟨rr15, NN16, hc17, h⟩ := f_bd h
  refine ⟨rr15, NN16, s_X11_bad (d := d + 1)  hc17, ?_⟩
  refine ⟨fun c => ?_, fun c => ?_⟩
  · rw [if_pos c] at h
    cases h; rfl
  · rw [if_neg (not_not_intro c)] at h
    obtain ⟨rr18, NN19, hc20, h⟩ := f_bd h
    refine ⟨rr18, NN19, s_X11_in (d := d + 1)  hc20, ?_⟩
    refine ⟨fun c => ?_, fun c => ?_⟩
    · rw [if_pos c] at h
      refine wp_X11_next_42 (d := d + 1)  _ _ _ _ (f_mn) ?_
      obtain ⟨rr21, NN22, hc23, h⟩ := f_bd h
      refine ⟨rr21, NN22, s_X11_bad (d := d + 1)  hc23, ?_⟩
      refine ⟨fun c => ?_, fun c => ?_⟩
      · rw [if_pos c] at h
        exact s_X11_next_57  _ _ _ _ _ _ _ _ h
      · rw [if_neg c] at h
        cases h; rfl
    · rw [if_neg (not_not_intro c)] at h
      refine wp_X11_next_42 (d := d + 1)  _ _ _ _ (f_mn) ?_
      obtain ⟨rr24, NN25, hc26, h⟩ := f_bd h
      refine ⟨rr24, NN25, s_X11_bad (d := d + 1)  hc26, ?_⟩
      refine ⟨fun c => ?_, fun c => ?_⟩
      · rw [if_pos c] at h
        exact s_X11_next_57  _ _ _ _ _ _ _ _ h
      · rw [if_neg c] at h
        cases h; rfl
def f_X11_next (n : Nat) (p1 p2 : Int) (M : e_M) : Option (Int × e_M) := (f_b (f_X11_isPerson p1 (e_up M 64 0 0)) fun rr27 NN28 => (if ¬ rr27 = 0 then (f_X11_next_19 n p1 p2 0 NN28) else (f_X11_next_19 n p1 p2 1 NN28)))
theorem s_X11_next {X : e_X} {d gn : Nat} {n : Nat} {p1 p2 : Int} {M M' : e_M} {v : Int} (h : f_X11_next  n p1 p2 M = some (v, M')) : e_E X (d + 2) YX11_next [.inr (.inr 64), .inl p1, .inl p2] (557, gn, e_RF, M) (.inl (some (.inl v)), (557, gn, e_RF, M')) := by
  unfold f_X11_next at h
  refine wp_X11_next_0 (d := d + 1)  M p1 p2 (f_mn) ?_
  obtain ⟨rr29, NN30, hc31, h⟩ := f_bd h
  refine ⟨rr29, NN30, s_X11_isPerson (d := d)  hc31, ?_⟩
  refine ⟨fun c => ?_, fun c => ?_⟩
  · rw [if_pos c] at h
    exact s_X11_next_19  h
  · rw [if_neg (not_not_intro c)] at h
    exact s_X11_next_19  h
def f_X11_notes (p1 p2 : Int) (M : e_M) : Option (Int × e_M) := (if (M 64 5) = 0 then (if (0 ≤ (M 64 22) ∧ (M 64 22) < 160) then (if (0 ≤ ((e_up M (275 + (M 64 22).toNat) 0 p1) 64 22) ∧ ((e_up M (275 + (M 64 22).toNat) 0 p1) 64 22) < 160) then (some (0, (e_up (e_up (e_up M (275 + (M 64 22).toNat) 0 p1) (275 + ((e_up M (275 + (M 64 22).toNat) 0 p1) 64 22).toNat) 1 p2) 64 22 (e_w (((e_up (e_up M (275 + (M 64 22).toNat) 0 p1) (275 + ((e_up M (275 + (M 64 22).toNat) 0 p1) 64 22).toNat) 1 p2) 64 22) + 1))))) else none) else none) else (some (0, M)))
theorem s_X11_notes {X : e_X} {d gn : Nat} {p1 p2 : Int} {M M' : e_M} {v : Int} (h : f_X11_notes   p1 p2 M = some (v, M')) : e_E X d YX11_notes [.inr (.inr 64), .inl p1, .inl p2] (557, gn, e_RF, M) (.inl none, (557, gn, e_RF, M')) := by
  unfold f_X11_notes at h
  refine wp_X11_notes_0  M p1 p2 ?_
  refine ⟨fun c => ?_, fun c => ?_⟩
  · rw [if_pos c] at h
    obtain ⟨c1, h⟩ := f_gd h
    refine ⟨c1, ?_⟩
    obtain ⟨c2, h⟩ := f_gd h
    exact ⟨c2, by cases h; rfl⟩
  · rw [if_neg c] at h
    cases h; rfl
def f_X11_ones_4 : Nat → Int → Int → Int → e_M → Option (Int × e_M)
  | 0, _, _, _, _ => none
  | n + 1, p0, v1, v2, M => (if 16 ≤ v2 then (some (v1, M)) else (f_X11_ones_4 n p0 (e_w (v1 + (e_and (e_shr p0 v2) 1))) (e_w (v2 + 1)) M))
theorem s_X11_ones_4 {X : e_X} {d gn : Nat} : ∀ n : Nat, ∀ (p0 v1 v2 : Int) (M M' : e_M) (v : Int), f_X11_ones_4  n p0 v1 v2 M = some (v, M') → e_G X d YX11_ones 4 [some (.inl p0), some (.inl v1), some (.inl v2)] [] (557, gn, e_RF, M) (.inl (some (.inl v)), (557, gn, e_RF, M')) := by
  intro n
  induction n with
  | zero => intro p0 v1 v2 M M' v h; cases h
  | succ n ih =>
    intro p0 v1 v2 M M' v h
    rw [f_X11_ones_4] at h
    refine wp_X11_ones_4  M p0 v1 v2 ?_
    refine ⟨fun c => ?_, fun c => ?_⟩
    · rw [if_pos c] at h
      cases h; rfl
    · rw [if_neg c] at h
      exact ih _ _ _ _ _ _ h
def f_X11_ones (n : Nat) (p0 : Int) (M : e_M) : Option (Int × e_M) := (f_X11_ones_4 n p0 0 0 M)
theorem s_X11_ones {X : e_X} {d gn : Nat} {n : Nat} {p0 : Int} {M M' : e_M} {v : Int} (h : f_X11_ones  n p0 M = some (v, M')) : e_E X d YX11_ones [.inl p0] (557, gn, e_RF, M) (.inl (some (.inl v)), (557, gn, e_RF, M')) := by
  unfold f_X11_ones at h
  refine wp_X11_ones_0  M p0 ?_
  exact s_X11_ones_4  _ _ _ _ _ _ _ h
def f_X11_open_L62 : Nat → Nat → Int → Int → Int → Int → Int → Int → Int → Int → e_M → Option (Int × e_M)
  | 0, _, _, _, _, _, _, _, _, _, _ => none
  | n + 1, k, p1, p2, p3, v4, v5, v6, v7, v8, M => (if k = 0 then (if 2 ≤ v7 then (if ¬ p3 = 0 then (if ¬ p3 = 1 then (some (v6, M)) else (some (v5, M))) else (some (v4, M))) else (f_X11_open_L62 n 1 p1 p2 p3 v4 v5 v6 v7 0 M)) else (if 2 ≤ v8 then (f_X11_open_L62 n 0 p1 p2 p3 v4 v5 v6 (e_w (v7 + 1)) 0 M) else (f_b (f_X11_isBest v7 v8 p1 p2 M) fun rr1 NN2 => (if rr1 = 0 then (f_X11_open_L62 n 1 p1 p2 p3 v4 v5 v6 v7 (e_w (v8 + 1)) NN2) else (f_b (f_X11_isBest v8 v7 p1 p2 NN2) fun rr3 NN4 => (if ¬ rr3 = 0 then (if ¬ v4 = 0 then (if ¬ v4 = 0 then (f_X11_open_L62 n 1 p1 p2 p3 (e_w (v4 + 1)) v5 v6 v7 (e_w (v8 + 1)) NN4) else (f_X11_open_L62 n 1 p1 p2 p3 (e_w (v4 + 1)) (e_w ((e_w (10 * v7)) + v8)) v6 v7 (e_w (v8 + 1)) NN4)) else (f_b (f_X11_hasBy v7 v8 p1 p2 NN4) fun rr5 NN6 => (f_b (f_X11_hasBy v8 v7 p1 p2 NN6) fun rr7 NN8 => (if ¬ v4 = 0 then (f_X11_open_L62 n 1 p1 p2 p3 (e_w (v4 + 1)) v5 (e_w (rr5 + rr7)) v7 (e_w (v8 + 1)) NN8) else (f_X11_open_L62 n 1 p1 p2 p3 (e_w (v4 + 1)) (e_w ((e_w (10 * v7)) + v8)) (e_w (rr5 + rr7)) v7 (e_w (v8 + 1)) NN8))))) else (f_X11_open_L62 n 1 p1 p2 p3 v4 v5 v6 v7 (e_w (v8 + 1)) NN4)))))))
theorem s_X11_open_L62 {X : e_X} {d gn : Nat} : ∀ n : Nat, (∀ (p1 p2 p3 v4 v5 v6 v7 : Int) (M M' : e_M) (v : Int), f_X11_open_L62  n 0 p1 p2 p3 v4 v5 v6 v7 0 M = some (v, M') → e_G X (d + 2) YX11_open 62 [some (.inr (.inr 64)), some (.inl p1), some (.inl p2), some (.inl p3), some (.inl v4), some (.inl v5), some (.inl v6), some (.inl v7), none] [] (557, gn, e_RF, M) (.inl (some (.inl v)), (557, gn, e_RF, M'))) ∧ (∀ (p1 p2 p3 v4 v5 v6 v7 v8 : Int) (M M' : e_M) (v : Int), f_X11_open_L62  n 1 p1 p2 p3 v4 v5 v6 v7 v8 M = some (v, M') → e_G X (d + 2) YX11_open 71 [some (.inr (.inr 64)), some (.inl p1), some (.inl p2), some (.inl p3), some (.inl v4), some (.inl v5), some (.inl v6), some (.inl v7), some (.inl v8)] [] (557, gn, e_RF, M) (.inl (some (.inl v)), (557, gn, e_RF, M'))) := by
  intro n
  induction n with
  | zero => exact ⟨(by intro p1 p2 p3 v4 v5 v6 v7 M M' v h; cases h), (by intro p1 p2 p3 v4 v5 v6 v7 v8 M M' v h; cases h)⟩
  | succ n ih =>
    refine ⟨?_, ?_⟩
    · intro p1 p2 p3 v4 v5 v6 v7 M M' v h
      rw [f_X11_open_L62, if_pos rfl] at h
      refine wp_X11_open_62 (d := d + 1)  M p1 p2 p3 v4 v5 v6 v7 ?_
      refine ⟨fun c => ?_, fun c => ?_⟩
      · rw [if_pos c] at h
        refine ⟨fun c => ?_, fun c => ?_⟩
        · rw [if_pos c] at h
          refine ⟨fun c => ?_, fun c => ?_⟩
          · rw [if_pos c] at h
            cases h; rfl
          · rw [if_neg (not_not_intro c)] at h
            cases h; rfl
        · rw [if_neg (not_not_intro c)] at h
          cases h; rfl
      · rw [if_neg c] at h
        exact ih.2 _ _ _ _ _ _ _ _ _ _ _ h
    · intro p1 p2 p3 v4 v5 v6 v7 v8 M M' v h
      rw [f_X11_open_L62, if_neg (by decide)] at h
      refine wp_X11_open_71 (d := d + 1)  M p1 p2 p3 v4 v5 v6 v7 v8 (f_mn) ?_
      refine ⟨fun c => ?_, fun c => ?_⟩
      · rw [if_pos c] at h
        exact ih.1 _ _ _ _ _ _ _ _ _ _ h
      · rw [if_neg c] at h
        obtain ⟨rr9, NN10, hc11, h⟩ := f_bd h
        refine ⟨rr9, NN10, s_X11_isBest (d := d)  hc11, ?_⟩
        refine ⟨fun c => ?_, fun c => ?_⟩
        · rw [if_pos c] at h
          exact ih.2 _ _ _ _ _ _ _ _ _ _ _ h
        · rw [if_neg c] at h
          obtain ⟨rr12, NN13, hc14, h⟩ := f_bd h
          refine ⟨rr12, NN13, s_X11_isBest (d := d)  hc14, ?_⟩
          refine ⟨fun c => ?_, fun c => ?_⟩
          · rw [if_pos c] at h
            refine ⟨fun c => ?_, fun c => ?_⟩
            · rw [if_pos c] at h
              refine wp_X11_open_133 (d := d + 1)  _ _ _ _ _ _ _ _ _ _ ?_
              refine ⟨fun c => ?_, fun c => ?_⟩
              · rw [if_pos c] at h
                exact ih.2 _ _ _ _ _ _ _ _ _ _ _ h
              · rw [if_neg (not_not_intro c)] at h
                exact ih.2 _ _ _ _ _ _ _ _ _ _ _ h
            · rw [if_neg (not_not_intro c)] at h
              obtain ⟨rr15, NN16, hc17, h⟩ := f_bd h
              refine ⟨rr15, NN16, s_X11_hasBy (d := d + 1)  hc17, ?_⟩
              obtain ⟨rr18, NN19, hc20, h⟩ := f_bd h
              refine ⟨rr18, NN19, s_X11_hasBy (d := d + 1)  hc20, ?_⟩
              refine wp_X11_open_133 (d := d + 1)  _ _ _ _ _ _ _ _ _ _ ?_
              refine ⟨fun c => ?_, fun c => ?_⟩
              · rw [if_pos c] at h
                exact ih.2 _ _ _ _ _ _ _ _ _ _ _ h
              · rw [if_neg (not_not_intro c)] at h
                exact ih.2 _ _ _ _ _ _ _ _ _ _ _ h
          · rw [if_neg (not_not_intro c)] at h
            exact ih.2 _ _ _ _ _ _ _ _ _ _ _ h
theorem s_X11_open_62 {X : e_X} {d gn : Nat} (n : Nat) : (∀ (p1 p2 p3 v4 v5 v6 v7 : Int) (M M' : e_M) (v : Int), f_X11_open_L62  n 0 p1 p2 p3 v4 v5 v6 v7 0 M = some (v, M') → e_G X (d + 2) YX11_open 62 [some (.inr (.inr 64)), some (.inl p1), some (.inl p2), some (.inl p3), some (.inl v4), some (.inl v5), some (.inl v6), some (.inl v7), none] [] (557, gn, e_RF, M) (.inl (some (.inl v)), (557, gn, e_RF, M'))) := (s_X11_open_L62  n).1
theorem s_X11_open_71 {X : e_X} {d gn : Nat} (n : Nat) : (∀ (p1 p2 p3 v4 v5 v6 v7 v8 : Int) (M M' : e_M) (v : Int), f_X11_open_L62  n 1 p1 p2 p3 v4 v5 v6 v7 v8 M = some (v, M') → e_G X (d + 2) YX11_open 71 [some (.inr (.inr 64)), some (.inl p1), some (.inl p2), some (.inl p3), some (.inl v4), some (.inl v5), some (.inl v6), some (.inl v7), some (.inl v8)] [] (557, gn, e_RF, M) (.inl (some (.inl v)), (557, gn, e_RF, M'))) := (s_X11_open_L62  n).2
def f_X11_open (n : Nat) (p1 p2 p3 : Int) (M : e_M) : Option (Int × e_M) := (f_b (f_X11_in p1 0 99 (e_up M 64 0 0)) fun rr21 NN22 => (if rr21 = 0 then (f_b (f_X11_bad 1 1 1 NN22) fun rr33 NN34 => (if rr33 = 0 then (f_X11_open_L62 n 0 p1 p2 p3 0 (-1) 0 0 0 NN34) else (some (0, NN34)))) else (f_b (f_X11_in p2 0 99 NN22) fun rr23 NN24 => (if rr23 = 0 then (f_b (f_X11_bad 1 1 1 NN24) fun rr31 NN32 => (if rr31 = 0 then (f_X11_open_L62 n 0 p1 p2 p3 0 (-1) 0 0 0 NN32) else (some (0, NN32)))) else (f_b (f_X11_in p3 0 2 NN24) fun rr25 NN26 => (if ¬ rr25 = 0 then (f_b (f_X11_bad 0 1 1 NN26) fun rr29 NN30 => (if rr29 = 0 then (f_X11_open_L62 n 0 p1 p2 p3 0 (-1) 0 0 0 NN30) else (some (0, NN30)))) else (f_b (f_X11_bad 1 1 1 NN26) fun rr27 NN28 => (if rr27 = 0 then (f_X11_open_L62 n 0 p1 p2 p3 0 (-1) 0 0 0 NN28) else (some (0, NN28))))))))))
theorem s_X11_open {X : e_X} {d gn : Nat} {n : Nat} {p1 p2 p3 : Int} {M M' : e_M} {v : Int} (h : f_X11_open  n p1 p2 p3 M = some (v, M')) : e_E X (d + 2) YX11_open [.inr (.inr 64), .inl p1, .inl p2, .inl p3] (557, gn, e_RF, M) (.inl (some (.inl v)), (557, gn, e_RF, M')) := by
  unfold f_X11_open at h
  refine wp_X11_open_0 (d := d + 1)  M p1 p2 p3 (f_mn) ?_
  obtain ⟨rr35, NN36, hc37, h⟩ := f_bd h
  refine ⟨rr35, NN36, s_X11_in (d := d + 1)  hc37, ?_⟩
  refine ⟨fun c => ?_, fun c => ?_⟩
  · rw [if_pos c] at h
    refine wp_X11_open_35 (d := d + 1)  _ _ _ _ ?_
    refine wp_X11_open_40 (d := d + 1)  _ _ _ _ _ (f_mn) ?_
    obtain ⟨rr38, NN39, hc40, h⟩ := f_bd h
    refine ⟨rr38, NN39, s_X11_bad (d := d + 1)  hc40, ?_⟩
    refine ⟨fun c => ?_, fun c => ?_⟩
    · rw [if_pos c] at h
      exact s_X11_open_62  _ _ _ _ _ _ _ _ _ _ _ h
    · rw [if_neg c] at h
      cases h; rfl
  · rw [if_neg c] at h
    obtain ⟨rr41, NN42, hc43, h⟩ := f_bd h
    refine ⟨rr41, NN42, s_X11_in (d := d + 1)  hc43, ?_⟩
    refine ⟨fun c => ?_, fun c => ?_⟩
    · rw [if_pos c] at h
      refine wp_X11_open_35 (d := d + 1)  _ _ _ _ ?_
      refine wp_X11_open_40 (d := d + 1)  _ _ _ _ _ (f_mn) ?_
      obtain ⟨rr44, NN45, hc46, h⟩ := f_bd h
      refine ⟨rr44, NN45, s_X11_bad (d := d + 1)  hc46, ?_⟩
      refine ⟨fun c => ?_, fun c => ?_⟩
      · rw [if_pos c] at h
        exact s_X11_open_62  _ _ _ _ _ _ _ _ _ _ _ h
      · rw [if_neg c] at h
        cases h; rfl
    · rw [if_neg c] at h
      obtain ⟨rr47, NN48, hc49, h⟩ := f_bd h
      refine ⟨rr47, NN48, s_X11_in (d := d + 1)  hc49, ?_⟩
      refine ⟨fun c => ?_, fun c => ?_⟩
      · rw [if_pos c] at h
        refine wp_X11_open_40 (d := d + 1)  _ _ _ _ _ (f_mn) ?_
        obtain ⟨rr50, NN51, hc52, h⟩ := f_bd h
        refine ⟨rr50, NN51, s_X11_bad (d := d + 1)  hc52, ?_⟩
        refine ⟨fun c => ?_, fun c => ?_⟩
        · rw [if_pos c] at h
          exact s_X11_open_62  _ _ _ _ _ _ _ _ _ _ _ h
        · rw [if_neg c] at h
          cases h; rfl
      · rw [if_neg (not_not_intro c)] at h
        refine wp_X11_open_35 (d := d + 1)  _ _ _ _ ?_
        refine wp_X11_open_40 (d := d + 1)  _ _ _ _ _ (f_mn) ?_
        obtain ⟨rr53, NN54, hc55, h⟩ := f_bd h
        refine ⟨rr53, NN54, s_X11_bad (d := d + 1)  hc55, ?_⟩
        refine ⟨fun c => ?_, fun c => ?_⟩
        · rw [if_pos c] at h
          exact s_X11_open_62  _ _ _ _ _ _ _ _ _ _ _ h
        · rw [if_neg c] at h
          cases h; rfl
