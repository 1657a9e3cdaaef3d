def f_X11_readsStep_135 (rc_X11_readsStep : e_M → Option (Int × e_M)) (u2 : Nat) : Nat → Int → e_M → Option (Int × e_M)
  | 0, _, _ => none
  | n + 1, v1, M => (if ¬ (M 64 5) = 0 then (f_b (f_X11_sign n 93 M) fun _ NN12 => (f_b (f_X11_sign n 59 (e_up (e_up NN12 64 8 (e_w ((NN12 64 8) - 1))) u2 3 ((e_up NN12 64 8 (e_w ((NN12 64 8) - 1))) 64 30))) fun _ NN14 => (some (0, NN14)))) else (f_b (f_X11_byteAt (M 64 4) M) fun rr1 NN2 => (if rr1 = 93 then (f_b (f_X11_sign n 93 NN2) fun _ NN8 => (f_b (f_X11_sign n 59 (e_up (e_up NN8 64 8 (e_w ((NN8 64 8) - 1))) u2 3 ((e_up NN8 64 8 (e_w ((NN8 64 8) - 1))) 64 30))) fun _ NN10 => (some (0, NN10)))) else (f_b (rc_X11_readsStep NN2) fun _ NN4 => (f_b (f_X11_blanks n NN4) fun _ NN6 => (f_X11_readsStep_135 rc_X11_readsStep u2 n v1 NN6))))))
theorem s_X11_readsStep_135 {X : e_X} {d gn : Nat} {rc_X11_readsStep : e_M → Option (Int × e_M)} {u2 : Nat} (hc_X11_readsStep : ∀ (M M' : e_M) (v : Int), rc_X11_readsStep  M = some (v, M') → e_E X (d + 4) YX11_readsStep [.inr (.inr 64)] (557, gn, e_RF, M) (.inl none, (557, gn, e_RF, M'))) (hu2 : e_SH u2 = (20, 4)) (ku2 : u2 ≤ 557) (zu2 : u2 ≠ 0) : ∀ n : Nat, ∀ (v1 : Int) (M M' : e_M) (v : Int), f_X11_readsStep_135 rc_X11_readsStep u2 n v1 M = some (v, M') → e_G X (d + 5) YX11_readsStep 135 [some (.inr (.inr 64)), some (.inl v1), some (.inr (.inr u2))] [] (557, gn, e_RF, M) (.inl none, (557, gn, e_RF, M')) := by
  intro n
  induction n with
  | zero => intro v1 M M' v h; cases h
  | succ n ih =>
    intro v1 M M' v h
    rw [f_X11_readsStep_135] at h
    refine wp_X11_readsStep_135 (d := d + 4) hu2 ku2 zu2 M v1 (f_mn) ?_
    refine ⟨fun c => ?_, fun c => ?_⟩
    · rw [if_pos c] at h
      refine wp_X11_readsStep_166 (d := d + 4) hu2 ku2 zu2 _ _ (f_mn) ?_
      obtain ⟨rr15, NN16, hc17, h⟩ := f_bd h
      refine ⟨NN16, s_X11_sign (d := d + 2)  hc17, ?_⟩
      refine wp_X11_readsStep_182 (d := d + 4) hu2 ku2 zu2 _ _ (f_mn) ?_
      obtain ⟨rr18, NN19, hc20, h⟩ := f_bd h
      refine ⟨NN19, s_X11_sign (d := d + 2)  hc20, ?_⟩
      cases h; rfl
    · rw [if_neg (not_not_intro c)] at h
      obtain ⟨rr21, NN22, hc23, h⟩ := f_bd h
      refine ⟨rr21, NN22, s_X11_byteAt (d := d + 4)  hc23, ?_⟩
      refine ⟨fun c => ?_, fun c => ?_⟩
      · rw [if_pos c] at h
        refine wp_X11_readsStep_166 (d := d + 4) hu2 ku2 zu2 _ _ (f_mn) ?_
        obtain ⟨rr24, NN25, hc26, h⟩ := f_bd h
        refine ⟨NN25, s_X11_sign (d := d + 2)  hc26, ?_⟩
        refine wp_X11_readsStep_182 (d := d + 4) hu2 ku2 zu2 _ _ (f_mn) ?_
        obtain ⟨rr27, NN28, hc29, h⟩ := f_bd h
        refine ⟨NN28, s_X11_sign (d := d + 2)  hc29, ?_⟩
        cases h; rfl
      · rw [if_neg c] at h
        obtain ⟨rr30, NN31, hc32, h⟩ := f_bd h
        refine ⟨NN31, hc_X11_readsStep _ _ _ hc32, ?_⟩
        obtain ⟨rr33, NN34, hc35, h⟩ := f_bd h
        refine ⟨NN34, s_X11_blanks (d := d + 3)  hc35, ?_⟩
        exact ih _ _ _ _ h
def f_X11_readsStep_110 (rc_X11_readsStep : e_M → Option (Int × e_M)) (u2 : Nat) (n : Nat) (v1 : Int) (M : e_M) : Option (Int × e_M) := (if ¬ v1 = 4 then (f_b (f_X11_sign n 59 (e_up M u2 3 (M 64 30))) fun _ NN43 => (some (0, NN43))) else (f_b (f_X11_number n 0 60 M) fun rr36 NN37 => (f_b (f_X11_sign n 91 (e_up NN37 u2 1 rr36)) fun _ NN39 => (f_b (f_X11_blanks n NN39) fun _ NN41 => (f_X11_readsStep_135 rc_X11_readsStep u2 n v1 NN41)))))
theorem s_X11_readsStep_110 {X : e_X} {d gn : Nat} {rc_X11_readsStep : e_M → Option (Int × e_M)} {u2 : Nat} (hc_X11_readsStep : ∀ (M M' : e_M) (v : Int), rc_X11_readsStep  M = some (v, M') → e_E X (d + 4) YX11_readsStep [.inr (.inr 64)] (557, gn, e_RF, M) (.inl none, (557, gn, e_RF, M'))) (hu2 : e_SH u2 = (20, 4)) (ku2 : u2 ≤ 557) (zu2 : u2 ≠ 0) {n : Nat} {v1 : Int} {M M' : e_M} {v : Int} (h : f_X11_readsStep_110 rc_X11_readsStep u2 n v1 M = some (v, M')) : e_G X (d + 5) YX11_readsStep 110 [some (.inr (.inr 64)), some (.inl v1), some (.inr (.inr u2))] [] (557, gn, e_RF, M) (.inl none, (557, gn, e_RF, M')) := by
  unfold f_X11_readsStep_110 at h
  refine wp_X11_readsStep_110 (d := d + 4) hu2 ku2 zu2 M v1 (f_mn) ?_
  refine ⟨fun c => ?_, fun c => ?_⟩
  · rw [if_pos c] at h
    refine wp_X11_readsStep_182 (d := d + 4) hu2 ku2 zu2 _ _ (f_mn) ?_
    obtain ⟨rr44, NN45, hc46, h⟩ := f_bd h
    refine ⟨NN45, s_X11_sign (d := d + 2)  hc46, ?_⟩
    cases h; rfl
  · rw [if_neg (not_not_intro c)] at h
    obtain ⟨rr47, NN48, hc49, h⟩ := f_bd h
    refine ⟨rr47, NN48, s_X11_number (d := d + 2)  hc49, ?_⟩
    obtain ⟨rr50, NN51, hc52, h⟩ := f_bd h
    refine ⟨NN51, s_X11_sign (d := d + 2)  hc52, ?_⟩
    obtain ⟨rr53, NN54, hc55, h⟩ := f_bd h
    refine ⟨NN54, s_X11_blanks (d := d + 3)  hc55, ?_⟩
    exact s_X11_readsStep_135 hc_X11_readsStep hu2 ku2 zu2 _ _ _ _ _ h
def f_X11_readsStep_32 (rc_X11_readsStep : e_M → Option (Int × e_M)) (n : Nat) (v1 : Int) (M : e_M) : Option (Int × e_M) := (if (M 64 5) = 0 then (f_b (f_X11_skipWord n M) fun _ NN57 => (if (0 ≤ (NN57 64 30) ∧ (NN57 64 30) < 80) then (if 2 ≤ v1 then (if ¬ v1 = 2 then (f_X11_readsStep_110 rc_X11_readsStep (452 + (NN57 64 30).toNat) n v1 (e_up (e_up NN57 64 30 (e_w ((NN57 64 30) + 1))) (452 + (NN57 64 30).toNat) 0 v1)) else (f_b (f_X11_number n 0 (e_w (((e_up (e_up NN57 64 30 (e_w ((NN57 64 30) + 1))) (452 + (NN57 64 30).toNat) 0 v1) 68 2) - 1)) (e_up (e_up NN57 64 30 (e_w ((NN57 64 30) + 1))) (452 + (NN57 64 30).toNat) 0 v1)) fun rr62 NN63 => (f_X11_readsStep_110 rc_X11_readsStep (452 + (NN57 64 30).toNat) n v1 (e_up NN63 (452 + (NN57 64 30).toNat) 1 rr62)))) else (f_b (f_X11_number n 0 (e_w (((e_up (e_up NN57 64 30 (e_w ((NN57 64 30) + 1))) (452 + (NN57 64 30).toNat) 0 v1) 68 0) - 1)) (e_up (e_up NN57 64 30 (e_w ((NN57 64 30) + 1))) (452 + (NN57 64 30).toNat) 0 v1)) fun rr58 NN59 => (if ¬ v1 = 2 then (f_X11_readsStep_110 rc_X11_readsStep (452 + (NN57 64 30).toNat) n v1 (e_up NN59 (452 + (NN57 64 30).toNat) 1 rr58)) else (f_b (f_X11_number n 0 (e_w (((e_up NN59 (452 + (NN57 64 30).toNat) 1 rr58) 68 2) - 1)) (e_up NN59 (452 + (NN57 64 30).toNat) 1 rr58)) fun rr60 NN61 => (f_X11_readsStep_110 rc_X11_readsStep (452 + (NN57 64 30).toNat) n v1 (e_up NN61 (452 + (NN57 64 30).toNat) 1 rr60)))))) else none)) else (some (0, M)))
theorem s_X11_readsStep_32 {X : e_X} {d gn : Nat} {rc_X11_readsStep : e_M → Option (Int × e_M)} (hc_X11_readsStep : ∀ (M M' : e_M) (v : Int), rc_X11_readsStep  M = some (v, M') → e_E X (d + 4) YX11_readsStep [.inr (.inr 64)] (557, gn, e_RF, M) (.inl none, (557, gn, e_RF, M'))) {n : Nat} {v1 : Int} {M M' : e_M} {v : Int} (h : f_X11_readsStep_32 rc_X11_readsStep  n v1 M = some (v, M')) : e_G X (d + 5) YX11_readsStep 32 [some (.inr (.inr 64)), some (.inl v1), none] [] (557, gn, e_RF, M) (.inl none, (557, gn, e_RF, M')) := by
  unfold f_X11_readsStep_32 at h
  refine wp_X11_readsStep_32 (d := d + 4)  M v1 (f_mn) ?_
  refine ⟨fun c => ?_, fun c => ?_⟩
  · rw [if_pos c] at h
    obtain ⟨rr64, NN65, hc66, h⟩ := f_bd h
    refine ⟨NN65, s_X11_skipWord (d := d + 3)  hc66, ?_⟩
    obtain ⟨c67, h⟩ := f_gd h
    refine ⟨c67, ?_⟩
    refine ⟨fun c => ?_, fun c => ?_⟩
    · rw [if_pos c] at h
      refine wp_X11_readsStep_89 (d := d + 4) (sh_451 c67.1 c67.2).1 (sh_451 c67.1 c67.2).2.1 (sh_451 c67.1 c67.2).2.2 _ _ (f_mn) ?_
      refine ⟨fun c => ?_, fun c => ?_⟩
      · rw [if_pos c] at h
        exact s_X11_readsStep_110 hc_X11_readsStep (sh_451 c67.1 c67.2).1 (sh_451 c67.1 c67.2).2.1 (sh_451 c67.1 c67.2).2.2 h
      · rw [if_neg (not_not_intro c)] at h
        obtain ⟨rr68, NN69, hc70, h⟩ := f_bd h
        refine ⟨rr68, NN69, s_X11_number (d := d + 2)  hc70, ?_⟩
        exact s_X11_readsStep_110 hc_X11_readsStep (sh_451 c67.1 c67.2).1 (sh_451 c67.1 c67.2).2.1 (sh_451 c67.1 c67.2).2.2 h
    · rw [if_neg c] at h
      obtain ⟨rr71, NN72, hc73, h⟩ := f_bd h
      refine ⟨rr71, NN72, s_X11_number (d := d + 2)  hc73, ?_⟩
      refine wp_X11_readsStep_89 (d := d + 4) (sh_451 c67.1 c67.2).1 (sh_451 c67.1 c67.2).2.1 (sh_451 c67.1 c67.2).2.2 _ _ (f_mn) ?_
      refine ⟨fun c => ?_, fun c => ?_⟩
      · rw [if_pos c] at h
        exact s_X11_readsStep_110 hc_X11_readsStep (sh_451 c67.1 c67.2).1 (sh_451 c67.1 c67.2).2.1 (sh_451 c67.1 c67.2).2.2 h
      · rw [if_neg (not_not_intro c)] at h
        obtain ⟨rr74, NN75, hc76, h⟩ := f_bd h
        refine ⟨rr74, NN75, s_X11_number (d := d + 2)  hc76, ?_⟩
        exact s_X11_readsStep_110 hc_X11_readsStep (sh_451 c67.1 c67.2).1 (sh_451 c67.1 c67.2).2.1 (sh_451 c67.1 c67.2).2.2 h
  · rw [if_neg c] at h
    cases h; rfl
def f_X11_readsStep (rc_X11_readsStep : e_M → Option (Int × e_M)) (n : Nat) (M : e_M) : Option (Int × e_M) := (f_b (f_X11_stepHere n M) fun rr77 NN78 => (if ¬ rr77 = (-1) then (if ¬ rr77 = 4 then (f_X11_readsStep_32 rc_X11_readsStep n rr77 NN78) else (f_b (f_X11_opensOne NN78) fun rr83 NN84 => (if ¬ rr83 = 0 then (f_X11_readsStep_32 rc_X11_readsStep n rr77 NN84) else (some (0, NN84))))) else (f_b (f_X11_wrong 1 (NN78 64 4) NN78) fun _ NN80 => (if ¬ rr77 = 4 then (f_X11_readsStep_32 rc_X11_readsStep n rr77 NN80) else (f_b (f_X11_opensOne NN80) fun rr81 NN82 => (if ¬ rr81 = 0 then (f_X11_readsStep_32 rc_X11_readsStep n rr77 NN82) else (some (0, NN82))))))))
theorem s_X11_readsStep {X : e_X} {d gn : Nat} {rc_X11_readsStep : e_M → Option (Int × e_M)} (hc_X11_readsStep : ∀ (M M' : e_M) (v : Int), rc_X11_readsStep  M = some (v, M') → e_E X (d + 4) YX11_readsStep [.inr (.inr 64)] (557, gn, e_RF, M) (.inl none, (557, gn, e_RF, M'))) {n : Nat} {M M' : e_M} {v : Int} (h : f_X11_readsStep rc_X11_readsStep  n  M = some (v, M')) : e_E X (d + 5) YX11_readsStep [.inr (.inr 64)] (557, gn, e_RF, M) (.inl none, (557, gn, e_RF, M')) := by
  unfold f_X11_readsStep at h
  refine wp_X11_readsStep_0 (d := d + 4)  M  (f_mn) ?_
  obtain ⟨rr85, NN86, hc87, h⟩ := f_bd h
  refine ⟨rr85, NN86, s_X11_stepHere (d := d)  hc87, ?_⟩
  refine ⟨fun c => ?_, fun c => ?_⟩
  · rw [if_pos c] at h
    refine wp_X11_readsStep_19 (d := d + 4)  _ _ (f_mn) ?_
    refine ⟨fun c => ?_, fun c => ?_⟩
    · rw [if_pos c] at h
      exact s_X11_readsStep_32 hc_X11_readsStep  h
    · rw [if_neg (not_not_intro c)] at h
      obtain ⟨rr88, NN89, hc90, h⟩ := f_bd h
      refine ⟨rr88, NN89, s_X11_opensOne (d := d + 3)  hc90, ?_⟩
      refine ⟨fun c => ?_, fun c => ?_⟩
      · rw [if_pos c] at h
        exact s_X11_readsStep_32 hc_X11_readsStep  h
      · rw [if_neg (not_not_intro c)] at h
        cases h; rfl
  · rw [if_neg (not_not_intro c)] at h
    obtain ⟨rr91, NN92, hc93, h⟩ := f_bd h
    refine ⟨NN92, s_X11_wrong (d := d + 4)  hc93, ?_⟩
    refine wp_X11_readsStep_19 (d := d + 4)  _ _ (f_mn) ?_
    refine ⟨fun c => ?_, fun c => ?_⟩
    · rw [if_pos c] at h
      exact s_X11_readsStep_32 hc_X11_readsStep  h
    · rw [if_neg (not_not_intro c)] at h
      obtain ⟨rr94, NN95, hc96, h⟩ := f_bd h
      refine ⟨rr94, NN95, s_X11_opensOne (d := d + 3)  hc96, ?_⟩
      refine ⟨fun c => ?_, fun c => ?_⟩
      · rw [if_pos c] at h
        exact s_X11_readsStep_32 hc_X11_readsStep  h
      · rw [if_neg (not_not_intro c)] at h
        cases h; rfl
def g_X11_readsStep (n : Nat) : Nat → Nat → e_M → Option (Int × e_M)
  | 0, _, _ => none
  | k + 1, t, M => f_X11_readsStep (fun N => g_X11_readsStep n k 0  N) n  M
theorem sg_X11_readsStep {X : e_X} {d gn n : Nat} : ∀ k : Nat, (∀ (M M' : e_M) (v : Int), g_X11_readsStep n k 0  M = some (v, M') → e_E X (d + k + 4) YX11_readsStep [.inr (.inr 64)] (557, gn, e_RF, M) (.inl none, (557, gn, e_RF, M'))) := by
  intro k
  induction k with
  | zero => exact (by intros; rename_i h; cases h)
  | succ k ih =>
    rw [show d + (k + 1) + 4 = d + k + 4 + 1 by omega]
    skip
    · intro  M M' v h
      rw [g_X11_readsStep] at h
      exact s_X11_readsStep (d := d + k) ih h
theorem sk_X11_readsStep {X : e_X} {d gn n : Nat} (k : Nat) : (∀ (M M' : e_M) (v : Int), g_X11_readsStep n k 0  M = some (v, M') → e_E X (d + k + 4) YX11_readsStep [.inr (.inr 64)] (557, gn, e_RF, M) (.inl none, (557, gn, e_RF, M'))) := (sg_X11_readsStep k)
def f_k_X11_readsStep (n : Nat) (M : e_M) : Option (Int × e_M) := g_X11_readsStep n 12 0  M
theorem s_k_X11_readsStep {X : e_X} {d gn n : Nat} {M M' : e_M} {v : Int} (h : f_k_X11_readsStep n  M = some (v, M')) : e_E X (d + 16) YX11_readsStep [.inr (.inr 64)] (557, gn, e_RF, M) (.inl none, (557, gn, e_RF, M')) := sk_X11_readsStep (d := d) 12 _ _ _ h
def f_X10_ahead (n : Nat) (p1 p2 : Int) (M : e_M) : Option ((Int ⊕ Nat) × e_M) := (f_t (f_X10_needWithin p1 0 99 M) fun _ NN2 => (f_t (f_X10_needWithin p2 0 2 NN2) fun _ NN4 => (f_b (f_X10_tryWeeks n p1 NN4) fun _ NN6 => (if p2 = 0 then (f_b (f_X3_coinsOfAll_trial n NN6) fun rr9 NN10 => (some ((.inl rr9), NN10))) else (if p2 = 1 then (f_b (f_X3_daysOfAll_trial n NN6) fun rr7 NN8 => (some ((.inl rr7), NN8))) else (some ((.inl (NN6 43 4)), NN6)))))))
theorem s_X10_ahead {X : e_X} {d gn : Nat} {n : Nat} {p1 p2 : Int} {M M' : e_M} {v : Int ⊕ Nat} (h : f_X10_ahead  n p1 p2 M = some (v, M')) : e_E X (d + 10) YX10_ahead [.inr (.inr 1), .inl p1, .inl p2] (557, gn, e_RF, M) (f_oT gn v M') := by
  unfold f_X10_ahead at h
  refine wp_X10_ahead_0 (d := d + 9)  M p1 p2 (f_mnT) ?_
  rcases f_td h with ⟨rr11, NN12, hc13, h⟩ | ⟨rr11, NN12, hc13, h⟩
  · refine Or.inl ⟨NN12, s_X10_needWithin (d := d)  hc13, ?_⟩
    rcases f_td h with ⟨rr14, NN15, hc16, h⟩ | ⟨rr14, NN15, hc16, h⟩
    · refine Or.inl ⟨NN15, s_X10_needWithin (d := d)  hc16, ?_⟩
      obtain ⟨rr17, NN18, hc19, h⟩ := f_bd h
      refine ⟨NN18, s_X10_tryWeeks (d := d + 6)  hc19, ?_⟩
      refine ⟨fun c => ?_, fun c => ?_, fun c => ?_⟩
      · rw [if_pos c] at h
        obtain ⟨rr20, NN21, hc22, h⟩ := f_bd h
        refine ⟨rr20, NN21, s_X3_coinsOfAll_trial (d := d + 9)  hc22, ?_⟩
        cases h; rfl
      · rw [if_neg (by omega), if_pos c] at h
        obtain ⟨rr23, NN24, hc25, h⟩ := f_bd h
        refine ⟨rr23, NN24, s_X3_daysOfAll_trial (d := d + 7)  hc25, ?_⟩
        cases h; rfl
      · rw [if_neg (by omega), if_neg (by omega)] at h
        cases h; rfl
    · exact Or.inr ⟨rr14, NN15, s_X10_needWithin (d := d)  hc16, by cases h; rfl⟩
  · exact Or.inr ⟨rr11, NN12, s_X10_needWithin (d := d)  hc13, by cases h; rfl⟩
def f_X10_can (n : Nat) (p1 : Int) (M : e_M) : Option ((Int ⊕ Nat) × e_M) := (f_t (f_X10_needPerson p1 M) fun _ NN2 => (f_b (f_X3_canBuy_now n p1 NN2) fun rr3 NN4 => (if (rr3 = 0 ∨ rr3 = 1) then (some ((.inl rr3), NN4)) else none)))
theorem s_X10_can {X : e_X} {d gn : Nat} {n : Nat} {p1 : Int} {M M' : e_M} {v : Int ⊕ Nat} (h : f_X10_can  n p1 M = some (v, M')) : e_E X (d + 10) YX10_can [.inr (.inr 1), .inl p1] (557, gn, e_RF, M) (f_oT gn v M') := by
  unfold f_X10_can at h
  refine wp_X10_can_0 (d := d + 9)  M p1 (f_mnT) ?_
  rcases f_td h with ⟨rr5, NN6, hc7, h⟩ | ⟨rr5, NN6, hc7, h⟩
  · refine Or.inl ⟨NN6, s_X10_needPerson (d := d)  hc7, ?_⟩
    obtain ⟨rr8, NN9, hc10, h⟩ := f_bd h
    refine ⟨rr8, NN9, s_X3_canBuy_now (d := d + 6)  hc10, ?_⟩
    obtain ⟨c11, h⟩ := f_gd h
    exact ⟨c11, by cases h; rfl⟩
  · exact Or.inr ⟨rr5, NN6, s_X10_needPerson (d := d)  hc7, by cases h; rfl⟩
def f_X10_loses (n : Nat) (p1 : Int) (M : e_M) : Option ((Int ⊕ Nat) × e_M) := (f_t (f_X10_needWithin p1 0 99 M) fun _ NN2 => (f_b (f_X10_tryWeeks n p1 NN2) fun _ NN4 => (some ((.inl (e_w ((NN4 43 3) - (NN4 36 3)))), NN4))))
theorem s_X10_loses {X : e_X} {d gn : Nat} {n : Nat} {p1 : Int} {M M' : e_M} {v : Int ⊕ Nat} (h : f_X10_loses  n p1 M = some (v, M')) : e_E X (d + 10) YX10_loses [.inr (.inr 1), .inl p1] (557, gn, e_RF, M) (f_oT gn v M') := by
  unfold f_X10_loses at h
  refine wp_X10_loses_0 (d := d + 9)  M p1 (f_mnT) ?_
  rcases f_td h with ⟨rr5, NN6, hc7, h⟩ | ⟨rr5, NN6, hc7, h⟩
  · refine Or.inl ⟨NN6, s_X10_needWithin (d := d)  hc7, ?_⟩
    obtain ⟨rr8, NN9, hc10, h⟩ := f_bd h
    refine ⟨NN9, s_X10_tryWeeks (d := d + 6)  hc10, ?_⟩
    cases h; rfl
  · exact Or.inr ⟨rr5, NN6, s_X10_needWithin (d := d)  hc7, by cases h; rfl⟩
def f_X10_rush_13 : Nat → Int → e_M → Option (Int × e_M)
  | 0, _, _ => none
  | n + 1, v1, M => (if (M 4 0) ≤ v1 then (f_b (f_X3_boughtBits_trial n M) fun rr3 NN4 => (some (rr3, NN4))) else (f_b (f_X3_buyOff_trial n v1 M) fun rr1 NN2 => (f_X10_rush_13 n (e_w (v1 + 1)) NN2)))
theorem s_X10_rush_13 {X : e_X} {d gn : Nat} : ∀ n : Nat, ∀ (v1 : Int) (M M' : e_M) (v : Int), f_X10_rush_13  n v1 M = some (v, M') → e_G X (d + 4) YX10_rush 13 [some (.inr (.inr 1)), some (.inl v1)] [] (557, gn, e_RF, M) (.inl (some (.inl v)), (557, gn, e_RF, M')) := by
  intro n
  induction n with
  | zero => intro v1 M M' v h; cases h
  | succ n ih =>
    intro v1 M M' v h
    rw [f_X10_rush_13] at h
    refine wp_X10_rush_13 (d := d + 3)  M v1 (f_mn) ?_
    refine ⟨fun c => ?_, fun c => ?_⟩
    · rw [if_pos c] at h
      obtain ⟨rr5, NN6, hc7, h⟩ := f_bd h
      refine ⟨rr5, NN6, s_X3_boughtBits_trial (d := d + 3)  hc7, ?_⟩
      cases h; rfl
    · rw [if_neg c] at h
      obtain ⟨rr8, NN9, hc10, h⟩ := f_bd h
      refine ⟨rr8, NN9, s_X3_buyOff_trial (d := d)  hc10, ?_⟩
      exact ih _ _ _ _ h
def f_X10_rush (n : Nat) (M : e_M) : Option (Int × e_M) := (f_b (f_X3_copyFrom_trial M) fun _ NN12 => (f_X10_rush_13 n 0 NN12))
theorem s_X10_rush {X : e_X} {d gn : Nat} {n : Nat} {M M' : e_M} {v : Int} (h : f_X10_rush  n  M = some (v, M')) : e_E X (d + 4) YX10_rush [.inr (.inr 1)] (557, gn, e_RF, M) (.inl (some (.inl v)), (557, gn, e_RF, M')) := by
  unfold f_X10_rush at h
  refine wp_X10_rush_0 (d := d + 3)  M  (f_mn) ?_
  obtain ⟨rr13, NN14, hc15, h⟩ := f_bd h
  refine ⟨NN14, s_X3_copyFrom_trial (d := d + 2)  hc15, ?_⟩
  exact s_X10_rush_13  _ _ _ _ _ h
def f_X10_skips (n : Nat) (p1 p2 p3 : Int) (M : e_M) : Option ((Int ⊕ Nat) × e_M) := (f_t (f_X10_needPerson p1 M) fun _ NN2 => (f_t (f_X10_needWithin p2 0 10 NN2) fun _ NN4 => (f_t (f_X10_needWithin p3 0 1 NN4) fun _ NN6 => (f_b (f_X6_searchFor n p1 p2 NN6) fun _ NN8 => (if ¬ p3 = 0 then (some ((.inl (NN8 53 8)), NN8)) else (some ((.inl (NN8 53 7)), NN8)))))))
theorem s_X10_skips {X : e_X} {d gn : Nat} {n : Nat} {p1 p2 p3 : Int} {M M' : e_M} {v : Int ⊕ Nat} (h : f_X10_skips  n p1 p2 p3 M = some (v, M')) : e_E X (d + 15) YX10_skips [.inr (.inr 1), .inl p1, .inl p2, .inl p3] (557, gn, e_RF, M) (f_oT gn v M') := by
  unfold f_X10_skips at h
  refine wp_X10_skips_0 (d := d + 14)  M p1 p2 p3 (f_mnT) ?_
  rcases f_td h with ⟨rr9, NN10, hc11, h⟩ | ⟨rr9, NN10, hc11, h⟩
  · refine Or.inl ⟨NN10, s_X10_needPerson (d := d + 5)  hc11, ?_⟩
    rcases f_td h with ⟨rr12, NN13, hc14, h⟩ | ⟨rr12, NN13, hc14, h⟩
    · refine Or.inl ⟨NN13, s_X10_needWithin (d := d + 5)  hc14, ?_⟩
      rcases f_td h with ⟨rr15, NN16, hc17, h⟩ | ⟨rr15, NN16, hc17, h⟩
      · refine Or.inl ⟨NN16, s_X10_needWithin (d := d + 5)  hc17, ?_⟩
        obtain ⟨rr18, NN19, hc20, h⟩ := f_bd h
        refine ⟨NN19, s_X6_searchFor (d := d)  hc20, ?_⟩
        refine ⟨fun c => ?_, fun c => ?_⟩
        · rw [if_pos c] at h
          cases h; rfl
        · rw [if_neg (not_not_intro c)] at h
          cases h; rfl
      · exact Or.inr ⟨rr15, NN16, s_X10_needWithin (d := d + 5)  hc17, by cases h; rfl⟩
    · exact Or.inr ⟨rr12, NN13, s_X10_needWithin (d := d + 5)  hc14, by cases h; rfl⟩
  · exact Or.inr ⟨rr9, NN10, s_X10_needPerson (d := d + 5)  hc11, by cases h; rfl⟩
def f_X11_buys (q0 : Nat) (n : Nat) (p2 : Int) (M : e_M) : Option (Int × e_M) := (f_b (f_X11_canBuy q0 n p2 M) fun rr1 NN2 => (if ¬ rr1 = 0 then (f_b (f_X11_priceOf q0 n p2 NN2) fun rr3 NN4 => (if (0 ≤ (e_w (18 + p2)) ∧ (e_w (18 + p2)) < 56) then (if (0 ≤ (e_w (0 + p2)) ∧ (e_w (0 + p2)) < 56) then (if (0 ≤ (e_w (18 + p2)) ∧ (e_w (18 + p2)) < 56) then (if (0 ≤ (e_w (0 + p2)) ∧ (e_w (0 + p2)) < 56) then (some (1, (e_up (e_up NN4 q0 (e_w (18 + p2)).toNat rr3) q0 (e_w (0 + p2)).toNat (e_w (((e_up NN4 q0 (e_w (18 + p2)).toNat rr3) q0 (e_w (0 + p2)).toNat) - ((e_up NN4 q0 (e_w (18 + p2)).toNat rr3) q0 (e_w (18 + p2)).toNat)))))) else none) else none) else none) else none)) else (some (0, NN2))))
theorem s_X11_buys {X : e_X} {d gn : Nat} {q0 : Nat} (hq0 : e_SH q0 = (20, 56)) (kq0 : q0 ≤ 557) (zq0 : q0 ≠ 0) {n : Nat} {p2 : Int} {M M' : e_M} {v : Int} (h : f_X11_buys q0 n p2 M = some (v, M')) : e_E X (d + 6) YX11_buys [.inr (.inr 64), .inr (.inr q0), .inl p2] (557, gn, e_RF, M) (.inl (some (.inl v)), (557, gn, e_RF, M')) := by
  unfold f_X11_buys at h
  refine wp_X11_buys_0 (d := d + 5) hq0 kq0 zq0 M p2 (f_mn) ?_
  obtain ⟨rr5, NN6, hc7, h⟩ := f_bd h
  refine ⟨rr5, NN6, s_X11_canBuy (d := d) hq0 kq0 zq0 hc7, ?_⟩
  refine ⟨fun c => ?_, fun c => ?_⟩
  · rw [if_pos c] at h
    obtain ⟨rr8, NN9, hc10, h⟩ := f_bd h
    refine ⟨rr8, NN9, s_X11_priceOf (d := d + 1) hq0 kq0 zq0 hc10, ?_⟩
    obtain ⟨c11, h⟩ := f_gd h
    refine ⟨c11, ?_⟩
    obtain ⟨c12, h⟩ := f_gd h
    refine ⟨c12, ?_⟩
    obtain ⟨c13, h⟩ := f_gd h
    refine ⟨c13, ?_⟩
    obtain ⟨c14, h⟩ := f_gd h
    exact ⟨c14, by cases h; rfl⟩
  · rw [if_neg (not_not_intro c)] at h
    cases h; rfl
def f_X11_can_19 (n : Nat) (p1 w0 : Int) (M : e_M) : Option (Int × e_M) := (f_b (f_X11_bad w0 1 0 M) fun rr1 NN2 => (if rr1 = 0 then (f_b (f_X11_canBuy 532 n p1 NN2) fun rr3 NN4 => (if (rr3 = 0 ∨ rr3 = 1) then (some (rr3, NN4)) else none)) else (some (0, NN2))))
theorem s_X11_can_19 {X : e_X} {d gn : Nat} {n : Nat} {p1 w0 : Int} {M M' : e_M} {v : Int} (h : f_X11_can_19  n p1 w0 M = some (v, M')) : e_G X (d + 6) YX11_can 19 [some (.inr (.inr 64)), some (.inl p1)] [.inl w0, .inr (.inr 64)] (557, gn, e_RF, M) (.inl (some (.inl v)), (557, gn, e_RF, M')) := by
  unfold f_X11_can_19 at h
  refine wp_X11_can_19 (d := d + 5)  M p1 w0 (f_mn) ?_
  obtain ⟨rr5, NN6, hc7, h⟩ := f_bd h
  refine ⟨rr5, NN6, s_X11_bad (d := d + 5)  hc7, ?_⟩
  refine ⟨fun c => ?_, fun c => ?_⟩
  · rw [if_pos c] at h
    obtain ⟨rr8, NN9, hc10, h⟩ := f_bd h
    refine ⟨rr8, NN9, s_X11_canBuy (d := d) rfl (Nat.le_of_ble_eq_true rfl) (by decide) hc10, ?_⟩
    obtain ⟨c11, h⟩ := f_gd h
    exact ⟨c11, by cases h; rfl⟩
  · rw [if_neg c] at h
    cases h; rfl
def f_X11_can (n : Nat) (p1 : Int) (M : e_M) : Option (Int × e_M) := (f_b (f_X11_isPerson p1 (e_up M 64 0 0)) fun rr12 NN13 => (if ¬ rr12 = 0 then (f_X11_can_19 n p1 0 NN13) else (f_X11_can_19 n p1 1 NN13)))
theorem s_X11_can {X : e_X} {d gn : Nat} {n : Nat} {p1 : Int} {M M' : e_M} {v : Int} (h : f_X11_can  n p1 M = some (v, M')) : e_E X (d + 6) YX11_can [.inr (.inr 64), .inl p1] (557, gn, e_RF, M) (.inl (some (.inl v)), (557, gn, e_RF, M')) := by
  unfold f_X11_can at h
  refine wp_X11_can_0 (d := d + 5)  M p1 (f_mn) ?_
  obtain ⟨rr14, NN15, hc16, h⟩ := f_bd h
  refine ⟨rr14, NN15, s_X11_isPerson (d := d + 4)  hc16, ?_⟩
  refine ⟨fun c => ?_, fun c => ?_⟩
  · rw [if_pos c] at h
    exact s_X11_can_19  h
  · rw [if_neg (not_not_intro c)] at h
    exact s_X11_can_19  h
def f_X11_clause_280 (n : Nat) (v1 v2 : Int) (M : e_M) : Option (Int × e_M) := (f_b (f_X11_sign n 59 M) fun _ NN2 => (if 3 ≤ v1 then (some (0, NN2)) else (if (0 ≤ v1 ∧ v1 < 3) then (if ¬ (NN2 64 5) = 0 then (if (0 ≤ v1 ∧ v1 < 3) then (some (0, (e_up NN2 67 v1.toNat (e_w ((NN2 67 v1.toNat) + 0))))) else none) else (if (0 ≤ v1 ∧ v1 < 3) then (some (0, (e_up NN2 67 v1.toNat (e_w ((NN2 67 v1.toNat) + 1))))) else none)) else none)))
theorem s_X11_clause_280 {X : e_X} {d gn : Nat} {n : Nat} {v1 v2 : Int} {M M' : e_M} {v : Int} (h : f_X11_clause_280  n v1 v2 M = some (v, M')) : e_G X (d + 5) YX11_clause 280 [some (.inr (.inr 64)), some (.inl v1), some (.inl v2), none, none] [] (557, gn, e_RF, M) (.inl none, (557, gn, e_RF, M')) := by
  unfold f_X11_clause_280 at h
  refine wp_X11_clause_280 (d := d + 4)  M v1 v2 (f_mn) ?_
  obtain ⟨rr3, NN4, hc5, h⟩ := f_bd h
  refine ⟨NN4, s_X11_sign (d := d + 2)  hc5, ?_⟩
  refine ⟨fun c => ?_, fun c => ?_⟩
  · rw [if_pos c] at h
    cases h; rfl
  · rw [if_neg c] at h
    obtain ⟨c6, h⟩ := f_gd h
    refine ⟨c6, ?_⟩
    refine ⟨fun c => ?_, fun c => ?_⟩
    · rw [if_pos c] at h
      refine wp_X11_clause_310 (d := d + 4)  _ _ _ _ _ _ ?_
      obtain ⟨c7, h⟩ := f_gd h
      exact ⟨c7, by cases h; rfl⟩
    · rw [if_neg (not_not_intro c)] at h
      refine wp_X11_clause_310 (d := d + 4)  _ _ _ _ _ _ ?_
      obtain ⟨c8, h⟩ := f_gd h
      exact ⟨c8, by cases h; rfl⟩
def f_X11_clause_95 (n : Nat) (v1 w0 : Int) (M : e_M) : Option (Int × e_M) := (if v1 = 0 then (if (0 ≤ w0 ∧ w0 < 6) then (f_b (f_X11_number n 0 500 M) fun rr21 NN22 => (if (0 ≤ w0 ∧ w0 < 6) then (f_b (f_X11_number n 0 30 (e_up NN22 (74 + w0.toNat) 0 rr21)) fun rr23 NN24 => (f_X11_clause_280 n v1 w0 (e_up NN24 (74 + w0.toNat) 1 rr23))) else none)) else none) else (if v1 = 1 then (f_b (f_X11_number n 1 30 M) fun rr19 NN20 => (if (0 ≤ w0 ∧ w0 < 6) then (f_X11_clause_280 n v1 w0 (e_up NN20 69 w0.toNat rr19)) else none)) else (if v1 = 2 then (if (0 ≤ w0 ∧ w0 < 12) then (f_b (f_X11_number n 0 (e_w ((M 67 0) - 1)) M) fun rr13 NN14 => (if (0 ≤ w0 ∧ w0 < 12) then (f_b (f_X11_number n 0 60 (e_up NN14 (88 + w0.toNat) 0 rr13)) fun rr15 NN16 => (if (0 ≤ w0 ∧ w0 < 12) then (f_b (f_X11_number n 0 60 (e_up NN16 (88 + w0.toNat) 1 rr15)) fun rr17 NN18 => (f_X11_clause_280 n v1 w0 (e_up NN18 (88 + w0.toNat) 2 rr17))) else none)) else none)) else none) else (f_b (f_X11_number n 0 (e_w ((M 67 0) - 1)) M) fun rr9 NN10 => (f_b (f_X11_number n 0 (e_w ((NN10 67 1) - 1)) NN10) fun rr11 NN12 => (if ¬ (NN12 64 5) = 0 then (f_X11_clause_280 n v1 w0 NN12) else (if (0 ≤ rr9 ∧ rr9 < 6) then (if (0 ≤ rr9 ∧ rr9 < 6) then (f_X11_clause_280 n v1 w0 (e_up NN12 71 rr9.toNat (e_or (NN12 71 rr9.toNat) (e_shl 1 rr11)))) else none) else none)))))))
theorem s_X11_clause_95 {X : e_X} {d gn : Nat} {n : Nat} {v1 w0 : Int} {M M' : e_M} {v : Int} (h : f_X11_clause_95  n v1 w0 M = some (v, M')) : e_G X (d + 5) YX11_clause 95 [some (.inr (.inr 64)), some (.inl v1), none, none, none] [.inl w0] (557, gn, e_RF, M) (.inl none, (557, gn, e_RF, M')) := by
  unfold f_X11_clause_95 at h
  refine wp_X11_clause_95 (d := d + 4)  M v1 w0 (f_mn) ?_
  refine ⟨fun c => ?_, fun c => ?_, fun c => ?_, fun c => ?_⟩
  · rw [if_pos c] at h
    obtain ⟨c25, h⟩ := f_gd h
    refine ⟨c25, ?_⟩
    obtain ⟨rr26, NN27, hc28, h⟩ := f_bd h
    refine ⟨rr26, NN27, s_X11_number (d := d + 2)  hc28, ?_⟩
    obtain ⟨c29, h⟩ := f_gd h
    refine ⟨c29, ?_⟩
    obtain ⟨rr30, NN31, hc32, h⟩ := f_bd h
    refine ⟨rr30, NN31, s_X11_number (d := d + 2)  hc32, ?_⟩
    exact s_X11_clause_280  h
  · rw [if_neg (by omega), if_pos c] at h
    obtain ⟨rr33, NN34, hc35, h⟩ := f_bd h
    refine ⟨rr33, NN34, s_X11_number (d := d + 2)  hc35, ?_⟩
    obtain ⟨c36, h⟩ := f_gd h
    refine ⟨c36, ?_⟩
    exact s_X11_clause_280  h
  · rw [if_neg (by omega), if_neg (by omega), if_pos c] at h
    obtain ⟨c37, h⟩ := f_gd h
    refine ⟨c37, ?_⟩
    obtain ⟨rr38, NN39, hc40, h⟩ := f_bd h
    refine ⟨rr38, NN39, s_X11_number (d := d + 2)  hc40, ?_⟩
    obtain ⟨c41, h⟩ := f_gd h
    refine ⟨c41, ?_⟩
    obtain ⟨rr42, NN43, hc44, h⟩ := f_bd h
    refine ⟨rr42, NN43, s_X11_number (d := d + 2)  hc44, ?_⟩
    obtain ⟨c45, h⟩ := f_gd h
    refine ⟨c45, ?_⟩
    obtain ⟨rr46, NN47, hc48, h⟩ := f_bd h
    refine ⟨rr46, NN47, s_X11_number (d := d + 2)  hc48, ?_⟩
    exact s_X11_clause_280  h
  · rw [if_neg (by omega), if_neg (by omega), if_neg (by omega)] at h
    obtain ⟨rr49, NN50, hc51, h⟩ := f_bd h
    refine ⟨rr49, NN50, s_X11_number (d := d + 2)  hc51, ?_⟩
    obtain ⟨rr52, NN53, hc54, h⟩ := f_bd h
    refine ⟨rr52, NN53, s_X11_number (d := d + 2)  hc54, ?_⟩
    refine ⟨fun c => ?_, fun c => ?_⟩
    · rw [if_pos c] at h
      exact s_X11_clause_280  h
    · rw [if_neg (not_not_intro c)] at h
      obtain ⟨c55, h⟩ := f_gd h
      refine ⟨c55, ?_⟩
      obtain ⟨c56, h⟩ := f_gd h
      refine ⟨c56, ?_⟩
      exact s_X11_clause_280  h
def f_X11_clause_58 (n : Nat) (v1 : Int) (M : e_M) : Option (Int × e_M) := (if (M 64 5) = 0 then (f_b (f_X11_skipWord n M) fun _ NN58 => (if 3 ≤ v1 then (f_X11_clause_95 n v1 0 (e_up NN58 64 7 (e_w ((NN58 64 7) + 1)))) else (if (0 ≤ v1 ∧ v1 < 3) then (f_X11_clause_95 n v1 ((e_up NN58 64 7 (e_w ((NN58 64 7) + 1))) 67 v1.toNat) (e_up NN58 64 7 (e_w ((NN58 64 7) + 1)))) else none))) else (some (0, M)))
theorem s_X11_clause_58 {X : e_X} {d gn : Nat} {n : Nat} {v1 : Int} {M M' : e_M} {v : Int} (h : f_X11_clause_58  n v1 M = some (v, M')) : e_G X (d + 5) YX11_clause 58 [some (.inr (.inr 64)), some (.inl v1), none, none, none] [] (557, gn, e_RF, M) (.inl none, (557, gn, e_RF, M')) := by
  unfold f_X11_clause_58 at h
  refine wp_X11_clause_58 (d := d + 4)  M v1 (f_mn) ?_
  refine ⟨fun c => ?_, fun c => ?_⟩
  · rw [if_pos c] at h
    obtain ⟨rr59, NN60, hc61, h⟩ := f_bd h
    refine ⟨NN60, s_X11_skipWord (d := d + 3)  hc61, ?_⟩
    refine ⟨fun c => ?_, fun c => ?_⟩
    · rw [if_pos c] at h
      exact s_X11_clause_95  h
    · rw [if_neg c] at h
      obtain ⟨c62, h⟩ := f_gd h
      refine ⟨c62, ?_⟩
      exact s_X11_clause_95  h
  · rw [if_neg c] at h
    cases h; rfl
def f_X11_clause (n : Nat) (M : e_M) : Option (Int × e_M) := (f_b (f_X11_kindHere n M) fun rr63 NN64 => (if ¬ rr63 = (-1) then (if (NN64 64 7) = 60 then (f_b (f_X11_wrong 3 (NN64 64 4) NN64) fun _ NN72 => (f_X11_clause_58 n rr63 NN72)) else (if 3 ≤ rr63 then (f_X11_clause_58 n rr63 NN64) else (if (0 ≤ rr63 ∧ rr63 < 3) then (f_b (f_X11_mostOf rr63 NN64) fun rr67 NN68 => (if ¬ (NN64 67 rr63.toNat) = rr67 then (f_X11_clause_58 n rr63 NN68) else (f_b (f_X11_wrong 3 (NN68 64 4) NN68) fun _ NN70 => (f_X11_clause_58 n rr63 NN70)))) else none))) else (f_b (f_X11_wrong 1 (NN64 64 4) NN64) fun _ NN66 => (f_X11_clause_58 n rr63 NN66))))
theorem s_X11_clause {X : e_X} {d gn : Nat} {n : Nat} {M M' : e_M} {v : Int} (h : f_X11_clause  n  M = some (v, M')) : e_E X (d + 5) YX11_clause [.inr (.inr 64)] (557, gn, e_RF, M) (.inl none, (557, gn, e_RF, M')) := by
  unfold f_X11_clause at h
  refine wp_X11_clause_0 (d := d + 4)  M  (f_mn) ?_
  obtain ⟨rr73, NN74, hc75, h⟩ := f_bd h
  refine ⟨rr73, NN74, s_X11_kindHere (d := d)  hc75, ?_⟩
  refine ⟨fun c => ?_, fun c => ?_⟩
  · rw [if_pos c] at h
    refine ⟨fun c => ?_, fun c => ?_⟩
    · rw [if_pos c] at h
      refine wp_X11_clause_49 (d := d + 4)  _ _ (f_mn) ?_
      obtain ⟨rr76, NN77, hc78, h⟩ := f_bd h
      refine ⟨NN77, s_X11_wrong (d := d + 4)  hc78, ?_⟩
      exact s_X11_clause_58  h
    · rw [if_neg c] at h
      refine ⟨fun c => ?_, fun c => ?_⟩
      · rw [if_pos c] at h
        exact s_X11_clause_58  h
      · rw [if_neg c] at h
        obtain ⟨c79, h⟩ := f_gd h
        refine ⟨c79, ?_⟩
        obtain ⟨rr80, NN81, hc82, h⟩ := f_bd h
        refine ⟨rr80, NN81, s_X11_mostOf (d := d + 4)  hc82, ?_⟩
        refine ⟨fun c => ?_, fun c => ?_⟩
        · rw [if_pos c] at h
          exact s_X11_clause_58  h
        · rw [if_neg (not_not_intro c)] at h
          refine wp_X11_clause_49 (d := d + 4)  _ _ (f_mn) ?_
          obtain ⟨rr83, NN84, hc85, h⟩ := f_bd h
          refine ⟨NN84, s_X11_wrong (d := d + 4)  hc85, ?_⟩
          exact s_X11_clause_58  h
  · rw [if_neg (not_not_intro c)] at h
    obtain ⟨rr86, NN87, hc88, h⟩ := f_bd h
    refine ⟨NN87, s_X11_wrong (d := d + 4)  hc88, ?_⟩
    exact s_X11_clause_58  h
def f_X11_does (q0 : Nat) (q1 : Nat) (n : Nat) (M : e_M) : Option (Int × e_M) := (if (M q1 0) = 0 then (f_b (f_X11_buys q0 n (M q1 1) M) fun rr5 NN6 => (if (rr5 = 0 ∨ rr5 = 1) then (some (rr5, NN6)) else none)) else (if (M q1 0) = 1 then (f_b (f_X11_sells q0 (M q1 1) M) fun rr3 NN4 => (if (rr3 = 0 ∨ rr3 = 1) then (some (rr3, NN4)) else none)) else (if (M q1 0) = 2 then (if (0 ≤ (e_w (42 + (M q1 1))) ∧ (e_w (42 + (M q1 1))) < 56) then (if (M q0 (e_w (42 + (M q1 1))).toNat) = 1 then (some (0, M)) else (if (0 ≤ (e_w (30 + (M q1 1))) ∧ (e_w (30 + (M q1 1))) < 56) then (if (M q0 (e_w (30 + (M q1 1))).toNat) < (M q0 55) then (some (0, M)) else (if (0 ≤ (e_w (30 + (M q1 1))) ∧ (e_w (30 + (M q1 1))) < 56) then (if ¬ (M q0 (e_w (30 + (M q1 1))).toNat) = 60 then (if (0 ≤ (e_w (30 + (M q1 1))) ∧ (e_w (30 + (M q1 1))) < 56) then (if (0 ≤ (e_w (30 + (M q1 1))) ∧ (e_w (30 + (M q1 1))) < 56) then (some (1, (e_up M q0 (e_w (30 + (M q1 1))).toNat (e_w ((M q0 (e_w (30 + (M q1 1))).toNat) + 1))))) else none) else none) else (some (0, M))) else none)) else none)) else none) else (if (M q0 55) < 300 then (f_b (f_X11_weekEnds q0 n M) fun _ NN2 => (some (1, NN2))) else (some (0, M))))))
theorem s_X11_does {X : e_X} {d gn : Nat} {q0 : Nat} {q1 : Nat} (hq0 : e_SH q0 = (20, 56)) (kq0 : q0 ≤ 557) (zq0 : q0 ≠ 0) (hq1 : e_SH q1 = (20, 4)) (kq1 : q1 ≤ 557) (zq1 : q1 ≠ 0) {n : Nat} {M M' : e_M} {v : Int} (h : f_X11_does q0 q1 n  M = some (v, M')) : e_E X (d + 7) YX11_does [.inr (.inr 64), .inr (.inr q0), .inr (.inr q1)] (557, gn, e_RF, M) (.inl (some (.inl v)), (557, gn, e_RF, M')) := by
  unfold f_X11_does at h
  refine wp_X11_does_0 (d := d + 6) hq0 kq0 zq0 hq1 kq1 zq1 M  (f_mn) ?_
  refine ⟨fun c => ?_, fun c => ?_, fun c => ?_, fun c => ?_⟩
  · rw [if_pos c] at h
    obtain ⟨rr7, NN8, hc9, h⟩ := f_bd h
    refine ⟨rr7, NN8, s_X11_buys (d := d) hq0 kq0 zq0 hc9, ?_⟩
    obtain ⟨c10, h⟩ := f_gd h
    exact ⟨c10, by cases h; rfl⟩
  · rw [if_neg (by omega), if_pos c] at h
    obtain ⟨rr11, NN12, hc13, h⟩ := f_bd h
    refine ⟨rr11, NN12, s_X11_sells (d := d + 5) hq0 kq0 zq0 hc13, ?_⟩
    obtain ⟨c14, h⟩ := f_gd h
    exact ⟨c14, by cases h; rfl⟩
  · rw [if_neg (by omega), if_neg (by omega), if_pos c] at h
    obtain ⟨c15, h⟩ := f_gd h
    refine ⟨c15, ?_⟩
    refine ⟨fun c => ?_, fun c => ?_⟩
    · rw [if_pos c] at h
      cases h; rfl
    · rw [if_neg c] at h
      obtain ⟨c16, h⟩ := f_gd h
      refine ⟨c16, ?_⟩
      refine ⟨fun c => ?_, fun c => ?_⟩
      · rw [if_pos c] at h
        cases h; rfl
      · rw [if_neg c] at h
        obtain ⟨c17, h⟩ := f_gd h
        refine ⟨c17, ?_⟩
        refine ⟨fun c => ?_, fun c => ?_⟩
        · rw [if_pos c] at h
          obtain ⟨c18, h⟩ := f_gd h
          refine ⟨c18, ?_⟩
          obtain ⟨c19, h⟩ := f_gd h
          exact ⟨c19, by cases h; rfl⟩
        · rw [if_neg (not_not_intro c)] at h
          cases h; rfl
  · rw [if_neg (by omega), if_neg (by omega), if_neg (by omega)] at h
    refine ⟨fun c => ?_, fun c => ?_⟩
    · rw [if_pos c] at h
      obtain ⟨rr20, NN21, hc22, h⟩ := f_bd h
      refine ⟨NN21, s_X11_weekEnds (d := d + 4) hq0 kq0 zq0 hc22, ?_⟩
      cases h; rfl
    · rw [if_neg c] at h
      cases h; rfl
def f_X11_knownHere (n : Nat) (M : e_M) : Option (Int × e_M) := (f_b (f_X11_takes n 23 5 5 11 0 0 M) fun rr1 NN2 => (if rr1 = 0 then (f_b (f_X11_takes n 19 15 12 4 0 0 NN2) fun rr3 NN4 => (if rr3 = 0 then (f_b (f_X11_six 19 11 9 16 16 5 NN4) fun rr5 NN6 => (f_b (f_X11_isSeven n rr5 100 NN6) fun rr7 NN8 => (if rr7 = 0 then (f_b (f_X11_takes n 3 15 9 14 19 0 NN8) fun rr9 NN10 => (if rr9 = 0 then (f_b (f_X11_takes n 23 1 7 5 0 0 NN10) fun rr11 NN12 => (if rr11 = 0 then (f_b (f_X11_takes n 14 5 5 4 5 4 NN12) fun rr13 NN14 => (if rr13 = 0 then (f_b (f_X11_takes n 20 1 19 11 19 0 NN14) fun rr15 NN16 => (if rr15 = 0 then (f_b (f_X11_takes n 16 5 18 19 15 14 NN16) fun rr17 NN18 => (if rr17 = 0 then (some ((-1), NN18)) else (some (7, NN18)))) else (some (6, NN16)))) else (some (5, NN14)))) else (some (4, NN12)))) else (some (3, NN10)))) else (some (2, NN8))))) else (some (1, NN4)))) else (some (0, NN2))))
theorem s_X11_knownHere {X : e_X} {d gn : Nat} {n : Nat} {M M' : e_M} {v : Int} (h : f_X11_knownHere  n  M = some (v, M')) : e_E X (d + 5) YX11_knownHere [.inr (.inr 64)] (557, gn, e_RF, M) (.inl (some (.inl v)), (557, gn, e_RF, M')) := by
  unfold f_X11_knownHere at h
  refine wp_X11_knownHere_0 (d := d + 4)  M  (f_mn) ?_
  obtain ⟨rr19, NN20, hc21, h⟩ := f_bd h
  refine ⟨rr19, NN20, s_X11_takes (d := d)  hc21, ?_⟩
  refine ⟨fun c => ?_, fun c => ?_⟩
  · rw [if_pos c] at h
    obtain ⟨rr22, NN23, hc24, h⟩ := f_bd h
    refine ⟨rr22, NN23, s_X11_takes (d := d)  hc24, ?_⟩
    refine ⟨fun c => ?_, fun c => ?_⟩
    · rw [if_pos c] at h
      obtain ⟨rr25, NN26, hc27, h⟩ := f_bd h
      refine ⟨rr25, NN26, s_X11_six (d := d + 4)  hc27, ?_⟩
      obtain ⟨rr28, NN29, hc30, h⟩ := f_bd h
      refine ⟨rr28, NN29, s_X11_isSeven (d := d + 2)  hc30, ?_⟩
      refine ⟨fun c => ?_, fun c => ?_⟩
      · rw [if_pos c] at h
        obtain ⟨rr31, NN32, hc33, h⟩ := f_bd h
        refine ⟨rr31, NN32, s_X11_takes (d := d)  hc33, ?_⟩
        refine ⟨fun c => ?_, fun c => ?_⟩
        · rw [if_pos c] at h
          obtain ⟨rr34, NN35, hc36, h⟩ := f_bd h
          refine ⟨rr34, NN35, s_X11_takes (d := d)  hc36, ?_⟩
          refine ⟨fun c => ?_, fun c => ?_⟩
          · rw [if_pos c] at h
            obtain ⟨rr37, NN38, hc39, h⟩ := f_bd h
            refine ⟨rr37, NN38, s_X11_takes (d := d)  hc39, ?_⟩
            refine ⟨fun c => ?_, fun c => ?_⟩
            · rw [if_pos c] at h
              obtain ⟨rr40, NN41, hc42, h⟩ := f_bd h
              refine ⟨rr40, NN41, s_X11_takes (d := d)  hc42, ?_⟩
              refine ⟨fun c => ?_, fun c => ?_⟩
              · rw [if_pos c] at h
                obtain ⟨rr43, NN44, hc45, h⟩ := f_bd h
                refine ⟨rr43, NN44, s_X11_takes (d := d)  hc45, ?_⟩
                refine ⟨fun c => ?_, fun c => ?_⟩
                · rw [if_pos c] at h
                  cases h; rfl
                · rw [if_neg c] at h
                  cases h; rfl
              · rw [if_neg c] at h
                cases h; rfl
            · rw [if_neg c] at h
              cases h; rfl
          · rw [if_neg c] at h
            cases h; rfl
        · rw [if_neg c] at h
          cases h; rfl
      · rw [if_neg c] at h
        cases h; rfl
    · rw [if_neg c] at h
      cases h; rfl
  · rw [if_neg c] at h
    cases h; rfl
def f_X11_rush_20 : Nat → Int → Int → e_M → Option (Int × e_M)
  | 0, _, _, _ => none
  | n + 1, v1, v2, M => (if (M 68 0) ≤ v2 then (some (v1, M)) else (f_b (f_X11_buys 533 n v2 M) fun rr1 NN2 => (f_b (f_X11_isSold 533 v2 NN2) fun rr3 NN4 => (if rr3 = 0 then (f_X11_rush_20 n (e_or v1 0) (e_w (v2 + 1)) NN4) else (f_X11_rush_20 n (e_or v1 (e_shl 1 v2)) (e_w (v2 + 1)) NN4)))))
theorem s_X11_rush_20 {X : e_X} {d gn : Nat} : ∀ n : Nat, ∀ (v1 v2 : Int) (M M' : e_M) (v : Int), f_X11_rush_20  n v1 v2 M = some (v, M') → e_G X (d + 7) YX11_rush 20 [some (.inr (.inr 64)), some (.inl v1), some (.inl v2)] [] (557, gn, e_RF, M) (.inl (some (.inl v)), (557, gn, e_RF, M')) := by
  intro n
  induction n with
  | zero => intro v1 v2 M M' v h; cases h
  | succ n ih =>
    intro v1 v2 M M' v h
    rw [f_X11_rush_20] at h
    refine wp_X11_rush_20 (d := d + 6)  M v1 v2 (f_mn) ?_
    refine ⟨fun c => ?_, fun c => ?_⟩
    · rw [if_pos c] at h
      cases h; rfl
    · rw [if_neg c] at h
      obtain ⟨rr5, NN6, hc7, h⟩ := f_bd h
      refine ⟨rr5, NN6, s_X11_buys (d := d) rfl (Nat.le_of_ble_eq_true rfl) (by decide) hc7, ?_⟩
      obtain ⟨rr8, NN9, hc10, h⟩ := f_bd h
      refine ⟨rr8, NN9, s_X11_isSold (d := d + 6) rfl (Nat.le_of_ble_eq_true rfl) (by decide) hc10, ?_⟩
      refine ⟨fun c => ?_, fun c => ?_⟩
      · rw [if_pos c] at h
        exact ih _ _ _ _ _ h
      · rw [if_neg c] at h
        exact ih _ _ _ _ _ h
def f_X11_rush (n : Nat) (M : e_M) : Option (Int × e_M) := (f_b (f_X11_copies 532 533 n (e_up M 64 0 0)) fun _ NN12 => (f_X11_rush_20 n 0 0 NN12))
theorem s_X11_rush {X : e_X} {d gn : Nat} {n : Nat} {M M' : e_M} {v : Int} (h : f_X11_rush  n  M = some (v, M')) : e_E X (d + 7) YX11_rush [.inr (.inr 64)] (557, gn, e_RF, M) (.inl (some (.inl v)), (557, gn, e_RF, M')) := by
  unfold f_X11_rush at h
  refine wp_X11_rush_0 (d := d + 6)  M  (f_mn) ?_
  obtain ⟨rr13, NN14, hc15, h⟩ := f_bd h
  refine ⟨NN14, s_X11_copies (d := d + 6) rfl (Nat.le_of_ble_eq_true rfl) (by decide) rfl (Nat.le_of_ble_eq_true rfl) (by decide) hc15, ?_⟩
  exact s_X11_rush_20  _ _ _ _ _ _ h
def f_X11_town_42 : Nat → Int → e_M → Option (Int × e_M)
  | 0, _, _ => none
  | n + 1, p1, M => (if ¬ (M 64 5) = 0 then (if (M 64 5) = 0 then (f_b (f_X11_beginsAnew n (e_up M 64 3 (-1))) fun _ NN12 => (some ((NN12 68 0), NN12))) else (f_b (f_X11_ends M) fun rr9 NN10 => (some (rr9, NN10)))) else (if (M 64 2) ≤ (M 64 4) then (if (M 64 5) = 0 then (f_b (f_X11_beginsAnew n (e_up M 64 3 (-1))) fun _ NN8 => (some ((NN8 68 0), NN8))) else (f_b (f_X11_ends M) fun rr5 NN6 => (some (rr5, NN6)))) else (f_b (f_X11_clause n M) fun _ NN2 => (f_b (f_X11_blanks n NN2) fun _ NN4 => (f_X11_town_42 n p1 NN4)))))
theorem s_X11_town_42 {X : e_X} {d gn : Nat} : ∀ n : Nat, ∀ (p1 : Int) (M M' : e_M) (v : Int), f_X11_town_42  n p1 M = some (v, M') → e_G X (d + 6) YX11_town 42 [some (.inr (.inr 64)), some (.inl p1)] [] (557, gn, e_RF, M) (.inl (some (.inl v)), (557, gn, e_RF, M')) := by
  intro n
  induction n with
  | zero => intro p1 M M' v h; cases h
  | succ n ih =>
    intro p1 M M' v h
    rw [f_X11_town_42] at h
    refine wp_X11_town_42 (d := d + 5)  M p1 (f_mn) ?_
    refine ⟨fun c => ?_, fun c => ?_⟩
    · rw [if_pos c] at h
      refine wp_X11_town_71 (d := d + 5)  _ _ (f_mn) ?_
      refine ⟨fun c => ?_, fun c => ?_⟩
      · rw [if_pos c] at h
        obtain ⟨rr13, NN14, hc15, h⟩ := f_bd h
        refine ⟨NN14, s_X11_beginsAnew (d := d + 4)  hc15, ?_⟩
        cases h; rfl
      · rw [if_neg c] at h
        obtain ⟨rr16, NN17, hc18, h⟩ := f_bd h
        refine ⟨rr16, NN17, s_X11_ends (d := d + 5)  hc18, ?_⟩
        cases h; rfl
    · rw [if_neg (not_not_intro c)] at h
      refine ⟨fun c => ?_, fun c => ?_⟩
      · rw [if_pos c] at h
        refine wp_X11_town_71 (d := d + 5)  _ _ (f_mn) ?_
        refine ⟨fun c => ?_, fun c => ?_⟩
        · rw [if_pos c] at h
          obtain ⟨rr19, NN20, hc21, h⟩ := f_bd h
          refine ⟨NN20, s_X11_beginsAnew (d := d + 4)  hc21, ?_⟩
          cases h; rfl
        · rw [if_neg c] at h
          obtain ⟨rr22, NN23, hc24, h⟩ := f_bd h
          refine ⟨rr22, NN23, s_X11_ends (d := d + 5)  hc24, ?_⟩
          cases h; rfl
      · rw [if_neg c] at h
        obtain ⟨rr25, NN26, hc27, h⟩ := f_bd h
        refine ⟨NN26, s_X11_clause (d := d)  hc27, ?_⟩
        obtain ⟨rr28, NN29, hc30, h⟩ := f_bd h
        refine ⟨NN29, s_X11_blanks (d := d + 4)  hc30, ?_⟩
        exact ih _ _ _ _ h
def f_X11_town_23 (n : Nat) (p1 w0 : Int) (M : e_M) : Option (Int × e_M) := (f_b (f_X11_bad w0 1 1 M) fun rr31 NN32 => (if rr31 = 0 then (f_b (f_X11_starts n p1 NN32) fun _ NN34 => (f_b (f_X11_tellsNothing n NN34) fun _ NN36 => (f_X11_town_42 n p1 NN36))) else (some (0, NN32))))
theorem s_X11_town_23 {X : e_X} {d gn : Nat} {n : Nat} {p1 w0 : Int} {M M' : e_M} {v : Int} (h : f_X11_town_23  n p1 w0 M = some (v, M')) : e_G X (d + 6) YX11_town 23 [some (.inr (.inr 64)), some (.inl p1)] [.inl w0, .inr (.inr 64)] (557, gn, e_RF, M) (.inl (some (.inl v)), (557, gn, e_RF, M')) := by
  unfold f_X11_town_23 at h
  refine wp_X11_town_23 (d := d + 5)  M p1 w0 (f_mn) ?_
  obtain ⟨rr37, NN38, hc39, h⟩ := f_bd h
  refine ⟨rr37, NN38, s_X11_bad (d := d + 5)  hc39, ?_⟩
  refine ⟨fun c => ?_, fun c => ?_⟩
  · rw [if_pos c] at h
    obtain ⟨rr40, NN41, hc42, h⟩ := f_bd h
    refine ⟨NN41, s_X11_starts (d := d + 3)  hc42, ?_⟩
    obtain ⟨rr43, NN44, hc45, h⟩ := f_bd h
    refine ⟨NN44, s_X11_tellsNothing (d := d + 5)  hc45, ?_⟩
    exact s_X11_town_42  _ _ _ _ _ h
  · rw [if_neg c] at h
    cases h; rfl
def f_X11_town (n : Nat) (p1 : Int) (M : e_M) : Option (Int × e_M) := (f_b (f_X11_in p1 0 ((e_up M 64 0 0) 64 1) (e_up M 64 0 0)) fun rr46 NN47 => (if ¬ rr46 = 0 then (f_X11_town_23 n p1 0 NN47) else (f_X11_town_23 n p1 1 NN47)))
theorem s_X11_town {X : e_X} {d gn : Nat} {n : Nat} {p1 : Int} {M M' : e_M} {v : Int} (h : f_X11_town  n p1 M = some (v, M')) : e_E X (d + 6) YX11_town [.inr (.inr 64), .inl p1] (557, gn, e_RF, M) (.inl (some (.inl v)), (557, gn, e_RF, M')) := by
  unfold f_X11_town at h
  refine wp_X11_town_0 (d := d + 5)  M p1 (f_mn) ?_
  obtain ⟨rr48, NN49, hc50, h⟩ := f_bd h
  refine ⟨rr48, NN49, s_X11_in (d := d + 5)  hc50, ?_⟩
  refine ⟨fun c => ?_, fun c => ?_⟩
  · rw [if_pos c] at h
    exact s_X11_town_23  h
  · rw [if_neg (not_not_intro c)] at h
    exact s_X11_town_23  h
def f_X11_yearBy_24 : Nat → Int → Int → Int → Int → Int → e_M → Option (Int × e_M)
  | 0, _, _, _, _, _, _ => none
  | n + 1, p1, p2, p3, p4, v5, M => (if p2 ≤ v5 then (some (0, M)) else (if (M 68 0) ≤ 0 then (f_b (f_X11_weekEnds 533 n M) fun _ NN38 => (f_X11_yearBy_24 n p1 p2 p3 p4 (e_w (v5 + 1)) NN38)) else (f_b (f_X11_draw (M 68 0) M) fun rr1 NN2 => (f_b (f_X11_draw 16 NN2) fun rr3 NN4 => (if p3 ≤ rr3 then (f_b (f_X11_draw (NN4 68 0) NN4) fun rr27 NN28 => (f_b (f_X11_draw 16 NN28) fun rr29 NN30 => (if p4 ≤ rr29 then (f_b (f_X11_weekEnds 533 n NN30) fun _ NN36 => (f_X11_yearBy_24 n p1 p2 p3 p4 (e_w (v5 + 1)) NN36)) else (f_b (f_X11_sells 533 rr27 NN30) fun rr31 NN32 => (f_b (f_X11_weekEnds 533 n NN32) fun _ NN34 => (f_X11_yearBy_24 n p1 p2 p3 p4 (e_w (v5 + 1)) NN34)))))) else (f_b (f_X11_buys 533 n rr1 NN4) fun rr5 NN6 => (if rr5 = 0 then (f_b (f_X11_draw ((e_up NN6 64 46 (e_w ((NN4 64 46) + 0))) 68 0) (e_up NN6 64 46 (e_w ((NN4 64 46) + 0)))) fun rr17 NN18 => (f_b (f_X11_draw 16 NN18) fun rr19 NN20 => (if p4 ≤ rr19 then (f_b (f_X11_weekEnds 533 n NN20) fun _ NN26 => (f_X11_yearBy_24 n p1 p2 p3 p4 (e_w (v5 + 1)) NN26)) else (f_b (f_X11_sells 533 rr17 NN20) fun rr21 NN22 => (f_b (f_X11_weekEnds 533 n NN22) fun _ NN24 => (f_X11_yearBy_24 n p1 p2 p3 p4 (e_w (v5 + 1)) NN24)))))) else (f_b (f_X11_draw ((e_up NN6 64 46 (e_w ((NN4 64 46) + 1))) 68 0) (e_up NN6 64 46 (e_w ((NN4 64 46) + 1)))) fun rr7 NN8 => (f_b (f_X11_draw 16 NN8) fun rr9 NN10 => (if p4 ≤ rr9 then (f_b (f_X11_weekEnds 533 n NN10) fun _ NN16 => (f_X11_yearBy_24 n p1 p2 p3 p4 (e_w (v5 + 1)) NN16)) else (f_b (f_X11_sells 533 rr7 NN10) fun rr11 NN12 => (f_b (f_X11_weekEnds 533 n NN12) fun _ NN14 => (f_X11_yearBy_24 n p1 p2 p3 p4 (e_w (v5 + 1)) NN14)))))))))))))
theorem s_X11_yearBy_24 {X : e_X} {d gn : Nat} : ∀ n : Nat, ∀ (p1 p2 p3 p4 v5 : Int) (M M' : e_M) (v : Int), f_X11_yearBy_24  n p1 p2 p3 p4 v5 M = some (v, M') → e_G X (d + 7) YX11_yearBy 24 [some (.inr (.inr 64)), some (.inl p1), some (.inl p2), some (.inl p3), some (.inl p4), some (.inl v5), none, none] [] (557, gn, e_RF, M) (.inl none, (557, gn, e_RF, M')) := by
  intro n
  induction n with
  | zero => intro p1 p2 p3 p4 v5 M M' v h; cases h
  | succ n ih =>
    intro p1 p2 p3 p4 v5 M M' v h
    rw [f_X11_yearBy_24] at h
    refine wp_X11_yearBy_24 (d := d + 6)  M p1 p2 p3 p4 v5 (f_mn) ?_
    refine ⟨fun c => ?_, fun c => ?_⟩
    · rw [if_pos c] at h
      cases h; rfl
    · rw [if_neg c] at h
      refine ⟨fun c => ?_, fun c => ?_⟩
      · rw [if_pos c] at h
        refine wp_X11_yearBy_121 (d := d + 6)  _ _ _ _ _ _ (f_mn) ?_
        obtain ⟨rr39, NN40, hc41, h⟩ := f_bd h
        refine ⟨NN40, s_X11_weekEnds (d := d + 4) rfl (Nat.le_of_ble_eq_true rfl) (by decide) hc41, ?_⟩
        exact ih _ _ _ _ _ _ _ _ h
      · rw [if_neg c] at h
        obtain ⟨rr42, NN43, hc44, h⟩ := f_bd h
        refine ⟨rr42, NN43, s_X11_draw (d := d + 6)  hc44, ?_⟩
        obtain ⟨rr45, NN46, hc47, h⟩ := f_bd h
        refine ⟨rr45, NN46, s_X11_draw (d := d + 6)  hc47, ?_⟩
        refine ⟨fun c => ?_, fun c => ?_⟩
        · rw [if_pos c] at h
          refine wp_X11_yearBy_88 (d := d + 6)  _ _ _ _ _ _ _ (f_mn) ?_
          obtain ⟨rr48, NN49, hc50, h⟩ := f_bd h
          refine ⟨rr48, NN49, s_X11_draw (d := d + 6)  hc50, ?_⟩
          obtain ⟨rr51, NN52, hc53, h⟩ := f_bd h
          refine ⟨rr51, NN52, s_X11_draw (d := d + 6)  hc53, ?_⟩
          refine ⟨fun c => ?_, fun c => ?_⟩
          · rw [if_pos c] at h
            refine wp_X11_yearBy_121 (d := d + 6)  _ _ _ _ _ _ (f_mn) ?_
            obtain ⟨rr54, NN55, hc56, h⟩ := f_bd h
            refine ⟨NN55, s_X11_weekEnds (d := d + 4) rfl (Nat.le_of_ble_eq_true rfl) (by decide) hc56, ?_⟩
            exact ih _ _ _ _ _ _ _ _ h
          · rw [if_neg c] at h
            obtain ⟨rr57, NN58, hc59, h⟩ := f_bd h
            refine ⟨rr57, NN58, s_X11_sells (d := d + 5) rfl (Nat.le_of_ble_eq_true rfl) (by decide) hc59, ?_⟩
            refine wp_X11_yearBy_121 (d := d + 6)  _ _ _ _ _ _ (f_mn) ?_
            obtain ⟨rr60, NN61, hc62, h⟩ := f_bd h
            refine ⟨NN61, s_X11_weekEnds (d := d + 4) rfl (Nat.le_of_ble_eq_true rfl) (by decide) hc62, ?_⟩
            exact ih _ _ _ _ _ _ _ _ h
        · rw [if_neg c] at h
          obtain ⟨rr63, NN64, hc65, h⟩ := f_bd h
          refine ⟨rr63, NN64, s_X11_buys (d := d) rfl (Nat.le_of_ble_eq_true rfl) (by decide) hc65, ?_⟩
          refine ⟨fun c => ?_, fun c => ?_⟩
          · rw [if_pos c] at h
            refine wp_X11_yearBy_88 (d := d + 6)  _ _ _ _ _ _ _ (f_mn) ?_
            obtain ⟨rr66, NN67, hc68, h⟩ := f_bd h
            refine ⟨rr66, NN67, s_X11_draw (d := d + 6)  hc68, ?_⟩
            obtain ⟨rr69, NN70, hc71, h⟩ := f_bd h
            refine ⟨rr69, NN70, s_X11_draw (d := d + 6)  hc71, ?_⟩
            refine ⟨fun c => ?_, fun c => ?_⟩
            · rw [if_pos c] at h
              refine wp_X11_yearBy_121 (d := d + 6)  _ _ _ _ _ _ (f_mn) ?_
              obtain ⟨rr72, NN73, hc74, h⟩ := f_bd h
              refine ⟨NN73, s_X11_weekEnds (d := d + 4) rfl (Nat.le_of_ble_eq_true rfl) (by decide) hc74, ?_⟩
              exact ih _ _ _ _ _ _ _ _ h
            · rw [if_neg c] at h
              obtain ⟨rr75, NN76, hc77, h⟩ := f_bd h
              refine ⟨rr75, NN76, s_X11_sells (d := d + 5) rfl (Nat.le_of_ble_eq_true rfl) (by decide) hc77, ?_⟩
              refine wp_X11_yearBy_121 (d := d + 6)  _ _ _ _ _ _ (f_mn) ?_
              obtain ⟨rr78, NN79, hc80, h⟩ := f_bd h
              refine ⟨NN79, s_X11_weekEnds (d := d + 4) rfl (Nat.le_of_ble_eq_true rfl) (by decide) hc80, ?_⟩
              exact ih _ _ _ _ _ _ _ _ h
          · rw [if_neg c] at h
            refine wp_X11_yearBy_88 (d := d + 6)  _ _ _ _ _ _ _ (f_mn) ?_
            obtain ⟨rr81, NN82, hc83, h⟩ := f_bd h
            refine ⟨rr81, NN82, s_X11_draw (d := d + 6)  hc83, ?_⟩
            obtain ⟨rr84, NN85, hc86, h⟩ := f_bd h
            refine ⟨rr84, NN85, s_X11_draw (d := d + 6)  hc86, ?_⟩
            refine ⟨fun c => ?_, fun c => ?_⟩
            · rw [if_pos c] at h
              refine wp_X11_yearBy_121 (d := d + 6)  _ _ _ _ _ _ (f_mn) ?_
              obtain ⟨rr87, NN88, hc89, h⟩ := f_bd h
              refine ⟨NN88, s_X11_weekEnds (d := d + 4) rfl (Nat.le_of_ble_eq_true rfl) (by decide) hc89, ?_⟩
              exact ih _ _ _ _ _ _ _ _ h
            · rw [if_neg c] at h
              obtain ⟨rr90, NN91, hc92, h⟩ := f_bd h
              refine ⟨rr90, NN91, s_X11_sells (d := d + 5) rfl (Nat.le_of_ble_eq_true rfl) (by decide) hc92, ?_⟩
              refine wp_X11_yearBy_121 (d := d + 6)  _ _ _ _ _ _ (f_mn) ?_
              obtain ⟨rr93, NN94, hc95, h⟩ := f_bd h
              refine ⟨NN94, s_X11_weekEnds (d := d + 4) rfl (Nat.le_of_ble_eq_true rfl) (by decide) hc95, ?_⟩
              exact ih _ _ _ _ _ _ _ _ h
def f_X11_yearBy (n : Nat) (p1 p2 p3 p4 : Int) (M : e_M) : Option (Int × e_M) := (f_b (f_X11_copies 532 533 n M) fun _ NN97 => (f_X11_yearBy_24 n p1 p2 p3 p4 0 (e_up (e_up NN97 64 45 p1) 64 46 0)))
theorem s_X11_yearBy {X : e_X} {d gn : Nat} {n : Nat} {p1 p2 p3 p4 : Int} {M M' : e_M} {v : Int} (h : f_X11_yearBy  n p1 p2 p3 p4 M = some (v, M')) : e_E X (d + 7) YX11_yearBy [.inr (.inr 64), .inl p1, .inl p2, .inl p3, .inl p4] (557, gn, e_RF, M) (.inl none, (557, gn, e_RF, M')) := by
  unfold f_X11_yearBy at h
  refine wp_X11_yearBy_0 (d := d + 6)  M p1 p2 p3 p4 (f_mn) ?_
  obtain ⟨rr98, NN99, hc100, h⟩ := f_bd h
  refine ⟨NN99, s_X11_copies (d := d + 6) rfl (Nat.le_of_ble_eq_true rfl) (by decide) rfl (Nat.le_of_ble_eq_true rfl) (by decide) hc100, ?_⟩
  exact s_X11_yearBy_24  _ _ _ _ _ _ _ _ _ h
def f_X4_runOn (n : Nat) (M : e_M) : Option (Int × e_M) := (f_b (f_k_X4_runSteps n 0 ((e_up (e_up (e_up M 32 4 0) 32 5 0) 32 6 0) 32 0) 0 (e_up (e_up (e_up M 32 4 0) 32 5 0) 32 6 0)) fun _ NN2 => (some ((NN2 32 5), NN2)))
theorem s_X4_runOn {X : e_X} {d gn : Nat} {n : Nat} {M M' : e_M} {v : Int} (h : f_X4_runOn  n  M = some (v, M')) : e_E X (d + 15) YX4_runOn [.inr (.inr 32), .inr (.inr 36)] (557, gn, e_RF, M) (.inl (some (.inl v)), (557, gn, e_RF, M')) := by
  unfold f_X4_runOn at h
  refine wp_X4_runOn_0 (d := d + 14)  M  (f_mn) ?_
  obtain ⟨rr3, NN4, hc5, h⟩ := f_bd h
  refine ⟨NN4, s_k_X4_runSteps (d := d)  hc5, ?_⟩
  cases h; rfl
def f_X9_liveFrom_33 : Nat → Int → Int → Int → Int → Int → Int → e_M → Option (Int × e_M)
  | 0, _, _, _, _, _, _, _ => none
  | n + 1, p2, p3, p4, p5, v6, v7, M => (if p3 ≤ v7 then (some (0, M)) else (if v6 ≤ 0 then (f_b (f_X3_passWeek_trial n M) fun _ NN6 => (f_X9_liveFrom_33 n p2 p3 p4 p5 v6 (e_w (v7 + 1)) NN6)) else (f_b (f_X9_tradeAmong n v6 p4 p5 M) fun _ NN2 => (f_b (f_X3_passWeek_trial n NN2) fun _ NN4 => (f_X9_liveFrom_33 n p2 p3 p4 p5 v6 (e_w (v7 + 1)) NN4)))))
theorem s_X9_liveFrom_33 {X : e_X} {d gn : Nat} : ∀ n : Nat, ∀ (p2 p3 p4 p5 v6 v7 : Int) (M M' : e_M) (v : Int), f_X9_liveFrom_33  n p2 p3 p4 p5 v6 v7 M = some (v, M') → e_G X (d + 5) YX9_liveFrom 33 [some (.inr (.inr 54)), some (.inr (.inr 36)), some (.inl p2), some (.inl p3), some (.inl p4), some (.inl p5), some (.inl v6), some (.inl v7)] [] (557, gn, e_RF, M) (.inl none, (557, gn, e_RF, M')) := by
  intro n
  induction n with
  | zero => intro p2 p3 p4 p5 v6 v7 M M' v h; cases h
  | succ n ih =>
    intro p2 p3 p4 p5 v6 v7 M M' v h
    rw [f_X9_liveFrom_33] at h
    refine wp_X9_liveFrom_33 (d := d + 4)  M p2 p3 p4 p5 v6 v7 (f_mn) ?_
    refine ⟨fun c => ?_, fun c => ?_⟩
    · rw [if_pos c] at h
      cases h; rfl
    · rw [if_neg c] at h
      refine ⟨fun c => ?_, fun c => ?_⟩
      · rw [if_pos c] at h
        refine wp_X9_liveFrom_54 (d := d + 4)  _ _ _ _ _ _ _ (f_mn) ?_
        obtain ⟨rr7, NN8, hc9, h⟩ := f_bd h
        refine ⟨NN8, s_X3_passWeek_trial (d := d + 2)  hc9, ?_⟩
        exact ih _ _ _ _ _ _ _ _ _ h
      · rw [if_neg c] at h
        obtain ⟨rr10, NN11, hc12, h⟩ := f_bd h
        refine ⟨NN11, s_X9_tradeAmong (d := d)  hc12, ?_⟩
        refine wp_X9_liveFrom_54 (d := d + 4)  _ _ _ _ _ _ _ (f_mn) ?_
        obtain ⟨rr13, NN14, hc15, h⟩ := f_bd h
        refine ⟨NN14, s_X3_passWeek_trial (d := d + 2)  hc15, ?_⟩
        exact ih _ _ _ _ _ _ _ _ _ h
def f_X9_liveFrom (n : Nat) (p2 p3 p4 p5 : Int) (M : e_M) : Option (Int × e_M) := (f_b (f_X3_copyFrom_trial M) fun _ NN17 => (f_X9_liveFrom_33 n p2 p3 p4 p5 ((e_up (e_up NN17 54 1 p2) 54 2 0) 4 0) 0 (e_up (e_up NN17 54 1 p2) 54 2 0)))
theorem s_X9_liveFrom {X : e_X} {d gn : Nat} {n : Nat} {p2 p3 p4 p5 : Int} {M M' : e_M} {v : Int} (h : f_X9_liveFrom  n p2 p3 p4 p5 M = some (v, M')) : e_E X (d + 5) YX9_liveFrom [.inr (.inr 54), .inr (.inr 36), .inl p2, .inl p3, .inl p4, .inl p5] (557, gn, e_RF, M) (.inl none, (557, gn, e_RF, M')) := by
  unfold f_X9_liveFrom at h
  refine wp_X9_liveFrom_0 (d := d + 4)  M p2 p3 p4 p5 (f_mn) ?_
  obtain ⟨rr18, NN19, hc20, h⟩ := f_bd h
  refine ⟨NN19, s_X3_copyFrom_trial (d := d + 3)  hc20, ?_⟩
  exact s_X9_liveFrom_33  _ _ _ _ _ _ _ _ _ _ h
def f_X11_sum_4 (rc_X11_product : e_M → Option (Int × e_M)) : Nat → e_M → Option (Int × e_M)
  | 0, _ => none
  | n + 1, M => (if ¬ (M 64 5) = 0 then (some (0, M)) else (f_b (f_X11_takesSign n 43 M) fun rr1 NN2 => (if rr1 = 0 then (f_b (f_X11_takesSign n 45 NN2) fun rr7 NN8 => (if rr7 = 0 then (some (0, NN8)) else (f_b (rc_X11_product NN8) fun _ NN10 => (f_b (f_X11_notes 3 0 NN10) fun _ NN12 => (f_X11_sum_4 rc_X11_product n NN12))))) else (f_b (rc_X11_product NN2) fun _ NN4 => (f_b (f_X11_notes 2 0 NN4) fun _ NN6 => (f_X11_sum_4 rc_X11_product n NN6))))))
theorem s_X11_sum_4 {X : e_X} {d gn : Nat} {rc_X11_product : e_M → Option (Int × e_M)} (hc_X11_product : ∀ (M M' : e_M) (v : Int), rc_X11_product  M = some (v, M') → e_E X (d + 5) YX11_product [.inr (.inr 64)] (557, gn, e_RF, M) (.inl none, (557, gn, e_RF, M'))) : ∀ n : Nat, ∀ (M M' : e_M) (v : Int), f_X11_sum_4 rc_X11_product  n  M = some (v, M') → e_G X (d + 6) YX11_sum 4 [some (.inr (.inr 64)), none] [] (557, gn, e_RF, M) (.inl none, (557, gn, e_RF, M')) := by
  intro n
  induction n with
  | zero => intro  M M' v h; cases h
  | succ n ih =>
    intro  M M' v h
    rw [f_X11_sum_4] at h
    refine wp_X11_sum_4 (d := d + 5)  M  (f_mn) ?_
    refine ⟨fun c => ?_, fun c => ?_⟩
    · rw [if_pos c] at h
      cases h; rfl
    · rw [if_neg (not_not_intro c)] at h
      obtain ⟨rr13, NN14, hc15, h⟩ := f_bd h
      refine ⟨rr13, NN14, s_X11_takesSign (d := d + 3)  hc15, ?_⟩
      refine ⟨fun c => ?_, fun c => ?_⟩
      · rw [if_pos c] at h
        obtain ⟨rr16, NN17, hc18, h⟩ := f_bd h
        refine ⟨rr16, NN17, s_X11_takesSign (d := d + 3)  hc18, ?_⟩
        refine ⟨fun c => ?_, fun c => ?_⟩
        · rw [if_pos c] at h
          refine wp_X11_sum_38 (d := d + 5)  _ _ (f_mn) ?_
          refine ⟨fun c => absurd c (by decide), fun _ => ?_⟩
          cases h; rfl
        · rw [if_neg c] at h
          refine wp_X11_sum_38 (d := d + 5)  _ _ (f_mn) ?_
          refine ⟨fun _ => ?_, fun c => absurd c (by decide)⟩
          obtain ⟨rr19, NN20, hc21, h⟩ := f_bd h
          refine ⟨NN20, hc_X11_product _ _ _ hc21, ?_⟩
          obtain ⟨rr22, NN23, hc24, h⟩ := f_bd h
          refine ⟨NN23, s_X11_notes (d := d + 5)  hc24, ?_⟩
          exact ih  _ _ _ h
      · rw [if_neg c] at h
        refine wp_X11_sum_38 (d := d + 5)  _ _ (f_mn) ?_
        refine ⟨fun _ => ?_, fun c => absurd c (by decide)⟩
        obtain ⟨rr25, NN26, hc27, h⟩ := f_bd h
        refine ⟨NN26, hc_X11_product _ _ _ hc27, ?_⟩
        obtain ⟨rr28, NN29, hc30, h⟩ := f_bd h
        refine ⟨NN29, s_X11_notes (d := d + 5)  hc30, ?_⟩
        exact ih  _ _ _ h
def f_X11_sum (rc_X11_product : e_M → Option (Int × e_M)) (n : Nat) (M : e_M) : Option (Int × e_M) := (f_b (rc_X11_product M) fun _ NN32 => (f_X11_sum_4 rc_X11_product n NN32))
theorem s_X11_sum {X : e_X} {d gn : Nat} {rc_X11_product : e_M → Option (Int × e_M)} (hc_X11_product : ∀ (M M' : e_M) (v : Int), rc_X11_product  M = some (v, M') → e_E X (d + 5) YX11_product [.inr (.inr 64)] (557, gn, e_RF, M) (.inl none, (557, gn, e_RF, M'))) {n : Nat} {M M' : e_M} {v : Int} (h : f_X11_sum rc_X11_product  n  M = some (v, M')) : e_E X (d + 6) YX11_sum [.inr (.inr 64)] (557, gn, e_RF, M) (.inl none, (557, gn, e_RF, M')) := by
  unfold f_X11_sum at h
  refine wp_X11_sum_0 (d := d + 5)  M  (f_mn) ?_
  obtain ⟨rr33, NN34, hc35, h⟩ := f_bd h
  refine ⟨NN34, hc_X11_product _ _ _ hc35, ?_⟩
  exact s_X11_sum_4 hc_X11_product  _  _ _ _ h
def f_X11_product_4 (rc_X11_one : e_M → Option (Int × e_M)) : Nat → e_M → Option (Int × e_M)
  | 0, _ => none
  | n + 1, M => (if ¬ (M 64 5) = 0 then (some (0, M)) else (f_b (f_X11_takesSign n 42 M) fun rr1 NN2 => (if rr1 = 0 then (f_b (f_X11_takesSign n 47 NN2) fun rr7 NN8 => (if rr7 = 0 then (f_b (f_X11_takesSign n 37 NN8) fun rr13 NN14 => (if rr13 = 0 then (some (0, NN14)) else (f_b (rc_X11_one NN14) fun _ NN16 => (f_b (f_X11_notes 6 0 NN16) fun _ NN18 => (f_X11_product_4 rc_X11_one n NN18))))) else (f_b (rc_X11_one NN8) fun _ NN10 => (f_b (f_X11_notes 5 0 NN10) fun _ NN12 => (f_X11_product_4 rc_X11_one n NN12))))) else (f_b (rc_X11_one NN2) fun _ NN4 => (f_b (f_X11_notes 4 0 NN4) fun _ NN6 => (f_X11_product_4 rc_X11_one n NN6))))))
theorem s_X11_product_4 {X : e_X} {d gn : Nat} {rc_X11_one : e_M → Option (Int × e_M)} (hc_X11_one : ∀ (M M' : e_M) (v : Int), rc_X11_one  M = some (v, M') → e_E X (d + 5) YX11_one [.inr (.inr 64)] (557, gn, e_RF, M) (.inl none, (557, gn, e_RF, M'))) : ∀ n : Nat, ∀ (M M' : e_M) (v : Int), f_X11_product_4 rc_X11_one  n  M = some (v, M') → e_G X (d + 6) YX11_product 4 [some (.inr (.inr 64)), none] [] (557, gn, e_RF, M) (.inl none, (557, gn, e_RF, M')) := by
  intro n
  induction n with
  | zero => intro  M M' v h; cases h
  | succ n ih =>
    intro  M M' v h
    rw [f_X11_product_4] at h
    refine wp_X11_product_4 (d := d + 5)  M  (f_mn) ?_
    refine ⟨fun c => ?_, fun c => ?_⟩
    · rw [if_pos c] at h
      cases h; rfl
    · rw [if_neg (not_not_intro c)] at h
      obtain ⟨rr19, NN20, hc21, h⟩ := f_bd h
      refine ⟨rr19, NN20, s_X11_takesSign (d := d + 3)  hc21, ?_⟩
      refine ⟨fun c => ?_, fun c => ?_⟩
      · rw [if_pos c] at h
        obtain ⟨rr22, NN23, hc24, h⟩ := f_bd h
        refine ⟨rr22, NN23, s_X11_takesSign (d := d + 3)  hc24, ?_⟩
        refine ⟨fun c => ?_, fun c => ?_⟩
        · rw [if_pos c] at h
          obtain ⟨rr25, NN26, hc27, h⟩ := f_bd h
          refine ⟨rr25, NN26, s_X11_takesSign (d := d + 3)  hc27, ?_⟩
          refine ⟨fun c => ?_, fun c => ?_⟩
          · rw [if_pos c] at h
            refine wp_X11_product_52 (d := d + 5)  _ _ (f_mn) ?_
            refine ⟨fun c => absurd c (by decide), fun _ => ?_⟩
            cases h; rfl
          · rw [if_neg c] at h
            refine wp_X11_product_52 (d := d + 5)  _ _ (f_mn) ?_
            refine ⟨fun _ => ?_, fun c => absurd c (by decide)⟩
            obtain ⟨rr28, NN29, hc30, h⟩ := f_bd h
            refine ⟨NN29, hc_X11_one _ _ _ hc30, ?_⟩
            obtain ⟨rr31, NN32, hc33, h⟩ := f_bd h
            refine ⟨NN32, s_X11_notes (d := d + 5)  hc33, ?_⟩
            exact ih  _ _ _ h
        · rw [if_neg c] at h
          refine wp_X11_product_52 (d := d + 5)  _ _ (f_mn) ?_
          refine ⟨fun _ => ?_, fun c => absurd c (by decide)⟩
          obtain ⟨rr34, NN35, hc36, h⟩ := f_bd h
          refine ⟨NN35, hc_X11_one _ _ _ hc36, ?_⟩
          obtain ⟨rr37, NN38, hc39, h⟩ := f_bd h
          refine ⟨NN38, s_X11_notes (d := d + 5)  hc39, ?_⟩
          exact ih  _ _ _ h
      · rw [if_neg c] at h
        refine wp_X11_product_52 (d := d + 5)  _ _ (f_mn) ?_
        refine ⟨fun _ => ?_, fun c => absurd c (by decide)⟩
        obtain ⟨rr40, NN41, hc42, h⟩ := f_bd h
        refine ⟨NN41, hc_X11_one _ _ _ hc42, ?_⟩
        obtain ⟨rr43, NN44, hc45, h⟩ := f_bd h
        refine ⟨NN44, s_X11_notes (d := d + 5)  hc45, ?_⟩
        exact ih  _ _ _ h
def f_X11_product (rc_X11_one : e_M → Option (Int × e_M)) (n : Nat) (M : e_M) : Option (Int × e_M) := (f_b (rc_X11_one M) fun _ NN47 => (f_X11_product_4 rc_X11_one n NN47))
theorem s_X11_product {X : e_X} {d gn : Nat} {rc_X11_one : e_M → Option (Int × e_M)} (hc_X11_one : ∀ (M M' : e_M) (v : Int), rc_X11_one  M = some (v, M') → e_E X (d + 5) YX11_one [.inr (.inr 64)] (557, gn, e_RF, M) (.inl none, (557, gn, e_RF, M'))) {n : Nat} {M M' : e_M} {v : Int} (h : f_X11_product rc_X11_one  n  M = some (v, M')) : e_E X (d + 6) YX11_product [.inr (.inr 64)] (557, gn, e_RF, M) (.inl none, (557, gn, e_RF, M')) := by
  unfold f_X11_product at h
  refine wp_X11_product_0 (d := d + 5)  M  (f_mn) ?_
  obtain ⟨rr48, NN49, hc50, h⟩ := f_bd h
  refine ⟨NN49, hc_X11_one _ _ _ hc50, ?_⟩
  exact s_X11_product_4 hc_X11_one  _  _ _ _ h
def f_X11_one_56 (rc_X11_sum : e_M → Option (Int × e_M)) (n : Nat) (w0 : Int) (M : e_M) : Option (Int × e_M) := (if w0 = (-1) then (f_b (f_X11_byteAt (M 64 4) M) fun rr17 NN18 => (if ¬ rr17 = 40 then (f_b (f_X11_knownHere n NN18) fun rr25 NN26 => (if rr25 = (-1) then (f_b (f_X11_number n 0 999 NN26) fun rr29 NN30 => (f_b (f_X11_notes 0 rr29 NN30) fun _ NN32 => (some (0, NN32)))) else (f_b (f_X11_notes 1 rr25 NN26) fun _ NN28 => (some (0, NN28))))) else (f_b (f_X11_opensOne NN18) fun rr19 NN20 => (if ¬ rr19 = 0 then (f_b (rc_X11_sum (e_up NN20 64 4 (e_w ((NN20 64 4) + 1)))) fun _ NN22 => (f_b (f_X11_sign n 41 NN22) fun _ NN24 => (some (0, (e_up NN24 64 8 (e_w ((NN24 64 8) - 1))))))) else (some (0, NN20)))))) else (f_b (f_X11_opensOne M) fun rr1 NN2 => (if ¬ rr1 = 0 then (f_b (f_X11_skipWord n NN2) fun _ NN4 => (f_b (f_X11_sign n 91 NN4) fun _ NN6 => (f_b (rc_X11_sum NN6) fun _ NN8 => (f_b (f_X11_sign n 44 NN8) fun _ NN10 => (f_b (rc_X11_sum NN10) fun _ NN12 => (f_b (f_X11_sign n 93 NN12) fun _ NN14 => (f_b (f_X11_notes w0 0 NN14) fun _ NN16 => (some (0, (e_up NN16 64 8 (e_w ((NN16 64 8) - 1)))))))))))) else (some (0, NN2)))))
theorem s_X11_one_56 {X : e_X} {d gn : Nat} {rc_X11_sum : e_M → Option (Int × e_M)} (hc_X11_sum : ∀ (M M' : e_M) (v : Int), rc_X11_sum  M = some (v, M') → e_E X (d + 5) YX11_sum [.inr (.inr 64)] (557, gn, e_RF, M) (.inl none, (557, gn, e_RF, M'))) {n : Nat} {w0 : Int} {M M' : e_M} {v : Int} (h : f_X11_one_56 rc_X11_sum  n w0 M = some (v, M')) : e_G X (d + 6) YX11_one 56 [some (.inr (.inr 64)), none, none] [.inl w0] (557, gn, e_RF, M) (.inl none, (557, gn, e_RF, M')) := by
  unfold f_X11_one_56 at h
  refine wp_X11_one_56 (d := d + 5)  M w0 (f_mn) ?_
  refine ⟨fun c => ?_, fun c => ?_⟩
  · rw [if_pos c] at h
    obtain ⟨rr33, NN34, hc35, h⟩ := f_bd h
    refine ⟨rr33, NN34, s_X11_byteAt (d := d + 5)  hc35, ?_⟩
    refine ⟨fun c => ?_, fun c => ?_⟩
    · rw [if_pos c] at h
      obtain ⟨rr36, NN37, hc38, h⟩ := f_bd h
      refine ⟨rr36, NN37, s_X11_knownHere (d := d)  hc38, ?_⟩
      refine ⟨fun c => ?_, fun c => ?_⟩
      · rw [if_pos c] at h
        obtain ⟨rr39, NN40, hc41, h⟩ := f_bd h
        refine ⟨rr39, NN40, s_X11_number (d := d + 3)  hc41, ?_⟩
        obtain ⟨rr42, NN43, hc44, h⟩ := f_bd h
        refine ⟨NN43, s_X11_notes (d := d + 5)  hc44, ?_⟩
        cases h; rfl
      · rw [if_neg c] at h
        obtain ⟨rr45, NN46, hc47, h⟩ := f_bd h
        refine ⟨NN46, s_X11_notes (d := d + 5)  hc47, ?_⟩
        cases h; rfl
    · rw [if_neg (not_not_intro c)] at h
      obtain ⟨rr48, NN49, hc50, h⟩ := f_bd h
      refine ⟨rr48, NN49, s_X11_opensOne (d := d + 4)  hc50, ?_⟩
      refine ⟨fun c => ?_, fun c => ?_⟩
      · rw [if_pos c] at h
        obtain ⟨rr51, NN52, hc53, h⟩ := f_bd h
        refine ⟨NN52, hc_X11_sum _ _ _ hc53, ?_⟩
        obtain ⟨rr54, NN55, hc56, h⟩ := f_bd h
        refine ⟨NN55, s_X11_sign (d := d + 3)  hc56, ?_⟩
        cases h; rfl
      · rw [if_neg (not_not_intro c)] at h
        cases h; rfl
  · rw [if_neg c] at h
    obtain ⟨rr57, NN58, hc59, h⟩ := f_bd h
    refine ⟨rr57, NN58, s_X11_opensOne (d := d + 4)  hc59, ?_⟩
    refine ⟨fun c => ?_, fun c => ?_⟩
    · rw [if_pos c] at h
      obtain ⟨rr60, NN61, hc62, h⟩ := f_bd h
      refine ⟨NN61, s_X11_skipWord (d := d + 4)  hc62, ?_⟩
      obtain ⟨rr63, NN64, hc65, h⟩ := f_bd h
      refine ⟨NN64, s_X11_sign (d := d + 3)  hc65, ?_⟩
      obtain ⟨rr66, NN67, hc68, h⟩ := f_bd h
      refine ⟨NN67, hc_X11_sum _ _ _ hc68, ?_⟩
      obtain ⟨rr69, NN70, hc71, h⟩ := f_bd h
      refine ⟨NN70, s_X11_sign (d := d + 3)  hc71, ?_⟩
      obtain ⟨rr72, NN73, hc74, h⟩ := f_bd h
      refine ⟨NN73, hc_X11_sum _ _ _ hc74, ?_⟩
      obtain ⟨rr75, NN76, hc77, h⟩ := f_bd h
      refine ⟨NN76, s_X11_sign (d := d + 3)  hc77, ?_⟩
      obtain ⟨rr78, NN79, hc80, h⟩ := f_bd h
      refine ⟨NN79, s_X11_notes (d := d + 5)  hc80, ?_⟩
      cases h; rfl
    · rw [if_neg (not_not_intro c)] at h
      cases h; rfl
def f_X11_one (rc_X11_sum : e_M → Option (Int × e_M)) (n : Nat) (M : e_M) : Option (Int × e_M) := (if (M 64 5) = 0 then (f_b (f_X11_blanks n M) fun _ NN82 => (f_b (f_X11_isWord n 12 5 1 19 20 0 NN82) fun rr83 NN84 => (if rr83 = 0 then (f_b (f_X11_isWord n 13 15 19 20 0 0 NN84) fun rr85 NN86 => (if rr85 = 0 then (f_X11_one_56 rc_X11_sum n (-1) NN86) else (f_X11_one_56 rc_X11_sum n 8 NN86))) else (f_X11_one_56 rc_X11_sum n 7 NN84)))) else (some (0, M)))
theorem s_X11_one {X : e_X} {d gn : Nat} {rc_X11_sum : e_M → Option (Int × e_M)} (hc_X11_sum : ∀ (M M' : e_M) (v : Int), rc_X11_sum  M = some (v, M') → e_E X (d + 5) YX11_sum [.inr (.inr 64)] (557, gn, e_RF, M) (.inl none, (557, gn, e_RF, M'))) {n : Nat} {M M' : e_M} {v : Int} (h : f_X11_one rc_X11_sum  n  M = some (v, M')) : e_E X (d + 6) YX11_one [.inr (.inr 64)] (557, gn, e_RF, M) (.inl none, (557, gn, e_RF, M')) := by
  unfold f_X11_one at h
  refine wp_X11_one_0 (d := d + 5)  M  (f_mn) ?_
  refine ⟨fun c => ?_, fun c => ?_⟩
  · rw [if_pos c] at h
    obtain ⟨rr87, NN88, hc89, h⟩ := f_bd h
    refine ⟨NN88, s_X11_blanks (d := d + 4)  hc89, ?_⟩
    obtain ⟨rr90, NN91, hc92, h⟩ := f_bd h
    refine ⟨rr90, NN91, s_X11_isWord (d := d + 2)  hc92, ?_⟩
    refine ⟨fun c => ?_, fun c => ?_⟩
    · rw [if_pos c] at h
      obtain ⟨rr93, NN94, hc95, h⟩ := f_bd h
      refine ⟨rr93, NN94, s_X11_isWord (d := d + 2)  hc95, ?_⟩
      refine ⟨fun c => ?_, fun c => ?_⟩
      · rw [if_pos c] at h
        exact s_X11_one_56 hc_X11_sum  h
      · rw [if_neg c] at h
        exact s_X11_one_56 hc_X11_sum  h
    · rw [if_neg c] at h
      exact s_X11_one_56 hc_X11_sum  h
  · rw [if_neg c] at h
    cases h; rfl
def g_X11_sum (n : Nat) : Nat → Nat → e_M → Option (Int × e_M)
  | 0, _, _ => none
  | k + 1, t, M => (if t = 0 then f_X11_sum (fun N => g_X11_sum n k 1  N) n  M else (if t = 1 then f_X11_product (fun N => g_X11_sum n k 2  N) n  M else f_X11_one (fun N => g_X11_sum n k 0  N) n  M))
theorem sg_X11_sum {X : e_X} {d gn n : Nat} : ∀ k : Nat, (∀ (M M' : e_M) (v : Int), g_X11_sum n k 0  M = some (v, M') → e_E X (d + k + 5) YX11_sum [.inr (.inr 64)] (557, gn, e_RF, M) (.inl none, (557, gn, e_RF, M'))) ∧ (∀ (M M' : e_M) (v : Int), g_X11_sum n k 1  M = some (v, M') → e_E X (d + k + 5) YX11_product [.inr (.inr 64)] (557, gn, e_RF, M) (.inl none, (557, gn, e_RF, M'))) ∧ (∀ (M M' : e_M) (v : Int), g_X11_sum n k 2  M = some (v, M') → e_E X (d + k + 5) YX11_one [.inr (.inr 64)] (557, gn, e_RF, M) (.inl none, (557, gn, e_RF, M'))) := by
  intro k
  induction k with
  | zero => exact ⟨(by intros; rename_i h; cases h), (by intros; rename_i h; cases h), (by intros; rename_i h; cases h)⟩
  | succ k ih =>
    rw [show d + (k + 1) + 5 = d + k + 5 + 1 by omega]
    refine ⟨?_, ?_, ?_⟩
    · intro  M M' v h
      rw [g_X11_sum, if_pos rfl] at h
      exact s_X11_sum (d := d + k) ih.2.1 h
    · intro  M M' v h
      rw [g_X11_sum, if_neg (by decide), if_pos rfl] at h
      exact s_X11_product (d := d + k) ih.2.2 h
    · intro  M M' v h
      rw [g_X11_sum, if_neg (by decide), if_neg (by decide)] at h
      exact s_X11_one (d := d + k) ih.1 h
theorem sk_X11_sum {X : e_X} {d gn n : Nat} (k : Nat) : (∀ (M M' : e_M) (v : Int), g_X11_sum n k 0  M = some (v, M') → e_E X (d + k + 5) YX11_sum [.inr (.inr 64)] (557, gn, e_RF, M) (.inl none, (557, gn, e_RF, M'))) := (sg_X11_sum k).1
theorem sk_X11_product {X : e_X} {d gn n : Nat} (k : Nat) : (∀ (M M' : e_M) (v : Int), g_X11_sum n k 1  M = some (v, M') → e_E X (d + k + 5) YX11_product [.inr (.inr 64)] (557, gn, e_RF, M) (.inl none, (557, gn, e_RF, M'))) := (sg_X11_sum k).2.1
theorem sk_X11_one {X : e_X} {d gn n : Nat} (k : Nat) : (∀ (M M' : e_M) (v : Int), g_X11_sum n k 2  M = some (v, M') → e_E X (d + k + 5) YX11_one [.inr (.inr 64)] (557, gn, e_RF, M) (.inl none, (557, gn, e_RF, M'))) := (sg_X11_sum k).2.2
def f_k_X11_sum (n : Nat) (M : e_M) : Option (Int × e_M) := g_X11_sum n 40 0  M
theorem s_k_X11_sum {X : e_X} {d gn n : Nat} {M M' : e_M} {v : Int} (h : f_k_X11_sum n  M = some (v, M')) : e_E X (d + 45) YX11_sum [.inr (.inr 64)] (557, gn, e_RF, M) (.inl none, (557, gn, e_RF, M')) := sk_X11_sum (d := d) 40 _ _ _ h
def f_k_X11_product (n : Nat) (M : e_M) : Option (Int × e_M) := g_X11_sum n 40 1  M
theorem s_k_X11_product {X : e_X} {d gn n : Nat} {M M' : e_M} {v : Int} (h : f_k_X11_product n  M = some (v, M')) : e_E X (d + 45) YX11_product [.inr (.inr 64)] (557, gn, e_RF, M) (.inl none, (557, gn, e_RF, M')) := sk_X11_product (d := d) 40 _ _ _ h
def f_k_X11_one (n : Nat) (M : e_M) : Option (Int × e_M) := g_X11_sum n 40 2  M
theorem s_k_X11_one {X : e_X} {d gn n : Nat} {M M' : e_M} {v : Int} (h : f_k_X11_one n  M = some (v, M')) : e_E X (d + 45) YX11_one [.inr (.inr 64)] (557, gn, e_RF, M) (.inl none, (557, gn, e_RF, M')) := sk_X11_one (d := d) 40 _ _ _ h
def f_X11_goes_L2 (rc_X11_goes : Int → Int → e_M → Option (Int × e_M)) : Nat → Nat → Int → Int → Int → Int → e_M → Option (Int × e_M)
  | 0, _, _, _, _, _, _ => none
  | n + 1, k, p1, p2, v3, v4, M => (if k = 0 then (if p2 ≤ v3 then (some (0, M)) else (if 200 ≤ (M 64 40) then (some (0, M)) else (if (0 ≤ v3 ∧ v3 < 80) then (if ¬ ((e_up M 64 40 (e_w ((M 64 40) + 1))) (452 + v3.toNat) 0) = 4 then (if (0 ≤ v3 ∧ v3 < 80) then (f_b (f_X11_does 532 (452 + v3.toNat) n (e_up M 64 40 (e_w ((M 64 40) + 1)))) fun rr1 NN2 => (if rr1 = 0 then (if rr1 = 0 then (if (0 ≤ v3 ∧ v3 < 80) then (f_X11_goes_L2 rc_X11_goes n 0 p1 p2 ((e_up (e_up NN2 64 41 (e_w ((NN2 64 41) + 0))) 64 37 (e_w (((e_up NN2 64 41 (e_w ((NN2 64 41) + 0))) 64 37) + 1))) (452 + v3.toNat) 3) 0 (e_up (e_up NN2 64 41 (e_w ((NN2 64 41) + 0))) 64 37 (e_w (((e_up NN2 64 41 (e_w ((NN2 64 41) + 0))) 64 37) + 1)))) else none) else (if (0 ≤ v3 ∧ v3 < 80) then (f_X11_goes_L2 rc_X11_goes n 0 p1 p2 ((e_up (e_up NN2 64 41 (e_w ((NN2 64 41) + 0))) 64 37 (e_w (((e_up NN2 64 41 (e_w ((NN2 64 41) + 0))) 64 37) + 0))) (452 + v3.toNat) 3) 0 (e_up (e_up NN2 64 41 (e_w ((NN2 64 41) + 0))) 64 37 (e_w (((e_up NN2 64 41 (e_w ((NN2 64 41) + 0))) 64 37) + 0)))) else none)) else (if rr1 = 0 then (if (0 ≤ v3 ∧ v3 < 80) then (f_X11_goes_L2 rc_X11_goes n 0 p1 p2 ((e_up (e_up NN2 64 41 (e_w ((NN2 64 41) + 1))) 64 37 (e_w (((e_up NN2 64 41 (e_w ((NN2 64 41) + 1))) 64 37) + 1))) (452 + v3.toNat) 3) 0 (e_up (e_up NN2 64 41 (e_w ((NN2 64 41) + 1))) 64 37 (e_w (((e_up NN2 64 41 (e_w ((NN2 64 41) + 1))) 64 37) + 1)))) else none) else (if (0 ≤ v3 ∧ v3 < 80) then (f_X11_goes_L2 rc_X11_goes n 0 p1 p2 ((e_up (e_up NN2 64 41 (e_w ((NN2 64 41) + 1))) 64 37 (e_w (((e_up NN2 64 41 (e_w ((NN2 64 41) + 1))) 64 37) + 0))) (452 + v3.toNat) 3) 0 (e_up (e_up NN2 64 41 (e_w ((NN2 64 41) + 1))) 64 37 (e_w (((e_up NN2 64 41 (e_w ((NN2 64 41) + 1))) 64 37) + 0)))) else none)))) else none) else (f_X11_goes_L2 rc_X11_goes n 1 p1 p2 v3 0 (e_up M 64 40 (e_w ((M 64 40) + 1))))) else none))) else (if (0 ≤ v3 ∧ v3 < 80) then (if (M (452 + v3.toNat) 1) ≤ v4 then (if (0 ≤ v3 ∧ v3 < 80) then (f_X11_goes_L2 rc_X11_goes n 0 p1 p2 (M (452 + v3.toNat) 3) 0 M) else none) else (if 200 ≤ (M 64 40) then (if (0 ≤ v3 ∧ v3 < 80) then (f_X11_goes_L2 rc_X11_goes n 0 p1 p2 (M (452 + v3.toNat) 3) 0 M) else none) else (if (0 ≤ v3 ∧ v3 < 80) then (f_b (rc_X11_goes (e_w (v3 + 1)) (M (452 + v3.toNat) 3) M) fun _ NN4 => (f_X11_goes_L2 rc_X11_goes n 1 p1 p2 v3 (e_w (v4 + 1)) NN4)) else none))) else none))
theorem s_X11_goes_L2 {X : e_X} {d gn : Nat} {rc_X11_goes : Int → Int → e_M → Option (Int × e_M)} (hc_X11_goes : ∀ (p1 p2 : Int) (M M' : e_M) (v : Int), rc_X11_goes p1 p2 M = some (v, M') → e_E X (d + 7) YX11_goes [.inr (.inr 64), .inl p1, .inl p2] (557, gn, e_RF, M) (.inl none, (557, gn, e_RF, M'))) : ∀ n : Nat, (∀ (p1 p2 v3 : Int) (M M' : e_M) (v : Int), f_X11_goes_L2 rc_X11_goes  n 0 p1 p2 v3 0 M = some (v, M') → e_G X (d + 8) YX11_goes 2 [some (.inr (.inr 64)), some (.inl p1), some (.inl p2), some (.inl v3), none] [] (557, gn, e_RF, M) (.inl none, (557, gn, e_RF, M'))) ∧ (∀ (p1 p2 v3 v4 : Int) (M M' : e_M) (v : Int), f_X11_goes_L2 rc_X11_goes  n 1 p1 p2 v3 v4 M = some (v, M') → e_G X (d + 8) YX11_goes 42 [some (.inr (.inr 64)), some (.inl p1), some (.inl p2), some (.inl v3), some (.inl v4)] [] (557, gn, e_RF, M) (.inl none, (557, gn, e_RF, M'))) := by
  intro n
  induction n with
  | zero => exact ⟨(by intro p1 p2 v3 M M' v h; cases h), (by intro p1 p2 v3 v4 M M' v h; cases h)⟩
  | succ n ih =>
    refine ⟨?_, ?_⟩
    · intro p1 p2 v3 M M' v h
      rw [f_X11_goes_L2, if_pos rfl] at h
      refine wp_X11_goes_2 (d := d + 7)  M p1 p2 v3 (f_mn) ?_
      refine ⟨fun c => ?_, fun c => ?_⟩
      · rw [if_pos c] at h
        cases h; rfl
      · rw [if_neg c] at h
        refine ⟨fun c => ?_, fun c => ?_⟩
        · rw [if_pos c] at h
          cases h; rfl
        · rw [if_neg c] at h
          obtain ⟨c5, h⟩ := f_gd h
          refine ⟨c5, ?_⟩
          refine ⟨fun c => ?_, fun c => ?_⟩
          · rw [if_pos c] at h
            obtain ⟨c6, h⟩ := f_gd h
            refine ⟨c6, ?_⟩
            obtain ⟨rr7, NN8, hc9, h⟩ := f_bd h
            refine ⟨rr7, NN8, s_X11_does (d := d) rfl (Nat.le_of_ble_eq_true rfl) (by decide) (sh_451 c5.1 c5.2).1 (sh_451 c5.1 c5.2).2.1 (sh_451 c5.1 c5.2).2.2 hc9, ?_⟩
            refine ⟨fun c => ?_, fun c => ?_⟩
            · rw [if_pos c] at h
              refine wp_X11_goes_120 (d := d + 7)  _ _ _ _ _ _ _ ?_
              refine ⟨fun c => ?_, fun c => ?_⟩
              · rw [if_pos c] at h
                refine wp_X11_goes_143 (d := d + 7)  _ _ _ _ _ ?_
                obtain ⟨c10, h⟩ := f_gd h
                refine ⟨c10, ?_⟩
                exact ih.1 _ _ _ _ _ _ h
              · rw [if_neg c] at h
                refine wp_X11_goes_143 (d := d + 7)  _ _ _ _ _ ?_
                obtain ⟨c11, h⟩ := f_gd h
                refine ⟨c11, ?_⟩
                exact ih.1 _ _ _ _ _ _ h
            · rw [if_neg c] at h
              refine wp_X11_goes_120 (d := d + 7)  _ _ _ _ _ _ _ ?_
              refine ⟨fun c => ?_, fun c => ?_⟩
              · rw [if_pos c] at h
                refine wp_X11_goes_143 (d := d + 7)  _ _ _ _ _ ?_
                obtain ⟨c12, h⟩ := f_gd h
                refine ⟨c12, ?_⟩
                exact ih.1 _ _ _ _ _ _ h
              · rw [if_neg c] at h
                refine wp_X11_goes_143 (d := d + 7)  _ _ _ _ _ ?_
                obtain ⟨c13, h⟩ := f_gd h
                refine ⟨c13, ?_⟩
                exact ih.1 _ _ _ _ _ _ h
          · rw [if_neg (not_not_intro c)] at h
            exact ih.2 _ _ _ _ _ _ _ h
    · intro p1 p2 v3 v4 M M' v h
      rw [f_X11_goes_L2, if_neg (by decide)] at h
      refine wp_X11_goes_42 (d := d + 7)  M p1 p2 v3 v4 (f_mn) ?_
      obtain ⟨c14, h⟩ := f_gd h
      refine ⟨c14, ?_⟩
      refine ⟨fun c => ?_, fun c => ?_⟩
      · rw [if_pos c] at h
        refine wp_X11_goes_86 (d := d + 7)  _ _ _ _ _ ?_
        refine wp_X11_goes_143 (d := d + 7)  _ _ _ _ _ ?_
        obtain ⟨c15, h⟩ := f_gd h
        refine ⟨c15, ?_⟩
        exact ih.1 _ _ _ _ _ _ h
      · rw [if_neg c] at h
        refine ⟨fun c => ?_, fun c => ?_⟩
        · rw [if_pos c] at h
          refine wp_X11_goes_86 (d := d + 7)  _ _ _ _ _ ?_
          refine wp_X11_goes_143 (d := d + 7)  _ _ _ _ _ ?_
          obtain ⟨c16, h⟩ := f_gd h
          refine ⟨c16, ?_⟩
          exact ih.1 _ _ _ _ _ _ h
        · rw [if_neg c] at h
          obtain ⟨c17, h⟩ := f_gd h
          refine ⟨c17, ?_⟩
          obtain ⟨rr18, NN19, hc20, h⟩ := f_bd h
          refine ⟨NN19, hc_X11_goes _ _ _ _ _ hc20, ?_⟩
          exact ih.2 _ _ _ _ _ _ _ h
theorem s_X11_goes_2 {X : e_X} {d gn : Nat} {rc_X11_goes : Int → Int → e_M → Option (Int × e_M)} (hc_X11_goes : ∀ (p1 p2 : Int) (M M' : e_M) (v : Int), rc_X11_goes p1 p2 M = some (v, M') → e_E X (d + 7) YX11_goes [.inr (.inr 64), .inl p1, .inl p2] (557, gn, e_RF, M) (.inl none, (557, gn, e_RF, M'))) (n : Nat) : (∀ (p1 p2 v3 : Int) (M M' : e_M) (v : Int), f_X11_goes_L2 rc_X11_goes  n 0 p1 p2 v3 0 M = some (v, M') → e_G X (d + 8) YX11_goes 2 [some (.inr (.inr 64)), some (.inl p1), some (.inl p2), some (.inl v3), none] [] (557, gn, e_RF, M) (.inl none, (557, gn, e_RF, M'))) := (s_X11_goes_L2 hc_X11_goes  n).1
theorem s_X11_goes_42 {X : e_X} {d gn : Nat} {rc_X11_goes : Int → Int → e_M → Option (Int × e_M)} (hc_X11_goes : ∀ (p1 p2 : Int) (M M' : e_M) (v : Int), rc_X11_goes p1 p2 M = some (v, M') → e_E X (d + 7) YX11_goes [.inr (.inr 64), .inl p1, .inl p2] (557, gn, e_RF, M) (.inl none, (557, gn, e_RF, M'))) (n : Nat) : (∀ (p1 p2 v3 v4 : Int) (M M' : e_M) (v : Int), f_X11_goes_L2 rc_X11_goes  n 1 p1 p2 v3 v4 M = some (v, M') → e_G X (d + 8) YX11_goes 42 [some (.inr (.inr 64)), some (.inl p1), some (.inl p2), some (.inl v3), some (.inl v4)] [] (557, gn, e_RF, M) (.inl none, (557, gn, e_RF, M'))) := (s_X11_goes_L2 hc_X11_goes  n).2
def f_X11_goes (rc_X11_goes : Int → Int → e_M → Option (Int × e_M)) (n : Nat) (p1 p2 : Int) (M : e_M) : Option (Int × e_M) := (f_X11_goes_L2 rc_X11_goes n 0 p1 p2 p1 0 M)
theorem s_X11_goes {X : e_X} {d gn : Nat} {rc_X11_goes : Int → Int → e_M → Option (Int × e_M)} (hc_X11_goes : ∀ (p1 p2 : Int) (M M' : e_M) (v : Int), rc_X11_goes p1 p2 M = some (v, M') → e_E X (d + 7) YX11_goes [.inr (.inr 64), .inl p1, .inl p2] (557, gn, e_RF, M) (.inl none, (557, gn, e_RF, M'))) {n : Nat} {p1 p2 : Int} {M M' : e_M} {v : Int} (h : f_X11_goes rc_X11_goes  n p1 p2 M = some (v, M')) : e_E X (d + 8) YX11_goes [.inr (.inr 64), .inl p1, .inl p2] (557, gn, e_RF, M) (.inl none, (557, gn, e_RF, M')) := by
  unfold f_X11_goes at h
  refine wp_X11_goes_0 (d := d + 7)  M p1 p2 ?_
  exact s_X11_goes_2 hc_X11_goes  _ _ _ _ _ _ _ h
def g_X11_goes (n : Nat) : Nat → Nat → Int → Int → e_M → Option (Int × e_M)
  | 0, _, _, _, _ => none
  | k + 1, t, a1, a2, M => f_X11_goes (fun x1 x2 N => g_X11_goes n k 0 x1 x2 N) n a1 a2 M
theorem sg_X11_goes {X : e_X} {d gn n : Nat} : ∀ k : Nat, (∀ (p1 p2 : Int) (M M' : e_M) (v : Int), g_X11_goes n k 0 p1 p2 M = some (v, M') → e_E X (d + k + 7) YX11_goes [.inr (.inr 64), .inl p1, .inl p2] (557, gn, e_RF, M) (.inl none, (557, gn, e_RF, M'))) := by
  intro k
  induction k with
  | zero => exact (by intros; rename_i h; cases h)
  | succ k ih =>
    rw [show d + (k + 1) + 7 = d + k + 7 + 1 by omega]
    skip
    · intro p1 p2 M M' v h
      rw [g_X11_goes] at h
      exact s_X11_goes (d := d + k) ih h
theorem sk_X11_goes {X : e_X} {d gn n : Nat} (k : Nat) : (∀ (p1 p2 : Int) (M M' : e_M) (v : Int), g_X11_goes n k 0 p1 p2 M = some (v, M') → e_E X (d + k + 7) YX11_goes [.inr (.inr 64), .inl p1, .inl p2] (557, gn, e_RF, M) (.inl none, (557, gn, e_RF, M'))) := (sg_X11_goes k)
def f_k_X11_goes (n : Nat) (p1 p2 : Int) (M : e_M) : Option (Int × e_M) := g_X11_goes n 10 0 p1 p2 M
theorem s_k_X11_goes {X : e_X} {d gn n : Nat} {p1 p2 : Int} {M M' : e_M} {v : Int} (h : f_k_X11_goes n p1 p2 M = some (v, M')) : e_E X (d + 17) YX11_goes [.inr (.inr 64), .inl p1, .inl p2] (557, gn, e_RF, M) (.inl none, (557, gn, e_RF, M')) := sk_X11_goes (d := d) 10 _ _ _ _ _ h
def f_X10_span_53 : Nat → Int → Int → Int → Int → Int → Int → Int → Int → Int → Int → Int → e_M → Option ((Int ⊕ Nat) × e_M)
  | 0, _, _, _, _, _, _, _, _, _, _, _, _ => none
  | n + 1, p1, p2, p3, p4, p5, p6, p7, v8, v9, v10, v11, M => (if p2 ≤ v11 then (if p6 = 0 then (some ((.inl v8), M)) else (if p6 = 1 then (some ((.inl v9), M)) else (some ((.inl v10), M)))) else (f_b (f_X9_liveFrom n (e_w (p1 + v11)) p3 p4 p5 M) fun _ NN2 => (if ¬ v11 = 0 then (f_b (f_X3_isDone_trial p7 NN2) fun rr5 NN6 => (if rr5 = 0 then (f_X10_span_53 n p1 p2 p3 p4 p5 p6 p7 (min v8 (e_w ((NN2 43 3) - (NN2 36 3)))) (max v9 (e_w ((NN2 43 3) - (NN2 36 3)))) (e_w (v10 + 0)) (e_w (v11 + 1)) NN6) else (f_X10_span_53 n p1 p2 p3 p4 p5 p6 p7 (min v8 (e_w ((NN2 43 3) - (NN2 36 3)))) (max v9 (e_w ((NN2 43 3) - (NN2 36 3)))) (e_w (v10 + 1)) (e_w (v11 + 1)) NN6))) else (f_b (f_X3_isDone_trial p7 NN2) fun rr3 NN4 => (if rr3 = 0 then (f_X10_span_53 n p1 p2 p3 p4 p5 p6 p7 (e_w ((NN2 43 3) - (NN2 36 3))) (max v9 (e_w ((NN2 43 3) - (NN2 36 3)))) (e_w (v10 + 0)) (e_w (v11 + 1)) NN4) else (f_X10_span_53 n p1 p2 p3 p4 p5 p6 p7 (e_w ((NN2 43 3) - (NN2 36 3))) (max v9 (e_w ((NN2 43 3) - (NN2 36 3)))) (e_w (v10 + 1)) (e_w (v11 + 1)) NN4))))))
theorem s_X10_span_53 {X : e_X} {d gn : Nat} : ∀ n : Nat, ∀ (p1 p2 p3 p4 p5 p6 p7 v8 v9 v10 v11 : Int) (M M' : e_M) (v : Int ⊕ Nat), f_X10_span_53  n p1 p2 p3 p4 p5 p6 p7 v8 v9 v10 v11 M = some (v, M') → e_G X (d + 11) YX10_span 53 [some (.inr (.inr 1)), some (.inl p1), some (.inl p2), some (.inl p3), some (.inl p4), some (.inl p5), some (.inl p6), some (.inl p7), some (.inl v8), some (.inl v9), some (.inl v10), some (.inl v11), none] [] (557, gn, e_RF, M) (f_oT gn v M') := by
  intro n
  induction n with
  | zero => intro p1 p2 p3 p4 p5 p6 p7 v8 v9 v10 v11 M M' v h; cases h
  | succ n ih =>
    intro p1 p2 p3 p4 p5 p6 p7 v8 v9 v10 v11 M M' v h
    rw [f_X10_span_53] at h
    refine wp_X10_span_53 (d := d + 10)  M p1 p2 p3 p4 p5 p6 p7 v8 v9 v10 v11 (f_mnT) ?_
    refine ⟨fun c => ?_, fun c => ?_⟩
    · rw [if_pos c] at h
      refine ⟨fun c => ?_, fun c => ?_, fun c => ?_⟩
      · rw [if_pos c] at h
        cases h; rfl
      · rw [if_neg (by omega), if_pos c] at h
        cases h; rfl
      · rw [if_neg (by omega), if_neg (by omega)] at h
        cases h; rfl
    · rw [if_neg c] at h
      obtain ⟨rr7, NN8, hc9, h⟩ := f_bd h
      refine ⟨NN8, s_X9_liveFrom (d := d + 5)  hc9, ?_⟩
      refine ⟨fun c => ?_, fun c => ?_⟩
      · rw [if_pos c] at h
        refine wp_X10_span_113 (d := d + 10)  _ _ _ _ _ _ _ _ _ _ _ _ _ _ (f_mnT) ?_
        obtain ⟨rr10, NN11, hc12, h⟩ := f_bd h
        refine ⟨rr10, NN11, s_X3_isDone_trial (d := d + 10)  hc12, ?_⟩
        refine ⟨fun c => ?_, fun c => ?_⟩
        · rw [if_pos c] at h
          exact ih _ _ _ _ _ _ _ _ _ _ _ _ _ _ h
        · rw [if_neg c] at h
          exact ih _ _ _ _ _ _ _ _ _ _ _ _ _ _ h
      · rw [if_neg (not_not_intro c)] at h
        refine wp_X10_span_113 (d := d + 10)  _ _ _ _ _ _ _ _ _ _ _ _ _ _ (f_mnT) ?_
        obtain ⟨rr13, NN14, hc15, h⟩ := f_bd h
        refine ⟨rr13, NN14, s_X3_isDone_trial (d := d + 10)  hc15, ?_⟩
        refine ⟨fun c => ?_, fun c => ?_⟩
        · rw [if_pos c] at h
          exact ih _ _ _ _ _ _ _ _ _ _ _ _ _ _ h
        · rw [if_neg c] at h
          exact ih _ _ _ _ _ _ _ _ _ _ _ _ _ _ h
def f_X10_span (n : Nat) (p1 p2 p3 p4 p5 p6 p7 : Int) (M : e_M) : Option ((Int ⊕ Nat) × e_M) := (f_t (f_X10_needWithin p2 1 20 M) fun _ NN17 => (f_t (f_X10_needYear p3 p4 p5 NN17) fun _ NN19 => (f_t (f_X10_needWithin p6 0 2 NN19) fun _ NN21 => (f_t (f_X10_needWithin p7 0 (e_w ((NN21 4 2) - 1)) NN21) fun _ NN23 => (f_X10_span_53 n p1 p2 p3 p4 p5 p6 p7 0 0 0 0 NN23)))))
theorem s_X10_span {X : e_X} {d gn : Nat} {n : Nat} {p1 p2 p3 p4 p5 p6 p7 : Int} {M M' : e_M} {v : Int ⊕ Nat} (h : f_X10_span  n p1 p2 p3 p4 p5 p6 p7 M = some (v, M')) : e_E X (d + 11) YX10_span [.inr (.inr 1), .inl p1, .inl p2, .inl p3, .inl p4, .inl p5, .inl p6, .inl p7] (557, gn, e_RF, M) (f_oT gn v M') := by
  unfold f_X10_span at h
  refine wp_X10_span_0 (d := d + 10)  M p1 p2 p3 p4 p5 p6 p7 (f_mnT) ?_
  rcases f_td h with ⟨rr24, NN25, hc26, h⟩ | ⟨rr24, NN25, hc26, h⟩
  · refine Or.inl ⟨NN25, s_X10_needWithin (d := d + 1)  hc26, ?_⟩
    rcases f_td h with ⟨rr27, NN28, hc29, h⟩ | ⟨rr27, NN28, hc29, h⟩
    · refine Or.inl ⟨NN28, s_X10_needYear (d := d)  hc29, ?_⟩
      rcases f_td h with ⟨rr30, NN31, hc32, h⟩ | ⟨rr30, NN31, hc32, h⟩
      · refine Or.inl ⟨NN31, s_X10_needWithin (d := d + 1)  hc32, ?_⟩
        rcases f_td h with ⟨rr33, NN34, hc35, h⟩ | ⟨rr33, NN34, hc35, h⟩
        · refine Or.inl ⟨NN34, s_X10_needWithin (d := d + 1)  hc35, ?_⟩
          exact s_X10_span_53  _ _ _ _ _ _ _ _ _ _ _ _ _ _ _ h
        · exact Or.inr ⟨rr33, NN34, s_X10_needWithin (d := d + 1)  hc35, by cases h; rfl⟩
      · exact Or.inr ⟨rr30, NN31, s_X10_needWithin (d := d + 1)  hc32, by cases h; rfl⟩
    · exact Or.inr ⟨rr27, NN28, s_X10_needYear (d := d)  hc29, by cases h; rfl⟩
  · exact Or.inr ⟨rr24, NN25, s_X10_needWithin (d := d + 1)  hc26, by cases h; rfl⟩
def f_X10_year (n : Nat) (p1 p2 p3 p4 p5 : Int) (M : e_M) : Option ((Int ⊕ Nat) × e_M) := (f_t (f_X10_needYear p2 p3 p4 M) fun _ NN2 => (f_t (f_X10_needWithin p5 0 4 NN2) fun _ NN4 => (f_b (f_X9_liveFrom n p1 p2 p3 p4 NN4) fun _ NN6 => (if p5 = 0 then (f_b (f_X3_coinsOfAll_trial n NN6) fun rr9 NN10 => (some ((.inl rr9), NN10))) else (if p5 = 1 then (f_b (f_X3_daysOfAll_trial n NN6) fun rr7 NN8 => (some ((.inl rr7), NN8))) else (if p5 = 2 then (some ((.inl (e_w ((NN6 43 3) - (NN6 36 3)))), NN6)) else (if p5 = 3 then (some ((.inl (NN6 54 2)), NN6)) else (some ((.inl (NN6 43 4)), NN6)))))))))
theorem s_X10_year {X : e_X} {d gn : Nat} {n : Nat} {p1 p2 p3 p4 p5 : Int} {M M' : e_M} {v : Int ⊕ Nat} (h : f_X10_year  n p1 p2 p3 p4 p5 M = some (v, M')) : e_E X (d + 11) YX10_year [.inr (.inr 1), .inl p1, .inl p2, .inl p3, .inl p4, .inl p5] (557, gn, e_RF, M) (f_oT gn v M') := by
  unfold f_X10_year at h
  refine wp_X10_year_0 (d := d + 10)  M p1 p2 p3 p4 p5 (f_mnT) ?_
  rcases f_td h with ⟨rr11, NN12, hc13, h⟩ | ⟨rr11, NN12, hc13, h⟩
  · refine Or.inl ⟨NN12, s_X10_needYear (d := d)  hc13, ?_⟩
    rcases f_td h with ⟨rr14, NN15, hc16, h⟩ | ⟨rr14, NN15, hc16, h⟩
    · refine Or.inl ⟨NN15, s_X10_needWithin (d := d + 1)  hc16, ?_⟩
      obtain ⟨rr17, NN18, hc19, h⟩ := f_bd h
      refine ⟨NN18, s_X9_liveFrom (d := d + 5)  hc19, ?_⟩
      refine ⟨fun c => ?_, fun c => ?_, fun c => ?_, fun c => ?_, fun c => ?_⟩
      · rw [if_pos c] at h
        obtain ⟨rr20, NN21, hc22, h⟩ := f_bd h
        refine ⟨rr20, NN21, s_X3_coinsOfAll_trial (d := d + 10)  hc22, ?_⟩
        cases h; rfl
      · rw [if_neg (by omega), if_pos c] at h
        obtain ⟨rr23, NN24, hc25, h⟩ := f_bd h
        refine ⟨rr23, NN24, s_X3_daysOfAll_trial (d := d + 8)  hc25, ?_⟩
        cases h; rfl
      · rw [if_neg (by omega), if_neg (by omega), if_pos c] at h
        cases h; rfl
      · rw [if_neg (by omega), if_neg (by omega), if_neg (by omega), if_pos c] at h
        cases h; rfl
      · rw [if_neg (by omega), if_neg (by omega), if_neg (by omega), if_neg (by omega)] at h
        cases h; rfl
    · exact Or.inr ⟨rr14, NN15, s_X10_needWithin (d := d + 1)  hc16, by cases h; rfl⟩
  · exact Or.inr ⟨rr11, NN12, s_X10_needYear (d := d)  hc13, by cases h; rfl⟩
def f_X11_law_30 (n : Nat) (p1 w0 : Int) (M : e_M) : Option (Int × e_M) := (f_b (f_X11_bad w0 1 1 M) fun rr1 NN2 => (if rr1 = 0 then (f_b (f_X11_starts n p1 NN2) fun _ NN4 => (f_b (f_k_X11_sum n (e_up NN4 64 22 0)) fun _ NN6 => (f_b (f_X11_blanks n NN6) fun _ NN8 => (if ¬ (NN8 64 5) = 0 then (if (NN8 64 5) = 0 then (f_b (f_X11_lays_m_law n ((e_up (e_up NN8 64 3 (-1)) 64 21 ((e_up NN8 64 3 (-1)) 64 22)) 64 21) (e_up (e_up NN8 64 3 (-1)) 64 21 ((e_up NN8 64 3 (-1)) 64 22))) fun _ NN22 => (some (1, NN22))) else (f_b (f_X11_ends NN8) fun rr19 NN20 => (some (rr19, NN20)))) else (if (NN8 64 2) ≤ (NN8 64 4) then (if (NN8 64 5) = 0 then (f_b (f_X11_lays_m_law n ((e_up (e_up NN8 64 3 (-1)) 64 21 ((e_up NN8 64 3 (-1)) 64 22)) 64 21) (e_up (e_up NN8 64 3 (-1)) 64 21 ((e_up NN8 64 3 (-1)) 64 22))) fun _ NN18 => (some (1, NN18))) else (f_b (f_X11_ends NN8) fun rr15 NN16 => (some (rr15, NN16)))) else (f_b (f_X11_wrong 1 (NN8 64 4) NN8) fun _ NN10 => (if (NN10 64 5) = 0 then (f_b (f_X11_lays_m_law n ((e_up (e_up NN10 64 3 (-1)) 64 21 ((e_up NN10 64 3 (-1)) 64 22)) 64 21) (e_up (e_up NN10 64 3 (-1)) 64 21 ((e_up NN10 64 3 (-1)) 64 22))) fun _ NN14 => (some (1, NN14))) else (f_b (f_X11_ends NN10) fun rr11 NN12 => (some (rr11, NN12)))))))))) else (some (0, NN2))))
theorem s_X11_law_30 {X : e_X} {d gn : Nat} {n : Nat} {p1 w0 : Int} {M M' : e_M} {v : Int} (h : f_X11_law_30  n p1 w0 M = some (v, M')) : e_G X (d + 46) YX11_law 30 [some (.inr (.inr 64)), some (.inl p1)] [.inl w0, .inr (.inr 64)] (557, gn, e_RF, M) (.inl (some (.inl v)), (557, gn, e_RF, M')) := by
  unfold f_X11_law_30 at h
  refine wp_X11_law_30 (d := d + 45)  M p1 w0 (f_mn) ?_
  obtain ⟨rr23, NN24, hc25, h⟩ := f_bd h
  refine ⟨rr23, NN24, s_X11_bad (d := d + 45)  hc25, ?_⟩
  refine ⟨fun c => ?_, fun c => ?_⟩
  · rw [if_pos c] at h
    obtain ⟨rr26, NN27, hc28, h⟩ := f_bd h
    refine ⟨NN27, s_X11_starts (d := d + 43)  hc28, ?_⟩
    obtain ⟨rr29, NN30, hc31, h⟩ := f_bd h
    refine ⟨NN30, s_k_X11_sum (d := d)  hc31, ?_⟩
    obtain ⟨rr32, NN33, hc34, h⟩ := f_bd h
    refine ⟨NN33, s_X11_blanks (d := d + 44)  hc34, ?_⟩
    refine ⟨fun c => ?_, fun c => ?_⟩
    · rw [if_pos c] at h
      refine wp_X11_law_85 (d := d + 45)  _ _ (f_mn) ?_
      refine ⟨fun c => ?_, fun c => ?_⟩
      · rw [if_pos c] at h
        obtain ⟨rr35, NN36, hc37, h⟩ := f_bd h
        refine ⟨NN36, s_X11_lays_m_law (d := d + 45)  hc37, ?_⟩
        cases h; rfl
      · rw [if_neg c] at h
        obtain ⟨rr38, NN39, hc40, h⟩ := f_bd h
        refine ⟨rr38, NN39, s_X11_ends (d := d + 45)  hc40, ?_⟩
        cases h; rfl
    · rw [if_neg (not_not_intro c)] at h
      refine ⟨fun c => ?_, fun c => ?_⟩
      · rw [if_pos c] at h
        refine wp_X11_law_85 (d := d + 45)  _ _ (f_mn) ?_
        refine ⟨fun c => ?_, fun c => ?_⟩
        · rw [if_pos c] at h
          obtain ⟨rr41, NN42, hc43, h⟩ := f_bd h
          refine ⟨NN42, s_X11_lays_m_law (d := d + 45)  hc43, ?_⟩
          cases h; rfl
        · rw [if_neg c] at h
          obtain ⟨rr44, NN45, hc46, h⟩ := f_bd h
          refine ⟨rr44, NN45, s_X11_ends (d := d + 45)  hc46, ?_⟩
          cases h; rfl
      · rw [if_neg c] at h
        obtain ⟨rr47, NN48, hc49, h⟩ := f_bd h
        refine ⟨NN48, s_X11_wrong (d := d + 45)  hc49, ?_⟩
        refine wp_X11_law_85 (d := d + 45)  _ _ (f_mn) ?_
        refine ⟨fun c => ?_, fun c => ?_⟩
        · rw [if_pos c] at h
          obtain ⟨rr50, NN51, hc52, h⟩ := f_bd h
          refine ⟨NN51, s_X11_lays_m_law (d := d + 45)  hc52, ?_⟩
          cases h; rfl
        · rw [if_neg c] at h
          obtain ⟨rr53, NN54, hc55, h⟩ := f_bd h
          refine ⟨rr53, NN54, s_X11_ends (d := d + 45)  hc55, ?_⟩
          cases h; rfl
  · rw [if_neg c] at h
    cases h; rfl
def f_X11_law (n : Nat) (p1 : Int) (M : e_M) : Option (Int × e_M) := (f_b (f_X11_in p1 0 ((e_up M 64 0 0) 64 1) (e_up M 64 0 0)) fun rr56 NN57 => (if rr56 = 0 then (f_X11_law_30 n p1 1 NN57) else (if p1 ≤ 150 then (f_X11_law_30 n p1 0 NN57) else (f_X11_law_30 n p1 1 NN57))))
theorem s_X11_law {X : e_X} {d gn : Nat} {n : Nat} {p1 : Int} {M M' : e_M} {v : Int} (h : f_X11_law  n p1 M = some (v, M')) : e_E X (d + 46) YX11_law [.inr (.inr 64), .inl p1] (557, gn, e_RF, M) (.inl (some (.inl v)), (557, gn, e_RF, M')) := by
  unfold f_X11_law at h
  refine wp_X11_law_0 (d := d + 45)  M p1 (f_mn) ?_
  obtain ⟨rr58, NN59, hc60, h⟩ := f_bd h
  refine ⟨rr58, NN59, s_X11_in (d := d + 45)  hc60, ?_⟩
  refine ⟨fun c => ?_, fun c => ?_⟩
  · rw [if_pos c] at h
    refine wp_X11_law_25 (d := d + 45)  _ _ ?_
    exact s_X11_law_30  h
  · rw [if_neg c] at h
    refine ⟨fun c => ?_, fun c => ?_⟩
    · rw [if_pos c] at h
      exact s_X11_law_30  h
    · rw [if_neg c] at h
      refine wp_X11_law_25 (d := d + 45)  _ _ ?_
      exact s_X11_law_30  h
