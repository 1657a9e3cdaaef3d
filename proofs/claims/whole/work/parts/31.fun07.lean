def f_X11_town_42 : Nat → Int → e_M → Option (Int × e_M)
  | 0, _, _ => none
  | n + 1, p1, M => (if ¬ (M 64 5) = 0 then (if (M 64 5) = 0 then (f_b (f_X11_beginsAnew n (e_up M 64 3 (-1))) fun _ NN12 => (some ((NN12 68 0), NN12))) else (f_b (f_X11_ends M) fun rr9 NN10 => (some (rr9, NN10)))) else (if (M 64 2) ≤ (M 64 4) then (if (M 64 5) = 0 then (f_b (f_X11_beginsAnew n (e_up M 64 3 (-1))) fun _ NN8 => (some ((NN8 68 0), NN8))) else (f_b (f_X11_ends M) fun rr5 NN6 => (some (rr5, NN6)))) else (f_b (f_X11_clause n M) fun _ NN2 => (f_b (f_X11_blanks n NN2) fun _ NN4 => (f_X11_town_42 n p1 NN4)))))
theorem s_X11_town_42 {X : e_X} {d gn : Nat} : ∀ n : Nat, ∀ (p1 : Int) (M M' : e_M) (v : Int), f_X11_town_42  n p1 M = some (v, M') → e_G X (d + 6) YX11_town 42 [some (.inr (.inr 64)), some (.inl p1)] [] (557, gn, e_RF, M) (.inl (some (.inl v)), (557, gn, e_RF, M')) := by
  intro n
  induction n with
  | zero => intro p1 M M' v h; cases h
  | succ n ih =>
    intro p1 M M' v h
    rw [f_X11_town_42] at h
    refine wp_X11_town_42 (d := d + 5)  M p1 (f_mn) ?_
    refine ⟨fun c => ?_, fun c => ?_⟩
    · rw [if_pos c] at h
      refine wp_X11_town_71 (d := d + 5)  _ _ (f_mn) ?_
      refine ⟨fun c => ?_, fun c => ?_⟩
      · rw [if_pos c] at h
        obtain ⟨rr13, NN14, hc15, h⟩ := f_bd h
        refine ⟨NN14, s_X11_beginsAnew (d := d + 4)  hc15, ?_⟩
        cases h; rfl
      · rw [if_neg c] at h
        obtain ⟨rr16, NN17, hc18, h⟩ := f_bd h
        refine ⟨rr16, NN17, s_X11_ends (d := d + 5)  hc18, ?_⟩
        cases h; rfl
    · rw [if_neg (not_not_intro c)] at h
      refine ⟨fun c => ?_, fun c => ?_⟩
      · rw [if_pos c] at h
        refine wp_X11_town_71 (d := d + 5)  _ _ (f_mn) ?_
        refine ⟨fun c => ?_, fun c => ?_⟩
        · rw [if_pos c] at h
          obtain ⟨rr19, NN20, hc21, h⟩ := f_bd h
          refine ⟨NN20, s_X11_beginsAnew (d := d + 4)  hc21, ?_⟩
          cases h; rfl
        · rw [if_neg c] at h
          obtain ⟨rr22, NN23, hc24, h⟩ := f_bd h
          refine ⟨rr22, NN23, s_X11_ends (d := d + 5)  hc24, ?_⟩
          cases h; rfl
      · rw [if_neg c] at h
        obtain ⟨rr25, NN26, hc27, h⟩ := f_bd h
        refine ⟨NN26, s_X11_clause (d := d)  hc27, ?_⟩
        obtain ⟨rr28, NN29, hc30, h⟩ := f_bd h
        refine ⟨NN29, s_X11_blanks (d := d + 4)  hc30, ?_⟩
        exact ih _ _ _ _ h
def f_X11_town_23 (n : Nat) (p1 w0 : Int) (M : e_M) : Option (Int × e_M) := (f_b (f_X11_bad w0 1 1 M) fun rr31 NN32 => (if rr31 = 0 then (f_b (f_X11_starts n p1 NN32) fun _ NN34 => (f_b (f_X11_tellsNothing n NN34) fun _ NN36 => (f_X11_town_42 n p1 NN36))) else (some (0, NN32))))
theorem s_X11_town_23 {X : e_X} {d gn : Nat} {n : Nat} {p1 w0 : Int} {M M' : e_M} {v : Int} (h : f_X11_town_23  n p1 w0 M = some (v, M')) : e_G X (d + 6) YX11_town 23 [some (.inr (.inr 64)), some (.inl p1)] [.inl w0, .inr (.inr 64)] (557, gn, e_RF, M) (.inl (some (.inl v)), (557, gn, e_RF, M')) := by
  unfold f_X11_town_23 at h
  refine wp_X11_town_23 (d := d + 5)  M p1 w0 (f_mn) ?_
  obtain ⟨rr37, NN38, hc39, h⟩ := f_bd h
  refine ⟨rr37, NN38, s_X11_bad (d := d + 5)  hc39, ?_⟩
  refine ⟨fun c => ?_, fun c => ?_⟩
  · rw [if_pos c] at h
    obtain ⟨rr40, NN41, hc42, h⟩ := f_bd h
    refine ⟨NN41, s_X11_starts (d := d + 3)  hc42, ?_⟩
    obtain ⟨rr43, NN44, hc45, h⟩ := f_bd h
    refine ⟨NN44, s_X11_tellsNothing (d := d + 5)  hc45, ?_⟩
    exact s_X11_town_42  _ _ _ _ _ h
  · rw [if_neg c] at h
    cases h; rfl
def f_X11_town (n : Nat) (p1 : Int) (M : e_M) : Option (Int × e_M) := (f_b (f_X11_in p1 0 ((e_up M 64 0 0) 64 1) (e_up M 64 0 0)) fun rr46 NN47 => (if ¬ rr46 = 0 then (f_X11_town_23 n p1 0 NN47) else (f_X11_town_23 n p1 1 NN47)))
theorem s_X11_town {X : e_X} {d gn : Nat} {n : Nat} {p1 : Int} {M M' : e_M} {v : Int} (h : f_X11_town  n p1 M = some (v, M')) : e_E X (d + 6) YX11_town [.inr (.inr 64), .inl p1] (557, gn, e_RF, M) (.inl (some (.inl v)), (557, gn, e_RF, M')) := by
  unfold f_X11_town at h
  refine wp_X11_town_0 (d := d + 5)  M p1 (f_mn) ?_
  obtain ⟨rr48, NN49, hc50, h⟩ := f_bd h
  refine ⟨rr48, NN49, s_X11_in (d := d + 5)  hc50, ?_⟩
  refine ⟨fun c => ?_, fun c => ?_⟩
  · rw [if_pos c] at h
    exact s_X11_town_23  h
  · rw [if_neg (not_not_intro c)] at h
    exact s_X11_town_23  h
def f_X11_yearBy_24 : Nat → Int → Int → Int → Int → Int → e_M → Option (Int × e_M)
  | 0, _, _, _, _, _, _ => none
  | n + 1, p1, p2, p3, p4, v5, M => (if p2 ≤ v5 then (some (0, M)) else (if (M 68 0) ≤ 0 then (f_b (f_X11_weekEnds 533 n M) fun _ NN38 => (f_X11_yearBy_24 n p1 p2 p3 p4 (e_w (v5 + 1)) NN38)) else (f_b (f_X11_draw (M 68 0) M) fun rr1 NN2 => (f_b (f_X11_draw 16 NN2) fun rr3 NN4 => (if p3 ≤ rr3 then (f_b (f_X11_draw (NN4 68 0) NN4) fun rr27 NN28 => (f_b (f_X11_draw 16 NN28) fun rr29 NN30 => (if p4 ≤ rr29 then (f_b (f_X11_weekEnds 533 n NN30) fun _ NN36 => (f_X11_yearBy_24 n p1 p2 p3 p4 (e_w (v5 + 1)) NN36)) else (f_b (f_X11_sells 533 rr27 NN30) fun rr31 NN32 => (f_b (f_X11_weekEnds 533 n NN32) fun _ NN34 => (f_X11_yearBy_24 n p1 p2 p3 p4 (e_w (v5 + 1)) NN34)))))) else (f_b (f_X11_buys 533 n rr1 NN4) fun rr5 NN6 => (if rr5 = 0 then (f_b (f_X11_draw ((e_up NN6 64 46 (e_w ((NN4 64 46) + 0))) 68 0) (e_up NN6 64 46 (e_w ((NN4 64 46) + 0)))) fun rr17 NN18 => (f_b (f_X11_draw 16 NN18) fun rr19 NN20 => (if p4 ≤ rr19 then (f_b (f_X11_weekEnds 533 n NN20) fun _ NN26 => (f_X11_yearBy_24 n p1 p2 p3 p4 (e_w (v5 + 1)) NN26)) else (f_b (f_X11_sells 533 rr17 NN20) fun rr21 NN22 => (f_b (f_X11_weekEnds 533 n NN22) fun _ NN24 => (f_X11_yearBy_24 n p1 p2 p3 p4 (e_w (v5 + 1)) NN24)))))) else (f_b (f_X11_draw ((e_up NN6 64 46 (e_w ((NN4 64 46) + 1))) 68 0) (e_up NN6 64 46 (e_w ((NN4 64 46) + 1)))) fun rr7 NN8 => (f_b (f_X11_draw 16 NN8) fun rr9 NN10 => (if p4 ≤ rr9 then (f_b (f_X11_weekEnds 533 n NN10) fun _ NN16 => (f_X11_yearBy_24 n p1 p2 p3 p4 (e_w (v5 + 1)) NN16)) else (f_b (f_X11_sells 533 rr7 NN10) fun rr11 NN12 => (f_b (f_X11_weekEnds 533 n NN12) fun _ NN14 => (f_X11_yearBy_24 n p1 p2 p3 p4 (e_w (v5 + 1)) NN14)))))))))))))
theorem s_X11_yearBy_24 {X : e_X} {d gn : Nat} : ∀ n : Nat, ∀ (p1 p2 p3 p4 v5 : Int) (M M' : e_M) (v : Int), f_X11_yearBy_24  n p1 p2 p3 p4 v5 M = some (v, M') → e_G X (d + 7) YX11_yearBy 24 [some (.inr (.inr 64)), some (.inl p1), some (.inl p2), some (.inl p3), some (.inl p4), some (.inl v5), none, none] [] (557, gn, e_RF, M) (.inl none, (557, gn, e_RF, M')) := by
  intro n
  induction n with
  | zero => intro p1 p2 p3 p4 v5 M M' v h; cases h
  | succ n ih =>
    intro p1 p2 p3 p4 v5 M M' v h
    rw [f_X11_yearBy_24] at h
    refine wp_X11_yearBy_24 (d := d + 6)  M p1 p2 p3 p4 v5 (f_mn) ?_
    refine ⟨fun c => ?_, fun c => ?_⟩
    · rw [if_pos c] at h
      cases h; rfl
    · rw [if_neg c] at h
      refine ⟨fun c => ?_, fun c => ?_⟩
      · rw [if_pos c] at h
        refine wp_X11_yearBy_121 (d := d + 6)  _ _ _ _ _ _ (f_mn) ?_
        obtain ⟨rr39, NN40, hc41, h⟩ := f_bd h
        refine ⟨NN40, s_X11_weekEnds (d := d + 4) rfl (Nat.le_of_ble_eq_true rfl) (by decide) hc41, ?_⟩
        exact ih _ _ _ _ _ _ _ _ h
      · rw [if_neg c] at h
        obtain ⟨rr42, NN43, hc44, h⟩ := f_bd h
        refine ⟨rr42, NN43, s_X11_draw (d := d + 6)  hc44, ?_⟩
        obtain ⟨rr45, NN46, hc47, h⟩ := f_bd h
        refine ⟨rr45, NN46, s_X11_draw (d := d + 6)  hc47, ?_⟩
        refine ⟨fun c => ?_, fun c => ?_⟩
        · rw [if_pos c] at h
          refine wp_X11_yearBy_88 (d := d + 6)  _ _ _ _ _ _ _ (f_mn) ?_
          obtain ⟨rr48, NN49, hc50, h⟩ := f_bd h
          refine ⟨rr48, NN49, s_X11_draw (d := d + 6)  hc50, ?_⟩
          obtain ⟨rr51, NN52, hc53, h⟩ := f_bd h
          refine ⟨rr51, NN52, s_X11_draw (d := d + 6)  hc53, ?_⟩
          refine ⟨fun c => ?_, fun c => ?_⟩
          · rw [if_pos c] at h
            refine wp_X11_yearBy_121 (d := d + 6)  _ _ _ _ _ _ (f_mn) ?_
            obtain ⟨rr54, NN55, hc56, h⟩ := f_bd h
            refine ⟨NN55, s_X11_weekEnds (d := d + 4) rfl (Nat.le_of_ble_eq_true rfl) (by decide) hc56, ?_⟩
            exact ih _ _ _ _ _ _ _ _ h
          · rw [if_neg c] at h
            obtain ⟨rr57, NN58, hc59, h⟩ := f_bd h
            refine ⟨rr57, NN58, s_X11_sells (d := d + 5) rfl (Nat.le_of_ble_eq_true rfl) (by decide) hc59, ?_⟩
            refine wp_X11_yearBy_121 (d := d + 6)  _ _ _ _ _ _ (f_mn) ?_
            obtain ⟨rr60, NN61, hc62, h⟩ := f_bd h
            refine ⟨NN61, s_X11_weekEnds (d := d + 4) rfl (Nat.le_of_ble_eq_true rfl) (by decide) hc62, ?_⟩
            exact ih _ _ _ _ _ _ _ _ h
        · rw [if_neg c] at h
          obtain ⟨rr63, NN64, hc65, h⟩ := f_bd h
          refine ⟨rr63, NN64, s_X11_buys (d := d) rfl (Nat.le_of_ble_eq_true rfl) (by decide) hc65, ?_⟩
          refine ⟨fun c => ?_, fun c => ?_⟩
          · rw [if_pos c] at h
            refine wp_X11_yearBy_88 (d := d + 6)  _ _ _ _ _ _ _ (f_mn) ?_
            obtain ⟨rr66, NN67, hc68, h⟩ := f_bd h
            refine ⟨rr66, NN67, s_X11_draw (d := d + 6)  hc68, ?_⟩
            obtain ⟨rr69, NN70, hc71, h⟩ := f_bd h
            refine ⟨rr69, NN70, s_X11_draw (d := d + 6)  hc71, ?_⟩
            refine ⟨fun c => ?_, fun c => ?_⟩
            · rw [if_pos c] at h
              refine wp_X11_yearBy_121 (d := d + 6)  _ _ _ _ _ _ (f_mn) ?_
              obtain ⟨rr72, NN73, hc74, h⟩ := f_bd h
              refine ⟨NN73, s_X11_weekEnds (d := d + 4) rfl (Nat.le_of_ble_eq_true rfl) (by decide) hc74, ?_⟩
              exact ih _ _ _ _ _ _ _ _ h
            · rw [if_neg c] at h
              obtain ⟨rr75, NN76, hc77, h⟩ := f_bd h
              refine ⟨rr75, NN76, s_X11_sells (d := d + 5) rfl (Nat.le_of_ble_eq_true rfl) (by decide) hc77, ?_⟩
              refine wp_X11_yearBy_121 (d := d + 6)  _ _ _ _ _ _ (f_mn) ?_
              obtain ⟨rr78, NN79, hc80, h⟩ := f_bd h
              refine ⟨NN79, s_X11_weekEnds (d := d + 4) rfl (Nat.le_of_ble_eq_true rfl) (by decide) hc80, ?_⟩
              exact ih _ _ _ _ _ _ _ _ h
          · rw [if_neg c] at h
            refine wp_X11_yearBy_88 (d := d + 6)  _ _ _ _ _ _ _ (f_mn) ?_
            obtain ⟨rr81, NN82, hc83, h⟩ := f_bd h
            refine ⟨rr81, NN82, s_X11_draw (d := d + 6)  hc83, ?_⟩
            obtain ⟨rr84, NN85, hc86, h⟩ := f_bd h
            refine ⟨rr84, NN85, s_X11_draw (d := d + 6)  hc86, ?_⟩
            refine ⟨fun c => ?_, fun c => ?_⟩
            · rw [if_pos c] at h
              refine wp_X11_yearBy_121 (d := d + 6)  _ _ _ _ _ _ (f_mn) ?_
              obtain ⟨rr87, NN88, hc89, h⟩ := f_bd h
              refine ⟨NN88, s_X11_weekEnds (d := d + 4) rfl (Nat.le_of_ble_eq_true rfl) (by decide) hc89, ?_⟩
              exact ih _ _ _ _ _ _ _ _ h
            · rw [if_neg c] at h
              obtain ⟨rr90, NN91, hc92, h⟩ := f_bd h
              refine ⟨rr90, NN91, s_X11_sells (d := d + 5) rfl (Nat.le_of_ble_eq_true rfl) (by decide) hc92, ?_⟩
              refine wp_X11_yearBy_121 (d := d + 6)  _ _ _ _ _ _ (f_mn) ?_
              obtain ⟨rr93, NN94, hc95, h⟩ := f_bd h
              refine ⟨NN94, s_X11_weekEnds (d := d + 4) rfl (Nat.le_of_ble_eq_true rfl) (by decide) hc95, ?_⟩
              exact ih _ _ _ _ _ _ _ _ h
def f_X11_yearBy (n : Nat) (p1 p2 p3 p4 : Int) (M : e_M) : Option (Int × e_M) := (f_b (f_X11_copies 532 533 n M) fun _ NN97 => (f_X11_yearBy_24 n p1 p2 p3 p4 0 (e_up (e_up NN97 64 45 p1) 64 46 0)))
theorem s_X11_yearBy {X : e_X} {d gn : Nat} {n : Nat} {p1 p2 p3 p4 : Int} {M M' : e_M} {v : Int} (h : f_X11_yearBy  n p1 p2 p3 p4 M = some (v, M')) : e_E X (d + 7) YX11_yearBy [.inr (.inr 64), .inl p1, .inl p2, .inl p3, .inl p4] (557, gn, e_RF, M) (.inl none, (557, gn, e_RF, M')) := by
  unfold f_X11_yearBy at h
  refine wp_X11_yearBy_0 (d := d + 6)  M p1 p2 p3 p4 (f_mn) ?_
  obtain ⟨rr98, NN99, hc100, h⟩ := f_bd h
  refine ⟨NN99, s_X11_copies (d := d + 6) rfl (Nat.le_of_ble_eq_true rfl) (by decide) rfl (Nat.le_of_ble_eq_true rfl) (by decide) hc100, ?_⟩
  exact s_X11_yearBy_24  _ _ _ _ _ _ _ _ _ h
def f_X9_liveFrom_33 : Nat → Int → Int → Int → Int → Int → Int → e_M → Option (Int × e_M)
  | 0, _, _, _, _, _, _, _ => none
  | n + 1, p2, p3, p4, p5, v6, v7, M => (if p3 ≤ v7 then (some (0, M)) else (if v6 ≤ 0 then (f_b (f_X3_passWeek_trial n M) fun _ NN6 => (f_X9_liveFrom_33 n p2 p3 p4 p5 v6 (e_w (v7 + 1)) NN6)) else (f_b (f_X9_tradeAmong n v6 p4 p5 M) fun _ NN2 => (f_b (f_X3_passWeek_trial n NN2) fun _ NN4 => (f_X9_liveFrom_33 n p2 p3 p4 p5 v6 (e_w (v7 + 1)) NN4)))))
theorem s_X9_liveFrom_33 {X : e_X} {d gn : Nat} : ∀ n : Nat, ∀ (p2 p3 p4 p5 v6 v7 : Int) (M M' : e_M) (v : Int), f_X9_liveFrom_33  n p2 p3 p4 p5 v6 v7 M = some (v, M') → e_G X (d + 5) YX9_liveFrom 33 [some (.inr (.inr 54)), some (.inr (.inr 36)), some (.inl p2), some (.inl p3), some (.inl p4), some (.inl p5), some (.inl v6), some (.inl v7)] [] (557, gn, e_RF, M) (.inl none, (557, gn, e_RF, M')) := by
  intro n
  induction n with
  | zero => intro p2 p3 p4 p5 v6 v7 M M' v h; cases h
  | succ n ih =>
    intro p2 p3 p4 p5 v6 v7 M M' v h
    rw [f_X9_liveFrom_33] at h
    refine wp_X9_liveFrom_33 (d := d + 4)  M p2 p3 p4 p5 v6 v7 (f_mn) ?_
    refine ⟨fun c => ?_, fun c => ?_⟩
    · rw [if_pos c] at h
      cases h; rfl
    · rw [if_neg c] at h
      refine ⟨fun c => ?_, fun c => ?_⟩
      · rw [if_pos c] at h
        refine wp_X9_liveFrom_54 (d := d + 4)  _ _ _ _ _ _ _ (f_mn) ?_
        obtain ⟨rr7, NN8, hc9, h⟩ := f_bd h
        refine ⟨NN8, s_X3_passWeek_trial (d := d + 2)  hc9, ?_⟩
        exact ih _ _ _ _ _ _ _ _ _ h
      · rw [if_neg c] at h
        obtain ⟨rr10, NN11, hc12, h⟩ := f_bd h
        refine ⟨NN11, s_X9_tradeAmong (d := d)  hc12, ?_⟩
        refine wp_X9_liveFrom_54 (d := d + 4)  _ _ _ _ _ _ _ (f_mn) ?_
        obtain ⟨rr13, NN14, hc15, h⟩ := f_bd h
        refine ⟨NN14, s_X3_passWeek_trial (d := d + 2)  hc15, ?_⟩
        exact ih _ _ _ _ _ _ _ _ _ h
def f_X9_liveFrom (n : Nat) (p2 p3 p4 p5 : Int) (M : e_M) : Option (Int × e_M) := (f_b (f_X3_copyFrom_trial M) fun _ NN17 => (f_X9_liveFrom_33 n p2 p3 p4 p5 ((e_up (e_up NN17 54 1 p2) 54 2 0) 4 0) 0 (e_up (e_up NN17 54 1 p2) 54 2 0)))
theorem s_X9_liveFrom {X : e_X} {d gn : Nat} {n : Nat} {p2 p3 p4 p5 : Int} {M M' : e_M} {v : Int} (h : f_X9_liveFrom  n p2 p3 p4 p5 M = some (v, M')) : e_E X (d + 5) YX9_liveFrom [.inr (.inr 54), .inr (.inr 36), .inl p2, .inl p3, .inl p4, .inl p5] (557, gn, e_RF, M) (.inl none, (557, gn, e_RF, M')) := by
  unfold f_X9_liveFrom at h
  refine wp_X9_liveFrom_0 (d := d + 4)  M p2 p3 p4 p5 (f_mn) ?_
  obtain ⟨rr18, NN19, hc20, h⟩ := f_bd h
  refine ⟨NN19, s_X3_copyFrom_trial (d := d + 3)  hc20, ?_⟩
  exact s_X9_liveFrom_33  _ _ _ _ _ _ _ _ _ _ h
def f_X10_span_53 : Nat → Int → Int → Int → Int → Int → Int → Int → Int → Int → Int → Int → e_M → Option ((Int ⊕ Nat) × e_M)
  | 0, _, _, _, _, _, _, _, _, _, _, _, _ => none
  | n + 1, p1, p2, p3, p4, p5, p6, p7, v8, v9, v10, v11, M => (if p2 ≤ v11 then (if p6 = 0 then (some ((.inl v8), M)) else (if p6 = 1 then (some ((.inl v9), M)) else (some ((.inl v10), M)))) else (f_b (f_X9_liveFrom n (e_w (p1 + v11)) p3 p4 p5 M) fun _ NN2 => (if ¬ v11 = 0 then (f_b (f_X3_isDone_trial p7 NN2) fun rr5 NN6 => (if rr5 = 0 then (f_X10_span_53 n p1 p2 p3 p4 p5 p6 p7 (min v8 (e_w ((NN2 43 3) - (NN2 36 3)))) (max v9 (e_w ((NN2 43 3) - (NN2 36 3)))) (e_w (v10 + 0)) (e_w (v11 + 1)) NN6) else (f_X10_span_53 n p1 p2 p3 p4 p5 p6 p7 (min v8 (e_w ((NN2 43 3) - (NN2 36 3)))) (max v9 (e_w ((NN2 43 3) - (NN2 36 3)))) (e_w (v10 + 1)) (e_w (v11 + 1)) NN6))) else (f_b (f_X3_isDone_trial p7 NN2) fun rr3 NN4 => (if rr3 = 0 then (f_X10_span_53 n p1 p2 p3 p4 p5 p6 p7 (e_w ((NN2 43 3) - (NN2 36 3))) (max v9 (e_w ((NN2 43 3) - (NN2 36 3)))) (e_w (v10 + 0)) (e_w (v11 + 1)) NN4) else (f_X10_span_53 n p1 p2 p3 p4 p5 p6 p7 (e_w ((NN2 43 3) - (NN2 36 3))) (max v9 (e_w ((NN2 43 3) - (NN2 36 3)))) (e_w (v10 + 1)) (e_w (v11 + 1)) NN4))))))
theorem s_X10_span_53 {X : e_X} {d gn : Nat} : ∀ n : Nat, ∀ (p1 p2 p3 p4 p5 p6 p7 v8 v9 v10 v11 : Int) (M M' : e_M) (v : Int ⊕ Nat), f_X10_span_53  n p1 p2 p3 p4 p5 p6 p7 v8 v9 v10 v11 M = some (v, M') → e_G X (d + 11) YX10_span 53 [some (.inr (.inr 1)), some (.inl p1), some (.inl p2), some (.inl p3), some (.inl p4), some (.inl p5), some (.inl p6), some (.inl p7), some (.inl v8), some (.inl v9), some (.inl v10), some (.inl v11), none] [] (557, gn, e_RF, M) (f_oT gn v M') := by
  intro n
  induction n with
  | zero => intro p1 p2 p3 p4 p5 p6 p7 v8 v9 v10 v11 M M' v h; cases h
  | succ n ih =>
    intro p1 p2 p3 p4 p5 p6 p7 v8 v9 v10 v11 M M' v h
    rw [f_X10_span_53] at h
    refine wp_X10_span_53 (d := d + 10)  M p1 p2 p3 p4 p5 p6 p7 v8 v9 v10 v11 (f_mnT) ?_
    refine ⟨fun c => ?_, fun c => ?_⟩
    · rw [if_pos c] at h
      refine ⟨fun c => ?_, fun c => ?_, fun c => ?_⟩
      · rw [if_pos c] at h
        cases h; rfl
      · rw [if_neg (by omega), if_pos c] at h
        cases h; rfl
      · rw [if_neg (by omega), if_neg (by omega)] at h
        cases h; rfl
    · rw [if_neg c] at h
      obtain ⟨rr7, NN8, hc9, h⟩ := f_bd h
      refine ⟨NN8, s_X9_liveFrom (d := d + 5)  hc9, ?_⟩
      refine ⟨fun c => ?_, fun c => ?_⟩
      · rw [if_pos c] at h
        refine wp_X10_span_113 (d := d + 10)  _ _ _ _ _ _ _ _ _ _ _ _ _ _ (f_mnT) ?_
        obtain ⟨rr10, NN11, hc12, h⟩ := f_bd h
        refine ⟨rr10, NN11, s_X3_isDone_trial (d := d + 10)  hc12, ?_⟩
        refine ⟨fun c => ?_, fun c => ?_⟩
        · rw [if_pos c] at h
          exact ih _ _ _ _ _ _ _ _ _ _ _ _ _ _ h
        · rw [if_neg c] at h
          exact ih _ _ _ _ _ _ _ _ _ _ _ _ _ _ h
      · rw [if_neg (not_not_intro c)] at h
        refine wp_X10_span_113 (d := d + 10)  _ _ _ _ _ _ _ _ _ _ _ _ _ _ (f_mnT) ?_
        obtain ⟨rr13, NN14, hc15, h⟩ := f_bd h
        refine ⟨rr13, NN14, s_X3_isDone_trial (d := d + 10)  hc15, ?_⟩
        refine ⟨fun c => ?_, fun c => ?_⟩
        · rw [if_pos c] at h
          exact ih _ _ _ _ _ _ _ _ _ _ _ _ _ _ h
        · rw [if_neg c] at h
          exact ih _ _ _ _ _ _ _ _ _ _ _ _ _ _ h
def f_X10_span (n : Nat) (p1 p2 p3 p4 p5 p6 p7 : Int) (M : e_M) : Option ((Int ⊕ Nat) × e_M) := (f_t (f_X10_needWithin p2 1 20 M) fun _ NN17 => (f_t (f_X10_needYear p3 p4 p5 NN17) fun _ NN19 => (f_t (f_X10_needWithin p6 0 2 NN19) fun _ NN21 => (f_t (f_X10_needWithin p7 0 (e_w ((NN21 4 2) - 1)) NN21) fun _ NN23 => (f_X10_span_53 n p1 p2 p3 p4 p5 p6 p7 0 0 0 0 NN23)))))
theorem s_X10_span {X : e_X} {d gn : Nat} {n : Nat} {p1 p2 p3 p4 p5 p6 p7 : Int} {M M' : e_M} {v : Int ⊕ Nat} (h : f_X10_span  n p1 p2 p3 p4 p5 p6 p7 M = some (v, M')) : e_E X (d + 11) YX10_span [.inr (.inr 1), .inl p1, .inl p2, .inl p3, .inl p4, .inl p5, .inl p6, .inl p7] (557, gn, e_RF, M) (f_oT gn v M') := by
  unfold f_X10_span at h
  refine wp_X10_span_0 (d := d + 10)  M p1 p2 p3 p4 p5 p6 p7 (f_mnT) ?_
  rcases f_td h with ⟨rr24, NN25, hc26, h⟩ | ⟨rr24, NN25, hc26, h⟩
  · refine Or.inl ⟨NN25, s_X10_needWithin (d := d + 1)  hc26, ?_⟩
    rcases f_td h with ⟨rr27, NN28, hc29, h⟩ | ⟨rr27, NN28, hc29, h⟩
    · refine Or.inl ⟨NN28, s_X10_needYear (d := d)  hc29, ?_⟩
      rcases f_td h with ⟨rr30, NN31, hc32, h⟩ | ⟨rr30, NN31, hc32, h⟩
      · refine Or.inl ⟨NN31, s_X10_needWithin (d := d + 1)  hc32, ?_⟩
        rcases f_td h with ⟨rr33, NN34, hc35, h⟩ | ⟨rr33, NN34, hc35, h⟩
        · refine Or.inl ⟨NN34, s_X10_needWithin (d := d + 1)  hc35, ?_⟩
          exact s_X10_span_53  _ _ _ _ _ _ _ _ _ _ _ _ _ _ _ h
        · exact Or.inr ⟨rr33, NN34, s_X10_needWithin (d := d + 1)  hc35, by cases h; rfl⟩
      · exact Or.inr ⟨rr30, NN31, s_X10_needWithin (d := d + 1)  hc32, by cases h; rfl⟩
    · exact Or.inr ⟨rr27, NN28, s_X10_needYear (d := d)  hc29, by cases h; rfl⟩
  · exact Or.inr ⟨rr24, NN25, s_X10_needWithin (d := d + 1)  hc26, by cases h; rfl⟩
def f_X10_year (n : Nat) (p1 p2 p3 p4 p5 : Int) (M : e_M) : Option ((Int ⊕ Nat) × e_M) := (f_t (f_X10_needYear p2 p3 p4 M) fun _ NN2 => (f_t (f_X10_needWithin p5 0 4 NN2) fun _ NN4 => (f_b (f_X9_liveFrom n p1 p2 p3 p4 NN4) fun _ NN6 => (if p5 = 0 then (f_b (f_X3_coinsOfAll_trial n NN6) fun rr9 NN10 => (some ((.inl rr9), NN10))) else (if p5 = 1 then (f_b (f_X3_daysOfAll_trial n NN6) fun rr7 NN8 => (some ((.inl rr7), NN8))) else (if p5 = 2 then (some ((.inl (e_w ((NN6 43 3) - (NN6 36 3)))), NN6)) else (if p5 = 3 then (some ((.inl (NN6 54 2)), NN6)) else (some ((.inl (NN6 43 4)), NN6)))))))))
theorem s_X10_year {X : e_X} {d gn : Nat} {n : Nat} {p1 p2 p3 p4 p5 : Int} {M M' : e_M} {v : Int ⊕ Nat} (h : f_X10_year  n p1 p2 p3 p4 p5 M = some (v, M')) : e_E X (d + 11) YX10_year [.inr (.inr 1), .inl p1, .inl p2, .inl p3, .inl p4, .inl p5] (557, gn, e_RF, M) (f_oT gn v M') := by
  unfold f_X10_year at h
  refine wp_X10_year_0 (d := d + 10)  M p1 p2 p3 p4 p5 (f_mnT) ?_
  rcases f_td h with ⟨rr11, NN12, hc13, h⟩ | ⟨rr11, NN12, hc13, h⟩
  · refine Or.inl ⟨NN12, s_X10_needYear (d := d)  hc13, ?_⟩
    rcases f_td h with ⟨rr14, NN15, hc16, h⟩ | ⟨rr14, NN15, hc16, h⟩
    · refine Or.inl ⟨NN15, s_X10_needWithin (d := d + 1)  hc16, ?_⟩
      obtain ⟨rr17, NN18, hc19, h⟩ := f_bd h
      refine ⟨NN18, s_X9_liveFrom (d := d + 5)  hc19, ?_⟩
      refine ⟨fun c => ?_, fun c => ?_, fun c => ?_, fun c => ?_, fun c => ?_⟩
      · rw [if_pos c] at h
        obtain ⟨rr20, NN21, hc22, h⟩ := f_bd h
        refine ⟨rr20, NN21, s_X3_coinsOfAll_trial (d := d + 10)  hc22, ?_⟩
        cases h; rfl
      · rw [if_neg (by omega), if_pos c] at h
        obtain ⟨rr23, NN24, hc25, h⟩ := f_bd h
        refine ⟨rr23, NN24, s_X3_daysOfAll_trial (d := d + 8)  hc25, ?_⟩
        cases h; rfl
      · rw [if_neg (by omega), if_neg (by omega), if_pos c] at h
        cases h; rfl
      · rw [if_neg (by omega), if_neg (by omega), if_neg (by omega), if_pos c] at h
        cases h; rfl
      · rw [if_neg (by omega), if_neg (by omega), if_neg (by omega), if_neg (by omega)] at h
        cases h; rfl
    · exact Or.inr ⟨rr14, NN15, s_X10_needWithin (d := d + 1)  hc16, by cases h; rfl⟩
  · exact Or.inr ⟨rr11, NN12, s_X10_needYear (d := d)  hc13, by cases h; rfl⟩
def f_X11_span_81 : Nat → Int → Int → Int → Int → Int → Int → Int → Int → Int → Int → Int → e_M → Option (Int × e_M)
  | 0, _, _, _, _, _, _, _, _, _, _, _, _ => none
  | n + 1, p1, p2, p3, p4, p5, p6, p7, v8, v9, v10, v11, M => (if p2 ≤ v11 then (if ¬ p6 = 0 then (if ¬ p6 = 1 then (some (v10, M)) else (some (v9, M))) else (some (v8, M))) else (f_b (f_X11_yearBy n (e_w (p1 + v11)) p3 p4 p5 M) fun _ NN2 => (if ¬ v8 = (-1) then (f_b (f_X11_less v8 (e_w ((NN2 533 54) - (NN2 532 54))) NN2) fun rr5 NN6 => (f_b (f_X11_more v9 (e_w ((NN2 533 54) - (NN2 532 54))) NN6) fun rr7 NN8 => (if (0 ≤ (e_w (42 + p7)) ∧ (e_w (42 + p7)) < 56) then (f_X11_span_81 n p1 p2 p3 p4 p5 p6 p7 rr5 rr7 (e_w (v10 + (NN8 533 (e_w (42 + p7)).toNat))) (e_w (v11 + 1)) NN8) else none))) else (f_b (f_X11_more v9 (e_w ((NN2 533 54) - (NN2 532 54))) NN2) fun rr3 NN4 => (if (0 ≤ (e_w (42 + p7)) ∧ (e_w (42 + p7)) < 56) then (f_X11_span_81 n p1 p2 p3 p4 p5 p6 p7 (e_w ((NN2 533 54) - (NN2 532 54))) rr3 (e_w (v10 + (NN4 533 (e_w (42 + p7)).toNat))) (e_w (v11 + 1)) NN4) else none)))))
theorem s_X11_span_81 {X : e_X} {d gn : Nat} : ∀ n : Nat, ∀ (p1 p2 p3 p4 p5 p6 p7 v8 v9 v10 v11 : Int) (M M' : e_M) (v : Int), f_X11_span_81  n p1 p2 p3 p4 p5 p6 p7 v8 v9 v10 v11 M = some (v, M') → e_G X (d + 8) YX11_span 81 [some (.inr (.inr 64)), some (.inl p1), some (.inl p2), some (.inl p3), some (.inl p4), some (.inl p5), some (.inl p6), some (.inl p7), some (.inl v8), some (.inl v9), some (.inl v10), some (.inl v11), none] [] (557, gn, e_RF, M) (.inl (some (.inl v)), (557, gn, e_RF, M')) := by
  intro n
  induction n with
  | zero => intro p1 p2 p3 p4 p5 p6 p7 v8 v9 v10 v11 M M' v h; cases h
  | succ n ih =>
    intro p1 p2 p3 p4 p5 p6 p7 v8 v9 v10 v11 M M' v h
    rw [f_X11_span_81] at h
    refine wp_X11_span_81 (d := d + 7)  M p1 p2 p3 p4 p5 p6 p7 v8 v9 v10 v11 (f_mn) ?_
    refine ⟨fun c => ?_, fun c => ?_⟩
    · rw [if_pos c] at h
      refine ⟨fun c => ?_, fun c => ?_⟩
      · rw [if_pos c] at h
        refine ⟨fun c => ?_, fun c => ?_⟩
        · rw [if_pos c] at h
          cases h; rfl
        · rw [if_neg (not_not_intro c)] at h
          cases h; rfl
      · rw [if_neg (not_not_intro c)] at h
        cases h; rfl
    · rw [if_neg c] at h
      obtain ⟨rr9, NN10, hc11, h⟩ := f_bd h
      refine ⟨NN10, s_X11_yearBy (d := d)  hc11, ?_⟩
      refine ⟨fun c => ?_, fun c => ?_⟩
      · rw [if_pos c] at h
        obtain ⟨rr12, NN13, hc14, h⟩ := f_bd h
        refine ⟨rr12, NN13, s_X11_less (d := d + 7)  hc14, ?_⟩
        refine wp_X11_span_135 (d := d + 7)  _ _ _ _ _ _ _ _ _ _ _ _ _ _ (f_mn) ?_
        obtain ⟨rr15, NN16, hc17, h⟩ := f_bd h
        refine ⟨rr15, NN16, s_X11_more (d := d + 7)  hc17, ?_⟩
        obtain ⟨c18, h⟩ := f_gd h
        refine ⟨c18, ?_⟩
        exact ih _ _ _ _ _ _ _ _ _ _ _ _ _ _ h
      · rw [if_neg (not_not_intro c)] at h
        refine wp_X11_span_135 (d := d + 7)  _ _ _ _ _ _ _ _ _ _ _ _ _ _ (f_mn) ?_
        obtain ⟨rr19, NN20, hc21, h⟩ := f_bd h
        refine ⟨rr19, NN20, s_X11_more (d := d + 7)  hc21, ?_⟩
        obtain ⟨c22, h⟩ := f_gd h
        refine ⟨c22, ?_⟩
        exact ih _ _ _ _ _ _ _ _ _ _ _ _ _ _ h
def f_X11_span (n : Nat) (p1 p2 p3 p4 p5 p6 p7 : Int) (M : e_M) : Option (Int × e_M) := (f_b (f_X11_in p2 1 20 (e_up M 64 0 0)) fun rr23 NN24 => (if rr23 = 0 then (f_b (f_X11_bad 1 1 1 NN24) fun rr39 NN40 => (if rr39 = 0 then (f_X11_span_81 n p1 p2 p3 p4 p5 p6 p7 (-1) 0 0 0 NN40) else (some (0, NN40)))) else (f_b (f_X11_isYear p3 p4 p5 NN24) fun rr25 NN26 => (if rr25 = 0 then (f_b (f_X11_bad 1 1 1 NN26) fun rr37 NN38 => (if rr37 = 0 then (f_X11_span_81 n p1 p2 p3 p4 p5 p6 p7 (-1) 0 0 0 NN38) else (some (0, NN38)))) else (f_b (f_X11_in p6 0 2 NN26) fun rr27 NN28 => (if rr27 = 0 then (f_b (f_X11_bad 1 1 1 NN28) fun rr35 NN36 => (if rr35 = 0 then (f_X11_span_81 n p1 p2 p3 p4 p5 p6 p7 (-1) 0 0 0 NN36) else (some (0, NN36)))) else (f_b (f_X11_in p7 0 (e_w ((NN28 68 2) - 1)) NN28) fun rr29 NN30 => (if ¬ rr29 = 0 then (f_b (f_X11_bad 0 1 1 NN30) fun rr33 NN34 => (if rr33 = 0 then (f_X11_span_81 n p1 p2 p3 p4 p5 p6 p7 (-1) 0 0 0 NN34) else (some (0, NN34)))) else (f_b (f_X11_bad 1 1 1 NN30) fun rr31 NN32 => (if rr31 = 0 then (f_X11_span_81 n p1 p2 p3 p4 p5 p6 p7 (-1) 0 0 0 NN32) else (some (0, NN32))))))))))))
theorem s_X11_span {X : e_X} {d gn : Nat} {n : Nat} {p1 p2 p3 p4 p5 p6 p7 : Int} {M M' : e_M} {v : Int} (h : f_X11_span  n p1 p2 p3 p4 p5 p6 p7 M = some (v, M')) : e_E X (d + 8) YX11_span [.inr (.inr 64), .inl p1, .inl p2, .inl p3, .inl p4, .inl p5, .inl p6, .inl p7] (557, gn, e_RF, M) (.inl (some (.inl v)), (557, gn, e_RF, M')) := by
  unfold f_X11_span at h
  refine wp_X11_span_0 (d := d + 7)  M p1 p2 p3 p4 p5 p6 p7 (f_mn) ?_
  obtain ⟨rr41, NN42, hc43, h⟩ := f_bd h
  refine ⟨rr41, NN42, s_X11_in (d := d + 7)  hc43, ?_⟩
  refine ⟨fun c => ?_, fun c => ?_⟩
  · rw [if_pos c] at h
    refine wp_X11_span_54 (d := d + 7)  _ _ _ _ _ _ _ _ ?_
    refine wp_X11_span_59 (d := d + 7)  _ _ _ _ _ _ _ _ _ (f_mn) ?_
    obtain ⟨rr44, NN45, hc46, h⟩ := f_bd h
    refine ⟨rr44, NN45, s_X11_bad (d := d + 7)  hc46, ?_⟩
    refine ⟨fun c => ?_, fun c => ?_⟩
    · rw [if_pos c] at h
      exact s_X11_span_81  _ _ _ _ _ _ _ _ _ _ _ _ _ _ _ h
    · rw [if_neg c] at h
      cases h; rfl
  · rw [if_neg c] at h
    obtain ⟨rr47, NN48, hc49, h⟩ := f_bd h
    refine ⟨rr47, NN48, s_X11_isYear (d := d + 6)  hc49, ?_⟩
    refine ⟨fun c => ?_, fun c => ?_⟩
    · rw [if_pos c] at h
      refine wp_X11_span_54 (d := d + 7)  _ _ _ _ _ _ _ _ ?_
      refine wp_X11_span_59 (d := d + 7)  _ _ _ _ _ _ _ _ _ (f_mn) ?_
      obtain ⟨rr50, NN51, hc52, h⟩ := f_bd h
      refine ⟨rr50, NN51, s_X11_bad (d := d + 7)  hc52, ?_⟩
      refine ⟨fun c => ?_, fun c => ?_⟩
      · rw [if_pos c] at h
        exact s_X11_span_81  _ _ _ _ _ _ _ _ _ _ _ _ _ _ _ h
      · rw [if_neg c] at h
        cases h; rfl
    · rw [if_neg c] at h
      obtain ⟨rr53, NN54, hc55, h⟩ := f_bd h
      refine ⟨rr53, NN54, s_X11_in (d := d + 7)  hc55, ?_⟩
      refine ⟨fun c => ?_, fun c => ?_⟩
      · rw [if_pos c] at h
        refine wp_X11_span_54 (d := d + 7)  _ _ _ _ _ _ _ _ ?_
        refine wp_X11_span_59 (d := d + 7)  _ _ _ _ _ _ _ _ _ (f_mn) ?_
        obtain ⟨rr56, NN57, hc58, h⟩ := f_bd h
        refine ⟨rr56, NN57, s_X11_bad (d := d + 7)  hc58, ?_⟩
        refine ⟨fun c => ?_, fun c => ?_⟩
        · rw [if_pos c] at h
          exact s_X11_span_81  _ _ _ _ _ _ _ _ _ _ _ _ _ _ _ h
        · rw [if_neg c] at h
          cases h; rfl
      · rw [if_neg c] at h
        obtain ⟨rr59, NN60, hc61, h⟩ := f_bd h
        refine ⟨rr59, NN60, s_X11_in (d := d + 7)  hc61, ?_⟩
        refine ⟨fun c => ?_, fun c => ?_⟩
        · rw [if_pos c] at h
          refine wp_X11_span_59 (d := d + 7)  _ _ _ _ _ _ _ _ _ (f_mn) ?_
          obtain ⟨rr62, NN63, hc64, h⟩ := f_bd h
          refine ⟨rr62, NN63, s_X11_bad (d := d + 7)  hc64, ?_⟩
          refine ⟨fun c => ?_, fun c => ?_⟩
          · rw [if_pos c] at h
            exact s_X11_span_81  _ _ _ _ _ _ _ _ _ _ _ _ _ _ _ h
          · rw [if_neg c] at h
            cases h; rfl
        · rw [if_neg (not_not_intro c)] at h
          refine wp_X11_span_54 (d := d + 7)  _ _ _ _ _ _ _ _ ?_
          refine wp_X11_span_59 (d := d + 7)  _ _ _ _ _ _ _ _ _ (f_mn) ?_
          obtain ⟨rr65, NN66, hc67, h⟩ := f_bd h
          refine ⟨rr65, NN66, s_X11_bad (d := d + 7)  hc67, ?_⟩
          refine ⟨fun c => ?_, fun c => ?_⟩
          · rw [if_pos c] at h
            exact s_X11_span_81  _ _ _ _ _ _ _ _ _ _ _ _ _ _ _ h
          · rw [if_neg c] at h
            cases h; rfl
def f_X11_year_31 (n : Nat) (p1 p2 p3 p4 p5 w0 : Int) (M : e_M) : Option (Int × e_M) := (f_b (f_X11_bad w0 1 1 M) fun rr1 NN2 => (if rr1 = 0 then (f_b (f_X11_yearBy n p1 p2 p3 p4 NN2) fun _ NN4 => (if p5 = 0 then (f_b (f_X11_sumOf 533 n 0 NN4) fun rr9 NN10 => (some (rr9, NN10))) else (if p5 = 1 then (f_b (f_X11_sumOf 533 n 6 NN4) fun rr7 NN8 => (some (rr7, NN8))) else (if p5 = 2 then (some ((e_w ((NN4 533 54) - (NN4 532 54))), NN4)) else (if p5 = 3 then (some ((NN4 64 46), NN4)) else (f_b (f_X11_doneIn 533 n NN4) fun rr5 NN6 => (some (rr5, NN6)))))))) else (some (0, NN2))))
theorem s_X11_year_31 {X : e_X} {d gn : Nat} {n : Nat} {p1 p2 p3 p4 p5 w0 : Int} {M M' : e_M} {v : Int} (h : f_X11_year_31  n p1 p2 p3 p4 p5 w0 M = some (v, M')) : e_G X (d + 8) YX11_year 31 [some (.inr (.inr 64)), some (.inl p1), some (.inl p2), some (.inl p3), some (.inl p4), some (.inl p5)] [.inl w0, .inr (.inr 64)] (557, gn, e_RF, M) (.inl (some (.inl v)), (557, gn, e_RF, M')) := by
  unfold f_X11_year_31 at h
  refine wp_X11_year_31 (d := d + 7)  M p1 p2 p3 p4 p5 w0 (f_mn) ?_
  obtain ⟨rr11, NN12, hc13, h⟩ := f_bd h
  refine ⟨rr11, NN12, s_X11_bad (d := d + 7)  hc13, ?_⟩
  refine ⟨fun c => ?_, fun c => ?_⟩
  · rw [if_pos c] at h
    obtain ⟨rr14, NN15, hc16, h⟩ := f_bd h
    refine ⟨NN15, s_X11_yearBy (d := d)  hc16, ?_⟩
    refine ⟨fun c => ?_, fun c => ?_, fun c => ?_, fun c => ?_, fun c => ?_⟩
    · rw [if_pos c] at h
      obtain ⟨rr17, NN18, hc19, h⟩ := f_bd h
      refine ⟨rr17, NN18, s_X11_sumOf (d := d + 7) rfl (Nat.le_of_ble_eq_true rfl) (by decide) hc19, ?_⟩
      cases h; rfl
    · rw [if_neg (by omega), if_pos c] at h
      obtain ⟨rr20, NN21, hc22, h⟩ := f_bd h
      refine ⟨rr20, NN21, s_X11_sumOf (d := d + 7) rfl (Nat.le_of_ble_eq_true rfl) (by decide) hc22, ?_⟩
      cases h; rfl
    · rw [if_neg (by omega), if_neg (by omega), if_pos c] at h
      cases h; rfl
    · rw [if_neg (by omega), if_neg (by omega), if_neg (by omega), if_pos c] at h
      cases h; rfl
    · rw [if_neg (by omega), if_neg (by omega), if_neg (by omega), if_neg (by omega)] at h
      obtain ⟨rr23, NN24, hc25, h⟩ := f_bd h
      refine ⟨rr23, NN24, s_X11_doneIn (d := d + 7) rfl (Nat.le_of_ble_eq_true rfl) (by decide) hc25, ?_⟩
      cases h; rfl
  · rw [if_neg c] at h
    cases h; rfl
def f_X11_year (n : Nat) (p1 p2 p3 p4 p5 : Int) (M : e_M) : Option (Int × e_M) := (f_b (f_X11_isYear p2 p3 p4 (e_up M 64 0 0)) fun rr26 NN27 => (if rr26 = 0 then (f_X11_year_31 n p1 p2 p3 p4 p5 1 NN27) else (f_b (f_X11_in p5 0 4 NN27) fun rr28 NN29 => (if ¬ rr28 = 0 then (f_X11_year_31 n p1 p2 p3 p4 p5 0 NN29) else (f_X11_year_31 n p1 p2 p3 p4 p5 1 NN29)))))
theorem s_X11_year {X : e_X} {d gn : Nat} {n : Nat} {p1 p2 p3 p4 p5 : Int} {M M' : e_M} {v : Int} (h : f_X11_year  n p1 p2 p3 p4 p5 M = some (v, M')) : e_E X (d + 8) YX11_year [.inr (.inr 64), .inl p1, .inl p2, .inl p3, .inl p4, .inl p5] (557, gn, e_RF, M) (.inl (some (.inl v)), (557, gn, e_RF, M')) := by
  unfold f_X11_year at h
  refine wp_X11_year_0 (d := d + 7)  M p1 p2 p3 p4 p5 (f_mn) ?_
  obtain ⟨rr30, NN31, hc32, h⟩ := f_bd h
  refine ⟨rr30, NN31, s_X11_isYear (d := d + 6)  hc32, ?_⟩
  refine ⟨fun c => ?_, fun c => ?_⟩
  · rw [if_pos c] at h
    refine wp_X11_year_26 (d := d + 7)  _ _ _ _ _ _ ?_
    exact s_X11_year_31  h
  · rw [if_neg c] at h
    obtain ⟨rr33, NN34, hc35, h⟩ := f_bd h
    refine ⟨rr33, NN34, s_X11_in (d := d + 7)  hc35, ?_⟩
    refine ⟨fun c => ?_, fun c => ?_⟩
    · rw [if_pos c] at h
      exact s_X11_year_31  h
    · rw [if_neg (not_not_intro c)] at h
      refine wp_X11_year_26 (d := d + 7)  _ _ _ _ _ _ ?_
      exact s_X11_year_31  h
