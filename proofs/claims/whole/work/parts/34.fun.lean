def f_X2_readSum_8 (rc_X2_readProduct : Int → e_M → Option (Int × e_M)) : Nat → Int → Int → e_M → Option (Int × e_M)
  | 0, _, _, _ => none
  | n + 1, p2, v3, M => (if 150 ≤ v3 then (some (0, M)) else (f_b (f_X7_flawed M) fun rr1 NN2 => (if ¬ rr1 = 0 then (some (0, NN2)) else (f_b (f_X7_takeSign n 43 NN2) fun rr3 NN4 => (if rr3 = 0 then (f_b (f_X7_takeSign n 45 NN4) fun rr9 NN10 => (if rr9 = 0 then (some (0, NN10)) else (f_b (rc_X2_readProduct p2 NN10) fun _ NN12 => (f_b (f_X2_emit_lawDraft 2001 NN12) fun _ NN14 => (f_X2_readSum_8 rc_X2_readProduct n p2 (e_w (v3 + 1)) NN14))))) else (f_b (rc_X2_readProduct p2 NN4) fun _ NN6 => (f_b (f_X2_emit_lawDraft 2000 NN6) fun _ NN8 => (f_X2_readSum_8 rc_X2_readProduct n p2 (e_w (v3 + 1)) NN8))))))))
theorem s_X2_readSum_8 {X : e_X} {d gn : Nat} {rc_X2_readProduct : Int → e_M → Option (Int × e_M)} (hc_X2_readProduct : ∀ (p2 : Int) (M M' : e_M) (v : Int), rc_X2_readProduct p2 M = some (v, M') → e_E X (d + 5) YX2_readProduct [.inr (.inr 24), .inr (.inr 2), .inl p2] (557, gn, e_RF, M) (.inl none, (557, gn, e_RF, M'))) : ∀ n : Nat, ∀ (p2 v3 : Int) (M M' : e_M) (v : Int), f_X2_readSum_8 rc_X2_readProduct  n p2 v3 M = some (v, M') → e_G X (d + 6) YX2_readSum 8 [some (.inr (.inr 24)), some (.inr (.inr 2)), some (.inl p2), some (.inl v3), none] [] (557, gn, e_RF, M) (.inl none, (557, gn, e_RF, M')) := by
  intro n
  induction n with
  | zero => intro p2 v3 M M' v h; cases h
  | succ n ih =>
    intro p2 v3 M M' v h
    rw [f_X2_readSum_8] at h
    refine wp_X2_readSum_8 (d := d + 5)  M p2 v3 (f_mn) ?_
    refine ⟨fun c => ?_, fun c => ?_⟩
    · rw [if_pos c] at h
      cases h; rfl
    · rw [if_neg c] at h
      obtain ⟨rr15, NN16, hc17, h⟩ := f_bd h
      refine ⟨rr15, NN16, s_X7_flawed (d := d + 5)  hc17, ?_⟩
      refine ⟨fun c => ?_, fun c => ?_⟩
      · rw [if_pos c] at h
        cases h; rfl
      · rw [if_neg (not_not_intro c)] at h
        obtain ⟨rr18, NN19, hc20, h⟩ := f_bd h
        refine ⟨rr18, NN19, s_X7_takeSign (d := d + 4)  hc20, ?_⟩
        refine ⟨fun c => ?_, fun c => ?_⟩
        · rw [if_pos c] at h
          obtain ⟨rr21, NN22, hc23, h⟩ := f_bd h
          refine ⟨rr21, NN22, s_X7_takeSign (d := d + 4)  hc23, ?_⟩
          refine ⟨fun c => ?_, fun c => ?_⟩
          · rw [if_pos c] at h
            refine wp_X2_readSum_53 (d := d + 5)  _ _ _ _ (f_mn) ?_
            refine ⟨fun c => absurd c (by decide), fun _ => ?_⟩
            cases h; rfl
          · rw [if_neg c] at h
            refine wp_X2_readSum_53 (d := d + 5)  _ _ _ _ (f_mn) ?_
            refine ⟨fun _ => ?_, fun c => absurd c (by decide)⟩
            obtain ⟨rr24, NN25, hc26, h⟩ := f_bd h
            refine ⟨NN25, hc_X2_readProduct _ _ _ _ hc26, ?_⟩
            obtain ⟨rr27, NN28, hc29, h⟩ := f_bd h
            refine ⟨NN28, s_X2_emit_lawDraft (d := d + 5)  hc29, ?_⟩
            exact ih _ _ _ _ _ h
        · rw [if_neg c] at h
          refine wp_X2_readSum_53 (d := d + 5)  _ _ _ _ (f_mn) ?_
          refine ⟨fun _ => ?_, fun c => absurd c (by decide)⟩
          obtain ⟨rr30, NN31, hc32, h⟩ := f_bd h
          refine ⟨NN31, hc_X2_readProduct _ _ _ _ hc32, ?_⟩
          obtain ⟨rr33, NN34, hc35, h⟩ := f_bd h
          refine ⟨NN34, s_X2_emit_lawDraft (d := d + 5)  hc35, ?_⟩
          exact ih _ _ _ _ _ h
def f_X2_readSum (rc_X2_readProduct : Int → e_M → Option (Int × e_M)) (n : Nat) (p2 : Int) (M : e_M) : Option (Int × e_M) := (f_b (rc_X2_readProduct p2 M) fun _ NN37 => (f_X2_readSum_8 rc_X2_readProduct n p2 0 NN37))
theorem s_X2_readSum {X : e_X} {d gn : Nat} {rc_X2_readProduct : Int → e_M → Option (Int × e_M)} (hc_X2_readProduct : ∀ (p2 : Int) (M M' : e_M) (v : Int), rc_X2_readProduct p2 M = some (v, M') → e_E X (d + 5) YX2_readProduct [.inr (.inr 24), .inr (.inr 2), .inl p2] (557, gn, e_RF, M) (.inl none, (557, gn, e_RF, M'))) {n : Nat} {p2 : Int} {M M' : e_M} {v : Int} (h : f_X2_readSum rc_X2_readProduct  n p2 M = some (v, M')) : e_E X (d + 6) YX2_readSum [.inr (.inr 24), .inr (.inr 2), .inl p2] (557, gn, e_RF, M) (.inl none, (557, gn, e_RF, M')) := by
  unfold f_X2_readSum at h
  refine wp_X2_readSum_0 (d := d + 5)  M p2 (f_mn) ?_
  obtain ⟨rr38, NN39, hc40, h⟩ := f_bd h
  refine ⟨NN39, hc_X2_readProduct _ _ _ _ hc40, ?_⟩
  exact s_X2_readSum_8 hc_X2_readProduct  _ _ _ _ _ _ h
def f_X2_readProduct_8 (rc_X2_readUnit : Int → e_M → Option (Int × e_M)) : Nat → Int → Int → e_M → Option (Int × e_M)
  | 0, _, _, _ => none
  | n + 1, p2, v3, M => (if 150 ≤ v3 then (some (0, M)) else (f_b (f_X7_flawed M) fun rr1 NN2 => (if ¬ rr1 = 0 then (some (0, NN2)) else (f_b (f_X7_takeSign n 42 NN2) fun rr3 NN4 => (if rr3 = 0 then (f_b (f_X7_takeSign n 47 NN4) fun rr9 NN10 => (if rr9 = 0 then (f_b (f_X7_takeSign n 37 NN10) fun rr15 NN16 => (if rr15 = 0 then (some (0, NN16)) else (f_b (rc_X2_readUnit p2 NN16) fun _ NN18 => (f_b (f_X2_emit_lawDraft 2004 NN18) fun _ NN20 => (f_X2_readProduct_8 rc_X2_readUnit n p2 (e_w (v3 + 1)) NN20))))) else (f_b (rc_X2_readUnit p2 NN10) fun _ NN12 => (f_b (f_X2_emit_lawDraft 2003 NN12) fun _ NN14 => (f_X2_readProduct_8 rc_X2_readUnit n p2 (e_w (v3 + 1)) NN14))))) else (f_b (rc_X2_readUnit p2 NN4) fun _ NN6 => (f_b (f_X2_emit_lawDraft 2002 NN6) fun _ NN8 => (f_X2_readProduct_8 rc_X2_readUnit n p2 (e_w (v3 + 1)) NN8))))))))
theorem s_X2_readProduct_8 {X : e_X} {d gn : Nat} {rc_X2_readUnit : Int → e_M → Option (Int × e_M)} (hc_X2_readUnit : ∀ (p2 : Int) (M M' : e_M) (v : Int), rc_X2_readUnit p2 M = some (v, M') → e_E X (d + 5) YX2_readUnit [.inr (.inr 24), .inr (.inr 2), .inl p2] (557, gn, e_RF, M) (.inl none, (557, gn, e_RF, M'))) : ∀ n : Nat, ∀ (p2 v3 : Int) (M M' : e_M) (v : Int), f_X2_readProduct_8 rc_X2_readUnit  n p2 v3 M = some (v, M') → e_G X (d + 6) YX2_readProduct 8 [some (.inr (.inr 24)), some (.inr (.inr 2)), some (.inl p2), some (.inl v3), none] [] (557, gn, e_RF, M) (.inl none, (557, gn, e_RF, M')) := by
  intro n
  induction n with
  | zero => intro p2 v3 M M' v h; cases h
  | succ n ih =>
    intro p2 v3 M M' v h
    rw [f_X2_readProduct_8] at h
    refine wp_X2_readProduct_8 (d := d + 5)  M p2 v3 (f_mn) ?_
    refine ⟨fun c => ?_, fun c => ?_⟩
    · rw [if_pos c] at h
      cases h; rfl
    · rw [if_neg c] at h
      obtain ⟨rr21, NN22, hc23, h⟩ := f_bd h
      refine ⟨rr21, NN22, s_X7_flawed (d := d + 5)  hc23, ?_⟩
      refine ⟨fun c => ?_, fun c => ?_⟩
      · rw [if_pos c] at h
        cases h; rfl
      · rw [if_neg (not_not_intro c)] at h
        obtain ⟨rr24, NN25, hc26, h⟩ := f_bd h
        refine ⟨rr24, NN25, s_X7_takeSign (d := d + 4)  hc26, ?_⟩
        refine ⟨fun c => ?_, fun c => ?_⟩
        · rw [if_pos c] at h
          obtain ⟨rr27, NN28, hc29, h⟩ := f_bd h
          refine ⟨rr27, NN28, s_X7_takeSign (d := d + 4)  hc29, ?_⟩
          refine ⟨fun c => ?_, fun c => ?_⟩
          · rw [if_pos c] at h
            obtain ⟨rr30, NN31, hc32, h⟩ := f_bd h
            refine ⟨rr30, NN31, s_X7_takeSign (d := d + 4)  hc32, ?_⟩
            refine ⟨fun c => ?_, fun c => ?_⟩
            · rw [if_pos c] at h
              refine wp_X2_readProduct_68 (d := d + 5)  _ _ _ _ (f_mn) ?_
              refine ⟨fun c => absurd c (by decide), fun _ => ?_⟩
              cases h; rfl
            · rw [if_neg c] at h
              refine wp_X2_readProduct_68 (d := d + 5)  _ _ _ _ (f_mn) ?_
              refine ⟨fun _ => ?_, fun c => absurd c (by decide)⟩
              obtain ⟨rr33, NN34, hc35, h⟩ := f_bd h
              refine ⟨NN34, hc_X2_readUnit _ _ _ _ hc35, ?_⟩
              obtain ⟨rr36, NN37, hc38, h⟩ := f_bd h
              refine ⟨NN37, s_X2_emit_lawDraft (d := d + 5)  hc38, ?_⟩
              exact ih _ _ _ _ _ h
          · rw [if_neg c] at h
            refine wp_X2_readProduct_68 (d := d + 5)  _ _ _ _ (f_mn) ?_
            refine ⟨fun _ => ?_, fun c => absurd c (by decide)⟩
            obtain ⟨rr39, NN40, hc41, h⟩ := f_bd h
            refine ⟨NN40, hc_X2_readUnit _ _ _ _ hc41, ?_⟩
            obtain ⟨rr42, NN43, hc44, h⟩ := f_bd h
            refine ⟨NN43, s_X2_emit_lawDraft (d := d + 5)  hc44, ?_⟩
            exact ih _ _ _ _ _ h
        · rw [if_neg c] at h
          refine wp_X2_readProduct_68 (d := d + 5)  _ _ _ _ (f_mn) ?_
          refine ⟨fun _ => ?_, fun c => absurd c (by decide)⟩
          obtain ⟨rr45, NN46, hc47, h⟩ := f_bd h
          refine ⟨NN46, hc_X2_readUnit _ _ _ _ hc47, ?_⟩
          obtain ⟨rr48, NN49, hc50, h⟩ := f_bd h
          refine ⟨NN49, s_X2_emit_lawDraft (d := d + 5)  hc50, ?_⟩
          exact ih _ _ _ _ _ h
def f_X2_readProduct (rc_X2_readUnit : Int → e_M → Option (Int × e_M)) (n : Nat) (p2 : Int) (M : e_M) : Option (Int × e_M) := (f_b (rc_X2_readUnit p2 M) fun _ NN52 => (f_X2_readProduct_8 rc_X2_readUnit n p2 0 NN52))
theorem s_X2_readProduct {X : e_X} {d gn : Nat} {rc_X2_readUnit : Int → e_M → Option (Int × e_M)} (hc_X2_readUnit : ∀ (p2 : Int) (M M' : e_M) (v : Int), rc_X2_readUnit p2 M = some (v, M') → e_E X (d + 5) YX2_readUnit [.inr (.inr 24), .inr (.inr 2), .inl p2] (557, gn, e_RF, M) (.inl none, (557, gn, e_RF, M'))) {n : Nat} {p2 : Int} {M M' : e_M} {v : Int} (h : f_X2_readProduct rc_X2_readUnit  n p2 M = some (v, M')) : e_E X (d + 6) YX2_readProduct [.inr (.inr 24), .inr (.inr 2), .inl p2] (557, gn, e_RF, M) (.inl none, (557, gn, e_RF, M')) := by
  unfold f_X2_readProduct at h
  refine wp_X2_readProduct_0 (d := d + 5)  M p2 (f_mn) ?_
  obtain ⟨rr53, NN54, hc55, h⟩ := f_bd h
  refine ⟨NN54, hc_X2_readUnit _ _ _ _ hc55, ?_⟩
  exact s_X2_readProduct_8 hc_X2_readUnit  _ _ _ _ _ _ h
def f_X2_readUnit (rc_X2_readName : Int → e_M → Option (Int × e_M)) (rc_X2_readBracket : Int → e_M → Option (Int × e_M)) (n : Nat) (p2 : Int) (M : e_M) : Option (Int × e_M) := (f_b (f_X7_flawed M) fun rr1 NN2 => (if rr1 = 0 then (f_b (f_X7_atDigit n NN2) fun rr3 NN4 => (if rr3 = 0 then (f_b (f_X7_peekSign n NN4) fun rr9 NN10 => (if ¬ rr9 = 40 then (f_b (rc_X2_readName p2 NN10) fun _ NN14 => (some (0, NN14))) else (f_b (rc_X2_readBracket p2 NN10) fun _ NN12 => (some (0, NN12))))) else (f_b (f_X7_readNumber n 0 999 NN4) fun rr5 NN6 => (f_b (f_X2_emit_lawDraft rr5 NN6) fun _ NN8 => (some (0, NN8)))))) else (some (0, NN2))))
theorem s_X2_readUnit {X : e_X} {d gn : Nat} {rc_X2_readName : Int → e_M → Option (Int × e_M)} {rc_X2_readBracket : Int → e_M → Option (Int × e_M)} (hc_X2_readName : ∀ (p2 : Int) (M M' : e_M) (v : Int), rc_X2_readName p2 M = some (v, M') → e_E X (d + 5) YX2_readName [.inr (.inr 24), .inr (.inr 2), .inl p2] (557, gn, e_RF, M) (.inl none, (557, gn, e_RF, M'))) (hc_X2_readBracket : ∀ (p2 : Int) (M M' : e_M) (v : Int), rc_X2_readBracket p2 M = some (v, M') → e_E X (d + 5) YX2_readBracket [.inr (.inr 24), .inr (.inr 2), .inl p2] (557, gn, e_RF, M) (.inl none, (557, gn, e_RF, M'))) {n : Nat} {p2 : Int} {M M' : e_M} {v : Int} (h : f_X2_readUnit rc_X2_readName rc_X2_readBracket  n p2 M = some (v, M')) : e_E X (d + 6) YX2_readUnit [.inr (.inr 24), .inr (.inr 2), .inl p2] (557, gn, e_RF, M) (.inl none, (557, gn, e_RF, M')) := by
  unfold f_X2_readUnit at h
  refine wp_X2_readUnit_0 (d := d + 5)  M p2 (f_mn) ?_
  obtain ⟨rr15, NN16, hc17, h⟩ := f_bd h
  refine ⟨rr15, NN16, s_X7_flawed (d := d + 5)  hc17, ?_⟩
  refine ⟨fun c => ?_, fun c => ?_⟩
  · rw [if_pos c] at h
    obtain ⟨rr18, NN19, hc20, h⟩ := f_bd h
    refine ⟨rr18, NN19, s_X7_atDigit (d := d + 4)  hc20, ?_⟩
    refine ⟨fun c => ?_, fun c => ?_⟩
    · rw [if_pos c] at h
      obtain ⟨rr21, NN22, hc23, h⟩ := f_bd h
      refine ⟨rr21, NN22, s_X7_peekSign (d := d + 5)  hc23, ?_⟩
      refine ⟨fun c => ?_, fun c => ?_⟩
      · rw [if_pos c] at h
        obtain ⟨rr24, NN25, hc26, h⟩ := f_bd h
        refine ⟨NN25, hc_X2_readName _ _ _ _ hc26, ?_⟩
        cases h; rfl
      · rw [if_neg (not_not_intro c)] at h
        obtain ⟨rr27, NN28, hc29, h⟩ := f_bd h
        refine ⟨NN28, hc_X2_readBracket _ _ _ _ hc29, ?_⟩
        cases h; rfl
    · rw [if_neg c] at h
      obtain ⟨rr30, NN31, hc32, h⟩ := f_bd h
      refine ⟨rr30, NN31, s_X7_readNumber (d := d + 3)  hc32, ?_⟩
      obtain ⟨rr33, NN34, hc35, h⟩ := f_bd h
      refine ⟨NN34, s_X2_emit_lawDraft (d := d + 5)  hc35, ?_⟩
      cases h; rfl
  · rw [if_neg c] at h
    cases h; rfl
def f_X2_readBracket (rc_X2_readSum : Int → e_M → Option (Int × e_M)) (n : Nat) (p2 : Int) (M : e_M) : Option (Int × e_M) := (if p2 < 6 then (f_b (f_X7_expectSign n 40 M) fun _ NN6 => (f_b (rc_X2_readSum (e_w (p2 + 1)) NN6) fun _ NN8 => (f_b (f_X7_expectSign n 41 NN8) fun _ NN10 => (some (0, NN10))))) else (f_b (f_X7_signPlace M) fun rr1 NN2 => (f_b (f_X7_noteFlaw 3 rr1 NN2) fun _ NN4 => (some (0, NN4)))))
theorem s_X2_readBracket {X : e_X} {d gn : Nat} {rc_X2_readSum : Int → e_M → Option (Int × e_M)} (hc_X2_readSum : ∀ (p2 : Int) (M M' : e_M) (v : Int), rc_X2_readSum p2 M = some (v, M') → e_E X (d + 5) YX2_readSum [.inr (.inr 24), .inr (.inr 2), .inl p2] (557, gn, e_RF, M) (.inl none, (557, gn, e_RF, M'))) {n : Nat} {p2 : Int} {M M' : e_M} {v : Int} (h : f_X2_readBracket rc_X2_readSum  n p2 M = some (v, M')) : e_E X (d + 6) YX2_readBracket [.inr (.inr 24), .inr (.inr 2), .inl p2] (557, gn, e_RF, M) (.inl none, (557, gn, e_RF, M')) := by
  unfold f_X2_readBracket at h
  refine wp_X2_readBracket_0 (d := d + 5)  M p2 (f_mn) ?_
  refine ⟨fun c => ?_, fun c => ?_⟩
  · rw [if_pos c] at h
    obtain ⟨rr11, NN12, hc13, h⟩ := f_bd h
    refine ⟨NN12, s_X7_expectSign (d := d + 3)  hc13, ?_⟩
    obtain ⟨rr14, NN15, hc16, h⟩ := f_bd h
    refine ⟨NN15, hc_X2_readSum _ _ _ _ hc16, ?_⟩
    obtain ⟨rr17, NN18, hc19, h⟩ := f_bd h
    refine ⟨NN18, s_X7_expectSign (d := d + 3)  hc19, ?_⟩
    cases h; rfl
  · rw [if_neg c] at h
    obtain ⟨rr20, NN21, hc22, h⟩ := f_bd h
    refine ⟨rr20, NN21, s_X7_signPlace (d := d + 5)  hc22, ?_⟩
    obtain ⟨rr23, NN24, hc25, h⟩ := f_bd h
    refine ⟨NN24, s_X7_noteFlaw (d := d + 5)  hc25, ?_⟩
    cases h; rfl
def f_X2_readName (rc_X2_readSum : Int → e_M → Option (Int × e_M)) (n : Nat) (p2 : Int) (M : e_M) : Option (Int × e_M) := (f_b (f_X7_readWord_2 n M) fun rr1 NN2 => (if ¬ rr1 = (-1) then (if 8 ≤ rr1 then (if p2 < 6 then (f_b (f_X7_expectSign n 91 NN2) fun _ NN8 => (f_b (rc_X2_readSum (e_w (p2 + 1)) NN8) fun _ NN10 => (f_b (f_X7_expectSign n 44 NN10) fun _ NN12 => (f_b (rc_X2_readSum (e_w (p2 + 1)) NN12) fun _ NN14 => (f_b (f_X7_expectSign n 93 NN14) fun _ NN16 => (if ¬ rr1 = 8 then (f_b (f_X2_emit_lawDraft 2006 NN16) fun _ NN20 => (some (0, NN20))) else (f_b (f_X2_emit_lawDraft 2005 NN16) fun _ NN18 => (some (0, NN18))))))))) else (f_b (f_X7_noteFlaw 3 (NN2 2 6) NN2) fun _ NN6 => (some (0, NN6)))) else (f_b (f_X2_emit_lawDraft (e_w (1000 + rr1)) NN2) fun _ NN4 => (some (0, NN4)))) else (some (0, NN2))))
theorem s_X2_readName {X : e_X} {d gn : Nat} {rc_X2_readSum : Int → e_M → Option (Int × e_M)} (hc_X2_readSum : ∀ (p2 : Int) (M M' : e_M) (v : Int), rc_X2_readSum p2 M = some (v, M') → e_E X (d + 5) YX2_readSum [.inr (.inr 24), .inr (.inr 2), .inl p2] (557, gn, e_RF, M) (.inl none, (557, gn, e_RF, M'))) {n : Nat} {p2 : Int} {M M' : e_M} {v : Int} (h : f_X2_readName rc_X2_readSum  n p2 M = some (v, M')) : e_E X (d + 6) YX2_readName [.inr (.inr 24), .inr (.inr 2), .inl p2] (557, gn, e_RF, M) (.inl none, (557, gn, e_RF, M')) := by
  unfold f_X2_readName at h
  refine wp_X2_readName_0 (d := d + 5)  M p2 (f_mn) ?_
  obtain ⟨rr21, NN22, hc23, h⟩ := f_bd h
  refine ⟨rr21, NN22, s_X7_readWord_2 (d := d)  hc23, ?_⟩
  refine ⟨fun c => ?_, fun c => ?_⟩
  · rw [if_pos c] at h
    refine ⟨fun c => ?_, fun c => ?_⟩
    · rw [if_pos c] at h
      refine ⟨fun c => ?_, fun c => ?_⟩
      · rw [if_pos c] at h
        obtain ⟨rr24, NN25, hc26, h⟩ := f_bd h
        refine ⟨NN25, s_X7_expectSign (d := d + 3)  hc26, ?_⟩
        obtain ⟨rr27, NN28, hc29, h⟩ := f_bd h
        refine ⟨NN28, hc_X2_readSum _ _ _ _ hc29, ?_⟩
        obtain ⟨rr30, NN31, hc32, h⟩ := f_bd h
        refine ⟨NN31, s_X7_expectSign (d := d + 3)  hc32, ?_⟩
        obtain ⟨rr33, NN34, hc35, h⟩ := f_bd h
        refine ⟨NN34, hc_X2_readSum _ _ _ _ hc35, ?_⟩
        obtain ⟨rr36, NN37, hc38, h⟩ := f_bd h
        refine ⟨NN37, s_X7_expectSign (d := d + 3)  hc38, ?_⟩
        refine ⟨fun c => ?_, fun c => ?_⟩
        · rw [if_pos c] at h
          refine wp_X2_readName_95 (d := d + 5)  _ _ _ _ (f_mn) ?_
          obtain ⟨rr39, NN40, hc41, h⟩ := f_bd h
          refine ⟨NN40, s_X2_emit_lawDraft (d := d + 5)  hc41, ?_⟩
          cases h; rfl
        · rw [if_neg (not_not_intro c)] at h
          refine wp_X2_readName_95 (d := d + 5)  _ _ _ _ (f_mn) ?_
          obtain ⟨rr42, NN43, hc44, h⟩ := f_bd h
          refine ⟨NN43, s_X2_emit_lawDraft (d := d + 5)  hc44, ?_⟩
          cases h; rfl
      · rw [if_neg c] at h
        obtain ⟨rr45, NN46, hc47, h⟩ := f_bd h
        refine ⟨NN46, s_X7_noteFlaw (d := d + 5)  hc47, ?_⟩
        cases h; rfl
    · rw [if_neg c] at h
      obtain ⟨rr48, NN49, hc50, h⟩ := f_bd h
      refine ⟨NN49, s_X2_emit_lawDraft (d := d + 5)  hc50, ?_⟩
      cases h; rfl
  · rw [if_neg (not_not_intro c)] at h
    cases h; rfl
def g_X2_readSum (n : Nat) : Nat → Nat → Int → e_M → Option (Int × e_M)
  | 0, _, _, _ => none
  | k + 1, t, a1, M => (if t = 0 then f_X2_readSum (fun x1 N => g_X2_readSum n k 1 x1 N) n a1 M else (if t = 1 then f_X2_readProduct (fun x1 N => g_X2_readSum n k 2 x1 N) n a1 M else (if t = 2 then f_X2_readUnit (fun x1 N => g_X2_readSum n k 4 x1 N) (fun x1 N => g_X2_readSum n k 3 x1 N) n a1 M else (if t = 3 then f_X2_readBracket (fun x1 N => g_X2_readSum n k 0 x1 N) n a1 M else f_X2_readName (fun x1 N => g_X2_readSum n k 0 x1 N) n a1 M))))
theorem sg_X2_readSum {X : e_X} {d gn n : Nat} : ∀ k : Nat, (∀ (p2 : Int) (M M' : e_M) (v : Int), g_X2_readSum n k 0 p2 M = some (v, M') → e_E X (d + k + 5) YX2_readSum [.inr (.inr 24), .inr (.inr 2), .inl p2] (557, gn, e_RF, M) (.inl none, (557, gn, e_RF, M'))) ∧ (∀ (p2 : Int) (M M' : e_M) (v : Int), g_X2_readSum n k 1 p2 M = some (v, M') → e_E X (d + k + 5) YX2_readProduct [.inr (.inr 24), .inr (.inr 2), .inl p2] (557, gn, e_RF, M) (.inl none, (557, gn, e_RF, M'))) ∧ (∀ (p2 : Int) (M M' : e_M) (v : Int), g_X2_readSum n k 2 p2 M = some (v, M') → e_E X (d + k + 5) YX2_readUnit [.inr (.inr 24), .inr (.inr 2), .inl p2] (557, gn, e_RF, M) (.inl none, (557, gn, e_RF, M'))) ∧ (∀ (p2 : Int) (M M' : e_M) (v : Int), g_X2_readSum n k 3 p2 M = some (v, M') → e_E X (d + k + 5) YX2_readBracket [.inr (.inr 24), .inr (.inr 2), .inl p2] (557, gn, e_RF, M) (.inl none, (557, gn, e_RF, M'))) ∧ (∀ (p2 : Int) (M M' : e_M) (v : Int), g_X2_readSum n k 4 p2 M = some (v, M') → e_E X (d + k + 5) YX2_readName [.inr (.inr 24), .inr (.inr 2), .inl p2] (557, gn, e_RF, M) (.inl none, (557, gn, e_RF, M'))) := by
  intro k
  induction k with
  | zero => exact ⟨(by intros; rename_i h; cases h), (by intros; rename_i h; cases h), (by intros; rename_i h; cases h), (by intros; rename_i h; cases h), (by intros; rename_i h; cases h)⟩
  | succ k ih =>
    rw [show d + (k + 1) + 5 = d + k + 5 + 1 by omega]
    refine ⟨?_, ?_, ?_, ?_, ?_⟩
    · intro p2 M M' v h
      rw [g_X2_readSum, if_pos rfl] at h
      exact s_X2_readSum (d := d + k) ih.2.1 h
    · intro p2 M M' v h
      rw [g_X2_readSum, if_neg (by decide), if_pos rfl] at h
      exact s_X2_readProduct (d := d + k) ih.2.2.1 h
    · intro p2 M M' v h
      rw [g_X2_readSum, if_neg (by decide), if_neg (by decide), if_pos rfl] at h
      exact s_X2_readUnit (d := d + k) ih.2.2.2.2 ih.2.2.2.1 h
    · intro p2 M M' v h
      rw [g_X2_readSum, if_neg (by decide), if_neg (by decide), if_neg (by decide), if_pos rfl] at h
      exact s_X2_readBracket (d := d + k) ih.1 h
    · intro p2 M M' v h
      rw [g_X2_readSum, if_neg (by decide), if_neg (by decide), if_neg (by decide), if_neg (by decide)] at h
      exact s_X2_readName (d := d + k) ih.1 h
theorem sk_X2_readSum {X : e_X} {d gn n : Nat} (k : Nat) : (∀ (p2 : Int) (M M' : e_M) (v : Int), g_X2_readSum n k 0 p2 M = some (v, M') → e_E X (d + k + 5) YX2_readSum [.inr (.inr 24), .inr (.inr 2), .inl p2] (557, gn, e_RF, M) (.inl none, (557, gn, e_RF, M'))) := (sg_X2_readSum k).1
theorem sk_X2_readProduct {X : e_X} {d gn n : Nat} (k : Nat) : (∀ (p2 : Int) (M M' : e_M) (v : Int), g_X2_readSum n k 1 p2 M = some (v, M') → e_E X (d + k + 5) YX2_readProduct [.inr (.inr 24), .inr (.inr 2), .inl p2] (557, gn, e_RF, M) (.inl none, (557, gn, e_RF, M'))) := (sg_X2_readSum k).2.1
theorem sk_X2_readUnit {X : e_X} {d gn n : Nat} (k : Nat) : (∀ (p2 : Int) (M M' : e_M) (v : Int), g_X2_readSum n k 2 p2 M = some (v, M') → e_E X (d + k + 5) YX2_readUnit [.inr (.inr 24), .inr (.inr 2), .inl p2] (557, gn, e_RF, M) (.inl none, (557, gn, e_RF, M'))) := (sg_X2_readSum k).2.2.1
theorem sk_X2_readBracket {X : e_X} {d gn n : Nat} (k : Nat) : (∀ (p2 : Int) (M M' : e_M) (v : Int), g_X2_readSum n k 3 p2 M = some (v, M') → e_E X (d + k + 5) YX2_readBracket [.inr (.inr 24), .inr (.inr 2), .inl p2] (557, gn, e_RF, M) (.inl none, (557, gn, e_RF, M'))) := (sg_X2_readSum k).2.2.2.1
theorem sk_X2_readName {X : e_X} {d gn n : Nat} (k : Nat) : (∀ (p2 : Int) (M M' : e_M) (v : Int), g_X2_readSum n k 4 p2 M = some (v, M') → e_E X (d + k + 5) YX2_readName [.inr (.inr 24), .inr (.inr 2), .inl p2] (557, gn, e_RF, M) (.inl none, (557, gn, e_RF, M'))) := (sg_X2_readSum k).2.2.2.2
def f_k_X2_readSum (n : Nat) (p2 : Int) (M : e_M) : Option (Int × e_M) := g_X2_readSum n 40 0 p2 M
theorem s_k_X2_readSum {X : e_X} {d gn n : Nat} {p2 : Int} {M M' : e_M} {v : Int} (h : f_k_X2_readSum n p2 M = some (v, M')) : e_E X (d + 45) YX2_readSum [.inr (.inr 24), .inr (.inr 2), .inl p2] (557, gn, e_RF, M) (.inl none, (557, gn, e_RF, M')) := sk_X2_readSum (d := d) 40 _ _ _ _ h
def f_k_X2_readProduct (n : Nat) (p2 : Int) (M : e_M) : Option (Int × e_M) := g_X2_readSum n 40 1 p2 M
theorem s_k_X2_readProduct {X : e_X} {d gn n : Nat} {p2 : Int} {M M' : e_M} {v : Int} (h : f_k_X2_readProduct n p2 M = some (v, M')) : e_E X (d + 45) YX2_readProduct [.inr (.inr 24), .inr (.inr 2), .inl p2] (557, gn, e_RF, M) (.inl none, (557, gn, e_RF, M')) := sk_X2_readProduct (d := d) 40 _ _ _ _ h
def f_k_X2_readUnit (n : Nat) (p2 : Int) (M : e_M) : Option (Int × e_M) := g_X2_readSum n 40 2 p2 M
theorem s_k_X2_readUnit {X : e_X} {d gn n : Nat} {p2 : Int} {M M' : e_M} {v : Int} (h : f_k_X2_readUnit n p2 M = some (v, M')) : e_E X (d + 45) YX2_readUnit [.inr (.inr 24), .inr (.inr 2), .inl p2] (557, gn, e_RF, M) (.inl none, (557, gn, e_RF, M')) := sk_X2_readUnit (d := d) 40 _ _ _ _ h
def f_k_X2_readBracket (n : Nat) (p2 : Int) (M : e_M) : Option (Int × e_M) := g_X2_readSum n 40 3 p2 M
theorem s_k_X2_readBracket {X : e_X} {d gn n : Nat} {p2 : Int} {M M' : e_M} {v : Int} (h : f_k_X2_readBracket n p2 M = some (v, M')) : e_E X (d + 45) YX2_readBracket [.inr (.inr 24), .inr (.inr 2), .inl p2] (557, gn, e_RF, M) (.inl none, (557, gn, e_RF, M')) := sk_X2_readBracket (d := d) 40 _ _ _ _ h
def f_k_X2_readName (n : Nat) (p2 : Int) (M : e_M) : Option (Int × e_M) := g_X2_readSum n 40 4 p2 M
theorem s_k_X2_readName {X : e_X} {d gn n : Nat} {p2 : Int} {M M' : e_M} {v : Int} (h : f_k_X2_readName n p2 M = some (v, M')) : e_E X (d + 45) YX2_readName [.inr (.inr 24), .inr (.inr 2), .inl p2] (557, gn, e_RF, M) (.inl none, (557, gn, e_RF, M')) := sk_X2_readName (d := d) 40 _ _ _ _ h
def f_X4_readSteps_3 (rc_X4_readStep : Int → e_M → Option (Int × e_M)) : Nat → Int → Int → e_M → Option (Int × e_M)
  | 0, _, _, _ => none
  | n + 1, p3, v4, M => (if 30 < v4 then (some (0, M)) else (f_b (f_X7_flawed M) fun rr1 NN2 => (if ¬ rr1 = 0 then (some (0, NN2)) else (if ¬ p3 = 0 then (f_b (f_X7_peekSign n NN2) fun rr9 NN10 => (if ¬ rr9 = 93 then (f_b (rc_X4_readStep p3 NN10) fun _ NN12 => (f_b (f_X7_expectSign n 59 NN12) fun _ NN14 => (f_X4_readSteps_3 rc_X4_readStep n p3 (e_w (v4 + 1)) NN14))) else (some (0, NN10)))) else (f_b (f_X7_atEnd n NN2) fun rr3 NN4 => (if rr3 = 0 then (f_b (rc_X4_readStep p3 NN4) fun _ NN6 => (f_b (f_X7_expectSign n 59 NN6) fun _ NN8 => (f_X4_readSteps_3 rc_X4_readStep n p3 (e_w (v4 + 1)) NN8))) else (some (0, NN4))))))))
theorem s_X4_readSteps_3 {X : e_X} {d gn : Nat} {rc_X4_readStep : Int → e_M → Option (Int × e_M)} (hc_X4_readStep : ∀ (p3 : Int) (M M' : e_M) (v : Int), rc_X4_readStep p3 M = some (v, M') → e_E X (d + 5) YX4_readStep [.inr (.inr 32), .inr (.inr 2), .inr (.inr 4), .inl p3] (557, gn, e_RF, M) (.inl none, (557, gn, e_RF, M'))) : ∀ n : Nat, ∀ (p3 v4 : Int) (M M' : e_M) (v : Int), f_X4_readSteps_3 rc_X4_readStep  n p3 v4 M = some (v, M') → e_G X (d + 6) YX4_readSteps 3 [some (.inr (.inr 32)), some (.inr (.inr 2)), some (.inr (.inr 4)), some (.inl p3), some (.inl v4)] [] (557, gn, e_RF, M) (.inl none, (557, gn, e_RF, M')) := by
  intro n
  induction n with
  | zero => intro p3 v4 M M' v h; cases h
  | succ n ih =>
    intro p3 v4 M M' v h
    rw [f_X4_readSteps_3] at h
    refine wp_X4_readSteps_3 (d := d + 5)  M p3 v4 (f_mn) ?_
    refine ⟨fun c => ?_, fun c => ?_⟩
    · rw [if_pos c] at h
      cases h; rfl
    · rw [if_neg c] at h
      obtain ⟨rr15, NN16, hc17, h⟩ := f_bd h
      refine ⟨rr15, NN16, s_X7_flawed (d := d + 5)  hc17, ?_⟩
      refine ⟨fun c => ?_, fun c => ?_⟩
      · rw [if_pos c] at h
        cases h; rfl
      · rw [if_neg (not_not_intro c)] at h
        refine ⟨fun c => ?_, fun c => ?_⟩
        · rw [if_pos c] at h
          obtain ⟨rr18, NN19, hc20, h⟩ := f_bd h
          refine ⟨rr18, NN19, s_X7_peekSign (d := d + 5)  hc20, ?_⟩
          refine ⟨fun c => ?_, fun c => ?_⟩
          · rw [if_pos c] at h
            refine wp_X4_readSteps_41 (d := d + 5)  _ _ _ (f_mn) ?_
            obtain ⟨rr21, NN22, hc23, h⟩ := f_bd h
            refine ⟨NN22, hc_X4_readStep _ _ _ _ hc23, ?_⟩
            obtain ⟨rr24, NN25, hc26, h⟩ := f_bd h
            refine ⟨NN25, s_X7_expectSign (d := d + 3)  hc26, ?_⟩
            exact ih _ _ _ _ _ h
          · rw [if_neg (not_not_intro c)] at h
            cases h; rfl
        · rw [if_neg (not_not_intro c)] at h
          obtain ⟨rr27, NN28, hc29, h⟩ := f_bd h
          refine ⟨rr27, NN28, s_X7_atEnd (d := d + 4)  hc29, ?_⟩
          refine ⟨fun c => ?_, fun c => ?_⟩
          · rw [if_pos c] at h
            refine wp_X4_readSteps_41 (d := d + 5)  _ _ _ (f_mn) ?_
            obtain ⟨rr30, NN31, hc32, h⟩ := f_bd h
            refine ⟨NN31, hc_X4_readStep _ _ _ _ hc32, ?_⟩
            obtain ⟨rr33, NN34, hc35, h⟩ := f_bd h
            refine ⟨NN34, s_X7_expectSign (d := d + 3)  hc35, ?_⟩
            exact ih _ _ _ _ _ h
          · rw [if_neg c] at h
            cases h; rfl
def f_X4_readSteps (rc_X4_readStep : Int → e_M → Option (Int × e_M)) (n : Nat) (p3 : Int) (M : e_M) : Option (Int × e_M) := (f_X4_readSteps_3 rc_X4_readStep n p3 0 M)
theorem s_X4_readSteps {X : e_X} {d gn : Nat} {rc_X4_readStep : Int → e_M → Option (Int × e_M)} (hc_X4_readStep : ∀ (p3 : Int) (M M' : e_M) (v : Int), rc_X4_readStep p3 M = some (v, M') → e_E X (d + 5) YX4_readStep [.inr (.inr 32), .inr (.inr 2), .inr (.inr 4), .inl p3] (557, gn, e_RF, M) (.inl none, (557, gn, e_RF, M'))) {n : Nat} {p3 : Int} {M M' : e_M} {v : Int} (h : f_X4_readSteps rc_X4_readStep  n p3 M = some (v, M')) : e_E X (d + 6) YX4_readSteps [.inr (.inr 32), .inr (.inr 2), .inr (.inr 4), .inl p3] (557, gn, e_RF, M) (.inl none, (557, gn, e_RF, M')) := by
  unfold f_X4_readSteps at h
  refine wp_X4_readSteps_0 (d := d + 5)  M p3 ?_
  exact s_X4_readSteps_3 hc_X4_readStep  _ _ _ _ _ _ h
def f_X4_readStep (rc_X4_readAgain : Int → Int → e_M → Option (Int × e_M)) (n : Nat) (p3 : Int) (M : e_M) : Option (Int × e_M) := (f_b (f_X7_readWord_3 n M) fun rr1 NN2 => (if rr1 = (-1) then (some (0, NN2)) else (if (NN2 32 0) < 30 then (if (0 ≤ (NN2 32 0) ∧ (NN2 32 0) < 30) then (if (0 ≤ (NN2 32 0) ∧ (NN2 32 0) < 30) then (if rr1 = 0 then (f_b (f_X7_readNumber n 0 (e_w (((e_up (e_up (e_up NN2 32 0 (e_w ((NN2 32 0) + 1))) 33 (NN2 32 0).toNat rr1) 34 (NN2 32 0).toNat 0) 4 0) - 1)) (e_up (e_up (e_up NN2 32 0 (e_w ((NN2 32 0) + 1))) 33 (NN2 32 0).toNat rr1) 34 (NN2 32 0).toNat 0)) fun rr9 NN10 => (if (0 ≤ (NN2 32 0) ∧ (NN2 32 0) < 30) then (if (0 ≤ (NN2 32 0) ∧ (NN2 32 0) < 30) then (some (0, (e_up (e_up NN10 34 (NN2 32 0).toNat rr9) 35 (NN2 32 0).toNat ((e_up NN10 34 (NN2 32 0).toNat rr9) 32 0)))) else none) else none)) else (if ¬ rr1 = 1 then (if ¬ rr1 = 2 then (if ¬ rr1 = 4 then (if (0 ≤ (NN2 32 0) ∧ (NN2 32 0) < 30) then (some (0, (e_up (e_up (e_up (e_up NN2 32 0 (e_w ((NN2 32 0) + 1))) 33 (NN2 32 0).toNat rr1) 34 (NN2 32 0).toNat 0) 35 (NN2 32 0).toNat ((e_up (e_up (e_up NN2 32 0 (e_w ((NN2 32 0) + 1))) 33 (NN2 32 0).toNat rr1) 34 (NN2 32 0).toNat 0) 32 0)))) else none) else (f_b (rc_X4_readAgain p3 (NN2 32 0) (e_up (e_up (e_up NN2 32 0 (e_w ((NN2 32 0) + 1))) 33 (NN2 32 0).toNat rr1) 34 (NN2 32 0).toNat 0)) fun _ NN8 => (if (0 ≤ (NN2 32 0) ∧ (NN2 32 0) < 30) then (some (0, (e_up NN8 35 (NN2 32 0).toNat (NN8 32 0)))) else none))) else (f_b (f_X7_readNumber n 0 (e_w (((e_up (e_up (e_up NN2 32 0 (e_w ((NN2 32 0) + 1))) 33 (NN2 32 0).toNat rr1) 34 (NN2 32 0).toNat 0) 4 2) - 1)) (e_up (e_up (e_up NN2 32 0 (e_w ((NN2 32 0) + 1))) 33 (NN2 32 0).toNat rr1) 34 (NN2 32 0).toNat 0)) fun rr5 NN6 => (if (0 ≤ (NN2 32 0) ∧ (NN2 32 0) < 30) then (if (0 ≤ (NN2 32 0) ∧ (NN2 32 0) < 30) then (some (0, (e_up (e_up NN6 34 (NN2 32 0).toNat rr5) 35 (NN2 32 0).toNat ((e_up NN6 34 (NN2 32 0).toNat rr5) 32 0)))) else none) else none))) else (f_b (f_X7_readNumber n 0 (e_w (((e_up (e_up (e_up NN2 32 0 (e_w ((NN2 32 0) + 1))) 33 (NN2 32 0).toNat rr1) 34 (NN2 32 0).toNat 0) 4 0) - 1)) (e_up (e_up (e_up NN2 32 0 (e_w ((NN2 32 0) + 1))) 33 (NN2 32 0).toNat rr1) 34 (NN2 32 0).toNat 0)) fun rr3 NN4 => (if (0 ≤ (NN2 32 0) ∧ (NN2 32 0) < 30) then (if (0 ≤ (NN2 32 0) ∧ (NN2 32 0) < 30) then (some (0, (e_up (e_up NN4 34 (NN2 32 0).toNat rr3) 35 (NN2 32 0).toNat ((e_up NN4 34 (NN2 32 0).toNat rr3) 32 0)))) else none) else none)))) else none) else none) else (some (0, NN2)))))
theorem s_X4_readStep {X : e_X} {d gn : Nat} {rc_X4_readAgain : Int → Int → e_M → Option (Int × e_M)} (hc_X4_readAgain : ∀ (p3 p4 : Int) (M M' : e_M) (v : Int), rc_X4_readAgain p3 p4 M = some (v, M') → e_E X (d + 5) YX4_readAgain [.inr (.inr 32), .inr (.inr 2), .inr (.inr 4), .inl p3, .inl p4] (557, gn, e_RF, M) (.inl none, (557, gn, e_RF, M'))) {n : Nat} {p3 : Int} {M M' : e_M} {v : Int} (h : f_X4_readStep rc_X4_readAgain  n p3 M = some (v, M')) : e_E X (d + 6) YX4_readStep [.inr (.inr 32), .inr (.inr 2), .inr (.inr 4), .inl p3] (557, gn, e_RF, M) (.inl none, (557, gn, e_RF, M')) := by
  unfold f_X4_readStep at h
  refine wp_X4_readStep_0 (d := d + 5)  M p3 (f_mn) ?_
  obtain ⟨rr11, NN12, hc13, h⟩ := f_bd h
  refine ⟨rr11, NN12, s_X7_readWord_3 (d := d)  hc13, ?_⟩
  refine ⟨fun c => ?_, fun c => ?_⟩
  · rw [if_pos c] at h
    cases h; rfl
  · rw [if_neg c] at h
    refine ⟨fun c => ?_, fun c => ?_⟩
    · rw [if_pos c] at h
      obtain ⟨c14, h⟩ := f_gd h
      refine ⟨c14, ?_⟩
      obtain ⟨c15, h⟩ := f_gd h
      refine ⟨c15, ?_⟩
      refine ⟨fun c => ?_, fun c => ?_⟩
      · rw [if_pos c] at h
        refine wp_X4_readStep_66 (d := d + 5)  _ _ _ _ (f_mn) ?_
        obtain ⟨rr16, NN17, hc18, h⟩ := f_bd h
        refine ⟨rr16, NN17, s_X7_readNumber (d := d + 3)  hc18, ?_⟩
        obtain ⟨c19, h⟩ := f_gd h
        refine ⟨c19, ?_⟩
        refine wp_X4_readStep_129 (d := d + 5)  _ _ _ _ ?_
        obtain ⟨c20, h⟩ := f_gd h
        exact ⟨c20, by cases h; rfl⟩
      · rw [if_neg c] at h
        refine ⟨fun c => ?_, fun c => ?_⟩
        · rw [if_pos c] at h
          refine ⟨fun c => ?_, fun c => ?_⟩
          · rw [if_pos c] at h
            refine ⟨fun c => ?_, fun c => ?_⟩
            · rw [if_pos c] at h
              refine wp_X4_readStep_129 (d := d + 5)  _ _ _ _ ?_
              obtain ⟨c21, h⟩ := f_gd h
              exact ⟨c21, by cases h; rfl⟩
            · rw [if_neg (not_not_intro c)] at h
              obtain ⟨rr22, NN23, hc24, h⟩ := f_bd h
              refine ⟨NN23, hc_X4_readAgain _ _ _ _ _ hc24, ?_⟩
              refine wp_X4_readStep_129 (d := d + 5)  _ _ _ _ ?_
              obtain ⟨c25, h⟩ := f_gd h
              exact ⟨c25, by cases h; rfl⟩
          · rw [if_neg (not_not_intro c)] at h
            obtain ⟨rr26, NN27, hc28, h⟩ := f_bd h
            refine ⟨rr26, NN27, s_X7_readNumber (d := d + 3)  hc28, ?_⟩
            obtain ⟨c29, h⟩ := f_gd h
            refine ⟨c29, ?_⟩
            refine wp_X4_readStep_129 (d := d + 5)  _ _ _ _ ?_
            obtain ⟨c30, h⟩ := f_gd h
            exact ⟨c30, by cases h; rfl⟩
        · rw [if_neg (not_not_intro c)] at h
          refine wp_X4_readStep_66 (d := d + 5)  _ _ _ _ (f_mn) ?_
          obtain ⟨rr31, NN32, hc33, h⟩ := f_bd h
          refine ⟨rr31, NN32, s_X7_readNumber (d := d + 3)  hc33, ?_⟩
          obtain ⟨c34, h⟩ := f_gd h
          refine ⟨c34, ?_⟩
          refine wp_X4_readStep_129 (d := d + 5)  _ _ _ _ ?_
          obtain ⟨c35, h⟩ := f_gd h
          exact ⟨c35, by cases h; rfl⟩
    · rw [if_neg c] at h
      cases h; rfl
def f_X4_readAgain (rc_X4_readSteps : Int → e_M → Option (Int × e_M)) (n : Nat) (p3 p4 : Int) (M : e_M) : Option (Int × e_M) := (if p3 < 6 then (f_b (f_X7_readNumber n 0 60 M) fun rr3 NN4 => (if (0 ≤ p4 ∧ p4 < 30) then (f_b (f_X7_expectSign n 91 (e_up NN4 34 p4.toNat rr3)) fun _ NN6 => (f_b (rc_X4_readSteps (e_w (p3 + 1)) NN6) fun _ NN8 => (f_b (f_X7_expectSign n 93 NN8) fun _ NN10 => (some (0, NN10))))) else none)) else (f_b (f_X7_noteFlaw 3 (M 2 6) M) fun _ NN2 => (some (0, NN2))))
theorem s_X4_readAgain {X : e_X} {d gn : Nat} {rc_X4_readSteps : Int → e_M → Option (Int × e_M)} (hc_X4_readSteps : ∀ (p3 : Int) (M M' : e_M) (v : Int), rc_X4_readSteps p3 M = some (v, M') → e_E X (d + 5) YX4_readSteps [.inr (.inr 32), .inr (.inr 2), .inr (.inr 4), .inl p3] (557, gn, e_RF, M) (.inl none, (557, gn, e_RF, M'))) {n : Nat} {p3 p4 : Int} {M M' : e_M} {v : Int} (h : f_X4_readAgain rc_X4_readSteps  n p3 p4 M = some (v, M')) : e_E X (d + 6) YX4_readAgain [.inr (.inr 32), .inr (.inr 2), .inr (.inr 4), .inl p3, .inl p4] (557, gn, e_RF, M) (.inl none, (557, gn, e_RF, M')) := by
  unfold f_X4_readAgain at h
  refine wp_X4_readAgain_0 (d := d + 5)  M p3 p4 (f_mn) ?_
  refine ⟨fun c => ?_, fun c => ?_⟩
  · rw [if_pos c] at h
    obtain ⟨rr11, NN12, hc13, h⟩ := f_bd h
    refine ⟨rr11, NN12, s_X7_readNumber (d := d + 3)  hc13, ?_⟩
    obtain ⟨c14, h⟩ := f_gd h
    refine ⟨c14, ?_⟩
    obtain ⟨rr15, NN16, hc17, h⟩ := f_bd h
    refine ⟨NN16, s_X7_expectSign (d := d + 3)  hc17, ?_⟩
    obtain ⟨rr18, NN19, hc20, h⟩ := f_bd h
    refine ⟨NN19, hc_X4_readSteps _ _ _ _ hc20, ?_⟩
    obtain ⟨rr21, NN22, hc23, h⟩ := f_bd h
    refine ⟨NN22, s_X7_expectSign (d := d + 3)  hc23, ?_⟩
    cases h; rfl
  · rw [if_neg c] at h
    obtain ⟨rr24, NN25, hc26, h⟩ := f_bd h
    refine ⟨NN25, s_X7_noteFlaw (d := d + 5)  hc26, ?_⟩
    cases h; rfl
def g_X4_readSteps (n : Nat) : Nat → Nat → Int → Int → e_M → Option (Int × e_M)
  | 0, _, _, _, _ => none
  | k + 1, t, a1, a2, M => (if t = 0 then f_X4_readSteps (fun x1 N => g_X4_readSteps n k 1 x1 0 N) n a1 M else (if t = 1 then f_X4_readStep (fun x1 x2 N => g_X4_readSteps n k 2 x1 x2 N) n a1 M else f_X4_readAgain (fun x1 N => g_X4_readSteps n k 0 x1 0 N) n a1 a2 M))
theorem sg_X4_readSteps {X : e_X} {d gn n : Nat} : ∀ k : Nat, (∀ (p3 : Int) (M M' : e_M) (v : Int), g_X4_readSteps n k 0 p3 0 M = some (v, M') → e_E X (d + k + 5) YX4_readSteps [.inr (.inr 32), .inr (.inr 2), .inr (.inr 4), .inl p3] (557, gn, e_RF, M) (.inl none, (557, gn, e_RF, M'))) ∧ (∀ (p3 : Int) (M M' : e_M) (v : Int), g_X4_readSteps n k 1 p3 0 M = some (v, M') → e_E X (d + k + 5) YX4_readStep [.inr (.inr 32), .inr (.inr 2), .inr (.inr 4), .inl p3] (557, gn, e_RF, M) (.inl none, (557, gn, e_RF, M'))) ∧ (∀ (p3 p4 : Int) (M M' : e_M) (v : Int), g_X4_readSteps n k 2 p3 p4 M = some (v, M') → e_E X (d + k + 5) YX4_readAgain [.inr (.inr 32), .inr (.inr 2), .inr (.inr 4), .inl p3, .inl p4] (557, gn, e_RF, M) (.inl none, (557, gn, e_RF, M'))) := by
  intro k
  induction k with
  | zero => exact ⟨(by intros; rename_i h; cases h), (by intros; rename_i h; cases h), (by intros; rename_i h; cases h)⟩
  | succ k ih =>
    rw [show d + (k + 1) + 5 = d + k + 5 + 1 by omega]
    refine ⟨?_, ?_, ?_⟩
    · intro p3 M M' v h
      rw [g_X4_readSteps, if_pos rfl] at h
      exact s_X4_readSteps (d := d + k) ih.2.1 h
    · intro p3 M M' v h
      rw [g_X4_readSteps, if_neg (by decide), if_pos rfl] at h
      exact s_X4_readStep (d := d + k) ih.2.2 h
    · intro p3 p4 M M' v h
      rw [g_X4_readSteps, if_neg (by decide), if_neg (by decide)] at h
      exact s_X4_readAgain (d := d + k) ih.1 h
theorem sk_X4_readSteps {X : e_X} {d gn n : Nat} (k : Nat) : (∀ (p3 : Int) (M M' : e_M) (v : Int), g_X4_readSteps n k 0 p3 0 M = some (v, M') → e_E X (d + k + 5) YX4_readSteps [.inr (.inr 32), .inr (.inr 2), .inr (.inr 4), .inl p3] (557, gn, e_RF, M) (.inl none, (557, gn, e_RF, M'))) := (sg_X4_readSteps k).1
theorem sk_X4_readStep {X : e_X} {d gn n : Nat} (k : Nat) : (∀ (p3 : Int) (M M' : e_M) (v : Int), g_X4_readSteps n k 1 p3 0 M = some (v, M') → e_E X (d + k + 5) YX4_readStep [.inr (.inr 32), .inr (.inr 2), .inr (.inr 4), .inl p3] (557, gn, e_RF, M) (.inl none, (557, gn, e_RF, M'))) := (sg_X4_readSteps k).2.1
theorem sk_X4_readAgain {X : e_X} {d gn n : Nat} (k : Nat) : (∀ (p3 p4 : Int) (M M' : e_M) (v : Int), g_X4_readSteps n k 2 p3 p4 M = some (v, M') → e_E X (d + k + 5) YX4_readAgain [.inr (.inr 32), .inr (.inr 2), .inr (.inr 4), .inl p3, .inl p4] (557, gn, e_RF, M) (.inl none, (557, gn, e_RF, M'))) := (sg_X4_readSteps k).2.2
def f_k_X4_readSteps (n : Nat) (p3 : Int) (M : e_M) : Option (Int × e_M) := g_X4_readSteps n 30 0 p3 0 M
theorem s_k_X4_readSteps {X : e_X} {d gn n : Nat} {p3 : Int} {M M' : e_M} {v : Int} (h : f_k_X4_readSteps n p3 M = some (v, M')) : e_E X (d + 35) YX4_readSteps [.inr (.inr 32), .inr (.inr 2), .inr (.inr 4), .inl p3] (557, gn, e_RF, M) (.inl none, (557, gn, e_RF, M')) := sk_X4_readSteps (d := d) 30 _ _ _ _ h
def f_k_X4_readStep (n : Nat) (p3 : Int) (M : e_M) : Option (Int × e_M) := g_X4_readSteps n 30 1 p3 0 M
theorem s_k_X4_readStep {X : e_X} {d gn n : Nat} {p3 : Int} {M M' : e_M} {v : Int} (h : f_k_X4_readStep n p3 M = some (v, M')) : e_E X (d + 35) YX4_readStep [.inr (.inr 32), .inr (.inr 2), .inr (.inr 4), .inl p3] (557, gn, e_RF, M) (.inl none, (557, gn, e_RF, M')) := sk_X4_readStep (d := d) 30 _ _ _ _ h
def f_k_X4_readAgain (n : Nat) (p3 p4 : Int) (M : e_M) : Option (Int × e_M) := g_X4_readSteps n 30 2 p3 p4 M
theorem s_k_X4_readAgain {X : e_X} {d gn n : Nat} {p3 p4 : Int} {M M' : e_M} {v : Int} (h : f_k_X4_readAgain n p3 p4 M = some (v, M')) : e_E X (d + 35) YX4_readAgain [.inr (.inr 32), .inr (.inr 2), .inr (.inr 4), .inl p3, .inl p4] (557, gn, e_RF, M) (.inl none, (557, gn, e_RF, M')) := sk_X4_readAgain (d := d) 30 _ _ _ _ _ h
def f_X2_readFrom_lawDraft (n : Nat) (M : e_M) : Option (Int × e_M) := (f_b (f_k_X2_readSum n 0 (e_up M 24 1 0)) fun _ NN2 => (f_b (f_X7_expectEnd n NN2) fun _ NN4 => (some (0, NN4))))
theorem s_X2_readFrom_lawDraft {X : e_X} {d gn : Nat} {n : Nat} {M M' : e_M} {v : Int} (h : f_X2_readFrom_lawDraft  n  M = some (v, M')) : e_E X (d + 46) YX2_readFrom [.inr (.inr 24), .inr (.inr 2)] (557, gn, e_RF, M) (.inl none, (557, gn, e_RF, M')) := by
  unfold f_X2_readFrom_lawDraft at h
  refine wp_X2_readFrom_lawDraft_0 (d := d + 45)  M  (f_mn) ?_
  obtain ⟨rr5, NN6, hc7, h⟩ := f_bd h
  refine ⟨NN6, s_k_X2_readSum (d := d)  hc7, ?_⟩
  obtain ⟨rr8, NN9, hc10, h⟩ := f_bd h
  refine ⟨NN9, s_X7_expectEnd (d := d + 43)  hc10, ?_⟩
  cases h; rfl
def f_X4_readFrom (n : Nat) (M : e_M) : Option (Int × e_M) := (f_b (f_k_X4_readSteps n 0 (e_up M 32 0 0)) fun _ NN2 => (some (0, NN2)))
theorem s_X4_readFrom {X : e_X} {d gn : Nat} {n : Nat} {M M' : e_M} {v : Int} (h : f_X4_readFrom  n  M = some (v, M')) : e_E X (d + 36) YX4_readFrom [.inr (.inr 32), .inr (.inr 2), .inr (.inr 4)] (557, gn, e_RF, M) (.inl none, (557, gn, e_RF, M')) := by
  unfold f_X4_readFrom at h
  refine wp_X4_readFrom_0 (d := d + 35)  M  (f_mn) ?_
  obtain ⟨rr3, NN4, hc5, h⟩ := f_bd h
  refine ⟨NN4, s_k_X4_readSteps (d := d)  hc5, ?_⟩
  cases h; rfl
def f_X8_readFrom_townDraft_17 : Nat → Int → e_M → Option (Int × e_M)
  | 0, _, _ => none
  | n + 1, v2, M => (if 60 < v2 then (some (0, M)) else (f_b (f_X7_flawed M) fun rr1 NN2 => (if ¬ rr1 = 0 then (some (0, NN2)) else (f_b (f_X7_atEnd n NN2) fun rr3 NN4 => (if ¬ rr3 = 0 then (some (0, NN4)) else (f_b (f_X7_readWord_1 n NN4) fun rr5 NN6 => (if v2 < 60 then (f_b (f_X8_readClause n rr5 NN6) fun _ NN14 => (f_b (f_X7_expectSign n 59 NN14) fun _ NN16 => (f_X8_readFrom_townDraft_17 n (e_w (v2 + 1)) NN16))) else (f_b (f_X7_noteFlaw 3 (NN6 2 6) NN6) fun _ NN8 => (f_b (f_X8_readClause n rr5 NN8) fun _ NN10 => (f_b (f_X7_expectSign n 59 NN10) fun _ NN12 => (f_X8_readFrom_townDraft_17 n (e_w (v2 + 1)) NN12)))))))))))
theorem s_X8_readFrom_townDraft_17 {X : e_X} {d gn : Nat} : ∀ n : Nat, ∀ (v2 : Int) (M M' : e_M) (v : Int), f_X8_readFrom_townDraft_17  n v2 M = some (v, M') → e_G X (d + 6) YX8_readFrom 17 [some (.inr (.inr 12)), some (.inr (.inr 2)), some (.inl v2), none] [] (557, gn, e_RF, M) (.inl none, (557, gn, e_RF, M')) := by
  intro n
  induction n with
  | zero => intro v2 M M' v h; cases h
  | succ n ih =>
    intro v2 M M' v h
    rw [f_X8_readFrom_townDraft_17] at h
    refine wp_X8_readFrom_townDraft_17 (d := d + 5)  M v2 (f_mn) ?_
    refine ⟨fun c => ?_, fun c => ?_⟩
    · rw [if_pos c] at h
      cases h; rfl
    · rw [if_neg c] at h
      obtain ⟨rr17, NN18, hc19, h⟩ := f_bd h
      refine ⟨rr17, NN18, s_X7_flawed (d := d + 5)  hc19, ?_⟩
      refine ⟨fun c => ?_, fun c => ?_⟩
      · rw [if_pos c] at h
        cases h; rfl
      · rw [if_neg (not_not_intro c)] at h
        obtain ⟨rr20, NN21, hc22, h⟩ := f_bd h
        refine ⟨rr20, NN21, s_X7_atEnd (d := d + 4)  hc22, ?_⟩
        refine ⟨fun c => ?_, fun c => ?_⟩
        · rw [if_pos c] at h
          cases h; rfl
        · rw [if_neg (not_not_intro c)] at h
          obtain ⟨rr23, NN24, hc25, h⟩ := f_bd h
          refine ⟨rr23, NN24, s_X7_readWord_1 (d := d)  hc25, ?_⟩
          refine ⟨fun c => ?_, fun c => ?_⟩
          · rw [if_pos c] at h
            refine wp_X8_readFrom_townDraft_59 (d := d + 5)  _ _ _ (f_mn) ?_
            obtain ⟨rr26, NN27, hc28, h⟩ := f_bd h
            refine ⟨NN27, s_X8_readClause (d := d + 1)  hc28, ?_⟩
            obtain ⟨rr29, NN30, hc31, h⟩ := f_bd h
            refine ⟨NN30, s_X7_expectSign (d := d + 3)  hc31, ?_⟩
            exact ih _ _ _ _ h
          · rw [if_neg c] at h
            obtain ⟨rr32, NN33, hc34, h⟩ := f_bd h
            refine ⟨NN33, s_X7_noteFlaw (d := d + 5)  hc34, ?_⟩
            refine wp_X8_readFrom_townDraft_59 (d := d + 5)  _ _ _ (f_mn) ?_
            obtain ⟨rr35, NN36, hc37, h⟩ := f_bd h
            refine ⟨NN36, s_X8_readClause (d := d + 1)  hc37, ?_⟩
            obtain ⟨rr38, NN39, hc40, h⟩ := f_bd h
            refine ⟨NN39, s_X7_expectSign (d := d + 3)  hc40, ?_⟩
            exact ih _ _ _ _ h
def f_X8_readFrom_townDraft (n : Nat) (M : e_M) : Option (Int × e_M) := (f_X8_readFrom_townDraft_17 n 0 (e_up (e_up (e_up M 12 0 0) 12 1 0) 12 2 0))
theorem s_X8_readFrom_townDraft {X : e_X} {d gn : Nat} {n : Nat} {M M' : e_M} {v : Int} (h : f_X8_readFrom_townDraft  n  M = some (v, M')) : e_E X (d + 6) YX8_readFrom [.inr (.inr 12), .inr (.inr 2)] (557, gn, e_RF, M) (.inl none, (557, gn, e_RF, M')) := by
  unfold f_X8_readFrom_townDraft at h
  refine wp_X8_readFrom_townDraft_0 (d := d + 5)  M  ?_
  exact s_X8_readFrom_townDraft_17  _ _ _ _ _ h
def f_X10_law (n : Nat) (p1 : Int) (M : e_M) : Option ((Int ⊕ Nat) × e_M) := (f_t (f_X10_needText p1 150 M) fun _ NN2 => (f_b (f_X7_beginReading p1 NN2) fun _ NN4 => (f_b (f_X2_readFrom_lawDraft n NN4) fun _ NN6 => (f_b (f_X7_flawed NN6) fun rr7 NN8 => (if rr7 = 0 then (f_b (f_X2_copyFrom_law NN8) fun _ NN12 => (some ((.inl 1), NN12))) else (f_b (f_X7_flawAnswer NN8) fun rr9 NN10 => (some ((.inl rr9), NN10))))))))
theorem s_X10_law {X : e_X} {d gn : Nat} {n : Nat} {p1 : Int} {M M' : e_M} {v : Int ⊕ Nat} (h : f_X10_law  n p1 M = some (v, M')) : e_E X (d + 47) YX10_law [.inr (.inr 1), .inl p1] (557, gn, e_RF, M) (f_oT gn v M') := by
  unfold f_X10_law at h
  refine wp_X10_law_0 (d := d + 46)  M p1 (f_mnT) ?_
  rcases f_td h with ⟨rr13, NN14, hc15, h⟩ | ⟨rr13, NN14, hc15, h⟩
  · refine Or.inl ⟨NN14, s_X10_needText (d := d + 36)  hc15, ?_⟩
    obtain ⟨rr16, NN17, hc18, h⟩ := f_bd h
    refine ⟨NN17, s_X7_beginReading (d := d + 46)  hc18, ?_⟩
    obtain ⟨rr19, NN20, hc21, h⟩ := f_bd h
    refine ⟨NN20, s_X2_readFrom_lawDraft (d := d)  hc21, ?_⟩
    obtain ⟨rr22, NN23, hc24, h⟩ := f_bd h
    refine ⟨rr22, NN23, s_X7_flawed (d := d + 46)  hc24, ?_⟩
    refine ⟨fun c => ?_, fun c => ?_⟩
    · rw [if_pos c] at h
      obtain ⟨rr25, NN26, hc27, h⟩ := f_bd h
      refine ⟨NN26, s_X2_copyFrom_law (d := d + 45)  hc27, ?_⟩
      cases h; rfl
    · rw [if_neg c] at h
      obtain ⟨rr28, NN29, hc30, h⟩ := f_bd h
      refine ⟨rr28, NN29, s_X7_flawAnswer (d := d + 46)  hc30, ?_⟩
      cases h; rfl
  · exact Or.inr ⟨rr13, NN14, s_X10_needText (d := d + 36)  hc15, by cases h; rfl⟩
def f_X10_town (n : Nat) (p1 : Int) (M : e_M) : Option ((Int ⊕ Nat) × e_M) := (f_t (f_X10_needText p1 600 M) fun _ NN2 => (f_b (f_X7_beginReading p1 NN2) fun _ NN4 => (f_b (f_X8_readFrom_townDraft n NN4) fun _ NN6 => (f_b (f_X7_flawed NN6) fun rr7 NN8 => (if rr7 = 0 then (f_b (f_X8_copyFrom_town NN8) fun _ NN12 => (f_b (f_X2_drop_law NN12) fun _ NN14 => (f_b (f_X0_drop_book NN14) fun _ NN16 => (f_b (f_X4_forgetRefused NN16) fun _ NN18 => (f_b (f_X5_drop 55 56 765 NN18) fun _ NN20 => (f_b (f_X3_begin_now n (e_up NN20 1 15 0)) fun _ NN22 => (some ((.inl (NN22 4 0)), NN22)))))))) else (f_b (f_X7_flawAnswer NN8) fun rr9 NN10 => (some ((.inl rr9), NN10))))))))
theorem s_X10_town {X : e_X} {d gn : Nat} {n : Nat} {p1 : Int} {M M' : e_M} {v : Int ⊕ Nat} (h : f_X10_town  n p1 M = some (v, M')) : e_E X (d + 11) YX10_town [.inr (.inr 1), .inl p1] (557, gn, e_RF, M) (f_oT gn v M') := by
  unfold f_X10_town at h
  refine wp_X10_town_0 (d := d + 10)  M p1 (f_mnT) ?_
  rcases f_td h with ⟨rr23, NN24, hc25, h⟩ | ⟨rr23, NN24, hc25, h⟩
  · refine Or.inl ⟨NN24, s_X10_needText (d := d)  hc25, ?_⟩
    obtain ⟨rr26, NN27, hc28, h⟩ := f_bd h
    refine ⟨NN27, s_X7_beginReading (d := d + 10)  hc28, ?_⟩
    obtain ⟨rr29, NN30, hc31, h⟩ := f_bd h
    refine ⟨NN30, s_X8_readFrom_townDraft (d := d + 4)  hc31, ?_⟩
    obtain ⟨rr32, NN33, hc34, h⟩ := f_bd h
    refine ⟨rr32, NN33, s_X7_flawed (d := d + 10)  hc34, ?_⟩
    refine ⟨fun c => ?_, fun c => ?_⟩
    · rw [if_pos c] at h
      obtain ⟨rr35, NN36, hc37, h⟩ := f_bd h
      refine ⟨NN36, s_X8_copyFrom_town (d := d + 9)  hc37, ?_⟩
      obtain ⟨rr38, NN39, hc40, h⟩ := f_bd h
      refine ⟨NN39, s_X2_drop_law (d := d + 10)  hc40, ?_⟩
      obtain ⟨rr41, NN42, hc43, h⟩ := f_bd h
      refine ⟨NN42, s_X0_drop_book (d := d + 10)  hc43, ?_⟩
      obtain ⟨rr44, NN45, hc46, h⟩ := f_bd h
      refine ⟨NN45, s_X4_forgetRefused (d := d + 10)  hc46, ?_⟩
      obtain ⟨rr47, NN48, hc49, h⟩ := f_bd h
      refine ⟨NN48, s_X5_drop (d := d + 10) rfl (Nat.le_of_ble_eq_true rfl) (by decide) rfl rfl (Nat.le_of_ble_eq_true rfl) (by decide) hc49, ?_⟩
      obtain ⟨rr50, NN51, hc52, h⟩ := f_bd h
      refine ⟨NN51, s_X3_begin_now (d := d + 9)  hc52, ?_⟩
      cases h; rfl
    · rw [if_neg c] at h
      obtain ⟨rr53, NN54, hc55, h⟩ := f_bd h
      refine ⟨rr53, NN54, s_X7_flawAnswer (d := d + 10)  hc55, ?_⟩
      cases h; rfl
  · exact Or.inr ⟨rr23, NN24, s_X10_needText (d := d)  hc25, by cases h; rfl⟩
def f_X10_work (n : Nat) (p1 : Int) (M : e_M) : Option ((Int ⊕ Nat) × e_M) := (f_t (f_X10_needText p1 150 M) fun _ NN2 => (f_b (f_X7_beginReading p1 NN2) fun _ NN4 => (if (NN4 55 1) < 16 then (f_b (f_X4_readFrom n NN4) fun _ NN6 => (f_b (f_X7_flawed NN6) fun rr7 NN8 => (if rr7 = 0 then (f_b (f_X5_push 55 56 765 NN8) fun _ NN12 => (f_b (f_X4_runOn n NN12) fun rr13 NN14 => (some ((.inl rr13), NN14)))) else (f_b (f_X7_flawAnswer NN8) fun rr9 NN10 => (some ((.inl rr9), NN10)))))) else (some ((.inl (-20)), NN4)))))
theorem s_X10_work {X : e_X} {d gn : Nat} {n : Nat} {p1 : Int} {M M' : e_M} {v : Int ⊕ Nat} (h : f_X10_work  n p1 M = some (v, M')) : e_E X (d + 37) YX10_work [.inr (.inr 1), .inl p1] (557, gn, e_RF, M) (f_oT gn v M') := by
  unfold f_X10_work at h
  refine wp_X10_work_0 (d := d + 36)  M p1 (f_mnT) ?_
  rcases f_td h with ⟨rr15, NN16, hc17, h⟩ | ⟨rr15, NN16, hc17, h⟩
  · refine Or.inl ⟨NN16, s_X10_needText (d := d + 26)  hc17, ?_⟩
    obtain ⟨rr18, NN19, hc20, h⟩ := f_bd h
    refine ⟨NN19, s_X7_beginReading (d := d + 36)  hc20, ?_⟩
    refine ⟨fun c => ?_, fun c => ?_⟩
    · rw [if_pos c] at h
      obtain ⟨rr21, NN22, hc23, h⟩ := f_bd h
      refine ⟨NN22, s_X4_readFrom (d := d)  hc23, ?_⟩
      obtain ⟨rr24, NN25, hc26, h⟩ := f_bd h
      refine ⟨rr24, NN25, s_X7_flawed (d := d + 36)  hc26, ?_⟩
      refine ⟨fun c => ?_, fun c => ?_⟩
      · rw [if_pos c] at h
        obtain ⟨rr27, NN28, hc29, h⟩ := f_bd h
        refine ⟨NN28, s_X5_push (d := d + 34) rfl (Nat.le_of_ble_eq_true rfl) (by decide) rfl rfl (Nat.le_of_ble_eq_true rfl) (by decide) hc29, ?_⟩
        obtain ⟨rr30, NN31, hc32, h⟩ := f_bd h
        refine ⟨rr30, NN31, s_X4_runOn (d := d + 21)  hc32, ?_⟩
        cases h; rfl
      · rw [if_neg c] at h
        obtain ⟨rr33, NN34, hc35, h⟩ := f_bd h
        refine ⟨rr33, NN34, s_X7_flawAnswer (d := d + 36)  hc35, ?_⟩
        cases h; rfl
    · rw [if_neg c] at h
      cases h; rfl
  · exact Or.inr ⟨rr15, NN16, s_X10_needText (d := d + 26)  hc17, by cases h; rfl⟩
