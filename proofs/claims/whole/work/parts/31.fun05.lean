def f_X11_wordHere_8 : Nat → Int → Int → e_M → Option (Int × e_M)
  | 0, _, _, _ => none
  | n + 1, v1, v2, M => (f_b (f_X11_byteAt (e_w ((M 64 4) + v2)) M) fun rr1 NN2 => (f_b (f_X11_isSmall rr1 NN2) fun rr3 NN4 => (if rr3 = 0 then (if v2 ≤ 6 then (some (v1, NN4)) else (some ((-1), NN4))) else (if 6 ≤ v2 then (f_X11_wordHere_8 n v1 (e_w (v2 + 1)) NN4) else (f_b (f_X11_byteAt (e_w ((NN4 64 4) + v2)) NN4) fun rr5 NN6 => (f_X11_wordHere_8 n (e_w ((e_w ((e_w ((e_w (27 * v1)) + rr5)) - 97)) + 1)) (e_w (v2 + 1)) NN6))))))
theorem s_X11_wordHere_8 {X : e_X} {d gn : Nat} : ∀ n : Nat, ∀ (v1 v2 : Int) (M M' : e_M) (v : Int), f_X11_wordHere_8  n v1 v2 M = some (v, M') → e_G X (d + 2) YX11_wordHere 8 [some (.inr (.inr 64)), some (.inl v1), some (.inl v2)] [] (557, gn, e_RF, M) (.inl (some (.inl v)), (557, gn, e_RF, M')) := by
  intro n
  induction n with
  | zero => intro v1 v2 M M' v h; cases h
  | succ n ih =>
    intro v1 v2 M M' v h
    rw [f_X11_wordHere_8] at h
    refine wp_X11_wordHere_8 (d := d + 1)  M v1 v2 (f_mn) ?_
    obtain ⟨rr7, NN8, hc9, h⟩ := f_bd h
    refine ⟨rr7, NN8, s_X11_byteAt (d := d + 1)  hc9, ?_⟩
    obtain ⟨rr10, NN11, hc12, h⟩ := f_bd h
    refine ⟨rr10, NN11, s_X11_isSmall (d := d + 1)  hc12, ?_⟩
    refine ⟨fun c => ?_, fun c => ?_⟩
    · rw [if_pos c] at h
      refine ⟨fun c => ?_, fun c => ?_⟩
      · rw [if_pos c] at h
        cases h; rfl
      · rw [if_neg c] at h
        cases h; rfl
    · rw [if_neg c] at h
      refine ⟨fun c => ?_, fun c => ?_⟩
      · rw [if_pos c] at h
        exact ih _ _ _ _ _ h
      · rw [if_neg c] at h
        obtain ⟨rr13, NN14, hc15, h⟩ := f_bd h
        refine ⟨rr13, NN14, s_X11_byteAt (d := d + 1)  hc15, ?_⟩
        exact ih _ _ _ _ _ h
def f_X11_wordHere (n : Nat) (M : e_M) : Option (Int × e_M) := (f_b (f_X11_blanks n M) fun _ NN17 => (f_X11_wordHere_8 n 0 0 NN17))
theorem s_X11_wordHere {X : e_X} {d gn : Nat} {n : Nat} {M M' : e_M} {v : Int} (h : f_X11_wordHere  n  M = some (v, M')) : e_E X (d + 2) YX11_wordHere [.inr (.inr 64)] (557, gn, e_RF, M) (.inl (some (.inl v)), (557, gn, e_RF, M')) := by
  unfold f_X11_wordHere at h
  refine wp_X11_wordHere_0 (d := d + 1)  M  (f_mn) ?_
  obtain ⟨rr18, NN19, hc20, h⟩ := f_bd h
  refine ⟨NN19, s_X11_blanks (d := d)  hc20, ?_⟩
  exact s_X11_wordHere_8  _ _ _ _ _ _ h
def f_X11_would (n : Nat) (p1 p2 p3 p4 p5 p6 p7 p8 : Int) (M : e_M) : Option (Int × e_M) := (f_b (f_X11_in p1 0 300 (e_up M 64 0 0)) fun rr1 NN2 => (if rr1 = 0 then (f_b (f_X11_bad 1 1 1 NN2) fun rr49 NN50 => (if rr49 = 0 then (f_b (f_X11_priceBy n p1 p2 p3 p4 p5 p6 p7 p8 NN50) fun rr51 NN52 => (some (rr51, NN52))) else (some (0, NN50)))) else (f_b (f_X11_in p2 0 5 NN2) fun rr3 NN4 => (if rr3 = 0 then (f_b (f_X11_bad 1 1 1 NN4) fun rr45 NN46 => (if rr45 = 0 then (f_b (f_X11_priceBy n p1 p2 p3 p4 p5 p6 p7 p8 NN46) fun rr47 NN48 => (some (rr47, NN48))) else (some (0, NN46)))) else (f_b (f_X11_in p3 0 999 NN4) fun rr5 NN6 => (if rr5 = 0 then (f_b (f_X11_bad 1 1 1 NN6) fun rr41 NN42 => (if rr41 = 0 then (f_b (f_X11_priceBy n p1 p2 p3 p4 p5 p6 p7 p8 NN42) fun rr43 NN44 => (some (rr43, NN44))) else (some (0, NN42)))) else (f_b (f_X11_in p4 0 999 NN6) fun rr7 NN8 => (if rr7 = 0 then (f_b (f_X11_bad 1 1 1 NN8) fun rr37 NN38 => (if rr37 = 0 then (f_b (f_X11_priceBy n p1 p2 p3 p4 p5 p6 p7 p8 NN38) fun rr39 NN40 => (some (rr39, NN40))) else (some (0, NN38)))) else (f_b (f_X11_in p5 0 30 NN8) fun rr9 NN10 => (if rr9 = 0 then (f_b (f_X11_bad 1 1 1 NN10) fun rr33 NN34 => (if rr33 = 0 then (f_b (f_X11_priceBy n p1 p2 p3 p4 p5 p6 p7 p8 NN34) fun rr35 NN36 => (some (rr35, NN36))) else (some (0, NN34)))) else (f_b (f_X11_in p6 0 6 NN10) fun rr11 NN12 => (if rr11 = 0 then (f_b (f_X11_bad 1 1 1 NN12) fun rr29 NN30 => (if rr29 = 0 then (f_b (f_X11_priceBy n p1 p2 p3 p4 p5 p6 p7 p8 NN30) fun rr31 NN32 => (some (rr31, NN32))) else (some (0, NN30)))) else (f_b (f_X11_in p7 0 12 NN12) fun rr13 NN14 => (if rr13 = 0 then (f_b (f_X11_bad 1 1 1 NN14) fun rr25 NN26 => (if rr25 = 0 then (f_b (f_X11_priceBy n p1 p2 p3 p4 p5 p6 p7 p8 NN26) fun rr27 NN28 => (some (rr27, NN28))) else (some (0, NN26)))) else (f_b (f_X11_in p8 0 5 NN14) fun rr15 NN16 => (if ¬ rr15 = 0 then (f_b (f_X11_bad 0 1 1 NN16) fun rr21 NN22 => (if rr21 = 0 then (f_b (f_X11_priceBy n p1 p2 p3 p4 p5 p6 p7 p8 NN22) fun rr23 NN24 => (some (rr23, NN24))) else (some (0, NN22)))) else (f_b (f_X11_bad 1 1 1 NN16) fun rr17 NN18 => (if rr17 = 0 then (f_b (f_X11_priceBy n p1 p2 p3 p4 p5 p6 p7 p8 NN18) fun rr19 NN20 => (some (rr19, NN20))) else (some (0, NN18))))))))))))))))))))
theorem s_X11_would {X : e_X} {d gn : Nat} {n : Nat} {p1 p2 p3 p4 p5 p6 p7 p8 : Int} {M M' : e_M} {v : Int} (h : f_X11_would  n p1 p2 p3 p4 p5 p6 p7 p8 M = some (v, M')) : e_E X (d + 4) YX11_would [.inr (.inr 64), .inl p1, .inl p2, .inl p3, .inl p4, .inl p5, .inl p6, .inl p7, .inl p8] (557, gn, e_RF, M) (.inl (some (.inl v)), (557, gn, e_RF, M')) := by
  unfold f_X11_would at h
  refine wp_X11_would_0 (d := d + 3)  M p1 p2 p3 p4 p5 p6 p7 p8 (f_mn) ?_
  obtain ⟨rr53, NN54, hc55, h⟩ := f_bd h
  refine ⟨rr53, NN54, s_X11_in (d := d + 3)  hc55, ?_⟩
  refine ⟨fun c => ?_, fun c => ?_⟩
  · rw [if_pos c] at h
    refine wp_X11_would_92 (d := d + 3)  _ _ _ _ _ _ _ _ _ ?_
    refine wp_X11_would_97 (d := d + 3)  _ _ _ _ _ _ _ _ _ _ (f_mn) ?_
    obtain ⟨rr56, NN57, hc58, h⟩ := f_bd h
    refine ⟨rr56, NN57, s_X11_bad (d := d + 3)  hc58, ?_⟩
    refine ⟨fun c => ?_, fun c => ?_⟩
    · rw [if_pos c] at h
      obtain ⟨rr59, NN60, hc61, h⟩ := f_bd h
      refine ⟨rr59, NN60, s_X11_priceBy (d := d)  hc61, ?_⟩
      cases h; rfl
    · rw [if_neg c] at h
      cases h; rfl
  · rw [if_neg c] at h
    obtain ⟨rr62, NN63, hc64, h⟩ := f_bd h
    refine ⟨rr62, NN63, s_X11_in (d := d + 3)  hc64, ?_⟩
    refine ⟨fun c => ?_, fun c => ?_⟩
    · rw [if_pos c] at h
      refine wp_X11_would_92 (d := d + 3)  _ _ _ _ _ _ _ _ _ ?_
      refine wp_X11_would_97 (d := d + 3)  _ _ _ _ _ _ _ _ _ _ (f_mn) ?_
      obtain ⟨rr65, NN66, hc67, h⟩ := f_bd h
      refine ⟨rr65, NN66, s_X11_bad (d := d + 3)  hc67, ?_⟩
      refine ⟨fun c => ?_, fun c => ?_⟩
      · rw [if_pos c] at h
        obtain ⟨rr68, NN69, hc70, h⟩ := f_bd h
        refine ⟨rr68, NN69, s_X11_priceBy (d := d)  hc70, ?_⟩
        cases h; rfl
      · rw [if_neg c] at h
        cases h; rfl
    · rw [if_neg c] at h
      obtain ⟨rr71, NN72, hc73, h⟩ := f_bd h
      refine ⟨rr71, NN72, s_X11_in (d := d + 3)  hc73, ?_⟩
      refine ⟨fun c => ?_, fun c => ?_⟩
      · rw [if_pos c] at h
        refine wp_X11_would_92 (d := d + 3)  _ _ _ _ _ _ _ _ _ ?_
        refine wp_X11_would_97 (d := d + 3)  _ _ _ _ _ _ _ _ _ _ (f_mn) ?_
        obtain ⟨rr74, NN75, hc76, h⟩ := f_bd h
        refine ⟨rr74, NN75, s_X11_bad (d := d + 3)  hc76, ?_⟩
        refine ⟨fun c => ?_, fun c => ?_⟩
        · rw [if_pos c] at h
          obtain ⟨rr77, NN78, hc79, h⟩ := f_bd h
          refine ⟨rr77, NN78, s_X11_priceBy (d := d)  hc79, ?_⟩
          cases h; rfl
        · rw [if_neg c] at h
          cases h; rfl
      · rw [if_neg c] at h
        obtain ⟨rr80, NN81, hc82, h⟩ := f_bd h
        refine ⟨rr80, NN81, s_X11_in (d := d + 3)  hc82, ?_⟩
        refine ⟨fun c => ?_, fun c => ?_⟩
        · rw [if_pos c] at h
          refine wp_X11_would_92 (d := d + 3)  _ _ _ _ _ _ _ _ _ ?_
          refine wp_X11_would_97 (d := d + 3)  _ _ _ _ _ _ _ _ _ _ (f_mn) ?_
          obtain ⟨rr83, NN84, hc85, h⟩ := f_bd h
          refine ⟨rr83, NN84, s_X11_bad (d := d + 3)  hc85, ?_⟩
          refine ⟨fun c => ?_, fun c => ?_⟩
          · rw [if_pos c] at h
            obtain ⟨rr86, NN87, hc88, h⟩ := f_bd h
            refine ⟨rr86, NN87, s_X11_priceBy (d := d)  hc88, ?_⟩
            cases h; rfl
          · rw [if_neg c] at h
            cases h; rfl
        · rw [if_neg c] at h
          obtain ⟨rr89, NN90, hc91, h⟩ := f_bd h
          refine ⟨rr89, NN90, s_X11_in (d := d + 3)  hc91, ?_⟩
          refine ⟨fun c => ?_, fun c => ?_⟩
          · rw [if_pos c] at h
            refine wp_X11_would_92 (d := d + 3)  _ _ _ _ _ _ _ _ _ ?_
            refine wp_X11_would_97 (d := d + 3)  _ _ _ _ _ _ _ _ _ _ (f_mn) ?_
            obtain ⟨rr92, NN93, hc94, h⟩ := f_bd h
            refine ⟨rr92, NN93, s_X11_bad (d := d + 3)  hc94, ?_⟩
            refine ⟨fun c => ?_, fun c => ?_⟩
            · rw [if_pos c] at h
              obtain ⟨rr95, NN96, hc97, h⟩ := f_bd h
              refine ⟨rr95, NN96, s_X11_priceBy (d := d)  hc97, ?_⟩
              cases h; rfl
            · rw [if_neg c] at h
              cases h; rfl
          · rw [if_neg c] at h
            obtain ⟨rr98, NN99, hc100, h⟩ := f_bd h
            refine ⟨rr98, NN99, s_X11_in (d := d + 3)  hc100, ?_⟩
            refine ⟨fun c => ?_, fun c => ?_⟩
            · rw [if_pos c] at h
              refine wp_X11_would_92 (d := d + 3)  _ _ _ _ _ _ _ _ _ ?_
              refine wp_X11_would_97 (d := d + 3)  _ _ _ _ _ _ _ _ _ _ (f_mn) ?_
              obtain ⟨rr101, NN102, hc103, h⟩ := f_bd h
              refine ⟨rr101, NN102, s_X11_bad (d := d + 3)  hc103, ?_⟩
              refine ⟨fun c => ?_, fun c => ?_⟩
              · rw [if_pos c] at h
                obtain ⟨rr104, NN105, hc106, h⟩ := f_bd h
                refine ⟨rr104, NN105, s_X11_priceBy (d := d)  hc106, ?_⟩
                cases h; rfl
              · rw [if_neg c] at h
                cases h; rfl
            · rw [if_neg c] at h
              obtain ⟨rr107, NN108, hc109, h⟩ := f_bd h
              refine ⟨rr107, NN108, s_X11_in (d := d + 3)  hc109, ?_⟩
              refine ⟨fun c => ?_, fun c => ?_⟩
              · rw [if_pos c] at h
                refine wp_X11_would_92 (d := d + 3)  _ _ _ _ _ _ _ _ _ ?_
                refine wp_X11_would_97 (d := d + 3)  _ _ _ _ _ _ _ _ _ _ (f_mn) ?_
                obtain ⟨rr110, NN111, hc112, h⟩ := f_bd h
                refine ⟨rr110, NN111, s_X11_bad (d := d + 3)  hc112, ?_⟩
                refine ⟨fun c => ?_, fun c => ?_⟩
                · rw [if_pos c] at h
                  obtain ⟨rr113, NN114, hc115, h⟩ := f_bd h
                  refine ⟨rr113, NN114, s_X11_priceBy (d := d)  hc115, ?_⟩
                  cases h; rfl
                · rw [if_neg c] at h
                  cases h; rfl
              · rw [if_neg c] at h
                obtain ⟨rr116, NN117, hc118, h⟩ := f_bd h
                refine ⟨rr116, NN117, s_X11_in (d := d + 3)  hc118, ?_⟩
                refine ⟨fun c => ?_, fun c => ?_⟩
                · rw [if_pos c] at h
                  refine wp_X11_would_97 (d := d + 3)  _ _ _ _ _ _ _ _ _ _ (f_mn) ?_
                  obtain ⟨rr119, NN120, hc121, h⟩ := f_bd h
                  refine ⟨rr119, NN120, s_X11_bad (d := d + 3)  hc121, ?_⟩
                  refine ⟨fun c => ?_, fun c => ?_⟩
                  · rw [if_pos c] at h
                    obtain ⟨rr122, NN123, hc124, h⟩ := f_bd h
                    refine ⟨rr122, NN123, s_X11_priceBy (d := d)  hc124, ?_⟩
                    cases h; rfl
                  · rw [if_neg c] at h
                    cases h; rfl
                · rw [if_neg (not_not_intro c)] at h
                  refine wp_X11_would_92 (d := d + 3)  _ _ _ _ _ _ _ _ _ ?_
                  refine wp_X11_would_97 (d := d + 3)  _ _ _ _ _ _ _ _ _ _ (f_mn) ?_
                  obtain ⟨rr125, NN126, hc127, h⟩ := f_bd h
                  refine ⟨rr125, NN126, s_X11_bad (d := d + 3)  hc127, ?_⟩
                  refine ⟨fun c => ?_, fun c => ?_⟩
                  · rw [if_pos c] at h
                    obtain ⟨rr128, NN129, hc130, h⟩ := f_bd h
                    refine ⟨rr128, NN129, s_X11_priceBy (d := d)  hc130, ?_⟩
                    cases h; rfl
                  · rw [if_neg c] at h
                    cases h; rfl
def f_X1_fillBest_L52 : Nat → Nat → Int → Int → Int → Int → Int → e_M → Option (Int × e_M)
  | 0, _, _, _, _, _, _, _ => none
  | n + 1, k, v1, v2, v3, v4, v5, M => (if k = 0 then (if v2 < 0 then (some (0, M)) else (f_X1_fillBest_L52 n 1 v1 v2 0 0 0 M)) else (if k = 1 then (if v1 < v3 then (f_X1_fillBest_L52 n 0 v1 (e_w (v2 + (-1))) 0 0 0 M) else (if (0 ≤ (e_w ((e_w ((e_w (v2 + 1)) * 64)) + v3)) ∧ (e_w ((e_w ((e_w (v2 + 1)) * 64)) + v3)) < 448) then (f_X1_fillBest_L52 n 2 v1 v2 v3 (M 51 (e_w ((e_w ((e_w (v2 + 1)) * 64)) + v3)).toNat) 0 M) else none)) else (if (M 4 0) ≤ v5 then (if (0 ≤ (e_w ((e_w (v2 * 64)) + v3)) ∧ (e_w ((e_w (v2 * 64)) + v3)) < 448) then (f_X1_fillBest_L52 n 1 v1 v2 (e_w (v3 + 1)) 0 0 (e_up M 51 (e_w ((e_w (v2 * 64)) + v3)).toNat v4)) else none) else (f_b (f_X1_worthBy v2 v5 v3 M) fun rr1 NN2 => (f_X1_fillBest_L52 n 2 v1 v2 v3 (max v4 rr1) (e_w (v5 + 1)) NN2)))))
theorem s_X1_fillBest_L52 {X : e_X} {d gn : Nat} : ∀ n : Nat, (∀ (v1 v2 : Int) (M M' : e_M) (v : Int), f_X1_fillBest_L52  n 0 v1 v2 0 0 0 M = some (v, M') → e_G X (d + 1) YX1_fillBest 52 [some (.inr (.inr 50)), some (.inl v1), some (.inl v2), none, none, none] [] (557, gn, e_RF, M) (.inl none, (557, gn, e_RF, M'))) ∧ (∀ (v1 v2 v3 : Int) (M M' : e_M) (v : Int), f_X1_fillBest_L52  n 1 v1 v2 v3 0 0 M = some (v, M') → e_G X (d + 1) YX1_fillBest 58 [some (.inr (.inr 50)), some (.inl v1), some (.inl v2), some (.inl v3), none, none] [] (557, gn, e_RF, M) (.inl none, (557, gn, e_RF, M'))) ∧ (∀ (v1 v2 v3 v4 v5 : Int) (M M' : e_M) (v : Int), f_X1_fillBest_L52  n 2 v1 v2 v3 v4 v5 M = some (v, M') → e_G X (d + 1) YX1_fillBest 81 [some (.inr (.inr 50)), some (.inl v1), some (.inl v2), some (.inl v3), some (.inl v4), some (.inl v5)] [] (557, gn, e_RF, M) (.inl none, (557, gn, e_RF, M'))) := by
  intro n
  induction n with
  | zero => exact ⟨(by intro v1 v2 M M' v h; cases h), (by intro v1 v2 v3 M M' v h; cases h), (by intro v1 v2 v3 v4 v5 M M' v h; cases h)⟩
  | succ n ih =>
    refine ⟨?_, ?_, ?_⟩
    · intro v1 v2 M M' v h
      rw [f_X1_fillBest_L52, if_pos rfl] at h
      refine wp_X1_fillBest_52 (d := d)  M v1 v2 ?_
      refine ⟨fun c => ?_, fun c => ?_⟩
      · rw [if_pos c] at h
        cases h; rfl
      · rw [if_neg c] at h
        exact ih.2.1 _ _ _ _ _ _ h
    · intro v1 v2 v3 M M' v h
      rw [f_X1_fillBest_L52, if_neg (by decide), if_pos rfl] at h
      refine wp_X1_fillBest_58 (d := d)  M v1 v2 v3 ?_
      refine ⟨fun c => ?_, fun c => ?_⟩
      · rw [if_pos c] at h
        exact ih.1 _ _ _ _ _ h
      · rw [if_neg c] at h
        obtain ⟨c3, h⟩ := f_gd h
        refine ⟨c3, ?_⟩
        exact ih.2.2 _ _ _ _ _ _ _ _ h
    · intro v1 v2 v3 v4 v5 M M' v h
      rw [f_X1_fillBest_L52, if_neg (by decide), if_neg (by decide)] at h
      refine wp_X1_fillBest_81 (d := d)  M v1 v2 v3 v4 v5 (f_mn) ?_
      refine ⟨fun c => ?_, fun c => ?_⟩
      · rw [if_pos c] at h
        obtain ⟨c4, h⟩ := f_gd h
        refine ⟨c4, ?_⟩
        exact ih.2.1 _ _ _ _ _ _ h
      · rw [if_neg c] at h
        obtain ⟨rr5, NN6, hc7, h⟩ := f_bd h
        refine ⟨rr5, NN6, s_X1_worthBy (d := d)  hc7, ?_⟩
        exact ih.2.2 _ _ _ _ _ _ _ _ h
theorem s_X1_fillBest_52 {X : e_X} {d gn : Nat} (n : Nat) : (∀ (v1 v2 : Int) (M M' : e_M) (v : Int), f_X1_fillBest_L52  n 0 v1 v2 0 0 0 M = some (v, M') → e_G X (d + 1) YX1_fillBest 52 [some (.inr (.inr 50)), some (.inl v1), some (.inl v2), none, none, none] [] (557, gn, e_RF, M) (.inl none, (557, gn, e_RF, M'))) := (s_X1_fillBest_L52  n).1
theorem s_X1_fillBest_58 {X : e_X} {d gn : Nat} (n : Nat) : (∀ (v1 v2 v3 : Int) (M M' : e_M) (v : Int), f_X1_fillBest_L52  n 1 v1 v2 v3 0 0 M = some (v, M') → e_G X (d + 1) YX1_fillBest 58 [some (.inr (.inr 50)), some (.inl v1), some (.inl v2), some (.inl v3), none, none] [] (557, gn, e_RF, M) (.inl none, (557, gn, e_RF, M'))) := (s_X1_fillBest_L52  n).2.1
theorem s_X1_fillBest_81 {X : e_X} {d gn : Nat} (n : Nat) : (∀ (v1 v2 v3 v4 v5 : Int) (M M' : e_M) (v : Int), f_X1_fillBest_L52  n 2 v1 v2 v3 v4 v5 M = some (v, M') → e_G X (d + 1) YX1_fillBest 81 [some (.inr (.inr 50)), some (.inl v1), some (.inl v2), some (.inl v3), some (.inl v4), some (.inl v5)] [] (557, gn, e_RF, M) (.inl none, (557, gn, e_RF, M'))) := (s_X1_fillBest_L52  n).2.2
def f_X1_fillBest_13 : Nat → Int → Int → e_M → Option (Int × e_M)
  | 0, _, _, _ => none
  | n + 1, v1, v2, M => (if v1 < v2 then (f_X1_fillBest_L52 n 0 v1 (e_w ((M 4 1) - 1)) 0 0 0 M) else (if (0 ≤ (e_w ((e_w ((M 4 1) * 64)) + v2)) ∧ (e_w ((e_w ((M 4 1) * 64)) + v2)) < 448) then (f_X1_fillBest_13 n v1 (e_w (v2 + 1)) (e_up M 51 (e_w ((e_w ((M 4 1) * 64)) + v2)).toNat 0)) else none))
theorem s_X1_fillBest_13 {X : e_X} {d gn : Nat} : ∀ n : Nat, ∀ (v1 v2 : Int) (M M' : e_M) (v : Int), f_X1_fillBest_13  n v1 v2 M = some (v, M') → e_G X (d + 1) YX1_fillBest 13 [some (.inr (.inr 50)), some (.inl v1), some (.inl v2), none, none, none] [] (557, gn, e_RF, M) (.inl none, (557, gn, e_RF, M')) := by
  intro n
  induction n with
  | zero => intro v1 v2 M M' v h; cases h
  | succ n ih =>
    intro v1 v2 M M' v h
    rw [f_X1_fillBest_13] at h
    refine wp_X1_fillBest_13 (d := d)  M v1 v2 ?_
    refine ⟨fun c => ?_, fun c => ?_⟩
    · rw [if_pos c] at h
      exact s_X1_fillBest_52  _ _ _ _ _ _ h
    · rw [if_neg c] at h
      obtain ⟨c8, h⟩ := f_gd h
      refine ⟨c8, ?_⟩
      exact ih _ _ _ _ _ h
def f_X1_fillBest (n : Nat) (M : e_M) : Option (Int × e_M) := (f_b (f_X10_bitsBelow (M 4 0) M) fun rr9 NN10 => (f_X1_fillBest_13 n rr9 0 NN10))
theorem s_X1_fillBest {X : e_X} {d gn : Nat} {n : Nat} {M M' : e_M} {v : Int} (h : f_X1_fillBest  n  M = some (v, M')) : e_E X (d + 1) YX1_fillBest [.inr (.inr 50)] (557, gn, e_RF, M) (.inl none, (557, gn, e_RF, M')) := by
  unfold f_X1_fillBest at h
  refine wp_X1_fillBest_0 (d := d)  M  (f_mn) ?_
  obtain ⟨rr11, NN12, hc13, h⟩ := f_bd h
  refine ⟨rr11, NN12, s_X10_bitsBelow (d := d)  hc13, ?_⟩
  exact s_X1_fillBest_13  _ _ _ _ _ _ h
def f_X1_firstGiver_2 : Nat → Int → Int → Int → e_M → Option (Int × e_M)
  | 0, _, _, _, _ => none
  | n + 1, p1, p2, v3, M => (if (M 4 0) ≤ v3 then (some ((-1), M)) else (f_b (f_X1_worthBy p1 v3 p2 M) fun rr1 NN2 => (if (0 ≤ (e_w ((e_w (p1 * 64)) + p2)) ∧ (e_w ((e_w (p1 * 64)) + p2)) < 448) then (if ¬ rr1 = (NN2 51 (e_w ((e_w (p1 * 64)) + p2)).toNat) then (f_X1_firstGiver_2 n p1 p2 (e_w (v3 + 1)) NN2) else (some (v3, NN2))) else none)))
theorem s_X1_firstGiver_2 {X : e_X} {d gn : Nat} : ∀ n : Nat, ∀ (p1 p2 v3 : Int) (M M' : e_M) (v : Int), f_X1_firstGiver_2  n p1 p2 v3 M = some (v, M') → e_G X (d + 1) YX1_firstGiver 2 [some (.inr (.inr 50)), some (.inl p1), some (.inl p2), some (.inl v3)] [] (557, gn, e_RF, M) (.inl (some (.inl v)), (557, gn, e_RF, M')) := by
  intro n
  induction n with
  | zero => intro p1 p2 v3 M M' v h; cases h
  | succ n ih =>
    intro p1 p2 v3 M M' v h
    rw [f_X1_firstGiver_2] at h
    refine wp_X1_firstGiver_2 (d := d)  M p1 p2 v3 (f_mn) ?_
    refine ⟨fun c => ?_, fun c => ?_⟩
    · rw [if_pos c] at h
      cases h; rfl
    · rw [if_neg c] at h
      obtain ⟨rr3, NN4, hc5, h⟩ := f_bd h
      refine ⟨rr3, NN4, s_X1_worthBy (d := d)  hc5, ?_⟩
      obtain ⟨c6, h⟩ := f_gd h
      refine ⟨c6, ?_⟩
      refine ⟨fun c => ?_, fun c => ?_⟩
      · rw [if_pos c] at h
        exact ih _ _ _ _ _ _ h
      · rw [if_neg (not_not_intro c)] at h
        cases h; rfl
def f_X1_firstGiver (n : Nat) (p1 p2 : Int) (M : e_M) : Option (Int × e_M) := (f_X1_firstGiver_2 n p1 p2 0 M)
theorem s_X1_firstGiver {X : e_X} {d gn : Nat} {n : Nat} {p1 p2 : Int} {M M' : e_M} {v : Int} (h : f_X1_firstGiver  n p1 p2 M = some (v, M')) : e_E X (d + 1) YX1_firstGiver [.inr (.inr 50), .inl p1, .inl p2] (557, gn, e_RF, M) (.inl (some (.inl v)), (557, gn, e_RF, M')) := by
  unfold f_X1_firstGiver at h
  refine wp_X1_firstGiver_0 (d := d)  M p1 p2 ?_
  exact s_X1_firstGiver_2  _ _ _ _ _ _ _ h
def f_X1_giveTo_8 : Nat → Int → Int → Int → e_M → Option (Int × e_M)
  | 0, _, _, _, _ => none
  | n + 1, p1, v2, v3, M => (if (M 4 1) ≤ v3 then (if (0 ≤ p1 ∧ p1 < 448) then (some ((M 51 p1.toNat), M)) else none) else (f_b (f_X1_firstGiver n v3 v2 M) fun rr1 NN2 => (if (0 ≤ v3 ∧ v3 < 6) then (if (0 ≤ v3 ∧ v3 < 6) then (if ((e_up NN2 52 v3.toNat rr1) 52 v3.toNat) = (-1) then (f_X1_giveTo_8 n p1 v2 (e_w (v3 + 1)) (e_up NN2 52 v3.toNat rr1)) else (if (0 ≤ v3 ∧ v3 < 6) then (f_X1_giveTo_8 n p1 (e_and v2 (e_xor (e_shl 1 ((e_up NN2 52 v3.toNat rr1) 52 v3.toNat)) (-1))) (e_w (v3 + 1)) (e_up NN2 52 v3.toNat rr1)) else none)) else none) else none)))
theorem s_X1_giveTo_8 {X : e_X} {d gn : Nat} : ∀ n : Nat, ∀ (p1 v2 v3 : Int) (M M' : e_M) (v : Int), f_X1_giveTo_8  n p1 v2 v3 M = some (v, M') → e_G X (d + 2) YX1_giveTo 8 [some (.inr (.inr 50)), some (.inl p1), some (.inl v2), some (.inl v3)] [] (557, gn, e_RF, M) (.inl (some (.inl v)), (557, gn, e_RF, M')) := by
  intro n
  induction n with
  | zero => intro p1 v2 v3 M M' v h; cases h
  | succ n ih =>
    intro p1 v2 v3 M M' v h
    rw [f_X1_giveTo_8] at h
    refine wp_X1_giveTo_8 (d := d + 1)  M p1 v2 v3 (f_mn) ?_
    refine ⟨fun c => ?_, fun c => ?_⟩
    · rw [if_pos c] at h
      obtain ⟨c3, h⟩ := f_gd h
      exact ⟨c3, by cases h; rfl⟩
    · rw [if_neg c] at h
      obtain ⟨rr4, NN5, hc6, h⟩ := f_bd h
      refine ⟨rr4, NN5, s_X1_firstGiver (d := d)  hc6, ?_⟩
      obtain ⟨c7, h⟩ := f_gd h
      refine ⟨c7, ?_⟩
      obtain ⟨c8, h⟩ := f_gd h
      refine ⟨c8, ?_⟩
      refine ⟨fun c => ?_, fun c => ?_⟩
      · rw [if_pos c] at h
        exact ih _ _ _ _ _ _ h
      · rw [if_neg c] at h
        obtain ⟨c9, h⟩ := f_gd h
        refine ⟨c9, ?_⟩
        exact ih _ _ _ _ _ _ h
def f_X1_giveTo (n : Nat) (p1 : Int) (M : e_M) : Option (Int × e_M) := (f_b (f_X1_fillBest n M) fun _ NN11 => (f_X1_giveTo_8 n p1 p1 0 NN11))
theorem s_X1_giveTo {X : e_X} {d gn : Nat} {n : Nat} {p1 : Int} {M M' : e_M} {v : Int} (h : f_X1_giveTo  n p1 M = some (v, M')) : e_E X (d + 2) YX1_giveTo [.inr (.inr 50), .inl p1] (557, gn, e_RF, M) (.inl (some (.inl v)), (557, gn, e_RF, M')) := by
  unfold f_X1_giveTo at h
  refine wp_X1_giveTo_0 (d := d + 1)  M p1 (f_mn) ?_
  obtain ⟨rr12, NN13, hc14, h⟩ := f_bd h
  refine ⟨NN13, s_X1_fillBest (d := d)  hc14, ?_⟩
  exact s_X1_giveTo_8  _ _ _ _ _ _ _ h
def f_X2_priceOfSeen_law_22 : Nat → Int → Int → Int → e_M → Option (Int × e_M)
  | 0, _, _, _, _ => none
  | n + 1, v1, v2, v3, M => (if (M 20 1) ≤ v3 then (if v2 ≤ 0 then (some ((max 0 (min 99 v1)), M)) else (some ((max 0 (min 99 (M 22 0))), M))) else (if (0 ≤ v3 ∧ v3 < 150) then (if (M 21 v3.toNat) < 2000 then (if 150 ≤ v2 then (f_X2_priceOfSeen_law_22 n v1 v2 (e_w (v3 + 1)) M) else (f_b (f_X2_valueOf_law (M 21 v3.toNat) M) fun rr3 NN4 => (if (0 ≤ v2 ∧ v2 < 150) then (f_X2_priceOfSeen_law_22 n v1 (e_w (v2 + 1)) (e_w (v3 + 1)) (e_up NN4 22 v2.toNat rr3)) else none))) else (if v2 < 2 then (f_X2_priceOfSeen_law_22 n v1 v2 (e_w (v3 + 1)) M) else (if (0 ≤ (e_w ((e_w (v2 + (-1))) - 1)) ∧ (e_w ((e_w (v2 + (-1))) - 1)) < 150) then (if (0 ≤ (e_w (v2 + (-1))) ∧ (e_w (v2 + (-1))) < 150) then (f_b (f_X2_combined (M 21 v3.toNat) (M 22 (e_w ((e_w (v2 + (-1))) - 1)).toNat) (M 22 (e_w (v2 + (-1))).toNat) M) fun rr1 NN2 => (if (0 ≤ (e_w ((e_w (v2 + (-1))) - 1)) ∧ (e_w ((e_w (v2 + (-1))) - 1)) < 150) then (f_X2_priceOfSeen_law_22 n v1 (e_w (v2 + (-1))) (e_w (v3 + 1)) (e_up NN2 22 (e_w ((e_w (v2 + (-1))) - 1)).toNat rr1)) else none)) else none) else none))) else none))
theorem s_X2_priceOfSeen_law_22 {X : e_X} {d gn : Nat} : ∀ n : Nat, ∀ (v1 v2 v3 : Int) (M M' : e_M) (v : Int), f_X2_priceOfSeen_law_22  n v1 v2 v3 M = some (v, M') → e_G X (d + 1) YX2_priceOfSeen 22 [some (.inr (.inr 20)), some (.inl v1), some (.inl v2), some (.inl v3), none] [] (557, gn, e_RF, M) (.inl (some (.inl v)), (557, gn, e_RF, M')) := by
  intro n
  induction n with
  | zero => intro v1 v2 v3 M M' v h; cases h
  | succ n ih =>
    intro v1 v2 v3 M M' v h
    rw [f_X2_priceOfSeen_law_22] at h
    refine wp_X2_priceOfSeen_law_22 (d := d)  M v1 v2 v3 (f_mn) ?_
    refine ⟨fun c => ?_, fun c => ?_⟩
    · rw [if_pos c] at h
      refine ⟨fun c => ?_, fun c => ?_⟩
      · rw [if_pos c] at h
        refine wp_X2_priceOfSeen_law_123 (d := d)  _ _ _ _ ?_
        cases h; rfl
      · rw [if_neg c] at h
        refine wp_X2_priceOfSeen_law_123 (d := d)  _ _ _ _ ?_
        cases h; rfl
    · rw [if_neg c] at h
      obtain ⟨c5, h⟩ := f_gd h
      refine ⟨c5, ?_⟩
      refine ⟨fun c => ?_, fun c => ?_⟩
      · rw [if_pos c] at h
        refine ⟨fun c => ?_, fun c => ?_⟩
        · rw [if_pos c] at h
          exact ih _ _ _ _ _ _ h
        · rw [if_neg c] at h
          obtain ⟨rr6, NN7, hc8, h⟩ := f_bd h
          refine ⟨rr6, NN7, s_X2_valueOf_law (d := d)  hc8, ?_⟩
          obtain ⟨c9, h⟩ := f_gd h
          refine ⟨c9, ?_⟩
          exact ih _ _ _ _ _ _ h
      · rw [if_neg c] at h
        refine ⟨fun c => ?_, fun c => ?_⟩
        · rw [if_pos c] at h
          exact ih _ _ _ _ _ _ h
        · rw [if_neg c] at h
          obtain ⟨c10, h⟩ := f_gd h
          refine ⟨c10, ?_⟩
          obtain ⟨c11, h⟩ := f_gd h
          refine ⟨c11, ?_⟩
          obtain ⟨rr12, NN13, hc14, h⟩ := f_bd h
          refine ⟨rr12, NN13, s_X2_combined (d := d)  hc14, ?_⟩
          obtain ⟨c15, h⟩ := f_gd h
          refine ⟨c15, ?_⟩
          exact ih _ _ _ _ _ _ h
def f_X2_priceOfSeen_law (n : Nat) (M : e_M) : Option (Int × e_M) := (f_X2_priceOfSeen_law_22 n (e_w ((e_w (5 + (e_w ((M 23 1) * 3)))) + (M 23 2))) 0 0 M)
theorem s_X2_priceOfSeen_law {X : e_X} {d gn : Nat} {n : Nat} {M M' : e_M} {v : Int} (h : f_X2_priceOfSeen_law  n  M = some (v, M')) : e_E X (d + 1) YX2_priceOfSeen [.inr (.inr 20)] (557, gn, e_RF, M) (.inl (some (.inl v)), (557, gn, e_RF, M')) := by
  unfold f_X2_priceOfSeen_law at h
  refine wp_X2_priceOfSeen_law_0 (d := d)  M  ?_
  exact s_X2_priceOfSeen_law_22  _ _ _ _ _ _ _ h
def f_X2_priceOfSeen_lawDraft_22 : Nat → Int → Int → Int → e_M → Option (Int × e_M)
  | 0, _, _, _, _ => none
  | n + 1, v1, v2, v3, M => (if (M 24 1) ≤ v3 then (if v2 ≤ 0 then (some ((max 0 (min 99 v1)), M)) else (some ((max 0 (min 99 (M 26 0))), M))) else (if (0 ≤ v3 ∧ v3 < 150) then (if (M 25 v3.toNat) < 2000 then (if 150 ≤ v2 then (f_X2_priceOfSeen_lawDraft_22 n v1 v2 (e_w (v3 + 1)) M) else (f_b (f_X2_valueOf_lawDraft (M 25 v3.toNat) M) fun rr3 NN4 => (if (0 ≤ v2 ∧ v2 < 150) then (f_X2_priceOfSeen_lawDraft_22 n v1 (e_w (v2 + 1)) (e_w (v3 + 1)) (e_up NN4 26 v2.toNat rr3)) else none))) else (if v2 < 2 then (f_X2_priceOfSeen_lawDraft_22 n v1 v2 (e_w (v3 + 1)) M) else (if (0 ≤ (e_w ((e_w (v2 + (-1))) - 1)) ∧ (e_w ((e_w (v2 + (-1))) - 1)) < 150) then (if (0 ≤ (e_w (v2 + (-1))) ∧ (e_w (v2 + (-1))) < 150) then (f_b (f_X2_combined (M 25 v3.toNat) (M 26 (e_w ((e_w (v2 + (-1))) - 1)).toNat) (M 26 (e_w (v2 + (-1))).toNat) M) fun rr1 NN2 => (if (0 ≤ (e_w ((e_w (v2 + (-1))) - 1)) ∧ (e_w ((e_w (v2 + (-1))) - 1)) < 150) then (f_X2_priceOfSeen_lawDraft_22 n v1 (e_w (v2 + (-1))) (e_w (v3 + 1)) (e_up NN2 26 (e_w ((e_w (v2 + (-1))) - 1)).toNat rr1)) else none)) else none) else none))) else none))
theorem s_X2_priceOfSeen_lawDraft_22 {X : e_X} {d gn : Nat} : ∀ n : Nat, ∀ (v1 v2 v3 : Int) (M M' : e_M) (v : Int), f_X2_priceOfSeen_lawDraft_22  n v1 v2 v3 M = some (v, M') → e_G X (d + 1) YX2_priceOfSeen 22 [some (.inr (.inr 24)), some (.inl v1), some (.inl v2), some (.inl v3), none] [] (557, gn, e_RF, M) (.inl (some (.inl v)), (557, gn, e_RF, M')) := by
  intro n
  induction n with
  | zero => intro v1 v2 v3 M M' v h; cases h
  | succ n ih =>
    intro v1 v2 v3 M M' v h
    rw [f_X2_priceOfSeen_lawDraft_22] at h
    refine wp_X2_priceOfSeen_lawDraft_22 (d := d)  M v1 v2 v3 (f_mn) ?_
    refine ⟨fun c => ?_, fun c => ?_⟩
    · rw [if_pos c] at h
      refine ⟨fun c => ?_, fun c => ?_⟩
      · rw [if_pos c] at h
        refine wp_X2_priceOfSeen_lawDraft_123 (d := d)  _ _ _ _ ?_
        cases h; rfl
      · rw [if_neg c] at h
        refine wp_X2_priceOfSeen_lawDraft_123 (d := d)  _ _ _ _ ?_
        cases h; rfl
    · rw [if_neg c] at h
      obtain ⟨c5, h⟩ := f_gd h
      refine ⟨c5, ?_⟩
      refine ⟨fun c => ?_, fun c => ?_⟩
      · rw [if_pos c] at h
        refine ⟨fun c => ?_, fun c => ?_⟩
        · rw [if_pos c] at h
          exact ih _ _ _ _ _ _ h
        · rw [if_neg c] at h
          obtain ⟨rr6, NN7, hc8, h⟩ := f_bd h
          refine ⟨rr6, NN7, s_X2_valueOf_lawDraft (d := d)  hc8, ?_⟩
          obtain ⟨c9, h⟩ := f_gd h
          refine ⟨c9, ?_⟩
          exact ih _ _ _ _ _ _ h
      · rw [if_neg c] at h
        refine ⟨fun c => ?_, fun c => ?_⟩
        · rw [if_pos c] at h
          exact ih _ _ _ _ _ _ h
        · rw [if_neg c] at h
          obtain ⟨c10, h⟩ := f_gd h
          refine ⟨c10, ?_⟩
          obtain ⟨c11, h⟩ := f_gd h
          refine ⟨c11, ?_⟩
          obtain ⟨rr12, NN13, hc14, h⟩ := f_bd h
          refine ⟨rr12, NN13, s_X2_combined (d := d)  hc14, ?_⟩
          obtain ⟨c15, h⟩ := f_gd h
          refine ⟨c15, ?_⟩
          exact ih _ _ _ _ _ _ h
def f_X2_priceOfSeen_lawDraft (n : Nat) (M : e_M) : Option (Int × e_M) := (f_X2_priceOfSeen_lawDraft_22 n (e_w ((e_w (5 + (e_w ((M 27 1) * 3)))) + (M 27 2))) 0 0 M)
theorem s_X2_priceOfSeen_lawDraft {X : e_X} {d gn : Nat} {n : Nat} {M M' : e_M} {v : Int} (h : f_X2_priceOfSeen_lawDraft  n  M = some (v, M')) : e_E X (d + 1) YX2_priceOfSeen [.inr (.inr 24)] (557, gn, e_RF, M) (.inl (some (.inl v)), (557, gn, e_RF, M')) := by
  unfold f_X2_priceOfSeen_lawDraft at h
  refine wp_X2_priceOfSeen_lawDraft_0 (d := d)  M  ?_
  exact s_X2_priceOfSeen_lawDraft_22  _ _ _ _ _ _ _ h
def f_X3_busyBits_now_5 : Nat → Int → Int → Int → Int → e_M → Option (Int × e_M)
  | 0, _, _, _, _, _ => none
  | n + 1, p1, p2, v3, v4, M => (if (M 4 2) ≤ v4 then (some (v3, M)) else (if (0 ≤ v4 ∧ v4 < 12) then (if (0 ≤ v4 ∧ v4 < 12) then (if ¬ (M 9 v4.toNat) = p1 then (f_X3_busyBits_now_5 n p1 p2 v3 (e_w (v4 + 1)) M) else (f_b (f_X3_isDone_now v4 M) fun rr1 NN2 => (if ¬ rr1 = 0 then (f_X3_busyBits_now_5 n p1 p2 v3 (e_w (v4 + 1)) NN2) else (if (e_w ((M 42 v4.toNat) - (M 36 2))) < 0 then (f_X3_busyBits_now_5 n p1 p2 v3 (e_w (v4 + 1)) NN2) else (if p2 ≤ (e_w ((M 42 v4.toNat) - (M 36 2))) then (f_X3_busyBits_now_5 n p1 p2 v3 (e_w (v4 + 1)) NN2) else (f_X3_busyBits_now_5 n p1 p2 (e_or v3 (e_shl 1 (e_w ((M 42 v4.toNat) - (M 36 2))))) (e_w (v4 + 1)) NN2)))))) else none) else none))
theorem s_X3_busyBits_now_5 {X : e_X} {d gn : Nat} : ∀ n : Nat, ∀ (p1 p2 v3 v4 : Int) (M M' : e_M) (v : Int), f_X3_busyBits_now_5  n p1 p2 v3 v4 M = some (v, M') → e_G X (d + 1) YX3_busyBits 5 [some (.inr (.inr 36)), some (.inl p1), some (.inl p2), some (.inl v3), some (.inl v4), none] [] (557, gn, e_RF, M) (.inl (some (.inl v)), (557, gn, e_RF, M')) := by
  intro n
  induction n with
  | zero => intro p1 p2 v3 v4 M M' v h; cases h
  | succ n ih =>
    intro p1 p2 v3 v4 M M' v h
    rw [f_X3_busyBits_now_5] at h
    refine wp_X3_busyBits_now_5 (d := d)  M p1 p2 v3 v4 (f_mn) ?_
    refine ⟨fun c => ?_, fun c => ?_⟩
    · rw [if_pos c] at h
      cases h; rfl
    · rw [if_neg c] at h
      obtain ⟨c3, h⟩ := f_gd h
      refine ⟨c3, ?_⟩
      obtain ⟨c4, h⟩ := f_gd h
      refine ⟨c4, ?_⟩
      refine ⟨fun c => ?_, fun c => ?_⟩
      · rw [if_pos c] at h
        exact ih _ _ _ _ _ _ _ h
      · rw [if_neg (not_not_intro c)] at h
        obtain ⟨rr5, NN6, hc7, h⟩ := f_bd h
        refine ⟨rr5, NN6, s_X3_isDone_now (d := d)  hc7, ?_⟩
        refine ⟨fun c => ?_, fun c => ?_⟩
        · rw [if_pos c] at h
          exact ih _ _ _ _ _ _ _ h
        · rw [if_neg (not_not_intro c)] at h
          refine ⟨fun c => ?_, fun c => ?_⟩
          · rw [if_pos c] at h
            exact ih _ _ _ _ _ _ _ h
          · rw [if_neg c] at h
            refine ⟨fun c => ?_, fun c => ?_⟩
            · rw [if_pos c] at h
              exact ih _ _ _ _ _ _ _ h
            · rw [if_neg c] at h
              exact ih _ _ _ _ _ _ _ h
def f_X3_busyBits_now (n : Nat) (p1 p2 : Int) (M : e_M) : Option (Int × e_M) := (f_X3_busyBits_now_5 n p1 p2 0 0 M)
theorem s_X3_busyBits_now {X : e_X} {d gn : Nat} {n : Nat} {p1 p2 : Int} {M M' : e_M} {v : Int} (h : f_X3_busyBits_now  n p1 p2 M = some (v, M')) : e_E X (d + 1) YX3_busyBits [.inr (.inr 36), .inl p1, .inl p2] (557, gn, e_RF, M) (.inl (some (.inl v)), (557, gn, e_RF, M')) := by
  unfold f_X3_busyBits_now at h
  refine wp_X3_busyBits_now_0 (d := d)  M p1 p2 ?_
  exact s_X3_busyBits_now_5  _ _ _ _ _ _ _ _ h
def f_X3_busyBits_trial_5 : Nat → Int → Int → Int → Int → e_M → Option (Int × e_M)
  | 0, _, _, _, _, _ => none
  | n + 1, p1, p2, v3, v4, M => (if (M 4 2) ≤ v4 then (some (v3, M)) else (if (0 ≤ v4 ∧ v4 < 12) then (if (0 ≤ v4 ∧ v4 < 12) then (if ¬ (M 9 v4.toNat) = p1 then (f_X3_busyBits_trial_5 n p1 p2 v3 (e_w (v4 + 1)) M) else (f_b (f_X3_isDone_trial v4 M) fun rr1 NN2 => (if ¬ rr1 = 0 then (f_X3_busyBits_trial_5 n p1 p2 v3 (e_w (v4 + 1)) NN2) else (if (e_w ((M 49 v4.toNat) - (M 43 2))) < 0 then (f_X3_busyBits_trial_5 n p1 p2 v3 (e_w (v4 + 1)) NN2) else (if p2 ≤ (e_w ((M 49 v4.toNat) - (M 43 2))) then (f_X3_busyBits_trial_5 n p1 p2 v3 (e_w (v4 + 1)) NN2) else (f_X3_busyBits_trial_5 n p1 p2 (e_or v3 (e_shl 1 (e_w ((M 49 v4.toNat) - (M 43 2))))) (e_w (v4 + 1)) NN2)))))) else none) else none))
theorem s_X3_busyBits_trial_5 {X : e_X} {d gn : Nat} : ∀ n : Nat, ∀ (p1 p2 v3 v4 : Int) (M M' : e_M) (v : Int), f_X3_busyBits_trial_5  n p1 p2 v3 v4 M = some (v, M') → e_G X (d + 1) YX3_busyBits 5 [some (.inr (.inr 43)), some (.inl p1), some (.inl p2), some (.inl v3), some (.inl v4), none] [] (557, gn, e_RF, M) (.inl (some (.inl v)), (557, gn, e_RF, M')) := by
  intro n
  induction n with
  | zero => intro p1 p2 v3 v4 M M' v h; cases h
  | succ n ih =>
    intro p1 p2 v3 v4 M M' v h
    rw [f_X3_busyBits_trial_5] at h
    refine wp_X3_busyBits_trial_5 (d := d)  M p1 p2 v3 v4 (f_mn) ?_
    refine ⟨fun c => ?_, fun c => ?_⟩
    · rw [if_pos c] at h
      cases h; rfl
    · rw [if_neg c] at h
      obtain ⟨c3, h⟩ := f_gd h
      refine ⟨c3, ?_⟩
      obtain ⟨c4, h⟩ := f_gd h
      refine ⟨c4, ?_⟩
      refine ⟨fun c => ?_, fun c => ?_⟩
      · rw [if_pos c] at h
        exact ih _ _ _ _ _ _ _ h
      · rw [if_neg (not_not_intro c)] at h
        obtain ⟨rr5, NN6, hc7, h⟩ := f_bd h
        refine ⟨rr5, NN6, s_X3_isDone_trial (d := d)  hc7, ?_⟩
        refine ⟨fun c => ?_, fun c => ?_⟩
        · rw [if_pos c] at h
          exact ih _ _ _ _ _ _ _ h
        · rw [if_neg (not_not_intro c)] at h
          refine ⟨fun c => ?_, fun c => ?_⟩
          · rw [if_pos c] at h
            exact ih _ _ _ _ _ _ _ h
          · rw [if_neg c] at h
            refine ⟨fun c => ?_, fun c => ?_⟩
            · rw [if_pos c] at h
              exact ih _ _ _ _ _ _ _ h
            · rw [if_neg c] at h
              exact ih _ _ _ _ _ _ _ h
def f_X3_busyBits_trial (n : Nat) (p1 p2 : Int) (M : e_M) : Option (Int × e_M) := (f_X3_busyBits_trial_5 n p1 p2 0 0 M)
theorem s_X3_busyBits_trial {X : e_X} {d gn : Nat} {n : Nat} {p1 p2 : Int} {M M' : e_M} {v : Int} (h : f_X3_busyBits_trial  n p1 p2 M = some (v, M')) : e_E X (d + 1) YX3_busyBits [.inr (.inr 43), .inl p1, .inl p2] (557, gn, e_RF, M) (.inl (some (.inl v)), (557, gn, e_RF, M')) := by
  unfold f_X3_busyBits_trial at h
  refine wp_X3_busyBits_trial_0 (d := d)  M p1 p2 ?_
  exact s_X3_busyBits_trial_5  _ _ _ _ _ _ _ _ h
def f_X3_daysOfAll_now (n : Nat) (M : e_M) : Option (Int × e_M) := (f_b (f_X3_mostDays_now n M) fun rr1 NN2 => (f_b (f_X10_bitsBelow (NN2 4 0) NN2) fun rr3 NN4 => (f_b (f_X3_daysUpTo_now n rr1 rr3 NN4) fun rr5 NN6 => (some (rr5, NN6)))))
theorem s_X3_daysOfAll_now {X : e_X} {d gn : Nat} {n : Nat} {M M' : e_M} {v : Int} (h : f_X3_daysOfAll_now  n  M = some (v, M')) : e_E X (d + 2) YX3_daysOfAll [.inr (.inr 36)] (557, gn, e_RF, M) (.inl (some (.inl v)), (557, gn, e_RF, M')) := by
  unfold f_X3_daysOfAll_now at h
  refine wp_X3_daysOfAll_now_0 (d := d + 1)  M  (f_mn) ?_
  obtain ⟨rr7, NN8, hc9, h⟩ := f_bd h
  refine ⟨rr7, NN8, s_X3_mostDays_now (d := d)  hc9, ?_⟩
  obtain ⟨rr10, NN11, hc12, h⟩ := f_bd h
  refine ⟨rr10, NN11, s_X10_bitsBelow (d := d + 1)  hc12, ?_⟩
  obtain ⟨rr13, NN14, hc15, h⟩ := f_bd h
  refine ⟨rr13, NN14, s_X3_daysUpTo_now (d := d)  hc15, ?_⟩
  cases h; rfl
def f_X3_daysOfAll_trial (n : Nat) (M : e_M) : Option (Int × e_M) := (f_b (f_X3_mostDays_trial n M) fun rr1 NN2 => (f_b (f_X10_bitsBelow (NN2 4 0) NN2) fun rr3 NN4 => (f_b (f_X3_daysUpTo_trial n rr1 rr3 NN4) fun rr5 NN6 => (some (rr5, NN6)))))
theorem s_X3_daysOfAll_trial {X : e_X} {d gn : Nat} {n : Nat} {M M' : e_M} {v : Int} (h : f_X3_daysOfAll_trial  n  M = some (v, M')) : e_E X (d + 2) YX3_daysOfAll [.inr (.inr 43)] (557, gn, e_RF, M) (.inl (some (.inl v)), (557, gn, e_RF, M')) := by
  unfold f_X3_daysOfAll_trial at h
  refine wp_X3_daysOfAll_trial_0 (d := d + 1)  M  (f_mn) ?_
  obtain ⟨rr7, NN8, hc9, h⟩ := f_bd h
  refine ⟨rr7, NN8, s_X3_mostDays_trial (d := d)  hc9, ?_⟩
  obtain ⟨rr10, NN11, hc12, h⟩ := f_bd h
  refine ⟨rr10, NN11, s_X10_bitsBelow (d := d + 1)  hc12, ?_⟩
  obtain ⟨rr13, NN14, hc15, h⟩ := f_bd h
  refine ⟨rr13, NN14, s_X3_daysUpTo_trial (d := d)  hc15, ?_⟩
  cases h; rfl
def f_X3_isAhead_now (p1 : Int) (M : e_M) : Option (Int × e_M) := (f_b (f_X3_isDone_now p1 M) fun rr1 NN2 => (if ¬ rr1 = 0 then (some (0, NN2)) else (if (0 ≤ p1 ∧ p1 < 12) then (if (NN2 42 p1.toNat) < (NN2 36 2) then (some (0, NN2)) else (some (1, NN2))) else none)))
theorem s_X3_isAhead_now {X : e_X} {d gn : Nat} {p1 : Int} {M M' : e_M} {v : Int} (h : f_X3_isAhead_now   p1 M = some (v, M')) : e_E X (d + 1) YX3_isAhead [.inr (.inr 36), .inl p1] (557, gn, e_RF, M) (.inl (some (.inl v)), (557, gn, e_RF, M')) := by
  unfold f_X3_isAhead_now at h
  refine wp_X3_isAhead_now_0 (d := d)  M p1 (f_mn) ?_
  obtain ⟨rr3, NN4, hc5, h⟩ := f_bd h
  refine ⟨rr3, NN4, s_X3_isDone_now (d := d)  hc5, ?_⟩
  refine ⟨fun c => ?_, fun c => ?_⟩
  · rw [if_pos c] at h
    cases h; rfl
  · rw [if_neg (not_not_intro c)] at h
    obtain ⟨c6, h⟩ := f_gd h
    refine ⟨c6, ?_⟩
    refine ⟨fun c => ?_, fun c => ?_⟩
    · rw [if_pos c] at h
      cases h; rfl
    · rw [if_neg c] at h
      cases h; rfl
def f_X3_isAhead_trial (p1 : Int) (M : e_M) : Option (Int × e_M) := (f_b (f_X3_isDone_trial p1 M) fun rr1 NN2 => (if ¬ rr1 = 0 then (some (0, NN2)) else (if (0 ≤ p1 ∧ p1 < 12) then (if (NN2 49 p1.toNat) < (NN2 43 2) then (some (0, NN2)) else (some (1, NN2))) else none)))
theorem s_X3_isAhead_trial {X : e_X} {d gn : Nat} {p1 : Int} {M M' : e_M} {v : Int} (h : f_X3_isAhead_trial   p1 M = some (v, M')) : e_E X (d + 1) YX3_isAhead [.inr (.inr 43), .inl p1] (557, gn, e_RF, M) (.inl (some (.inl v)), (557, gn, e_RF, M')) := by
  unfold f_X3_isAhead_trial at h
  refine wp_X3_isAhead_trial_0 (d := d)  M p1 (f_mn) ?_
  obtain ⟨rr3, NN4, hc5, h⟩ := f_bd h
  refine ⟨rr3, NN4, s_X3_isDone_trial (d := d)  hc5, ?_⟩
  refine ⟨fun c => ?_, fun c => ?_⟩
  · rw [if_pos c] at h
    cases h; rfl
  · rw [if_neg (not_not_intro c)] at h
    obtain ⟨c6, h⟩ := f_gd h
    refine ⟨c6, ?_⟩
    refine ⟨fun c => ?_, fun c => ?_⟩
    · rw [if_pos c] at h
      cases h; rfl
    · rw [if_neg c] at h
      cases h; rfl
def f_X3_leftBy_now (n : Nat) (p1 : Int) (M : e_M) : Option (Int × e_M) := (f_b (f_X10_bitsBelow (M 4 1) M) fun rr1 NN2 => (f_b (f_X8_skillsOf_town n p1 NN2) fun rr3 NN4 => (some ((e_and rr1 (e_xor rr3 (-1))), NN4))))
theorem s_X3_leftBy_now {X : e_X} {d gn : Nat} {n : Nat} {p1 : Int} {M M' : e_M} {v : Int} (h : f_X3_leftBy_now  n p1 M = some (v, M')) : e_E X (d + 1) YX3_leftBy [.inr (.inr 36), .inl p1] (557, gn, e_RF, M) (.inl (some (.inl v)), (557, gn, e_RF, M')) := by
  unfold f_X3_leftBy_now at h
  refine wp_X3_leftBy_now_0 (d := d)  M p1 (f_mn) ?_
  obtain ⟨rr5, NN6, hc7, h⟩ := f_bd h
  refine ⟨rr5, NN6, s_X10_bitsBelow (d := d)  hc7, ?_⟩
  obtain ⟨rr8, NN9, hc10, h⟩ := f_bd h
  refine ⟨rr8, NN9, s_X8_skillsOf_town (d := d)  hc10, ?_⟩
  cases h; rfl
def f_X3_leftBy_trial (n : Nat) (p1 : Int) (M : e_M) : Option (Int × e_M) := (f_b (f_X10_bitsBelow (M 4 1) M) fun rr1 NN2 => (f_b (f_X8_skillsOf_town n p1 NN2) fun rr3 NN4 => (some ((e_and rr1 (e_xor rr3 (-1))), NN4))))
theorem s_X3_leftBy_trial {X : e_X} {d gn : Nat} {n : Nat} {p1 : Int} {M M' : e_M} {v : Int} (h : f_X3_leftBy_trial  n p1 M = some (v, M')) : e_E X (d + 1) YX3_leftBy [.inr (.inr 43), .inl p1] (557, gn, e_RF, M) (.inl (some (.inl v)), (557, gn, e_RF, M')) := by
  unfold f_X3_leftBy_trial at h
  refine wp_X3_leftBy_trial_0 (d := d)  M p1 (f_mn) ?_
  obtain ⟨rr5, NN6, hc7, h⟩ := f_bd h
  refine ⟨rr5, NN6, s_X10_bitsBelow (d := d)  hc7, ?_⟩
  obtain ⟨rr8, NN9, hc10, h⟩ := f_bd h
  refine ⟨rr8, NN9, s_X8_skillsOf_town (d := d)  hc10, ?_⟩
  cases h; rfl
def f_X3_passWeek_now_87 : Nat → Int → e_M → Option (Int × e_M)
  | 0, _, _ => none
  | n + 1, v1, M => (if (M 4 0) ≤ v1 then (some (0, (e_up M 36 2 (e_w ((M 36 2) + 1))))) else (f_b (f_X3_hasBought_now v1 M) fun rr1 NN2 => (if rr1 = 0 then (if (0 ≤ v1 ∧ v1 < 6) then (if (0 ≤ v1 ∧ v1 < 6) then (if (0 ≤ v1 ∧ v1 < 6) then (if (0 ≤ v1 ∧ v1 < 6) then (if (0 ≤ v1 ∧ v1 < 6) then (f_X3_passWeek_now_87 n (e_w (v1 + 1)) (e_up (e_up NN2 38 v1.toNat (e_w ((NN2 38 v1.toNat) + 7))) 37 v1.toNat (min 999 (e_w (((e_up NN2 38 v1.toNat (e_w ((NN2 38 v1.toNat) + 7))) 37 v1.toNat) + ((e_up NN2 38 v1.toNat (e_w ((NN2 38 v1.toNat) + 7))) 6 v1.toNat)))))) else none) else none) else none) else none) else none) else (if (0 ≤ v1 ∧ v1 < 6) then (if (0 ≤ v1 ∧ v1 < 6) then (if (0 ≤ v1 ∧ v1 < 6) then (if (0 ≤ v1 ∧ v1 < 6) then (if (0 ≤ v1 ∧ v1 < 6) then (f_X3_passWeek_now_87 n (e_w (v1 + 1)) (e_up (e_up (e_up NN2 38 v1.toNat (e_w ((NN2 38 v1.toNat) + 6))) 39 v1.toNat (e_w (((e_up NN2 38 v1.toNat (e_w ((NN2 38 v1.toNat) + 6))) 39 v1.toNat) + 1))) 40 v1.toNat (-1))) else none) else none) else none) else none) else none))))
theorem s_X3_passWeek_now_87 {X : e_X} {d gn : Nat} : ∀ n : Nat, ∀ (v1 : Int) (M M' : e_M) (v : Int), f_X3_passWeek_now_87  n v1 M = some (v, M') → e_G X (d + 2) YX3_passWeek 87 [some (.inr (.inr 36)), some (.inl v1)] [] (557, gn, e_RF, M) (.inl none, (557, gn, e_RF, M')) := by
  intro n
  induction n with
  | zero => intro v1 M M' v h; cases h
  | succ n ih =>
    intro v1 M M' v h
    rw [f_X3_passWeek_now_87] at h
    refine wp_X3_passWeek_now_87 (d := d + 1)  M v1 (f_mn) ?_
    refine ⟨fun c => ?_, fun c => ?_⟩
    · rw [if_pos c] at h
      cases h; rfl
    · rw [if_neg c] at h
      obtain ⟨rr3, NN4, hc5, h⟩ := f_bd h
      refine ⟨rr3, NN4, s_X3_hasBought_now (d := d + 1)  hc5, ?_⟩
      refine ⟨fun c => ?_, fun c => ?_⟩
      · rw [if_pos c] at h
        obtain ⟨c6, h⟩ := f_gd h
        refine ⟨c6, ?_⟩
        obtain ⟨c7, h⟩ := f_gd h
        refine ⟨c7, ?_⟩
        obtain ⟨c8, h⟩ := f_gd h
        refine ⟨c8, ?_⟩
        obtain ⟨c9, h⟩ := f_gd h
        refine ⟨c9, ?_⟩
        obtain ⟨c10, h⟩ := f_gd h
        refine ⟨c10, ?_⟩
        exact ih _ _ _ _ h
      · rw [if_neg c] at h
        obtain ⟨c11, h⟩ := f_gd h
        refine ⟨c11, ?_⟩
        obtain ⟨c12, h⟩ := f_gd h
        refine ⟨c12, ?_⟩
        obtain ⟨c13, h⟩ := f_gd h
        refine ⟨c13, ?_⟩
        obtain ⟨c14, h⟩ := f_gd h
        refine ⟨c14, ?_⟩
        obtain ⟨c15, h⟩ := f_gd h
        refine ⟨c15, ?_⟩
        exact ih _ _ _ _ h
def f_X3_passWeek_now_23 : Nat → Int → e_M → Option (Int × e_M)
  | 0, _, _ => none
  | n + 1, v1, M => (if (M 4 2) ≤ v1 then (f_X3_passWeek_now_87 n 0 M) else (f_b (f_X3_fallsNow_now v1 M) fun rr16 NN17 => (if rr16 = 0 then (f_X3_passWeek_now_23 n (e_w (v1 + 1)) NN17) else (if (0 ≤ v1 ∧ v1 < 12) then (f_b (f_X3_hasBought_now (NN17 9 v1.toNat) NN17) fun rr18 NN19 => (if rr18 = 0 then (f_X3_passWeek_now_23 n (e_w (v1 + 1)) (e_up NN19 36 4 (e_or (NN19 36 4) (e_shl 1 v1)))) else (f_b (f_X3_payFine_now v1 NN19) fun rr20 NN21 => (f_X3_passWeek_now_23 n (e_w (v1 + 1)) NN21)))) else none))))
theorem s_X3_passWeek_now_23 {X : e_X} {d gn : Nat} : ∀ n : Nat, ∀ (v1 : Int) (M M' : e_M) (v : Int), f_X3_passWeek_now_23  n v1 M = some (v, M') → e_G X (d + 2) YX3_passWeek 23 [some (.inr (.inr 36)), some (.inl v1)] [] (557, gn, e_RF, M) (.inl none, (557, gn, e_RF, M')) := by
  intro n
  induction n with
  | zero => intro v1 M M' v h; cases h
  | succ n ih =>
    intro v1 M M' v h
    rw [f_X3_passWeek_now_23] at h
    refine wp_X3_passWeek_now_23 (d := d + 1)  M v1 (f_mn) ?_
    refine ⟨fun c => ?_, fun c => ?_⟩
    · rw [if_pos c] at h
      exact s_X3_passWeek_now_87  _ _ _ _ _ h
    · rw [if_neg c] at h
      obtain ⟨rr22, NN23, hc24, h⟩ := f_bd h
      refine ⟨rr22, NN23, s_X3_fallsNow_now (d := d + 1)  hc24, ?_⟩
      refine ⟨fun c => ?_, fun c => ?_⟩
      · rw [if_pos c] at h
        exact ih _ _ _ _ h
      · rw [if_neg c] at h
        obtain ⟨c25, h⟩ := f_gd h
        refine ⟨c25, ?_⟩
        obtain ⟨rr26, NN27, hc28, h⟩ := f_bd h
        refine ⟨rr26, NN27, s_X3_hasBought_now (d := d + 1)  hc28, ?_⟩
        refine ⟨fun c => ?_, fun c => ?_⟩
        · rw [if_pos c] at h
          exact ih _ _ _ _ h
        · rw [if_neg c] at h
          obtain ⟨rr29, NN30, hc31, h⟩ := f_bd h
          refine ⟨rr29, NN30, s_X3_payFine_now (d := d)  hc31, ?_⟩
          exact ih _ _ _ _ h
def f_X3_passWeek_now (n : Nat) (M : e_M) : Option (Int × e_M) := (f_b (f_X3_stayingBits_now n M) fun rr32 NN33 => (f_b (f_X3_leftBy_now n rr32 NN33) fun rr34 NN35 => (f_b (f_X3_worthOf_now n rr34 NN35) fun rr36 NN37 => (f_X3_passWeek_now_23 n 0 (e_up NN37 36 3 (e_w ((M 36 3) + rr36)))))))
theorem s_X3_passWeek_now {X : e_X} {d gn : Nat} {n : Nat} {M M' : e_M} {v : Int} (h : f_X3_passWeek_now  n  M = some (v, M')) : e_E X (d + 2) YX3_passWeek [.inr (.inr 36)] (557, gn, e_RF, M) (.inl none, (557, gn, e_RF, M')) := by
  unfold f_X3_passWeek_now at h
  refine wp_X3_passWeek_now_0 (d := d + 1)  M  (f_mn) ?_
  obtain ⟨rr38, NN39, hc40, h⟩ := f_bd h
  refine ⟨rr38, NN39, s_X3_stayingBits_now (d := d)  hc40, ?_⟩
  obtain ⟨rr41, NN42, hc43, h⟩ := f_bd h
  refine ⟨rr41, NN42, s_X3_leftBy_now (d := d)  hc43, ?_⟩
  obtain ⟨rr44, NN45, hc46, h⟩ := f_bd h
  refine ⟨rr44, NN45, s_X3_worthOf_now (d := d + 1)  hc46, ?_⟩
  exact s_X3_passWeek_now_23  _ _ _ _ _ h
def f_X3_passWeek_trial_87 : Nat → Int → e_M → Option (Int × e_M)
  | 0, _, _ => none
  | n + 1, v1, M => (if (M 4 0) ≤ v1 then (some (0, (e_up M 43 2 (e_w ((M 43 2) + 1))))) else (f_b (f_X3_hasBought_trial v1 M) fun rr1 NN2 => (if rr1 = 0 then (if (0 ≤ v1 ∧ v1 < 6) then (if (0 ≤ v1 ∧ v1 < 6) then (if (0 ≤ v1 ∧ v1 < 6) then (if (0 ≤ v1 ∧ v1 < 6) then (if (0 ≤ v1 ∧ v1 < 6) then (f_X3_passWeek_trial_87 n (e_w (v1 + 1)) (e_up (e_up NN2 45 v1.toNat (e_w ((NN2 45 v1.toNat) + 7))) 44 v1.toNat (min 999 (e_w (((e_up NN2 45 v1.toNat (e_w ((NN2 45 v1.toNat) + 7))) 44 v1.toNat) + ((e_up NN2 45 v1.toNat (e_w ((NN2 45 v1.toNat) + 7))) 6 v1.toNat)))))) else none) else none) else none) else none) else none) else (if (0 ≤ v1 ∧ v1 < 6) then (if (0 ≤ v1 ∧ v1 < 6) then (if (0 ≤ v1 ∧ v1 < 6) then (if (0 ≤ v1 ∧ v1 < 6) then (if (0 ≤ v1 ∧ v1 < 6) then (f_X3_passWeek_trial_87 n (e_w (v1 + 1)) (e_up (e_up (e_up NN2 45 v1.toNat (e_w ((NN2 45 v1.toNat) + 6))) 46 v1.toNat (e_w (((e_up NN2 45 v1.toNat (e_w ((NN2 45 v1.toNat) + 6))) 46 v1.toNat) + 1))) 47 v1.toNat (-1))) else none) else none) else none) else none) else none))))
theorem s_X3_passWeek_trial_87 {X : e_X} {d gn : Nat} : ∀ n : Nat, ∀ (v1 : Int) (M M' : e_M) (v : Int), f_X3_passWeek_trial_87  n v1 M = some (v, M') → e_G X (d + 2) YX3_passWeek 87 [some (.inr (.inr 43)), some (.inl v1)] [] (557, gn, e_RF, M) (.inl none, (557, gn, e_RF, M')) := by
  intro n
  induction n with
  | zero => intro v1 M M' v h; cases h
  | succ n ih =>
    intro v1 M M' v h
    rw [f_X3_passWeek_trial_87] at h
    refine wp_X3_passWeek_trial_87 (d := d + 1)  M v1 (f_mn) ?_
    refine ⟨fun c => ?_, fun c => ?_⟩
    · rw [if_pos c] at h
      cases h; rfl
    · rw [if_neg c] at h
      obtain ⟨rr3, NN4, hc5, h⟩ := f_bd h
      refine ⟨rr3, NN4, s_X3_hasBought_trial (d := d + 1)  hc5, ?_⟩
      refine ⟨fun c => ?_, fun c => ?_⟩
      · rw [if_pos c] at h
        obtain ⟨c6, h⟩ := f_gd h
        refine ⟨c6, ?_⟩
        obtain ⟨c7, h⟩ := f_gd h
        refine ⟨c7, ?_⟩
        obtain ⟨c8, h⟩ := f_gd h
        refine ⟨c8, ?_⟩
        obtain ⟨c9, h⟩ := f_gd h
        refine ⟨c9, ?_⟩
        obtain ⟨c10, h⟩ := f_gd h
        refine ⟨c10, ?_⟩
        exact ih _ _ _ _ h
      · rw [if_neg c] at h
        obtain ⟨c11, h⟩ := f_gd h
        refine ⟨c11, ?_⟩
        obtain ⟨c12, h⟩ := f_gd h
        refine ⟨c12, ?_⟩
        obtain ⟨c13, h⟩ := f_gd h
        refine ⟨c13, ?_⟩
        obtain ⟨c14, h⟩ := f_gd h
        refine ⟨c14, ?_⟩
        obtain ⟨c15, h⟩ := f_gd h
        refine ⟨c15, ?_⟩
        exact ih _ _ _ _ h
def f_X3_passWeek_trial_23 : Nat → Int → e_M → Option (Int × e_M)
  | 0, _, _ => none
  | n + 1, v1, M => (if (M 4 2) ≤ v1 then (f_X3_passWeek_trial_87 n 0 M) else (f_b (f_X3_fallsNow_trial v1 M) fun rr16 NN17 => (if rr16 = 0 then (f_X3_passWeek_trial_23 n (e_w (v1 + 1)) NN17) else (if (0 ≤ v1 ∧ v1 < 12) then (f_b (f_X3_hasBought_trial (NN17 9 v1.toNat) NN17) fun rr18 NN19 => (if rr18 = 0 then (f_X3_passWeek_trial_23 n (e_w (v1 + 1)) (e_up NN19 43 4 (e_or (NN19 43 4) (e_shl 1 v1)))) else (f_b (f_X3_payFine_trial v1 NN19) fun rr20 NN21 => (f_X3_passWeek_trial_23 n (e_w (v1 + 1)) NN21)))) else none))))
theorem s_X3_passWeek_trial_23 {X : e_X} {d gn : Nat} : ∀ n : Nat, ∀ (v1 : Int) (M M' : e_M) (v : Int), f_X3_passWeek_trial_23  n v1 M = some (v, M') → e_G X (d + 2) YX3_passWeek 23 [some (.inr (.inr 43)), some (.inl v1)] [] (557, gn, e_RF, M) (.inl none, (557, gn, e_RF, M')) := by
  intro n
  induction n with
  | zero => intro v1 M M' v h; cases h
  | succ n ih =>
    intro v1 M M' v h
    rw [f_X3_passWeek_trial_23] at h
    refine wp_X3_passWeek_trial_23 (d := d + 1)  M v1 (f_mn) ?_
    refine ⟨fun c => ?_, fun c => ?_⟩
    · rw [if_pos c] at h
      exact s_X3_passWeek_trial_87  _ _ _ _ _ h
    · rw [if_neg c] at h
      obtain ⟨rr22, NN23, hc24, h⟩ := f_bd h
      refine ⟨rr22, NN23, s_X3_fallsNow_trial (d := d + 1)  hc24, ?_⟩
      refine ⟨fun c => ?_, fun c => ?_⟩
      · rw [if_pos c] at h
        exact ih _ _ _ _ h
      · rw [if_neg c] at h
        obtain ⟨c25, h⟩ := f_gd h
        refine ⟨c25, ?_⟩
        obtain ⟨rr26, NN27, hc28, h⟩ := f_bd h
        refine ⟨rr26, NN27, s_X3_hasBought_trial (d := d + 1)  hc28, ?_⟩
        refine ⟨fun c => ?_, fun c => ?_⟩
        · rw [if_pos c] at h
          exact ih _ _ _ _ h
        · rw [if_neg c] at h
          obtain ⟨rr29, NN30, hc31, h⟩ := f_bd h
          refine ⟨rr29, NN30, s_X3_payFine_trial (d := d)  hc31, ?_⟩
          exact ih _ _ _ _ h
def f_X3_passWeek_trial (n : Nat) (M : e_M) : Option (Int × e_M) := (f_b (f_X3_stayingBits_trial n M) fun rr32 NN33 => (f_b (f_X3_leftBy_trial n rr32 NN33) fun rr34 NN35 => (f_b (f_X3_worthOf_trial n rr34 NN35) fun rr36 NN37 => (f_X3_passWeek_trial_23 n 0 (e_up NN37 43 3 (e_w ((M 43 3) + rr36)))))))
theorem s_X3_passWeek_trial {X : e_X} {d gn : Nat} {n : Nat} {M M' : e_M} {v : Int} (h : f_X3_passWeek_trial  n  M = some (v, M')) : e_E X (d + 2) YX3_passWeek [.inr (.inr 43)] (557, gn, e_RF, M) (.inl none, (557, gn, e_RF, M')) := by
  unfold f_X3_passWeek_trial at h
  refine wp_X3_passWeek_trial_0 (d := d + 1)  M  (f_mn) ?_
  obtain ⟨rr38, NN39, hc40, h⟩ := f_bd h
  refine ⟨rr38, NN39, s_X3_stayingBits_trial (d := d)  hc40, ?_⟩
  obtain ⟨rr41, NN42, hc43, h⟩ := f_bd h
  refine ⟨rr41, NN42, s_X3_leftBy_trial (d := d)  hc43, ?_⟩
  obtain ⟨rr44, NN45, hc46, h⟩ := f_bd h
  refine ⟨rr44, NN45, s_X3_worthOf_trial (d := d + 1)  hc46, ?_⟩
  exact s_X3_passWeek_trial_23  _ _ _ _ _ h
def f_X3_priceFor_now (n : Nat) (p1 : Int) (M : e_M) : Option (Int × e_M) := (f_b (f_X3_boughtBits_now n M) fun rr1 NN2 => (f_b (f_X10_bitsBelow (NN2 4 0) NN2) fun rr3 NN4 => (f_b (f_J6_bitCount_0f7a4 (e_and rr1 (e_xor (e_shl 1 p1) (-1))) (e_up NN4 23 0 (NN4 36 2))) fun rr5 NN6 => (if (0 ≤ p1 ∧ p1 < 6) then (if (0 ≤ p1 ∧ p1 < 6) then (if (0 ≤ p1 ∧ p1 < 6) then (if (0 ≤ p1 ∧ p1 < 6) then (f_b (f_X8_skillsOf_town n (e_and (e_and rr3 (e_xor (e_shl 1 p1) (-1))) (e_xor (e_and rr1 (e_xor (e_shl 1 p1) (-1))) (-1))) (e_up (e_up (e_up (e_up NN6 23 1 rr5) 23 2 ((e_up NN6 23 1 rr5) 39 p1.toNat)) 23 3 ((e_up (e_up NN6 23 1 rr5) 23 2 ((e_up NN6 23 1 rr5) 39 p1.toNat)) 37 p1.toNat)) 23 4 ((e_up (e_up (e_up NN6 23 1 rr5) 23 2 ((e_up NN6 23 1 rr5) 39 p1.toNat)) 23 3 ((e_up (e_up NN6 23 1 rr5) 23 2 ((e_up NN6 23 1 rr5) 39 p1.toNat)) 37 p1.toNat)) 6 p1.toNat))) fun rr7 NN8 => (f_b (f_J6_bitCount_0f7a4 (e_and ((e_up (e_up (e_up (e_up NN6 23 1 rr5) 23 2 ((e_up NN6 23 1 rr5) 39 p1.toNat)) 23 3 ((e_up (e_up NN6 23 1 rr5) 23 2 ((e_up NN6 23 1 rr5) 39 p1.toNat)) 37 p1.toNat)) 23 4 ((e_up (e_up (e_up NN6 23 1 rr5) 23 2 ((e_up NN6 23 1 rr5) 39 p1.toNat)) 23 3 ((e_up (e_up NN6 23 1 rr5) 23 2 ((e_up NN6 23 1 rr5) 39 p1.toNat)) 37 p1.toNat)) 6 p1.toNat)) 7 p1.toNat) (e_xor rr7 (-1))) NN8) fun rr9 NN10 => (f_b (f_X3_tasksNow_now n p1 (e_up NN10 23 5 rr9)) fun rr11 NN12 => (f_b (f_X2_priceOfSeen_law n (e_up (e_up NN12 23 6 rr11) 23 7 p1)) fun rr13 NN14 => (some (rr13, NN14)))))) else none) else none) else none) else none))))
theorem s_X3_priceFor_now {X : e_X} {d gn : Nat} {n : Nat} {p1 : Int} {M M' : e_M} {v : Int} (h : f_X3_priceFor_now  n p1 M = some (v, M')) : e_E X (d + 2) YX3_priceFor [.inr (.inr 36), .inl p1] (557, gn, e_RF, M) (.inl (some (.inl v)), (557, gn, e_RF, M')) := by
  unfold f_X3_priceFor_now at h
  refine wp_X3_priceFor_now_0 (d := d + 1)  M p1 (f_mn) ?_
  obtain ⟨rr15, NN16, hc17, h⟩ := f_bd h
  refine ⟨rr15, NN16, s_X3_boughtBits_now (d := d + 1)  hc17, ?_⟩
  obtain ⟨rr18, NN19, hc20, h⟩ := f_bd h
  refine ⟨rr18, NN19, s_X10_bitsBelow (d := d + 1)  hc20, ?_⟩
  obtain ⟨rr21, NN22, hc23, h⟩ := f_bd h
  refine ⟨rr21, NN22, s_J6_bitCount_0f7a4 (d := d + 1)  hc23, ?_⟩
  obtain ⟨c24, h⟩ := f_gd h
  refine ⟨c24, ?_⟩
  obtain ⟨c25, h⟩ := f_gd h
  refine ⟨c25, ?_⟩
  obtain ⟨c26, h⟩ := f_gd h
  refine ⟨c26, ?_⟩
  obtain ⟨c27, h⟩ := f_gd h
  refine ⟨c27, ?_⟩
  obtain ⟨rr28, NN29, hc30, h⟩ := f_bd h
  refine ⟨rr28, NN29, s_X8_skillsOf_town (d := d + 1)  hc30, ?_⟩
  obtain ⟨rr31, NN32, hc33, h⟩ := f_bd h
  refine ⟨rr31, NN32, s_J6_bitCount_0f7a4 (d := d + 1)  hc33, ?_⟩
  obtain ⟨rr34, NN35, hc36, h⟩ := f_bd h
  refine ⟨rr34, NN35, s_X3_tasksNow_now (d := d)  hc36, ?_⟩
  obtain ⟨rr37, NN38, hc39, h⟩ := f_bd h
  refine ⟨rr37, NN38, s_X2_priceOfSeen_law (d := d)  hc39, ?_⟩
  cases h; rfl
def f_X3_priceFor_trial (n : Nat) (p1 : Int) (M : e_M) : Option (Int × e_M) := (f_b (f_X3_boughtBits_trial n M) fun rr1 NN2 => (f_b (f_X10_bitsBelow (NN2 4 0) NN2) fun rr3 NN4 => (f_b (f_J6_bitCount_0f7a4 (e_and rr1 (e_xor (e_shl 1 p1) (-1))) (e_up NN4 23 0 (NN4 43 2))) fun rr5 NN6 => (if (0 ≤ p1 ∧ p1 < 6) then (if (0 ≤ p1 ∧ p1 < 6) then (if (0 ≤ p1 ∧ p1 < 6) then (if (0 ≤ p1 ∧ p1 < 6) then (f_b (f_X8_skillsOf_town n (e_and (e_and rr3 (e_xor (e_shl 1 p1) (-1))) (e_xor (e_and rr1 (e_xor (e_shl 1 p1) (-1))) (-1))) (e_up (e_up (e_up (e_up NN6 23 1 rr5) 23 2 ((e_up NN6 23 1 rr5) 46 p1.toNat)) 23 3 ((e_up (e_up NN6 23 1 rr5) 23 2 ((e_up NN6 23 1 rr5) 46 p1.toNat)) 44 p1.toNat)) 23 4 ((e_up (e_up (e_up NN6 23 1 rr5) 23 2 ((e_up NN6 23 1 rr5) 46 p1.toNat)) 23 3 ((e_up (e_up NN6 23 1 rr5) 23 2 ((e_up NN6 23 1 rr5) 46 p1.toNat)) 44 p1.toNat)) 6 p1.toNat))) fun rr7 NN8 => (f_b (f_J6_bitCount_0f7a4 (e_and ((e_up (e_up (e_up (e_up NN6 23 1 rr5) 23 2 ((e_up NN6 23 1 rr5) 46 p1.toNat)) 23 3 ((e_up (e_up NN6 23 1 rr5) 23 2 ((e_up NN6 23 1 rr5) 46 p1.toNat)) 44 p1.toNat)) 23 4 ((e_up (e_up (e_up NN6 23 1 rr5) 23 2 ((e_up NN6 23 1 rr5) 46 p1.toNat)) 23 3 ((e_up (e_up NN6 23 1 rr5) 23 2 ((e_up NN6 23 1 rr5) 46 p1.toNat)) 44 p1.toNat)) 6 p1.toNat)) 7 p1.toNat) (e_xor rr7 (-1))) NN8) fun rr9 NN10 => (f_b (f_X3_tasksNow_trial n p1 (e_up NN10 23 5 rr9)) fun rr11 NN12 => (f_b (f_X2_priceOfSeen_law n (e_up (e_up NN12 23 6 rr11) 23 7 p1)) fun rr13 NN14 => (some (rr13, NN14)))))) else none) else none) else none) else none))))
theorem s_X3_priceFor_trial {X : e_X} {d gn : Nat} {n : Nat} {p1 : Int} {M M' : e_M} {v : Int} (h : f_X3_priceFor_trial  n p1 M = some (v, M')) : e_E X (d + 2) YX3_priceFor [.inr (.inr 43), .inl p1] (557, gn, e_RF, M) (.inl (some (.inl v)), (557, gn, e_RF, M')) := by
  unfold f_X3_priceFor_trial at h
  refine wp_X3_priceFor_trial_0 (d := d + 1)  M p1 (f_mn) ?_
  obtain ⟨rr15, NN16, hc17, h⟩ := f_bd h
  refine ⟨rr15, NN16, s_X3_boughtBits_trial (d := d + 1)  hc17, ?_⟩
  obtain ⟨rr18, NN19, hc20, h⟩ := f_bd h
  refine ⟨rr18, NN19, s_X10_bitsBelow (d := d + 1)  hc20, ?_⟩
  obtain ⟨rr21, NN22, hc23, h⟩ := f_bd h
  refine ⟨rr21, NN22, s_J6_bitCount_0f7a4 (d := d + 1)  hc23, ?_⟩
  obtain ⟨c24, h⟩ := f_gd h
  refine ⟨c24, ?_⟩
  obtain ⟨c25, h⟩ := f_gd h
  refine ⟨c25, ?_⟩
  obtain ⟨c26, h⟩ := f_gd h
  refine ⟨c26, ?_⟩
  obtain ⟨c27, h⟩ := f_gd h
  refine ⟨c27, ?_⟩
  obtain ⟨rr28, NN29, hc30, h⟩ := f_bd h
  refine ⟨rr28, NN29, s_X8_skillsOf_town (d := d + 1)  hc30, ?_⟩
  obtain ⟨rr31, NN32, hc33, h⟩ := f_bd h
  refine ⟨rr31, NN32, s_J6_bitCount_0f7a4 (d := d + 1)  hc33, ?_⟩
  obtain ⟨rr34, NN35, hc36, h⟩ := f_bd h
  refine ⟨rr34, NN35, s_X3_tasksNow_trial (d := d)  hc36, ?_⟩
  obtain ⟨rr37, NN38, hc39, h⟩ := f_bd h
  refine ⟨rr37, NN38, s_X2_priceOfSeen_law (d := d)  hc39, ?_⟩
  cases h; rfl
def f_X3_putOff_now (p1 : Int) (M : e_M) : Option (Int × e_M) := (f_b (f_X3_isAhead_now p1 M) fun rr1 NN2 => (if rr1 = 0 then (some (0, NN2)) else (if (0 ≤ p1 ∧ p1 < 12) then (if (NN2 42 p1.toNat) < 60 then (if (0 ≤ p1 ∧ p1 < 12) then (if (0 ≤ p1 ∧ p1 < 12) then (some (1, (e_up NN2 42 p1.toNat (e_w ((NN2 42 p1.toNat) + 1))))) else none) else none) else (some (0, NN2))) else none)))
theorem s_X3_putOff_now {X : e_X} {d gn : Nat} {p1 : Int} {M M' : e_M} {v : Int} (h : f_X3_putOff_now   p1 M = some (v, M')) : e_E X (d + 2) YX3_putOff [.inr (.inr 36), .inl p1] (557, gn, e_RF, M) (.inl (some (.inl v)), (557, gn, e_RF, M')) := by
  unfold f_X3_putOff_now at h
  refine wp_X3_putOff_now_0 (d := d + 1)  M p1 (f_mn) ?_
  obtain ⟨rr3, NN4, hc5, h⟩ := f_bd h
  refine ⟨rr3, NN4, s_X3_isAhead_now (d := d)  hc5, ?_⟩
  refine ⟨fun c => ?_, fun c => ?_⟩
  · rw [if_pos c] at h
    cases h; rfl
  · rw [if_neg c] at h
    obtain ⟨c6, h⟩ := f_gd h
    refine ⟨c6, ?_⟩
    refine ⟨fun c => ?_, fun c => ?_⟩
    · rw [if_pos c] at h
      obtain ⟨c7, h⟩ := f_gd h
      refine ⟨c7, ?_⟩
      obtain ⟨c8, h⟩ := f_gd h
      exact ⟨c8, by cases h; rfl⟩
    · rw [if_neg c] at h
      cases h; rfl
def f_X3_putOff_trial (p1 : Int) (M : e_M) : Option (Int × e_M) := (f_b (f_X3_isAhead_trial p1 M) fun rr1 NN2 => (if rr1 = 0 then (some (0, NN2)) else (if (0 ≤ p1 ∧ p1 < 12) then (if (NN2 49 p1.toNat) < 60 then (if (0 ≤ p1 ∧ p1 < 12) then (if (0 ≤ p1 ∧ p1 < 12) then (some (1, (e_up NN2 49 p1.toNat (e_w ((NN2 49 p1.toNat) + 1))))) else none) else none) else (some (0, NN2))) else none)))
theorem s_X3_putOff_trial {X : e_X} {d gn : Nat} {p1 : Int} {M M' : e_M} {v : Int} (h : f_X3_putOff_trial   p1 M = some (v, M')) : e_E X (d + 2) YX3_putOff [.inr (.inr 43), .inl p1] (557, gn, e_RF, M) (.inl (some (.inl v)), (557, gn, e_RF, M')) := by
  unfold f_X3_putOff_trial at h
  refine wp_X3_putOff_trial_0 (d := d + 1)  M p1 (f_mn) ?_
  obtain ⟨rr3, NN4, hc5, h⟩ := f_bd h
  refine ⟨rr3, NN4, s_X3_isAhead_trial (d := d)  hc5, ?_⟩
  refine ⟨fun c => ?_, fun c => ?_⟩
  · rw [if_pos c] at h
    cases h; rfl
  · rw [if_neg c] at h
    obtain ⟨c6, h⟩ := f_gd h
    refine ⟨c6, ?_⟩
    refine ⟨fun c => ?_, fun c => ?_⟩
    · rw [if_pos c] at h
      obtain ⟨c7, h⟩ := f_gd h
      refine ⟨c7, ?_⟩
      obtain ⟨c8, h⟩ := f_gd h
      exact ⟨c8, by cases h; rfl⟩
    · rw [if_neg c] at h
      cases h; rfl
def f_X7_atDigit (n : Nat) (M : e_M) : Option (Int × e_M) := (f_b (f_X7_peekSign n M) fun rr1 NN2 => (f_b (f_X7_isDigit rr1 NN2) fun rr3 NN4 => (if (rr3 = 0 ∨ rr3 = 1) then (some (rr3, NN4)) else none)))
theorem s_X7_atDigit {X : e_X} {d gn : Nat} {n : Nat} {M M' : e_M} {v : Int} (h : f_X7_atDigit  n  M = some (v, M')) : e_E X (d + 1) YX7_atDigit [.inr (.inr 2)] (557, gn, e_RF, M) (.inl (some (.inl v)), (557, gn, e_RF, M')) := by
  unfold f_X7_atDigit at h
  refine wp_X7_atDigit_0 (d := d)  M  (f_mn) ?_
  obtain ⟨rr5, NN6, hc7, h⟩ := f_bd h
  refine ⟨rr5, NN6, s_X7_peekSign (d := d)  hc7, ?_⟩
  obtain ⟨rr8, NN9, hc10, h⟩ := f_bd h
  refine ⟨rr8, NN9, s_X7_isDigit (d := d)  hc10, ?_⟩
  obtain ⟨c11, h⟩ := f_gd h
  exact ⟨c11, by cases h; rfl⟩
def f_X7_atEnd (n : Nat) (M : e_M) : Option (Int × e_M) := (f_b (f_X7_peekSign n M) fun rr1 NN2 => (if ¬ rr1 = (-1) then (some (0, NN2)) else (some (1, NN2))))
theorem s_X7_atEnd {X : e_X} {d gn : Nat} {n : Nat} {M M' : e_M} {v : Int} (h : f_X7_atEnd  n  M = some (v, M')) : e_E X (d + 1) YX7_atEnd [.inr (.inr 2)] (557, gn, e_RF, M) (.inl (some (.inl v)), (557, gn, e_RF, M')) := by
  unfold f_X7_atEnd at h
  refine wp_X7_atEnd_0 (d := d)  M  (f_mn) ?_
  obtain ⟨rr3, NN4, hc5, h⟩ := f_bd h
  refine ⟨rr3, NN4, s_X7_peekSign (d := d)  hc5, ?_⟩
  refine ⟨fun c => ?_, fun c => ?_⟩
  · rw [if_pos c] at h
    cases h; rfl
  · rw [if_neg (not_not_intro c)] at h
    cases h; rfl
def f_X7_expectEnd (n : Nat) (M : e_M) : Option (Int × e_M) := (if ¬ (M 2 4) = 0 then (some (0, M)) else (f_b (f_X7_atEnd n M) fun rr1 NN2 => (if ¬ rr1 = 0 then (some (0, NN2)) else (f_b (f_X7_noteFlaw 1 (NN2 2 3) NN2) fun _ NN4 => (some (0, NN4))))))
theorem s_X7_expectEnd {X : e_X} {d gn : Nat} {n : Nat} {M M' : e_M} {v : Int} (h : f_X7_expectEnd  n  M = some (v, M')) : e_E X (d + 2) YX7_expectEnd [.inr (.inr 2)] (557, gn, e_RF, M) (.inl none, (557, gn, e_RF, M')) := by
  unfold f_X7_expectEnd at h
  refine wp_X7_expectEnd_0 (d := d + 1)  M  (f_mn) ?_
  refine ⟨fun c => ?_, fun c => ?_⟩
  · rw [if_pos c] at h
    cases h; rfl
  · rw [if_neg (not_not_intro c)] at h
    obtain ⟨rr5, NN6, hc7, h⟩ := f_bd h
    refine ⟨rr5, NN6, s_X7_atEnd (d := d)  hc7, ?_⟩
    refine ⟨fun c => ?_, fun c => ?_⟩
    · rw [if_pos c] at h
      cases h; rfl
    · rw [if_neg (not_not_intro c)] at h
      obtain ⟨rr8, NN9, hc10, h⟩ := f_bd h
      refine ⟨NN9, s_X7_noteFlaw (d := d + 1)  hc10, ?_⟩
      cases h; rfl
def f_X7_expectSign (n : Nat) (p1 : Int) (M : e_M) : Option (Int × e_M) := (if ¬ (M 2 4) = 0 then (some (0, M)) else (f_b (f_X7_peekSign n M) fun rr1 NN2 => (if rr1 = p1 then (some (0, (e_up NN2 2 3 (e_w ((NN2 2 3) + 1))))) else (f_b (f_X7_noteFlaw 1 (NN2 2 3) NN2) fun _ NN4 => (some (0, NN4))))))
theorem s_X7_expectSign {X : e_X} {d gn : Nat} {n : Nat} {p1 : Int} {M M' : e_M} {v : Int} (h : f_X7_expectSign  n p1 M = some (v, M')) : e_E X (d + 2) YX7_expectSign [.inr (.inr 2), .inl p1] (557, gn, e_RF, M) (.inl none, (557, gn, e_RF, M')) := by
  unfold f_X7_expectSign at h
  refine wp_X7_expectSign_0 (d := d + 1)  M p1 (f_mn) ?_
  refine ⟨fun c => ?_, fun c => ?_⟩
  · rw [if_neg (not_not_intro c)] at h
    obtain ⟨rr5, NN6, hc7, h⟩ := f_bd h
    refine ⟨rr5, NN6, s_X7_peekSign (d := d + 1)  hc7, ?_⟩
    refine ⟨fun c => ?_, fun c => ?_⟩
    · rw [if_neg c] at h
      obtain ⟨rr8, NN9, hc10, h⟩ := f_bd h
      refine ⟨NN9, s_X7_noteFlaw (d := d + 1)  hc10, ?_⟩
      cases h; rfl
    · rw [if_pos c] at h
      cases h; rfl
  · rw [if_pos c] at h
    cases h; rfl
def f_X7_readNumber_37 : Nat → Int → Int → Int → e_M → Option (Int × e_M)
  | 0, _, _, _, _ => none
  | n + 1, p1, p2, v3, M => (if (M 2 2) ≤ (M 2 3) then (if v3 < p1 then (f_b (f_X7_noteFlaw 2 (M 2 6) M) fun _ NN10 => (some ((-1), NN10))) else (if v3 ≤ p2 then (some (v3, M)) else (f_b (f_X7_noteFlaw 2 (M 2 6) M) fun _ NN8 => (some ((-1), NN8))))) else (if (0 ≤ (M 2 3) ∧ (M 2 3) < 600) then (f_b (f_X7_isDigit (M 3 (M 2 3).toNat) M) fun rr1 NN2 => (if rr1 = 0 then (if v3 < p1 then (f_b (f_X7_noteFlaw 2 (NN2 2 6) NN2) fun _ NN6 => (some ((-1), NN6))) else (if v3 ≤ p2 then (some (v3, NN2)) else (f_b (f_X7_noteFlaw 2 (NN2 2 6) NN2) fun _ NN4 => (some ((-1), NN4))))) else (if (0 ≤ (NN2 2 3) ∧ (NN2 2 3) < 600) then (f_X7_readNumber_37 n p1 p2 (min 1000000 (e_w ((e_w ((e_w (v3 * 10)) + (NN2 3 (NN2 2 3).toNat))) - 48))) (e_up NN2 2 3 (e_w ((NN2 2 3) + 1)))) else none))) else none))
theorem s_X7_readNumber_37 {X : e_X} {d gn : Nat} : ∀ n : Nat, ∀ (p1 p2 v3 : Int) (M M' : e_M) (v : Int), f_X7_readNumber_37  n p1 p2 v3 M = some (v, M') → e_G X (d + 2) YX7_readNumber 37 [some (.inr (.inr 2)), some (.inl p1), some (.inl p2), some (.inl v3)] [] (557, gn, e_RF, M) (.inl (some (.inl v)), (557, gn, e_RF, M')) := by
  intro n
  induction n with
  | zero => intro p1 p2 v3 M M' v h; cases h
  | succ n ih =>
    intro p1 p2 v3 M M' v h
    rw [f_X7_readNumber_37] at h
    refine wp_X7_readNumber_37 (d := d + 1)  M p1 p2 v3 (f_mn) ?_
    refine ⟨fun c => ?_, fun c => ?_⟩
    · rw [if_pos c] at h
      refine wp_X7_readNumber_99 (d := d + 1)  _ _ _ _ ?_
      refine ⟨fun c => ?_, fun c => ?_⟩
      · rw [if_pos c] at h
        refine wp_X7_readNumber_109 (d := d + 1)  _ _ _ _ (f_mn) ?_
        obtain ⟨rr11, NN12, hc13, h⟩ := f_bd h
        refine ⟨NN12, s_X7_noteFlaw (d := d + 1)  hc13, ?_⟩
        cases h; rfl
      · rw [if_neg c] at h
        refine ⟨fun c => ?_, fun c => ?_⟩
        · rw [if_pos c] at h
          cases h; rfl
        · rw [if_neg c] at h
          refine wp_X7_readNumber_109 (d := d + 1)  _ _ _ _ (f_mn) ?_
          obtain ⟨rr14, NN15, hc16, h⟩ := f_bd h
          refine ⟨NN15, s_X7_noteFlaw (d := d + 1)  hc16, ?_⟩
          cases h; rfl
    · rw [if_neg c] at h
      obtain ⟨c17, h⟩ := f_gd h
      refine ⟨c17, ?_⟩
      obtain ⟨rr18, NN19, hc20, h⟩ := f_bd h
      refine ⟨rr18, NN19, s_X7_isDigit (d := d + 1)  hc20, ?_⟩
      refine ⟨fun c => ?_, fun c => ?_⟩
      · rw [if_pos c] at h
        refine wp_X7_readNumber_99 (d := d + 1)  _ _ _ _ ?_
        refine ⟨fun c => ?_, fun c => ?_⟩
        · rw [if_pos c] at h
          refine wp_X7_readNumber_109 (d := d + 1)  _ _ _ _ (f_mn) ?_
          obtain ⟨rr21, NN22, hc23, h⟩ := f_bd h
          refine ⟨NN22, s_X7_noteFlaw (d := d + 1)  hc23, ?_⟩
          cases h; rfl
        · rw [if_neg c] at h
          refine ⟨fun c => ?_, fun c => ?_⟩
          · rw [if_pos c] at h
            cases h; rfl
          · rw [if_neg c] at h
            refine wp_X7_readNumber_109 (d := d + 1)  _ _ _ _ (f_mn) ?_
            obtain ⟨rr24, NN25, hc26, h⟩ := f_bd h
            refine ⟨NN25, s_X7_noteFlaw (d := d + 1)  hc26, ?_⟩
            cases h; rfl
      · rw [if_neg c] at h
        obtain ⟨c27, h⟩ := f_gd h
        refine ⟨c27, ?_⟩
        exact ih _ _ _ _ _ _ h
def f_X7_readNumber (n : Nat) (p1 p2 : Int) (M : e_M) : Option (Int × e_M) := (if (M 2 4) = 0 then (f_b (f_X7_atDigit n M) fun rr28 NN29 => (if ¬ rr28 = 0 then (f_X7_readNumber_37 n p1 p2 0 (e_up NN29 2 6 (NN29 2 3))) else (f_b (f_X7_noteFlaw 1 (NN29 2 3) NN29) fun _ NN31 => (some ((-1), NN31))))) else (some ((-1), M)))
theorem s_X7_readNumber {X : e_X} {d gn : Nat} {n : Nat} {p1 p2 : Int} {M M' : e_M} {v : Int} (h : f_X7_readNumber  n p1 p2 M = some (v, M')) : e_E X (d + 2) YX7_readNumber [.inr (.inr 2), .inl p1, .inl p2] (557, gn, e_RF, M) (.inl (some (.inl v)), (557, gn, e_RF, M')) := by
  unfold f_X7_readNumber at h
  refine wp_X7_readNumber_0 (d := d + 1)  M p1 p2 (f_mn) ?_
  refine ⟨fun c => ?_, fun c => ?_⟩
  · rw [if_pos c] at h
    obtain ⟨rr32, NN33, hc34, h⟩ := f_bd h
    refine ⟨rr32, NN33, s_X7_atDigit (d := d)  hc34, ?_⟩
    refine ⟨fun c => ?_, fun c => ?_⟩
    · rw [if_pos c] at h
      exact s_X7_readNumber_37  _ _ _ _ _ _ _ h
    · rw [if_neg (not_not_intro c)] at h
      obtain ⟨rr35, NN36, hc37, h⟩ := f_bd h
      refine ⟨NN36, s_X7_noteFlaw (d := d + 1)  hc37, ?_⟩
      cases h; rfl
  · rw [if_neg c] at h
    cases h; rfl
def f_X8_readDuty_18 (n : Nat) (M : e_M) : Option (Int × e_M) := (f_b (f_X7_readNumber n 1 30 M) fun rr1 NN2 => (f_b (f_X7_flawed NN2) fun rr3 NN4 => (if ¬ rr3 = 0 then (some (0, NN4)) else (if (0 ≤ (NN4 12 1) ∧ (NN4 12 1) < 6) then (some (0, (e_up (e_up NN4 16 (NN4 12 1).toNat rr1) 12 1 (e_w (((e_up NN4 16 (NN4 12 1).toNat rr1) 12 1) + 1))))) else none))))
theorem s_X8_readDuty_18 {X : e_X} {d gn : Nat} {n : Nat} {M M' : e_M} {v : Int} (h : f_X8_readDuty_18  n  M = some (v, M')) : e_G X (d + 3) YX8_readDuty 18 [some (.inr (.inr 12)), some (.inr (.inr 2)), none] [] (557, gn, e_RF, M) (.inl none, (557, gn, e_RF, M')) := by
  unfold f_X8_readDuty_18 at h
  refine wp_X8_readDuty_18 (d := d + 2)  M  (f_mn) ?_
  obtain ⟨rr5, NN6, hc7, h⟩ := f_bd h
  refine ⟨rr5, NN6, s_X7_readNumber (d := d)  hc7, ?_⟩
  obtain ⟨rr8, NN9, hc10, h⟩ := f_bd h
  refine ⟨rr8, NN9, s_X7_flawed (d := d + 2)  hc10, ?_⟩
  refine ⟨fun c => ?_, fun c => ?_⟩
  · rw [if_pos c] at h
    cases h; rfl
  · rw [if_neg (not_not_intro c)] at h
    obtain ⟨c11, h⟩ := f_gd h
    exact ⟨c11, by cases h; rfl⟩
def f_X8_readDuty (n : Nat) (M : e_M) : Option (Int × e_M) := (if (M 12 1) < 6 then (f_X8_readDuty_18 n M) else (f_b (f_X7_noteFlaw 3 (M 2 6) M) fun _ NN13 => (f_X8_readDuty_18 n NN13)))
theorem s_X8_readDuty {X : e_X} {d gn : Nat} {n : Nat} {M M' : e_M} {v : Int} (h : f_X8_readDuty  n  M = some (v, M')) : e_E X (d + 3) YX8_readDuty [.inr (.inr 12), .inr (.inr 2)] (557, gn, e_RF, M) (.inl none, (557, gn, e_RF, M')) := by
  unfold f_X8_readDuty at h
  refine wp_X8_readDuty_0 (d := d + 2)  M  (f_mn) ?_
  refine ⟨fun c => ?_, fun c => ?_⟩
  · rw [if_pos c] at h
    exact s_X8_readDuty_18  h
  · rw [if_neg c] at h
    obtain ⟨rr14, NN15, hc16, h⟩ := f_bd h
    refine ⟨NN15, s_X7_noteFlaw (d := d + 2)  hc16, ?_⟩
    exact s_X8_readDuty_18  h
def f_X8_readPerson_18 (n : Nat) (M : e_M) : Option (Int × e_M) := (f_b (f_X7_readNumber n 0 500 M) fun rr1 NN2 => (f_b (f_X7_readNumber n 0 30 NN2) fun rr3 NN4 => (f_b (f_X7_flawed NN4) fun rr5 NN6 => (if ¬ rr5 = 0 then (some (0, NN6)) else (if (0 ≤ (NN6 12 0) ∧ (NN6 12 0) < 6) then (if (0 ≤ ((e_up NN6 13 (NN6 12 0).toNat rr1) 12 0) ∧ ((e_up NN6 13 (NN6 12 0).toNat rr1) 12 0) < 6) then (if (0 ≤ ((e_up (e_up NN6 13 (NN6 12 0).toNat rr1) 14 ((e_up NN6 13 (NN6 12 0).toNat rr1) 12 0).toNat rr3) 12 0) ∧ ((e_up (e_up NN6 13 (NN6 12 0).toNat rr1) 14 ((e_up NN6 13 (NN6 12 0).toNat rr1) 12 0).toNat rr3) 12 0) < 6) then (some (0, (e_up (e_up (e_up (e_up NN6 13 (NN6 12 0).toNat rr1) 14 ((e_up NN6 13 (NN6 12 0).toNat rr1) 12 0).toNat rr3) 15 ((e_up (e_up NN6 13 (NN6 12 0).toNat rr1) 14 ((e_up NN6 13 (NN6 12 0).toNat rr1) 12 0).toNat rr3) 12 0).toNat 0) 12 0 (e_w (((e_up (e_up (e_up NN6 13 (NN6 12 0).toNat rr1) 14 ((e_up NN6 13 (NN6 12 0).toNat rr1) 12 0).toNat rr3) 15 ((e_up (e_up NN6 13 (NN6 12 0).toNat rr1) 14 ((e_up NN6 13 (NN6 12 0).toNat rr1) 12 0).toNat rr3) 12 0).toNat 0) 12 0) + 1))))) else none) else none) else none)))))
theorem s_X8_readPerson_18 {X : e_X} {d gn : Nat} {n : Nat} {M M' : e_M} {v : Int} (h : f_X8_readPerson_18  n  M = some (v, M')) : e_G X (d + 3) YX8_readPerson 18 [some (.inr (.inr 12)), some (.inr (.inr 2)), none, none] [] (557, gn, e_RF, M) (.inl none, (557, gn, e_RF, M')) := by
  unfold f_X8_readPerson_18 at h
  refine wp_X8_readPerson_18 (d := d + 2)  M  (f_mn) ?_
  obtain ⟨rr7, NN8, hc9, h⟩ := f_bd h
  refine ⟨rr7, NN8, s_X7_readNumber (d := d)  hc9, ?_⟩
  obtain ⟨rr10, NN11, hc12, h⟩ := f_bd h
  refine ⟨rr10, NN11, s_X7_readNumber (d := d)  hc12, ?_⟩
  obtain ⟨rr13, NN14, hc15, h⟩ := f_bd h
  refine ⟨rr13, NN14, s_X7_flawed (d := d + 2)  hc15, ?_⟩
  refine ⟨fun c => ?_, fun c => ?_⟩
  · rw [if_pos c] at h
    cases h; rfl
  · rw [if_neg (not_not_intro c)] at h
    obtain ⟨c16, h⟩ := f_gd h
    refine ⟨c16, ?_⟩
    obtain ⟨c17, h⟩ := f_gd h
    refine ⟨c17, ?_⟩
    obtain ⟨c18, h⟩ := f_gd h
    exact ⟨c18, by cases h; rfl⟩
def f_X8_readPerson (n : Nat) (M : e_M) : Option (Int × e_M) := (if (M 12 0) < 6 then (f_X8_readPerson_18 n M) else (f_b (f_X7_noteFlaw 3 (M 2 6) M) fun _ NN20 => (f_X8_readPerson_18 n NN20)))
theorem s_X8_readPerson {X : e_X} {d gn : Nat} {n : Nat} {M M' : e_M} {v : Int} (h : f_X8_readPerson  n  M = some (v, M')) : e_E X (d + 3) YX8_readPerson [.inr (.inr 12), .inr (.inr 2)] (557, gn, e_RF, M) (.inl none, (557, gn, e_RF, M')) := by
  unfold f_X8_readPerson at h
  refine wp_X8_readPerson_0 (d := d + 2)  M  (f_mn) ?_
  refine ⟨fun c => ?_, fun c => ?_⟩
  · rw [if_pos c] at h
    exact s_X8_readPerson_18  h
  · rw [if_neg c] at h
    obtain ⟨rr21, NN22, hc23, h⟩ := f_bd h
    refine ⟨NN22, s_X7_noteFlaw (d := d + 2)  hc23, ?_⟩
    exact s_X8_readPerson_18  h
def f_X8_readSkill (n : Nat) (M : e_M) : Option (Int × e_M) := (f_b (f_X7_readNumber n 0 (e_w ((M 12 0) - 1)) M) fun rr1 NN2 => (f_b (f_X7_readNumber n 0 (e_w ((NN2 12 1) - 1)) NN2) fun rr3 NN4 => (f_b (f_X7_flawed NN4) fun rr5 NN6 => (if ¬ rr5 = 0 then (some (0, NN6)) else (if (0 ≤ rr1 ∧ rr1 < 6) then (if (0 ≤ rr1 ∧ rr1 < 6) then (some (0, (e_up NN6 15 rr1.toNat (e_or (NN6 15 rr1.toNat) (e_shl 1 rr3))))) else none) else none)))))
theorem s_X8_readSkill {X : e_X} {d gn : Nat} {n : Nat} {M M' : e_M} {v : Int} (h : f_X8_readSkill  n  M = some (v, M')) : e_E X (d + 3) YX8_readSkill [.inr (.inr 12), .inr (.inr 2)] (557, gn, e_RF, M) (.inl none, (557, gn, e_RF, M')) := by
  unfold f_X8_readSkill at h
  refine wp_X8_readSkill_0 (d := d + 2)  M  (f_mn) ?_
  obtain ⟨rr7, NN8, hc9, h⟩ := f_bd h
  refine ⟨rr7, NN8, s_X7_readNumber (d := d)  hc9, ?_⟩
  obtain ⟨rr10, NN11, hc12, h⟩ := f_bd h
  refine ⟨rr10, NN11, s_X7_readNumber (d := d)  hc12, ?_⟩
  obtain ⟨rr13, NN14, hc15, h⟩ := f_bd h
  refine ⟨rr13, NN14, s_X7_flawed (d := d + 2)  hc15, ?_⟩
  refine ⟨fun c => ?_, fun c => ?_⟩
  · rw [if_pos c] at h
    cases h; rfl
  · rw [if_neg (not_not_intro c)] at h
    obtain ⟨c16, h⟩ := f_gd h
    refine ⟨c16, ?_⟩
    obtain ⟨c17, h⟩ := f_gd h
    exact ⟨c17, by cases h; rfl⟩
def f_X8_readTask_18 (n : Nat) (M : e_M) : Option (Int × e_M) := (f_b (f_X7_readNumber n 0 (e_w ((M 12 0) - 1)) M) fun rr1 NN2 => (f_b (f_X7_readNumber n 0 60 NN2) fun rr3 NN4 => (f_b (f_X7_readNumber n 0 60 NN4) fun rr5 NN6 => (f_b (f_X7_flawed NN6) fun rr7 NN8 => (if ¬ rr7 = 0 then (some (0, NN8)) else (if (0 ≤ (NN8 12 2) ∧ (NN8 12 2) < 12) then (if (0 ≤ ((e_up NN8 17 (NN8 12 2).toNat rr1) 12 2) ∧ ((e_up NN8 17 (NN8 12 2).toNat rr1) 12 2) < 12) then (if (0 ≤ ((e_up (e_up NN8 17 (NN8 12 2).toNat rr1) 18 ((e_up NN8 17 (NN8 12 2).toNat rr1) 12 2).toNat rr3) 12 2) ∧ ((e_up (e_up NN8 17 (NN8 12 2).toNat rr1) 18 ((e_up NN8 17 (NN8 12 2).toNat rr1) 12 2).toNat rr3) 12 2) < 12) then (some (0, (e_up (e_up (e_up (e_up NN8 17 (NN8 12 2).toNat rr1) 18 ((e_up NN8 17 (NN8 12 2).toNat rr1) 12 2).toNat rr3) 19 ((e_up (e_up NN8 17 (NN8 12 2).toNat rr1) 18 ((e_up NN8 17 (NN8 12 2).toNat rr1) 12 2).toNat rr3) 12 2).toNat rr5) 12 2 (e_w (((e_up (e_up (e_up NN8 17 (NN8 12 2).toNat rr1) 18 ((e_up NN8 17 (NN8 12 2).toNat rr1) 12 2).toNat rr3) 19 ((e_up (e_up NN8 17 (NN8 12 2).toNat rr1) 18 ((e_up NN8 17 (NN8 12 2).toNat rr1) 12 2).toNat rr3) 12 2).toNat rr5) 12 2) + 1))))) else none) else none) else none))))))
theorem s_X8_readTask_18 {X : e_X} {d gn : Nat} {n : Nat} {M M' : e_M} {v : Int} (h : f_X8_readTask_18  n  M = some (v, M')) : e_G X (d + 3) YX8_readTask 18 [some (.inr (.inr 12)), some (.inr (.inr 2)), none, none, none] [] (557, gn, e_RF, M) (.inl none, (557, gn, e_RF, M')) := by
  unfold f_X8_readTask_18 at h
  refine wp_X8_readTask_18 (d := d + 2)  M  (f_mn) ?_
  obtain ⟨rr9, NN10, hc11, h⟩ := f_bd h
  refine ⟨rr9, NN10, s_X7_readNumber (d := d)  hc11, ?_⟩
  obtain ⟨rr12, NN13, hc14, h⟩ := f_bd h
  refine ⟨rr12, NN13, s_X7_readNumber (d := d)  hc14, ?_⟩
  obtain ⟨rr15, NN16, hc17, h⟩ := f_bd h
  refine ⟨rr15, NN16, s_X7_readNumber (d := d)  hc17, ?_⟩
  obtain ⟨rr18, NN19, hc20, h⟩ := f_bd h
  refine ⟨rr18, NN19, s_X7_flawed (d := d + 2)  hc20, ?_⟩
  refine ⟨fun c => ?_, fun c => ?_⟩
  · rw [if_pos c] at h
    cases h; rfl
  · rw [if_neg (not_not_intro c)] at h
    obtain ⟨c21, h⟩ := f_gd h
    refine ⟨c21, ?_⟩
    obtain ⟨c22, h⟩ := f_gd h
    refine ⟨c22, ?_⟩
    obtain ⟨c23, h⟩ := f_gd h
    exact ⟨c23, by cases h; rfl⟩
def f_X8_readTask (n : Nat) (M : e_M) : Option (Int × e_M) := (if (M 12 2) < 12 then (f_X8_readTask_18 n M) else (f_b (f_X7_noteFlaw 3 (M 2 6) M) fun _ NN25 => (f_X8_readTask_18 n NN25)))
theorem s_X8_readTask {X : e_X} {d gn : Nat} {n : Nat} {M M' : e_M} {v : Int} (h : f_X8_readTask  n  M = some (v, M')) : e_E X (d + 3) YX8_readTask [.inr (.inr 12), .inr (.inr 2)] (557, gn, e_RF, M) (.inl none, (557, gn, e_RF, M')) := by
  unfold f_X8_readTask at h
  refine wp_X8_readTask_0 (d := d + 2)  M  (f_mn) ?_
  refine ⟨fun c => ?_, fun c => ?_⟩
  · rw [if_pos c] at h
    exact s_X8_readTask_18  h
  · rw [if_neg c] at h
    obtain ⟨rr26, NN27, hc28, h⟩ := f_bd h
    refine ⟨NN27, s_X7_noteFlaw (d := d + 2)  hc28, ?_⟩
    exact s_X8_readTask_18  h
def f_X6_searchFrom (rc_X6_searchFrom : Int → Int → Int → e_M → Option (Int × e_M)) (n : Nat) (p1 p2 p3 : Int) (M : e_M) : Option (Int × e_M) := (if p1 < (M 53 3) then (if (0 ≤ (M 53 2) ∧ (M 53 2) < 6) then (f_b (rc_X6_searchFrom (e_w (p1 + 1)) p2 (min 999 (e_w (p3 + (M 6 (M 53 2).toNat)))) M) fun _ NN4 => (if (e_and (e_shr (NN4 53 6) p1) 1) = 0 then (f_b (f_J6_bitCount_0f7a4 p2 (e_up NN4 23 0 (e_w ((NN4 53 4) + p1)))) fun rr5 NN6 => (f_b (f_X2_priceOfSeen_law n (e_up (e_up NN6 23 2 (e_w (((e_up NN4 23 0 (e_w ((NN4 53 4) + p1))) 53 5) + rr5))) 23 3 p3)) fun rr7 NN8 => (if p3 < rr7 then (some (0, NN8)) else (f_b (rc_X6_searchFrom (e_w (p1 + 1)) (e_or p2 (e_shl 1 p1)) (e_w (p3 - rr7)) NN8) fun _ NN10 => (some (0, NN10)))))) else (some (0, NN4)))) else none) else (f_b (f_X6_noteSet p2 M) fun _ NN2 => (some (0, NN2))))
theorem s_X6_searchFrom {X : e_X} {d gn : Nat} {rc_X6_searchFrom : Int → Int → Int → e_M → Option (Int × e_M)} (hc_X6_searchFrom : ∀ (p1 p2 p3 : Int) (M M' : e_M) (v : Int), rc_X6_searchFrom p1 p2 p3 M = some (v, M') → e_E X (d + 1) YX6_searchFrom [.inr (.inr 53), .inl p1, .inl p2, .inl p3] (557, gn, e_RF, M) (.inl none, (557, gn, e_RF, M'))) {n : Nat} {p1 p2 p3 : Int} {M M' : e_M} {v : Int} (h : f_X6_searchFrom rc_X6_searchFrom  n p1 p2 p3 M = some (v, M')) : e_E X (d + 2) YX6_searchFrom [.inr (.inr 53), .inl p1, .inl p2, .inl p3] (557, gn, e_RF, M) (.inl none, (557, gn, e_RF, M')) := by
  unfold f_X6_searchFrom at h
  refine wp_X6_searchFrom_0 (d := d + 1)  M p1 p2 p3 (f_mn) ?_
  refine ⟨fun c => ?_, fun c => ?_⟩
  · rw [if_pos c] at h
    obtain ⟨c11, h⟩ := f_gd h
    refine ⟨c11, ?_⟩
    obtain ⟨rr12, NN13, hc14, h⟩ := f_bd h
    refine ⟨NN13, hc_X6_searchFrom _ _ _ _ _ _ hc14, ?_⟩
    refine ⟨fun c => ?_, fun c => ?_⟩
    · rw [if_pos c] at h
      obtain ⟨rr15, NN16, hc17, h⟩ := f_bd h
      refine ⟨rr15, NN16, s_J6_bitCount_0f7a4 (d := d + 1)  hc17, ?_⟩
      obtain ⟨rr18, NN19, hc20, h⟩ := f_bd h
      refine ⟨rr18, NN19, s_X2_priceOfSeen_law (d := d)  hc20, ?_⟩
      refine ⟨fun c => ?_, fun c => ?_⟩
      · rw [if_pos c] at h
        cases h; rfl
      · rw [if_neg c] at h
        obtain ⟨rr21, NN22, hc23, h⟩ := f_bd h
        refine ⟨NN22, hc_X6_searchFrom _ _ _ _ _ _ hc23, ?_⟩
        cases h; rfl
    · rw [if_neg c] at h
      cases h; rfl
  · rw [if_neg c] at h
    obtain ⟨rr24, NN25, hc26, h⟩ := f_bd h
    refine ⟨NN25, s_X6_noteSet (d := d)  hc26, ?_⟩
    cases h; rfl
def g_X6_searchFrom (n : Nat) : Nat → Nat → Int → Int → Int → e_M → Option (Int × e_M)
  | 0, _, _, _, _, _ => none
  | k + 1, t, a1, a2, a3, M => f_X6_searchFrom (fun x1 x2 x3 N => g_X6_searchFrom n k 0 x1 x2 x3 N) n a1 a2 a3 M
theorem sg_X6_searchFrom {X : e_X} {d gn n : Nat} : ∀ k : Nat, (∀ (p1 p2 p3 : Int) (M M' : e_M) (v : Int), g_X6_searchFrom n k 0 p1 p2 p3 M = some (v, M') → e_E X (d + k + 1) YX6_searchFrom [.inr (.inr 53), .inl p1, .inl p2, .inl p3] (557, gn, e_RF, M) (.inl none, (557, gn, e_RF, M'))) := by
  intro k
  induction k with
  | zero => exact (by intros; rename_i h; cases h)
  | succ k ih =>
    rw [show d + (k + 1) + 1 = d + k + 1 + 1 by omega]
    skip
    · intro p1 p2 p3 M M' v h
      rw [g_X6_searchFrom] at h
      exact s_X6_searchFrom (d := d + k) ih h
theorem sk_X6_searchFrom {X : e_X} {d gn n : Nat} (k : Nat) : (∀ (p1 p2 p3 : Int) (M M' : e_M) (v : Int), g_X6_searchFrom n k 0 p1 p2 p3 M = some (v, M') → e_E X (d + k + 1) YX6_searchFrom [.inr (.inr 53), .inl p1, .inl p2, .inl p3] (557, gn, e_RF, M) (.inl none, (557, gn, e_RF, M'))) := (sg_X6_searchFrom k)
def f_k_X6_searchFrom (n : Nat) (p1 p2 p3 : Int) (M : e_M) : Option (Int × e_M) := g_X6_searchFrom n 12 0 p1 p2 p3 M
theorem s_k_X6_searchFrom {X : e_X} {d gn n : Nat} {p1 p2 p3 : Int} {M M' : e_M} {v : Int} (h : f_k_X6_searchFrom n p1 p2 p3 M = some (v, M')) : e_E X (d + 13) YX6_searchFrom [.inr (.inr 53), .inl p1, .inl p2, .inl p3] (557, gn, e_RF, M) (.inl none, (557, gn, e_RF, M')) := sk_X6_searchFrom (d := d) 12 _ _ _ _ _ _ h
def f_X0_readFrom_bookDraft_6 : Nat → Int → Int → e_M → Option (Int × e_M)
  | 0, _, _, _ => none
  | n + 1, p2, v3, M => (if 6 < v3 then (some (0, M)) else (f_b (f_X7_flawed M) fun rr1 NN2 => (if ¬ rr1 = 0 then (some (0, NN2)) else (f_b (f_X7_atEnd n NN2) fun rr3 NN4 => (if ¬ rr3 = 0 then (some (0, NN4)) else (f_b (f_X7_readNumber n 0 (e_w (p2 - 1)) NN4) fun rr5 NN6 => (if rr5 = (-1) then (f_b (f_X7_readNumber n 0 140 NN6) fun rr23 NN24 => (f_b (f_X7_expectSign n 59 NN24) fun _ NN26 => (f_b (f_X7_flawed NN26) fun rr27 NN28 => (if ¬ rr27 = 0 then (f_X0_readFrom_bookDraft_6 n p2 (e_w (v3 + 1)) NN28) else (if (0 ≤ rr5 ∧ rr5 < 6) then (f_X0_readFrom_bookDraft_6 n p2 (e_w (v3 + 1)) (e_up (e_up (e_up NN28 31 rr5.toNat rr23) 30 1 (e_or ((e_up NN28 31 rr5.toNat rr23) 30 1) (e_shl 1 rr5))) 30 0 (e_w (((e_up (e_up NN28 31 rr5.toNat rr23) 30 1 (e_or ((e_up NN28 31 rr5.toNat rr23) 30 1) (e_shl 1 rr5))) 30 0) + 1)))) else none))))) else (f_b (f_X0_hasLine_bookDraft rr5 NN6) fun rr7 NN8 => (if rr7 = 0 then (f_b (f_X7_readNumber n 0 140 NN8) fun rr17 NN18 => (f_b (f_X7_expectSign n 59 NN18) fun _ NN20 => (f_b (f_X7_flawed NN20) fun rr21 NN22 => (if ¬ rr21 = 0 then (f_X0_readFrom_bookDraft_6 n p2 (e_w (v3 + 1)) NN22) else (if (0 ≤ rr5 ∧ rr5 < 6) then (f_X0_readFrom_bookDraft_6 n p2 (e_w (v3 + 1)) (e_up (e_up (e_up NN22 31 rr5.toNat rr17) 30 1 (e_or ((e_up NN22 31 rr5.toNat rr17) 30 1) (e_shl 1 rr5))) 30 0 (e_w (((e_up (e_up NN22 31 rr5.toNat rr17) 30 1 (e_or ((e_up NN22 31 rr5.toNat rr17) 30 1) (e_shl 1 rr5))) 30 0) + 1)))) else none))))) else (f_b (f_X7_noteFlaw 2 (NN8 2 6) NN8) fun _ NN10 => (f_b (f_X7_readNumber n 0 140 NN10) fun rr11 NN12 => (f_b (f_X7_expectSign n 59 NN12) fun _ NN14 => (f_b (f_X7_flawed NN14) fun rr15 NN16 => (if ¬ rr15 = 0 then (f_X0_readFrom_bookDraft_6 n p2 (e_w (v3 + 1)) NN16) else (if (0 ≤ rr5 ∧ rr5 < 6) then (f_X0_readFrom_bookDraft_6 n p2 (e_w (v3 + 1)) (e_up (e_up (e_up NN16 31 rr5.toNat rr11) 30 1 (e_or ((e_up NN16 31 rr5.toNat rr11) 30 1) (e_shl 1 rr5))) 30 0 (e_w (((e_up (e_up NN16 31 rr5.toNat rr11) 30 1 (e_or ((e_up NN16 31 rr5.toNat rr11) 30 1) (e_shl 1 rr5))) 30 0) + 1)))) else none)))))))))))))))
theorem s_X0_readFrom_bookDraft_6 {X : e_X} {d gn : Nat} : ∀ n : Nat, ∀ (p2 v3 : Int) (M M' : e_M) (v : Int), f_X0_readFrom_bookDraft_6  n p2 v3 M = some (v, M') → e_G X (d + 3) YX0_readFrom 6 [some (.inr (.inr 30)), some (.inr (.inr 2)), some (.inl p2), some (.inl v3), none, none] [] (557, gn, e_RF, M) (.inl none, (557, gn, e_RF, M')) := by
  intro n
  induction n with
  | zero => intro p2 v3 M M' v h; cases h
  | succ n ih =>
    intro p2 v3 M M' v h
    rw [f_X0_readFrom_bookDraft_6] at h
    refine wp_X0_readFrom_bookDraft_6 (d := d + 2)  M p2 v3 (f_mn) ?_
    refine ⟨fun c => ?_, fun c => ?_⟩
    · rw [if_pos c] at h
      cases h; rfl
    · rw [if_neg c] at h
      obtain ⟨rr29, NN30, hc31, h⟩ := f_bd h
      refine ⟨rr29, NN30, s_X7_flawed (d := d + 2)  hc31, ?_⟩
      refine ⟨fun c => ?_, fun c => ?_⟩
      · rw [if_pos c] at h
        cases h; rfl
      · rw [if_neg (not_not_intro c)] at h
        obtain ⟨rr32, NN33, hc34, h⟩ := f_bd h
        refine ⟨rr32, NN33, s_X7_atEnd (d := d + 1)  hc34, ?_⟩
        refine ⟨fun c => ?_, fun c => ?_⟩
        · rw [if_pos c] at h
          cases h; rfl
        · rw [if_neg (not_not_intro c)] at h
          obtain ⟨rr35, NN36, hc37, h⟩ := f_bd h
          refine ⟨rr35, NN36, s_X7_readNumber (d := d)  hc37, ?_⟩
          refine ⟨fun c => ?_, fun c => ?_⟩
          · rw [if_pos c] at h
            refine wp_X0_readFrom_bookDraft_60 (d := d + 2)  _ _ _ _ (f_mn) ?_
            obtain ⟨rr38, NN39, hc40, h⟩ := f_bd h
            refine ⟨rr38, NN39, s_X7_readNumber (d := d)  hc40, ?_⟩
            obtain ⟨rr41, NN42, hc43, h⟩ := f_bd h
            refine ⟨NN42, s_X7_expectSign (d := d)  hc43, ?_⟩
            obtain ⟨rr44, NN45, hc46, h⟩ := f_bd h
            refine ⟨rr44, NN45, s_X7_flawed (d := d + 2)  hc46, ?_⟩
            refine ⟨fun c => ?_, fun c => ?_⟩
            · rw [if_pos c] at h
              exact ih _ _ _ _ _ h
            · rw [if_neg (not_not_intro c)] at h
              obtain ⟨c47, h⟩ := f_gd h
              refine ⟨c47, ?_⟩
              exact ih _ _ _ _ _ h
          · rw [if_neg c] at h
            obtain ⟨rr48, NN49, hc50, h⟩ := f_bd h
            refine ⟨rr48, NN49, s_X0_hasLine_bookDraft (d := d + 2)  hc50, ?_⟩
            refine ⟨fun c => ?_, fun c => ?_⟩
            · rw [if_pos c] at h
              refine wp_X0_readFrom_bookDraft_60 (d := d + 2)  _ _ _ _ (f_mn) ?_
              obtain ⟨rr51, NN52, hc53, h⟩ := f_bd h
              refine ⟨rr51, NN52, s_X7_readNumber (d := d)  hc53, ?_⟩
              obtain ⟨rr54, NN55, hc56, h⟩ := f_bd h
              refine ⟨NN55, s_X7_expectSign (d := d)  hc56, ?_⟩
              obtain ⟨rr57, NN58, hc59, h⟩ := f_bd h
              refine ⟨rr57, NN58, s_X7_flawed (d := d + 2)  hc59, ?_⟩
              refine ⟨fun c => ?_, fun c => ?_⟩
              · rw [if_pos c] at h
                exact ih _ _ _ _ _ h
              · rw [if_neg (not_not_intro c)] at h
                obtain ⟨c60, h⟩ := f_gd h
                refine ⟨c60, ?_⟩
                exact ih _ _ _ _ _ h
            · rw [if_neg c] at h
              obtain ⟨rr61, NN62, hc63, h⟩ := f_bd h
              refine ⟨NN62, s_X7_noteFlaw (d := d + 2)  hc63, ?_⟩
              refine wp_X0_readFrom_bookDraft_60 (d := d + 2)  _ _ _ _ (f_mn) ?_
              obtain ⟨rr64, NN65, hc66, h⟩ := f_bd h
              refine ⟨rr64, NN65, s_X7_readNumber (d := d)  hc66, ?_⟩
              obtain ⟨rr67, NN68, hc69, h⟩ := f_bd h
              refine ⟨NN68, s_X7_expectSign (d := d)  hc69, ?_⟩
              obtain ⟨rr70, NN71, hc72, h⟩ := f_bd h
              refine ⟨rr70, NN71, s_X7_flawed (d := d + 2)  hc72, ?_⟩
              refine ⟨fun c => ?_, fun c => ?_⟩
              · rw [if_pos c] at h
                exact ih _ _ _ _ _ h
              · rw [if_neg (not_not_intro c)] at h
                obtain ⟨c73, h⟩ := f_gd h
                refine ⟨c73, ?_⟩
                exact ih _ _ _ _ _ h
def f_X0_readFrom_bookDraft (n : Nat) (p2 : Int) (M : e_M) : Option (Int × e_M) := (f_b (f_X0_drop_bookDraft M) fun _ NN75 => (f_X0_readFrom_bookDraft_6 n p2 0 NN75))
theorem s_X0_readFrom_bookDraft {X : e_X} {d gn : Nat} {n : Nat} {p2 : Int} {M M' : e_M} {v : Int} (h : f_X0_readFrom_bookDraft  n p2 M = some (v, M')) : e_E X (d + 3) YX0_readFrom [.inr (.inr 30), .inr (.inr 2), .inl p2] (557, gn, e_RF, M) (.inl none, (557, gn, e_RF, M')) := by
  unfold f_X0_readFrom_bookDraft at h
  refine wp_X0_readFrom_bookDraft_0 (d := d + 2)  M p2 (f_mn) ?_
  obtain ⟨rr76, NN77, hc78, h⟩ := f_bd h
  refine ⟨NN77, s_X0_drop_bookDraft (d := d + 2)  hc78, ?_⟩
  exact s_X0_readFrom_bookDraft_6  _ _ _ _ _ _ h
def f_X10_apart (n : Nat) (p1 p2 p3 : Int) (M : e_M) : Option ((Int ⊕ Nat) × e_M) := (f_t (f_X10_needTwo p1 p2 p3 M) fun _ NN2 => (f_b (f_X0_hasBoth_book p1 p2 NN2) fun rr3 NN4 => (if ¬ rr3 = 0 then (f_b (f_X0_mondaysHad_book p1 p3 NN4) fun rr5 NN6 => (f_b (f_X0_mondaysHad_book p2 p3 NN6) fun rr7 NN8 => (if rr5 = (-1) then (some ((.inl 0), NN8)) else (if ¬ rr7 = (-1) then (f_b (f_X10_choose n p3 rr5 NN8) fun rr9 NN10 => (f_b (f_X10_choose n (e_w (p3 - rr5)) rr7 NN10) fun rr11 NN12 => (some ((.inl (e_w (e_wl (rr9 * rr11)))), NN12)))) else (some ((.inl 0), NN8)))))) else (some ((.inl (-1)), NN4)))))
theorem s_X10_apart {X : e_X} {d gn : Nat} {n : Nat} {p1 p2 p3 : Int} {M M' : e_M} {v : Int ⊕ Nat} (h : f_X10_apart  n p1 p2 p3 M = some (v, M')) : e_E X (d + 11) YX10_apart [.inr (.inr 1), .inl p1, .inl p2, .inl p3] (557, gn, e_RF, M) (f_oT gn v M') := by
  unfold f_X10_apart at h
  refine wp_X10_apart_0 (d := d + 10)  M p1 p2 p3 (f_mnT) ?_
  rcases f_td h with ⟨rr13, NN14, hc15, h⟩ | ⟨rr13, NN14, hc15, h⟩
  · refine Or.inl ⟨NN14, s_X10_needTwo (d := d)  hc15, ?_⟩
    obtain ⟨rr16, NN17, hc18, h⟩ := f_bd h
    refine ⟨rr16, NN17, s_X0_hasBoth_book (d := d + 9)  hc18, ?_⟩
    refine ⟨fun c => ?_, fun c => ?_⟩
    · rw [if_pos c] at h
      obtain ⟨rr19, NN20, hc21, h⟩ := f_bd h
      refine ⟨rr19, NN20, s_X0_mondaysHad_book (d := d + 10)  hc21, ?_⟩
      obtain ⟨rr22, NN23, hc24, h⟩ := f_bd h
      refine ⟨rr22, NN23, s_X0_mondaysHad_book (d := d + 10)  hc24, ?_⟩
      refine ⟨fun c => ?_, fun c => ?_⟩
      · rw [if_pos c] at h
        cases h; rfl
      · rw [if_neg c] at h
        refine ⟨fun c => ?_, fun c => ?_⟩
        · rw [if_pos c] at h
          obtain ⟨rr25, NN26, hc27, h⟩ := f_bd h
          refine ⟨rr25, NN26, s_X10_choose (d := d + 10)  hc27, ?_⟩
          obtain ⟨rr28, NN29, hc30, h⟩ := f_bd h
          refine ⟨rr28, NN29, s_X10_choose (d := d + 10)  hc30, ?_⟩
          cases h; rfl
        · rw [if_neg (not_not_intro c)] at h
          cases h; rfl
    · rw [if_neg (not_not_intro c)] at h
      cases h; rfl
  · exact Or.inr ⟨rr13, NN14, s_X10_needTwo (d := d)  hc15, by cases h; rfl⟩
def f_X10_book (n : Nat) (p1 : Int) (M : e_M) : Option ((Int ⊕ Nat) × e_M) := (f_t (f_X10_needText p1 60 M) fun _ NN2 => (f_b (f_X7_beginReading p1 NN2) fun _ NN4 => (f_b (f_X0_readFrom_bookDraft n (NN4 4 0) NN4) fun _ NN6 => (f_b (f_X7_flawed NN6) fun rr7 NN8 => (if rr7 = 0 then (f_b (f_X0_copyFrom_book NN8) fun _ NN12 => (some ((.inl (NN12 28 0)), NN12))) else (f_b (f_X7_flawAnswer NN8) fun rr9 NN10 => (some ((.inl rr9), NN10))))))))
theorem s_X10_book {X : e_X} {d gn : Nat} {n : Nat} {p1 : Int} {M M' : e_M} {v : Int ⊕ Nat} (h : f_X10_book  n p1 M = some (v, M')) : e_E X (d + 11) YX10_book [.inr (.inr 1), .inl p1] (557, gn, e_RF, M) (f_oT gn v M') := by
  unfold f_X10_book at h
  refine wp_X10_book_0 (d := d + 10)  M p1 (f_mnT) ?_
  rcases f_td h with ⟨rr13, NN14, hc15, h⟩ | ⟨rr13, NN14, hc15, h⟩
  · refine Or.inl ⟨NN14, s_X10_needText (d := d)  hc15, ?_⟩
    obtain ⟨rr16, NN17, hc18, h⟩ := f_bd h
    refine ⟨NN17, s_X7_beginReading (d := d + 10)  hc18, ?_⟩
    obtain ⟨rr19, NN20, hc21, h⟩ := f_bd h
    refine ⟨NN20, s_X0_readFrom_bookDraft (d := d + 7)  hc21, ?_⟩
    obtain ⟨rr22, NN23, hc24, h⟩ := f_bd h
    refine ⟨rr22, NN23, s_X7_flawed (d := d + 10)  hc24, ?_⟩
    refine ⟨fun c => ?_, fun c => ?_⟩
    · rw [if_pos c] at h
      obtain ⟨rr25, NN26, hc27, h⟩ := f_bd h
      refine ⟨NN26, s_X0_copyFrom_book (d := d + 9)  hc27, ?_⟩
      cases h; rfl
    · rw [if_neg c] at h
      obtain ⟨rr28, NN29, hc30, h⟩ := f_bd h
      refine ⟨rr28, NN29, s_X7_flawAnswer (d := d + 10)  hc30, ?_⟩
      cases h; rfl
  · exact Or.inr ⟨rr13, NN14, s_X10_needText (d := d)  hc15, by cases h; rfl⟩
