/-! OPERATIONS, 13: stay -/
/-- the least set (first by how many, then by its number) among those from lo up to hi that keep c -/
def q_bst (c : Nat → Bool) (lo hi : Nat) (b : Int) : Prop := (b = -1 ∧ ∀ x, lo ≤ x → x < hi → c x = false) ∨ ∃ y : Nat, b = (y : Int) ∧ lo ≤ y ∧ y < hi ∧ c y = true ∧ ∀ x, lo ≤ x → x < hi → c x = true → q_pc y < q_pc x ∨ (q_pc y = q_pc x ∧ y ≤ x)
theorem q_bst_u {c : Nat → Bool} {lo hi : Nat} {a b : Int} (ha : q_bst c lo hi a) (hb : q_bst c lo hi b) : a = b := by
  rcases ha with ⟨h1, h2⟩ | ⟨y, h1, h2, h3, h4, h5⟩ <;> rcases hb with ⟨g1, g2⟩ | ⟨z, g1, g2, g3, g4, g5⟩
  · omega
  · have := h2 z g2 g3
    rw [g4] at this; exact absurd this (by decide)
  · have := g2 y h2 h3
    rw [h4] at this; exact absurd this (by decide)
  · have := h5 z g2 g3 g4
    have := g5 y h2 h3 h4
    omega
def q_stc (n : Nat) (sk : Nat → Nat) (y x : Nat) : Bool := decide (q_an y (q_or (fun q => x.testBit q) sk n) = 0)
theorem q_stay_c {M : e_M} {n m t : Nat} {wa : Nat → Int} {sk : Nat → Nat} {wo : Nat → Int} {ow : Nat → Nat} {fi : Nat → Int} {y : Nat} (hT : q_T n m t wa sk wo ow fi M) (hy : y < 2147483648) : ∃ b, q_bst (q_stc n sk y) 0 (2 ^ n) b ∧ ∀ f, 100 < f → f_X10_stay_36 f (y : Int) (-1) 7 ((2 ^ n - 1 : Nat) : Int) 0 M = some (.inl b, M) := by
  have h6 := hT.1
  have h2n : (2 : Nat) ^ n ≤ 2 ^ 6 := Nat.pow_le_pow_right (by omega) h6
  have h2p := Nat.two_pow_pos n
  have hs : ∀ q, q < n → M 7 q = (sk q : Int) ∧ sk q < 2 ^ 6 := fun q hq => ⟨(hT.2.2.2.2.2.2.2.2.2.1 q hq).2.2.2.2.1, q_sk6 hT hq⟩
  have hpc : ∀ x, x < 2 ^ n → q_pc x ≤ 6 := fun x hx => by
    rw [q_pc_n hx (by omega)]
    exact Nat.le_trans (q_ct_le _ _) h6
  obtain ⟨⟨b, c⟩, ⟨h1, h2⟩, hf⟩ := q_run 10 1 (2 ^ n) (fun f (a : Int × Int) i => f_X10_stay_36 f (y : Int) a.1 a.2 ((2 ^ n - 1 : Nat) : Int) i M) (fun i a => q_bst (q_stc n sk y) 0 i a.1 ∧ ((a.1 = -1 ∧ a.2 = 7) ∨ ∃ z : Nat, a.1 = (z : Int) ∧ a.2 = (q_pc z : Int))) (a := (-1, 7)) (fun i a hi hA => by
    obtain ⟨b, c⟩ := a
    obtain ⟨g1, g2⟩ := hA
    have hi' := hpc i hi
    have est : ∀ f, 10 ≤ f → f_X10_stay_36 (f + 1) (y : Int) b c ((2 ^ n - 1 : Nat) : Int) (i : Int) M = if c ≤ (q_pc i : Int) then f_X10_stay_36 f (y : Int) b c ((2 ^ n - 1 : Nat) : Int) ((i : Int) + 1) M else if ¬ ((q_an y (q_or (fun q => i.testBit q) sk n) : Nat) : Int) = 0 then f_X10_stay_36 f (y : Int) b c ((2 ^ n - 1 : Nat) : Int) ((i : Int) + 1) M else f_X10_stay_36 f (y : Int) (i : Int) (q_pc i : Int) ((2 ^ n - 1 : Nat) : Int) ((i : Int) + 1) M := by
      intro f hf
      rw [f_X10_stay_36, if_neg (by omega), q_bc (by omega), f_bs, e_ws_ (x := (i : Int) + 1) (by omega) (by omega), r_skof hT.2.2.2.1 h6 (by omega) hs (by omega), f_bs, q_andn hy]
    have g2' : (b = -1 ∧ c = 7) ∨ ∃ z : Nat, b = (z : Int) ∧ c = (q_pc z : Int) := g2
    have g1' : q_bst (q_stc n sk y) 0 i b := g1
    by_cases c1 : c ≤ (q_pc i : Int)
    · refine ⟨(b, c), ⟨?_, g2⟩, fun f hf => by rw [est f hf, if_pos c1]⟩
      rcases g1' with ⟨k1, k2⟩ | ⟨z, k1, k2, k3, k4, k5⟩
      · rcases g2' with ⟨l1, l2⟩ | ⟨l, l1, l2⟩
        · exfalso; omega
        · exfalso; omega
      · refine Or.inr ⟨z, k1, k2, by omega, k4, fun x hx1 hx2 hx3 => ?_⟩
        by_cases hxi : x = i
        · rcases g2' with ⟨l1, l2⟩ | ⟨l, l1, l2⟩
          · exfalso; omega
          · have e : l = z := by omega
            subst e
            subst hxi
            omega
        · exact k5 x hx1 (by omega) hx3
    · by_cases c2 : q_an y (q_or (fun q => i.testBit q) sk n) = 0
      · refine ⟨((i : Int), (q_pc i : Int)), ⟨?_, Or.inr ⟨i, rfl, rfl⟩⟩, fun f hf => by rw [est f hf, if_neg c1, if_neg (by rw [c2]; decide)]⟩
        refine Or.inr ⟨i, rfl, Nat.zero_le _, by omega, decide_eq_true c2, fun x hx1 hx2 hx3 => ?_⟩
        by_cases hxi : x = i
        · subst hxi; omega
        · rcases g1' with ⟨k1, k2⟩ | ⟨z, k1, k2, k3, k4, k5⟩
          · have := k2 x hx1 (by omega)
            rw [hx3] at this; exact absurd this (by decide)
          · have := k5 x hx1 (by omega) hx3
            rcases g2' with ⟨l1, l2⟩ | ⟨l, l1, l2⟩
            · exfalso; omega
            · have e : l = z := by omega
              subst e
              omega
      · have hfi : q_stc n sk y i = false := decide_eq_false c2
        refine ⟨(b, c), ⟨?_, g2⟩, fun f hf => by rw [est f hf, if_neg c1, if_pos (by omega)]⟩
        rcases g1' with ⟨k1, k2⟩ | ⟨z, k1, k2, k3, k4, k5⟩
        · refine Or.inl ⟨k1, fun x hx1 hx2 => ?_⟩
          by_cases hxi : x = i
          · rw [hxi]; exact hfi
          · exact k2 x hx1 (by omega)
        · refine Or.inr ⟨z, k1, k2, by omega, k4, fun x hx1 hx2 hx3 => ?_⟩
          by_cases hxi : x = i
          · rw [hxi, hfi] at hx3; exact absurd hx3 (by decide)
          · exact k5 x hx1 (by omega) hx3) ⟨Or.inl ⟨rfl, fun x _ hx => absurd hx (by omega)⟩, Or.inl ⟨rfl, rfl⟩⟩
  refine ⟨b, h1, fun f hff => ?_⟩
  have e := hf (f - 2 ^ n) (by omega)
  rw [show f - 2 ^ n + 2 ^ n * 1 = f by omega] at e
  refine Eq.trans e ?_
  obtain ⟨f', hf'⟩ : ∃ f', f - 2 ^ n = f' + 1 := ⟨f - 2 ^ n - 1, by omega⟩
  show f_X10_stay_36 (f - 2 ^ n) (y : Int) b c ((2 ^ n - 1 : Nat) : Int) ((2 ^ n : Nat) : Int) M = _
  rw [hf', f_X10_stay_36, if_pos (by omega)]
theorem q_stay_m {M : e_M} {n m t : Nat} {wa : Nat → Int} {sk : Nat → Nat} {wo : Nat → Int} {ow : Nat → Nat} {fi : Nat → Int} {y : Nat} (hT : q_T n m t wa sk wo ow fi M) (hy : y < 2147483648) : ∃ b, q_bst (q_stc n sk y) 0 (2 ^ n) b ∧ ∀ f, 600 < f → f_X11_stay_L52 f 0 (y : Int) (-1) ((2 ^ n - 1 : Nat) : Int) 0 0 M = some (b, M) := by
  have h6 := hT.1
  have h2n : (2 : Nat) ^ n ≤ 2 ^ 6 := Nat.pow_le_pow_right (by omega) h6
  have h2p := Nat.two_pow_pos n
  have hs : ∀ q, q < n → M 72 q = (sk q : Int) ∧ sk q < 2 ^ 6 := fun q hq => ⟨(hT.2.2.2.2.2.2.2.2.2.1 q hq).2.2.2.2.2.1, q_sk6 hT hq⟩
  have hn := hT.2.2.2.2.2.2.1
  have inner : ∀ (x : Nat) (v2 : Int), x < 2 ^ n → ∀ f, 20 ≤ f → f_X11_stay_L52 (f + n + 2) 0 (y : Int) v2 (x : Int) 0 0 M = if ¬ ((q_an y (q_or (fun q => x.testBit q) sk n) : Nat) : Int) = 0 then f_X11_stay_L52 f 0 (y : Int) v2 ((x : Int) - 1) 0 0 M else if v2 = -1 then f_X11_stay_L52 f 0 (y : Int) (x : Int) ((x : Int) - 1) 0 0 M else f_b (f_X11_ones f v2 M) fun r N => if r < (q_pc x : Int) then f_X11_stay_L52 f 0 (y : Int) v2 ((x : Int) - 1) 0 0 N else f_X11_stay_L52 f 0 (y : Int) (x : Int) ((x : Int) - 1) 0 0 N := by
    intro x v2 hx f hf
    have h31 : ∀ i, i ≤ n → q_or (fun q => x.testBit q) sk i < 2 ^ 31 := fun i hi => Nat.lt_of_lt_of_le (q_or_lt (k := 6) (fun j hj _ => (hs j (by omega)).2)) (by decide)
    have e1 := q_seq 0 1 n (fun f (s : Int) i => f_X11_stay_L52 f 1 (y : Int) v2 (x : Int) s i M) (fun i => (q_or (fun q => x.testBit q) sk i : Int)) (fun f i _ hi => by
      have hsi := hs i hi
      rw [f_X11_stay_L52, if_neg (by decide), hn, if_neg (by omega), r_has (by omega) (by omega), f_bs, e_ws_ (x := (i : Int) + 1) (by omega) (by omega)]
      by_cases hc : x.testBit i = true
      · rw [if_pos hc, if_neg (by decide), if_pos (show 0 ≤ (i : Int) ∧ (i : Int) < 6 by omega), Int.toNat_natCast, hsi.1, q_or_t (c := fun q => x.testBit q) (s := sk) hc (h31 i (by omega)) (Nat.lt_of_lt_of_le hsi.2 (by decide))]
      · rw [if_neg hc, if_pos rfl, q_or0 (h31 i (by omega)), q_or_f (c := fun q => x.testBit q) (by simpa using hc)]) (f + 1) (Nat.zero_le _)
    rw [Nat.mul_one] at e1
    rw [show f + n + 2 = (f + 1 + n) + 1 by omega, f_X11_stay_L52, if_pos rfl, if_neg (by omega)]
    refine Eq.trans e1 ?_
    rw [f_X11_stay_L52, if_neg (by decide), hn, if_pos (by omega), q_andn hy, q_ones (by omega) (by omega), f_bs, e_ws_ (x := (x : Int) + (-1)) (by omega) (by omega)]
    rfl
  obtain ⟨b, h1, hf⟩ := q_run 20 (n + 2) (2 ^ n) (fun f (a : Int) i => f_X11_stay_L52 f 0 (y : Int) a (((2 ^ n : Nat) : Int) - 1 - i) 0 0 M) (fun i a => q_bst (q_stc n sk y) (2 ^ n - i) (2 ^ n) a) (a := -1) (fun i b hi hA => by
    obtain ⟨x, hx⟩ : ∃ x : Nat, x + i + 1 = 2 ^ n := ⟨2 ^ n - 1 - i, by omega⟩
    have ex : ((2 ^ n : Nat) : Int) - 1 - (i : Int) = (x : Int) := by omega
    have ex2 : ((2 ^ n : Nat) : Int) - 1 - ((i : Int) + 1) = (x : Int) - 1 := by omega
    have eA : 2 ^ n - i = x + 1 := by omega
    have eB : 2 ^ n - (i + 1) = x := by omega
    rw [eA] at hA
    rw [eB, ex, ex2]
    generalize 2 ^ n = N at *
    have hxn : x < N := by omega
    by_cases c2 : q_an y (q_or (fun q => x.testBit q) sk n) = 0
    · have hfi : q_stc n sk y x = true := decide_eq_true c2
      rcases hA with ⟨k1, k2⟩ | ⟨z, k1, k2, k3, k4, k5⟩
      · refine ⟨(x : Int), Or.inr ⟨x, rfl, Nat.le_refl _, hxn, hfi, fun w hw1 hw2 hw3 => ?_⟩, fun f hf => by rw [← Nat.add_assoc, inner x b hxn f hf, if_neg (by rw [c2]; decide), if_pos k1]⟩
        by_cases hwx : w = x
        · rw [hwx]; omega
        · have := k2 w (by omega) hw2
          rw [hw3] at this; exact absurd this (by decide)
      · subst k1
        by_cases c3 : q_pc z < q_pc x
        · refine ⟨(z : Int), Or.inr ⟨z, rfl, by omega, k3, k4, fun w hw1 hw2 hw3 => ?_⟩, fun f hf => by rw [← Nat.add_assoc, inner x (z : Int) hxn f hf, if_neg (by rw [c2]; decide), if_neg (by omega), q_ones (by omega) (by omega), f_bs, if_pos (by omega)]⟩
          by_cases hwx : w = x
          · rw [hwx]; omega
          · exact k5 w (by omega) hw2 hw3
        · refine ⟨(x : Int), Or.inr ⟨x, rfl, Nat.le_refl _, hxn, hfi, fun w hw1 hw2 hw3 => ?_⟩, fun f hf => by rw [← Nat.add_assoc, inner x (z : Int) hxn f hf, if_neg (by rw [c2]; decide), if_neg (by omega), q_ones (by omega) (by omega), f_bs, if_neg (by omega)]⟩
          by_cases hwx : w = x
          · rw [hwx]; omega
          · have := k5 w (by omega) hw2 hw3
            omega
    · have hfi : q_stc n sk y x = false := decide_eq_false c2
      refine ⟨b, ?_, fun f hf => by rw [← Nat.add_assoc, inner x b hxn f hf, if_pos (by omega)]⟩
      rcases hA with ⟨k1, k2⟩ | ⟨z, k1, k2, k3, k4, k5⟩
      · refine Or.inl ⟨k1, fun w hw1 hw2 => ?_⟩
        by_cases hwx : w = x
        · rw [hwx]; exact hfi
        · exact k2 w (by omega) hw2
      · refine Or.inr ⟨z, k1, by omega, k3, k4, fun w hw1 hw2 hw3 => ?_⟩
        by_cases hwx : w = x
        · rw [hwx, hfi] at hw3; exact absurd hw3 (by decide)
        · exact k5 w (by omega) hw2 hw3) (Or.inl ⟨rfl, fun x hx1 hx2 => absurd hx1 (by omega)⟩)
  rw [Nat.sub_self] at h1
  refine ⟨b, h1, fun f hff => ?_⟩
  have hle : 2 ^ n * (n + 2) ≤ 2 ^ 6 * 8 := Nat.mul_le_mul h2n (by omega)
  have e := hf (f - 2 ^ n * (n + 2)) (by omega)
  rw [show f - 2 ^ n * (n + 2) + 2 ^ n * (n + 2) = f by omega] at e
  have e0 : ((2 ^ n : Nat) : Int) - 1 - 0 = ((2 ^ n - 1 : Nat) : Int) := by omega
  have e9 : ((2 ^ n : Nat) : Int) - 1 - ((2 ^ n : Nat) : Int) = -1 := by omega
  rw [e0, e9] at e
  refine Eq.trans e ?_
  obtain ⟨f', hf'⟩ : ∃ f', f - 2 ^ n * (n + 2) = f' + 1 := ⟨f - 2 ^ n * (n + 2) - 1, by omega⟩
  rw [hf', f_X11_stay_L52, if_pos rfl, if_pos (by decide)]
theorem o_stay {F : Nat} (hF : 1000 < F) (x : Int) : q_o2 (f_X10_stay F x) (f_X11_stay F x) k_c1 := by
  intro M k
  have k' := k
  obtain ⟨n, m, t, wa, sk, wo, ow, fi, l, cw, cv, L, hB⟩ := k'
  have hT : q_T n m t wa sk wo ow fi M := hB.1
  have h6 := hT.1
  have hm := hT.2.1
  have ht12 := hT.2.2.1
  have hn := hT.2.2.2.2.2.2.1
  have hC : q_cn n t L M := hB.2.2.2.2.2.1.1
  have hLB : q_LB n t L := hB.2.2.2.2.2.1.2.2
  have h2m : (2 : Nat) ^ m ≤ 2 ^ 6 := Nat.pow_le_pow_right (by omega) hm
  have hmm := hT.2.2.2.2.2.2.2.1
  by_cases hx : ¬ (0 ≤ x ∧ x ≤ ((2 ^ m - 1 : Nat) : Int))
  · refine q_ref1 (b := 0) (c := 1) k rfl (by decide) ?_ ?_
    · unfold f_X10_stay f_X10_bitsBelow
      rw [f_bs, hT.2.2.2.2.1, q_bb (by omega), r_nw, if_neg hx, f_tr]
    · unfold f_X11_stay
      rw [u_r (show (68 : Nat) ≠ 64 by decide), u_r (show (68 : Nat) ≠ 1 by decide), hmm, q_bb (by omega), r_in, f_bs, if_neg hx, if_neg (by decide), r_bada rfl (by decide), f_bs, if_neg (by decide)]
      rfl
  replace hx := Classical.not_not.mp hx
  obtain ⟨y, hy, rfl⟩ := q_nat (n := 2 ^ m) (p := x) (by have := Nat.two_pow_pos m; omega)
  have hy31 : y < 2147483648 := by omega
  obtain ⟨b, hb, hf⟩ := q_stay_c hT hy31
  have hB2 := q_B_f (q_fr_b (M := M) (M1 := M) (v := b) (fun _ _ _ => rfl)) hB
  refine q_ok (M1 := M) (v := b) k ?_ (fun _ _ _ => rfl) ?_ q_mf.rf
  · unfold f_X10_stay f_X10_bitsBelow
    rw [f_bs, hT.2.2.2.2.1, q_bb (by omega), r_nw, if_pos hx, f_tl, f_bs, hT.2.2.2.1, q_bb (by omega)]
    exact hf F (by omega)
  · unfold f_X11_stay
    rw [u_r (show (68 : Nat) ≠ 64 by decide), u_r (show (68 : Nat) ≠ 557 by decide), hmm, q_bb (by omega), r_in, f_bs, if_pos hx, if_pos (by decide), r_bad0 rfl, f_bs, if_pos rfl]
    generalize e_up (e_up M 557 0 b) 64 0 0 = M' at hB2 ⊢
    obtain ⟨b', hb', hf'⟩ := q_stay_m hB2.1 hy31
    rw [hB2.1.2.2.2.2.2.2.1, q_bb (by omega), q_bst_u hb hb']
    exact hf' F (by omega)
