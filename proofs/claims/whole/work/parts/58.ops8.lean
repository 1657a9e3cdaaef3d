/-! OPERATIONS, 8: due, cheapest, crowd -/
def q_zs (c : Nat → Int) : Nat → Int
  | 0 => 0
  | n + 1 => q_zs c n + c n
theorem q_sm_zs {c : Nat → Int} : ∀ n, q_sm c n = e_w (q_zs c n)
  | 0 => rfl
  | n + 1 => by
    show e_w (q_sm c n + c n) = e_w (q_zs c n + c n)
    rw [q_sm_zs n]
    unfold e_w
    omega
theorem q_zs_congr {c d : Nat → Int} : ∀ {n : Nat}, (∀ i, i < n → c i = d i) → q_zs c n = q_zs d n
  | 0, _ => rfl
  | n + 1, h => by
    show q_zs c n + c n = q_zs d n + d n
    rw [q_zs_congr (fun i hi => h i (by omega)), h n (by omega)]
theorem q_zs_sub {c d : Nat → Int} : ∀ {n : Nat}, q_zs c n - q_zs d n = q_zs (fun i => c i - d i) n
  | 0 => rfl
  | n + 1 => by
    show q_zs c n + c n - (q_zs d n + d n) = q_zs (fun i => c i - d i) n + (c n - d n)
    rw [← q_zs_sub]
    omega
theorem q_zs_one {c d : Nat → Int} {o : Nat} : ∀ {n : Nat}, o < n → (∀ i, i < n → i ≠ o → d i = c i) → q_zs d n = q_zs c n + (d o - c o)
  | n + 1, ho, h => by
    show q_zs d n + d n = q_zs c n + c n + (d o - c o)
    by_cases e : o = n
    · subst e
      rw [q_zs_congr (c := d) (d := c) (fun i hi => h i (by omega) (by omega))]
      omega
    · rw [q_zs_one (n := n) (by omega) (fun i hi => h i (by omega)), h n (by omega) (by omega)]
      omega
def q_dv (ow : Nat → Nat) (fi L : Nat → Int) : Nat → Int
  | 0 => 0
  | k + 1 => if q_td L k = true ∧ L (18 + ow k) ≠ -1 then e_w (q_dv ow fi L k + min (q_fn ow fi L (ow k) k).1 (fi k)) else q_dv ow fi L k
theorem q_dv_1 {ow : Nat → Nat} {fi L : Nat → Int} {k : Nat} (h : q_td L k = true ∧ L (18 + ow k) ≠ -1) : q_dv ow fi L (k + 1) = e_w (q_dv ow fi L k + min (q_fn ow fi L (ow k) k).1 (fi k)) := if_pos h
theorem q_dv_0 {ow : Nat → Nat} {fi L : Nat → Int} {k : Nat} (h : ¬ (q_td L k = true ∧ L (18 + ow k) ≠ -1)) : q_dv ow fi L (k + 1) = q_dv ow fi L k := if_neg h
theorem q_dv_z {n t : Nat} {ow : Nat → Nat} {fi L : Nat → Int} (ho : ∀ k, k < t → ow k < n) : ∀ k, k ≤ t → q_dv ow fi L k = e_w (q_zs (fun p => if L (18 + p) = -1 then 0 else (q_fn ow fi L p k).2 - L (24 + p)) n)
  | 0, _ => by
    have : q_zs (fun p => if L (18 + p) = -1 then 0 else (q_fn ow fi L p 0).2 - L (24 + p)) n = q_zs (fun _ => 0) n := q_zs_congr (fun i _ => by
      show (if L (18 + i) = -1 then 0 else L (24 + i) - L (24 + i)) = 0
      split <;> omega)
    rw [this]
    have h0 : ∀ n, q_zs (fun _ => 0) n = 0 := fun n => by
      induction n with
      | zero => rfl
      | succ n ih => show q_zs (fun _ => 0) n + 0 = 0; omega
    rw [h0]
    rfl
  | k + 1, hk => by
    have ih := q_dv_z (n := n) (fi := fi) (L := L) ho k (by omega)
    have hon := ho k (by omega)
    by_cases c : q_td L k = true ∧ L (18 + ow k) ≠ -1
    · have hz := q_zs_one (c := fun p => if L (18 + p) = -1 then 0 else (q_fn ow fi L p k).2 - L (24 + p)) (d := fun p => if L (18 + p) = -1 then 0 else (q_fn ow fi L p (k + 1)).2 - L (24 + p)) (o := ow k) hon (fun i hi hne => by
        rw [q_fn_0 (fun z => hne z.1.symm)])
      rw [q_dv_1 c, hz, ih]
      rw [if_neg c.2, if_neg c.2, q_fn_1 ⟨rfl, c.1⟩]
      dsimp only
      rw [Int.min_comm]
      generalize q_zs (fun p => if L (18 + p) = -1 then 0 else (q_fn ow fi L p k).2 - L (24 + p)) n = Z
      generalize min (fi k) (q_fn ow fi L (ow k) k).1 = y
      generalize (q_fn ow fi L (ow k) k).2 = w
      unfold e_w
      omega
    · have hz : q_zs (fun p => if L (18 + p) = -1 then 0 else (q_fn ow fi L p (k + 1)).2 - L (24 + p)) n = q_zs (fun p => if L (18 + p) = -1 then 0 else (q_fn ow fi L p k).2 - L (24 + p)) n := q_zs_congr (fun i hi => by
        by_cases e : L (18 + i) = -1
        · rw [if_pos e, if_pos e]
        · rw [if_neg e, if_neg e, q_fn_0 (fun z => c ⟨z.2, by rw [z.1]; exact e⟩)])
      rw [q_dv_0 c, ih, hz]
theorem o_due {F : Nat} (hF : 1000 < F) : q_o1 (f_X10_due F) (f_X11_due F) := by
  intro M k
  have k' := k
  obtain ⟨n, m, t, wa, sk, wo, ow, fi, l, cw, cv, L, hB⟩ := k'
  have hT : q_T n m t wa sk wo ow fi M := hB.1
  have h6 := hT.1
  have hm := hT.2.1
  have ht12 := hT.2.2.1
  have hn := hT.2.2.2.2.2.2.1
  have hC : q_cn n t L M := hB.2.2.2.2.2.1.1
  have hLB : q_LB n t L := hB.2.2.2.2.2.1.2.2
  have ho : ∀ k, k < t → ow k < n := fun k hk => (hT.2.2.2.2.2.2.2.2.2.2.2 k hk).2.2.1
  obtain ⟨M0, a1, a2, a3⟩ := rr_copy hC h6 ht12
  obtain ⟨⟨v, A⟩, ⟨b0, b1, b2, b3, b4, b5, b6, b7⟩, hA⟩ := q_run 20 1 t (fun f (a : Int × e_M) i => f_X10_due_15 f a.1 i a.2) (fun k a => a.1 = q_dv ow fi L k ∧ (∀ b j, b < 43 ∨ 49 < b → a.2 b j = M b j) ∧ (∀ q, q < n → L (18 + q) ≠ -1 → a.2 44 q = (q_fn ow fi L q k).1) ∧ (∀ q, q < n → a.2 47 q = L (18 + q)) ∧ (∀ q, q < t → a.2 49 q = L (30 + q)) ∧ a.2 43 2 = L 55 ∧ a.2 43 4 = (q_bs (q_dn L) t : Int) ∧ True) (a := (0, M0)) (fun i a hi hA => by
    obtain ⟨v, A⟩ := a
    obtain ⟨b0, b1, b2, b3, b4, b5, b6, b7⟩ := hA
    dsimp only at b0 b1 b2 b3 b4 b5 b6
    subst b0
    have hTi := hT.2.2.2.2.2.2.2.2.2.2.2 i hi
    have g1 : A 4 2 = (t : Int) := by rw [b1 4 2 (by omega)]; exact hT.2.2.2.2.2.1
    have g2 : A 9 i = (ow i : Int) := by rw [b1 9 i (by omega)]; exact hTi.1
    have g3 : A 11 i = fi i := by rw [b1 11 i (by omega)]; exact hTi.2.2.2.1
    have hdd := (hC.2.1 i hi).2
    have hcond : (A 49 i = A 43 2 ∧ (q_bs (q_dn L) t).testBit i = false) ↔ q_td L i = true := by
      rw [b4 i hi, b5, q_bs_tbc hi, q_dnf hdd, q_td_t]
      omega
    have hon := ho i hi
    have w1 : ∀ f, f_X10_due_15 (f + 1) (q_dv ow fi L i) (i : Int) A = if q_td L i = true then (if L (18 + ow i) = -1 then f_X10_due_15 f (q_dv ow fi L i) ((i : Int) + 1) A else f_X10_due_15 f (e_w (q_dv ow fi L i + min (A 44 (ow i)) (fi i))) ((i : Int) + 1) (e_up (e_up A 44 (ow i) (e_w (A 44 (ow i) - min (A 44 (ow i)) (fi i)))) 48 (ow i) (e_w (A 48 (ow i) + min (A 44 (ow i)) (fi i))))) else f_X10_due_15 f (q_dv ow fi L i) ((i : Int) + 1) A := by
      intro f
      rw [f_X10_due_15, if_neg (by omega), rr_falls b6 (q_dn_lt ht12) (by omega), f_bs, e_ws_ (x := (i : Int) + 1) (by omega) (by omega)]
      by_cases c : q_td L i = true
      · rw [if_pos (hcond.mpr c), if_neg (by decide), if_pos (by omega), Int.toNat_natCast, g2, rr_hb (by omega), f_bs, b3 _ hon, if_pos c]
        by_cases c2 : L (18 + ow i) = -1
        · rw [if_pos c2, if_pos rfl, if_pos c2]
        · rw [if_neg c2, if_neg (by decide), if_neg c2, rr_pay (by omega) (by omega) g2, f_bs, g3]
      · rw [if_neg (fun z => c (hcond.mp z)), if_pos rfl, if_neg c]
    by_cases c : q_td L i = true ∧ L (18 + ow i) ≠ -1
    · refine ⟨(q_dv ow fi L (i + 1), e_up (e_up A 44 (ow i) (e_w (A 44 (ow i) - min (A 44 (ow i)) (fi i)))) 48 (ow i) (e_w (A 48 (ow i) + min (A 44 (ow i)) (fi i)))), ⟨rfl, fun b j hb => by dsimp only; rw [u_r (by omega), u_r (by omega)]; exact b1 b j hb, fun q hq hs => ?_, fun q hq => b3 q hq, fun q hq => b4 q hq, b5, b6, trivial⟩, fun f _ => ?_⟩
      · dsimp only
        rw [u_r (by decide)]
        by_cases e : q = ow i
        · rw [e, u_s, q_fn_1 ⟨rfl, c.1⟩, b2 _ hon c.2, Int.min_comm]
        · rw [u_c e, b2 q hq hs, q_fn_0 (fun z => e z.1.symm)]
      · dsimp only
        rw [w1, if_pos c.1, if_neg c.2, q_dv_1 c, b2 _ hon c.2]
    · refine ⟨(q_dv ow fi L (i + 1), A), ⟨rfl, b1, fun q hq hs => ?_, b3, b4, b5, b6, trivial⟩, fun f _ => ?_⟩
      · dsimp only
        rw [b2 q hq hs, q_fn_0 (fun z => c ⟨z.2, by rw [z.1]; exact hs⟩)]
      · dsimp only
        rw [w1, q_dv_0 c]
        by_cases c1 : q_td L i = true
        · rw [if_pos c1, if_pos (Classical.not_not.mp (fun z => c ⟨c1, z⟩))]
        · rw [if_neg c1]) ⟨rfl, a3, fun q hq _ => (a2.1 q hq).1, fun q hq => (a2.1 q hq).2.2.2.1, fun q hq => (a2.2.1 q hq).1, a2.2.2.1, a2.2.2.2.2, trivial⟩
  dsimp only at b0 b1
  subst b0
  have f1 : ∀ a j, ¬ q_sca a → A a j = M a j := fun a j ha => b1 a j (by unfold q_sca at ha; omega)
  have hB2 := q_B_f (q_fr_b1 f1) hB
  obtain ⟨N0, c1, c2, c3⟩ := r_copies (M := e_up A 64 0 0) (q0 := 532) (q1 := 533) (by decide)
  have hT0 : q_T n m t wa sk wo ow fi N0 := q_T_f (fun a j z => c3 a j (by unfold q_F3 at z; omega)) hB2.1
  have hr0 : q_ml N0 533 L := fun j hj => (c2 j hj).trans (hB2.2.2.2.2.2.1.2.1 j hj)
  obtain ⟨N, d1, d2, d3⟩ := r_week hT0 hr0 (by decide)
  have hnN : N 68 0 = (n : Int) := by rw [d3 68 0 (by decide)]; exact hT0.2.2.2.2.2.2.1
  obtain ⟨f', hf'⟩ : ∃ f', F = (f' + 1) + t * 1 := ⟨F - 1 - t, by omega⟩
  refine q_ok1 (M1 := A) (M2 := N) (v := q_dv ow fi L t) k ?_ f1 ?_ (fun a j _ _ h3 _ _ _ => (d3 a j h3).trans (c3 a j h3))
  · unfold f_X10_due
    rw [a1, f_bs, hf']
    refine (hA (f' + 1) (by omega)).trans ?_
    show f_X10_due_15 (f' + 1) _ (t : Int) A = _
    rw [f_X10_due_15, if_pos (by rw [b1 4 2 (by omega), hT.2.2.2.2.2.1]; omega)]
  · unfold f_X11_due
    rw [c1 F (by omega), f_bs, d1 F (by omega), f_bs, r_sum24 hnN h6 (by omega), f_bs, r_sum24 hnN h6 (by omega), f_bs]
    have e1 : q_sm (fun p => N 532 (24 + p)) n = q_sm (fun p => L (24 + p)) n := q_sm_congr (fun i hi => by
      rw [d3 532 _ (by decide), c3 532 _ (by decide)]
      exact hB2.2.2.2.2.2.1.2.1 (24 + i) (by omega))
    have e2 : q_sm (fun p => N 533 (24 + p)) n = q_sm (fun p => q_wf1 t ow fi L p) n := q_sm_congr (fun i hi => (d2.1 i hi).2.2.2.2)
    rw [e1, e2, q_dv_z ho t (Nat.le_refl _), q_sm_zs, q_sm_zs]
    have e3 := q_zs_sub (c := fun p => q_wf1 t ow fi L p) (d := fun p => L (24 + p)) (n := n)
    have e4 : q_zs (fun p => q_wf1 t ow fi L p - L (24 + p)) n = q_zs (fun p => if L (18 + p) = -1 then 0 else (q_fn ow fi L p t).2 - L (24 + p)) n := q_zs_congr (fun i hi => by
      unfold q_wf1
      split <;> omega)
    rw [← e4, ← e3]
    congr 2
    unfold e_w
    omega
theorem o_cheapest {F : Nat} (hF : 1000 < F) (w : Int) : q_o2 (f_X10_cheapest F w) (f_X11_cheapest F w) k_c1 := by
  intro M k
  have k' := k
  obtain ⟨n, m, t, wa, sk, wo, ow, fi, l, cw, cv, L, hB⟩ := k'
  have hT : q_T n m t wa sk wo ow fi M := hB.1
  have h6 := hT.1
  have hm := hT.2.1
  have ht12 := hT.2.2.1
  have hn := hT.2.2.2.2.2.2.1
  have hC : q_cn n t L M := hB.2.2.2.2.2.1.1
  have hLB : q_LB n t L := hB.2.2.2.2.2.1.2.2
  have hLa := hB.2.2.2.1
  by_cases hw : ¬ (0 ≤ w ∧ w ≤ 1)
  · refine q_ref1 (b := 0) (c := 1) k rfl (by decide) ?_ ?_
    · unfold f_X10_cheapest
      rw [r_nw, if_neg hw, f_tr]
    · unfold f_X11_cheapest
      rw [r_in, f_bs, if_neg hw, if_neg (by decide), r_bada rfl (by decide), f_bs, if_neg (by decide)]
      rfl
  replace hw := Classical.not_not.mp hw
  let cd : Nat → Bool := fun p => decide (L (18 + p) = -1)
  let pr : Nat → Int := fun p => q_pr n t wa sk ow l cw cv L p
  have hbv : ∀ i, q_bm cd pr i ≠ -1 → ∃ b : Nat, b < i ∧ q_bm cd pr i = (b : Int) := fun i h => by
    have := q_bm_r (cd := cd) (c := pr) i
    exact q_nat (by omega)
  obtain ⟨⟨v2, v3, A⟩, ⟨b1, b2, b3⟩, hA⟩ := q_run 301 1 n (fun f (a : Int × Int × e_M) i => f_X10_cheapest_14 f w a.1 a.2.1 i a.2.2) (fun i a => a.1 = q_bm cd pr i ∧ a.2.1 = (if q_bm cd pr i = -1 then -1 else pr (q_bm cd pr i).toNat) ∧ ∀ b j, b ≠ 22 → b ≠ 23 → a.2.2 b j = M b j) (a := (-1, -1, M)) (fun i a hi hA => by
    obtain ⟨v2, v3, A⟩ := a
    obtain ⟨b1, b2, b3⟩ := hA
    dsimp only at b1 b2 b3
    subst b1
    have hTA : q_T n m t wa sk wo ow fi A := q_T_f (fun a j z => b3 a j (by unfold q_F3 at z; omega) (by unfold q_F3 at z; omega)) hT
    have hLA : q_La l cw cv A := q_La_f (fun a j z => b3 a j (by unfold q_F4 at z; omega) (by unfold q_F4 at z; omega)) hLa
    have hCA : q_cn n t L A := q_cn_f (fun a j z => b3 a j (by omega) (by omega)) hC
    obtain ⟨A', c1, c2⟩ := rn_price hi hTA hLA hCA
    by_cases c : L (18 + i) = -1
    · have hcd : cd i = true := by simp [cd, c]
      have hw1 : ∀ f, 301 ≤ f → f_X10_cheapest_14 (f + 1) w (q_bm cd pr i) v3 (i : Int) A = if q_bm cd pr i = -1 then f_X10_cheapest_14 f w (i : Int) (pr i) ((i : Int) + 1) A' else if v3 ≤ pr i then f_X10_cheapest_14 f w (q_bm cd pr i) v3 ((i : Int) + 1) A' else f_X10_cheapest_14 f w (i : Int) (pr i) ((i : Int) + 1) A' := by
        intro f hf
        rw [f_X10_cheapest_14, if_neg (by rw [hTA.2.2.2.1]; omega), rn_hb (by omega), f_bs, (hCA.1 i hi).2.2.2.1, if_pos c, if_neg (by decide), c1 f (by omega), f_bs, e_ws_ (x := (i : Int) + 1) (by omega) (by omega)]
      have hfr : ∀ b j, b ≠ 22 → b ≠ 23 → A' b j = M b j := fun b j h1 h2 => (c2 b j h1 h2).trans (b3 b j h1 h2)
      by_cases h1 : q_bm cd pr i = -1
      · refine ⟨((i : Int), pr i, A'), ⟨(q_bm_n hcd h1).symm, ?_, hfr⟩, fun f hf => ?_⟩
        · dsimp only
          rw [q_bm_n hcd h1, if_neg (by omega), Int.toNat_natCast]
        · dsimp only
          rw [hw1 f hf, if_pos h1]
      · rw [if_neg h1] at b2
        by_cases h2 : pr (q_bm cd pr i).toNat ≤ pr i
        · refine ⟨(q_bm cd pr i, v3, A'), ⟨(q_bm_k hcd h1 h2).symm, ?_, hfr⟩, fun f hf => ?_⟩
          · dsimp only
            rw [q_bm_k hcd h1 h2, if_neg h1, b2]
          · dsimp only
            rw [hw1 f hf, if_neg h1, if_pos (by rw [b2]; exact h2)]
        · refine ⟨((i : Int), pr i, A'), ⟨(q_bm_t hcd h1 h2).symm, ?_, hfr⟩, fun f hf => ?_⟩
          · dsimp only
            rw [q_bm_t hcd h1 h2, if_neg (by omega), Int.toNat_natCast]
          · dsimp only
            rw [hw1 f hf, if_neg h1, if_neg (by rw [b2]; exact h2)]
    · have hcd : cd i = false := by simp [cd, c]
      refine ⟨(q_bm cd pr i, v3, A), ⟨(q_bm_f hcd).symm, ?_, b3⟩, fun f hf => ?_⟩
      · dsimp only
        rw [q_bm_f hcd, b2]
      · dsimp only
        rw [f_X10_cheapest_14, if_neg (by rw [hTA.2.2.2.1]; omega), rn_hb (by omega), f_bs, (hCA.1 i hi).2.2.2.1, if_neg c, if_pos (by decide), e_ws_ (x := (i : Int) + 1) (by omega) (by omega)]) ⟨rfl, rfl, fun _ _ _ _ => rfl⟩
  dsimp only at b1 b2 b3
  have f1 : ∀ a j, ¬ q_sca a → A a j = M a j := fun a j ha => b3 a j (by unfold q_sca at ha; omega) (by unfold q_sca at ha; omega)
  have hB2 := q_B_f (q_fr_b (v := if w = 0 then v2 else v3) f1) hB
  generalize hM' : e_up (e_up A 557 0 (if w = 0 then v2 else v3)) 64 0 0 = M' at hB2
  obtain ⟨⟨u2, u3, N⟩, ⟨d1, d2, d3⟩, hN⟩ := q_run 301 1 n (fun f (a : Int × Int × e_M) i => f_X11_cheapest_37 f w a.1 a.2.1 i a.2.2) (fun i a => a.1 = q_bm cd pr i ∧ a.2.1 = (if q_bm cd pr i = -1 then -1 else pr (q_bm cd pr i).toNat) ∧ ∀ b j, b ≠ 449 → b ≠ 450 → a.2.2 b j = M' b j) (a := (-1, -1, M')) (fun i a hi hA => by
    obtain ⟨v2, v3, A⟩ := a
    obtain ⟨b1, b2, b3⟩ := hA
    dsimp only at b1 b2 b3
    subst b1
    have hTA : q_T n m t wa sk wo ow fi A := q_T_450 b3 hB2.1
    have hLA : q_La l cw cv A := q_La_450 b3 hB2.2.2.2.1
    have hrA : q_ml A 532 L := fun j hj => (b3 532 j (by decide) (by decide)).trans (hB2.2.2.2.2.2.1.2.1 j hj)
    obtain ⟨A', c1, c2⟩ := r_priceOf (r := 532) hi hTA hLA hrA
    have hsl : A' 532 (18 + i) = L (18 + i) := by rw [c2 532 _ (by decide) (by decide)]; exact hrA _ (by omega)
    have hfr : ∀ b j, b ≠ 449 → b ≠ 450 → A' b j = M' b j := fun b j h1 h2 => (c2 b j h1 h2).trans (b3 b j h1 h2)
    have hw1 : ∀ f, 301 ≤ f → f_X11_cheapest_37 (f + 1) w (q_bm cd pr i) v3 (i : Int) A = if L (18 + i) = -1 then (if q_bm cd pr i = -1 then f_X11_cheapest_37 f w (i : Int) (pr i) ((i : Int) + 1) A' else if pr i < v3 then f_X11_cheapest_37 f w (i : Int) (pr i) ((i : Int) + 1) A' else f_X11_cheapest_37 f w (q_bm cd pr i) v3 ((i : Int) + 1) A') else f_X11_cheapest_37 f w (q_bm cd pr i) v3 ((i : Int) + 1) A' := by
      intro f hf
      rw [f_X11_cheapest_37, if_neg (by rw [hTA.2.2.2.2.2.2.1]; omega), c1 f (by omega), f_bs, r_sold (by omega), f_bs, hsl, e_ws_ (x := (i : Int) + 1) (by omega) (by omega)]
      by_cases c : L (18 + i) = -1
      · rw [if_pos c, if_neg (by decide), if_pos c]
      · rw [if_neg c, if_pos (by decide), if_neg c]
    by_cases c : L (18 + i) = -1
    · have hcd : cd i = true := by simp [cd, c]
      by_cases h1 : q_bm cd pr i = -1
      · refine ⟨((i : Int), pr i, A'), ⟨(q_bm_n hcd h1).symm, ?_, hfr⟩, fun f hf => ?_⟩
        · dsimp only
          rw [q_bm_n hcd h1, if_neg (by omega), Int.toNat_natCast]
        · dsimp only
          rw [hw1 f hf, if_pos c, if_pos h1]
      · rw [if_neg h1] at b2
        by_cases h2 : pr (q_bm cd pr i).toNat ≤ pr i
        · refine ⟨(q_bm cd pr i, v3, A'), ⟨(q_bm_k hcd h1 h2).symm, ?_, hfr⟩, fun f hf => ?_⟩
          · dsimp only
            rw [q_bm_k hcd h1 h2, if_neg h1, b2]
          · dsimp only
            rw [hw1 f hf, if_pos c, if_neg h1, if_neg (by rw [b2]; omega)]
        · refine ⟨((i : Int), pr i, A'), ⟨(q_bm_t hcd h1 h2).symm, ?_, hfr⟩, fun f hf => ?_⟩
          · dsimp only
            rw [q_bm_t hcd h1 h2, if_neg (by omega), Int.toNat_natCast]
          · dsimp only
            rw [hw1 f hf, if_pos c, if_neg h1, if_pos (by rw [b2]; omega)]
    · have hcd : cd i = false := by simp [cd, c]
      refine ⟨(q_bm cd pr i, v3, A'), ⟨(q_bm_f hcd).symm, ?_, hfr⟩, fun f hf => ?_⟩
      · dsimp only
        rw [q_bm_f hcd, b2]
      · dsimp only
        rw [hw1 f hf, if_neg c]) ⟨rfl, rfl, fun _ _ _ _ => rfl⟩
  dsimp only at d1 d2 d3
  obtain ⟨f', hf'⟩ : ∃ f', F = (f' + 1) + n * 1 := ⟨F - 1 - n, by omega⟩
  refine q_ok (M1 := A) (M2 := N) (v := if w = 0 then v2 else v3) k ?_ f1 ?_ (by rw [hM']; exact fun a j h1 h2 _ _ _ _ => d3 a j h1 h2)
  · unfold f_X10_cheapest
    rw [r_nw, if_pos hw, f_tl, hf']
    refine (hA (f' + 1) (by omega)).trans ?_
    show f_X10_cheapest_14 (f' + 1) w v2 v3 (n : Int) A = _
    rw [f_X10_cheapest_14, if_pos (by rw [b3 4 0 (by decide) (by decide), hT.2.2.2.1]; omega)]
    by_cases h0 : w = 0
    · rw [if_neg (not_not_intro h0), if_pos h0]
    · rw [if_pos h0, if_neg h0]
  · unfold f_X11_cheapest
    rw [r_in, f_bs, if_pos hw, if_pos (by decide), r_bad0 rfl, f_bs, if_pos rfl, hM', hf']
    refine (hN (f' + 1) (by omega)).trans ?_
    show f_X11_cheapest_37 (f' + 1) w u2 u3 (n : Int) N = _
    rw [f_X11_cheapest_37, if_pos (by rw [d3 68 0 (by decide) (by decide), hB2.1.2.2.2.2.2.2.1]; omega), d1, d2, b1, b2]
    by_cases h0 : w = 0
    · rw [if_neg (not_not_intro h0), if_pos h0]
    · rw [if_pos h0, if_neg h0]
