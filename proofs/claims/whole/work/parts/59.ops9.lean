/-! OPERATIONS, 9: crowd, open, met -/
def q_cw (cn : Nat → Nat) : Nat → Int × Int
  | 0 => (-1, 0)
  | i + 1 => if (cn i : Int) ≤ (q_cw cn i).2 then q_cw cn i else ((i : Int), (cn i : Int))
theorem q_cw_k {cn : Nat → Nat} {i : Nat} (h : (cn i : Int) ≤ (q_cw cn i).2) : q_cw cn (i + 1) = q_cw cn i := if_pos h
theorem q_cw_t {cn : Nat → Nat} {i : Nat} (h : ¬ (cn i : Int) ≤ (q_cw cn i).2) : q_cw cn (i + 1) = ((i : Int), (cn i : Int)) := if_neg h
theorem rn_open {M : e_M} {n m t : Nat} {wa : Nat → Int} {sk : Nat → Nat} {wo : Nat → Int} {ow : Nat → Nat} {fi L : Nat → Int} {x : Int} (hT : q_T n m t wa sk wo ow fi M) (hC : q_cn n t L M) : ∀ f, 12 < f → f_X3_openTasksOn_now f x M = some ((q_ct (fun k => decide (L (42 + k) = 0) && decide (L (30 + k) = x)) t : Int), M) := by
  intro f hf
  have ht12 := hT.2.2.1
  refine q_sq (fun f s i => f_X3_openTasksOn_now_4 f x s i M) (fun i => (q_ct (fun k => decide (L (42 + k) = 0) && decide (L (30 + k) = x)) i : Int)) t _ (fun f i hi => ?_) (fun f => ?_) f (by omega)
  · have hCi := hC.2.1 i hi
    rw [f_X3_openTasksOn_now_4, if_neg (by rw [hT.2.2.2.2.2.1]; omega), rn_isDone (D := q_bs (q_dn L) t) hC.2.2.2.2 (q_dn_lt ht12) (by omega), f_bs, q_bs_tbc hi, e_ws_ (x := (i : Int) + 1) (by omega) (by omega), if_pos (show 0 ≤ (i : Int) ∧ (i : Int) < 12 by omega), Int.toNat_natCast, hCi.1]
    rcases hCi.2 with c | c
    · rw [(q_dnf hCi.2).mpr c, if_neg (by decide)]
      by_cases c2 : L (30 + i) = x
      · rw [if_neg (not_not_intro c2), q_cti1 (c := fun k => decide (L (42 + k) = 0) && decide (L (30 + k) = x)) (n := i) (by omega) (by simp [c, c2])]
      · rw [if_pos c2, q_ct_0 (c := fun k => decide (L (42 + k) = 0) && decide (L (30 + k) = x)) (n := i) (by simp [c2])]
    · have hd : q_dn L i = true := by unfold q_dn; rw [c]; rfl
      rw [hd, if_pos rfl, if_pos (by decide), q_ct_0 (c := fun k => decide (L (42 + k) = 0) && decide (L (30 + k) = x)) (n := i) (by simp [c])]
  · rw [f_X3_openTasksOn_now_4, if_pos (by rw [hT.2.2.2.2.2.1]; omega)]
theorem o_crowd {F : Nat} (hF : 2000 < F) (w : Int) : q_o2 (f_X10_crowd F w) (f_X11_crowd F w) k_c1 := by
  intro M k
  have k' := k
  obtain ⟨n, m, t, wa, sk, wo, ow, fi, l, cw, cv, L, hB⟩ := k'
  have hT : q_T n m t wa sk wo ow fi M := hB.1
  have h6 := hT.1
  have hm := hT.2.1
  have ht12 := hT.2.2.1
  have hn := hT.2.2.2.2.2.2.1
  have hC : q_cn n t L M := hB.2.2.2.2.2.1.1
  have hLB : q_LB n t L := hB.2.2.2.2.2.1.2.2
  by_cases hw : ¬ (0 ≤ w ∧ w ≤ 1)
  · refine q_ref1 (b := 0) (c := 1) k rfl (by decide) ?_ ?_
    · unfold f_X10_crowd
      rw [r_nw, if_neg hw, f_tr]
    · unfold f_X11_crowd
      rw [r_in, f_bs, if_neg hw, if_neg (by decide), r_bada rfl (by decide), f_bs, if_neg (by decide)]
      rfl
  replace hw := Classical.not_not.mp hw
  let cn : Nat → Nat := fun m => q_ct (fun k => decide (L (42 + k) = 0) && decide (L (30 + k) = (m : Int))) t
  have e1 := q_seq 20 1 61 (fun f (a : Int × Int) i => f_X10_crowd_14 f w a.1 a.2 i M) (fun i => q_cw cn i) (fun f i hf hi => by
    rw [f_X10_crowd_14, if_neg (by omega), rn_open hT hC f (by omega), f_bs, e_ws_ (x := (i : Int) + 1) (by omega) (by omega)]
    by_cases c : (cn i : Int) ≤ (q_cw cn i).2
    · rw [if_pos c, q_cw_k c]
    · rw [if_neg c, q_cw_t c])
  have hB2 := q_B_f (q_fr_b (M := M) (M1 := M) (v := if w = 0 then (q_cw cn 61).1 else if (q_cw cn 61).1 = -1 then -1 else (q_cw cn 61).2) (fun _ _ _ => rfl)) hB
  refine q_ok (M1 := M) (v := if w = 0 then (q_cw cn 61).1 else if (q_cw cn 61).1 = -1 then -1 else (q_cw cn 61).2) k ?_ (fun _ _ _ => rfl) ?_ q_mf.rf
  · unfold f_X10_crowd
    rw [r_nw, if_pos hw, f_tl]
    obtain ⟨f', rfl⟩ : ∃ f', F = (f' + 1) + 61 * 1 := ⟨F - 62, by omega⟩
    refine (e1 (f' + 1) (by omega)).trans ?_
    show f_X10_crowd_14 (f' + 1) w _ _ ((61 : Nat) : Int) M = _
    rw [f_X10_crowd_14, if_pos (by omega)]
    by_cases h0 : w = 0
    · rw [if_neg (not_not_intro h0), if_pos h0]
      by_cases h1 : (q_cw cn 61).1 = -1
      · rw [if_neg (not_not_intro h1), h1]
      · rw [if_pos h1]
    · rw [if_pos h0, if_neg h0]
      by_cases h1 : (q_cw cn 61).1 = -1
      · rw [if_neg (not_not_intro h1), if_pos h1]
      · rw [if_pos h1, if_neg h1]
  · unfold f_X11_crowd
    rw [r_in, f_bs, if_pos hw, if_pos (by decide), r_bad0 rfl, f_bs, if_pos rfl]
    generalize e_up (e_up M 557 0 (if w = 0 then (q_cw cn 61).1 else if (q_cw cn 61).1 = -1 then -1 else (q_cw cn 61).2)) 64 0 0 = M' at hB2 ⊢
    have hR : q_ml M' 532 L := hB2.2.2.2.2.2.1.2.1
    have ht' := hB2.1.2.2.2.2.2.2.2.2.1
    have e3 := q_seq 0 (t + 2) 61 (fun f (a : Int × Int) i => f_X11_crowd_L37 f 0 w a.1 a.2 i 0 0 M') (fun i => q_cw cn i) (fun f i _ hi => by
      have e2 := q_seq 0 1 t (fun f s j => f_X11_crowd_L37 f 1 w (q_cw cn i).1 (q_cw cn i).2 (i : Int) s j M') (fun j => (q_ct (fun k => decide (L (42 + k) = 0) && decide (L (30 + k) = (i : Int))) j : Int)) (fun f j _ hj => by
        rw [f_X11_crowd_L37, if_neg (by decide), if_neg (by omega), e_ws_ (x := 42 + (j : Int)) (by omega) (by omega), if_pos (show 0 ≤ 42 + (j : Int) ∧ 42 + (j : Int) < 56 by omega), e_ws_ (x := 30 + (j : Int)) (by omega) (by omega), if_pos (show 0 ≤ 30 + (j : Int) ∧ 30 + (j : Int) < 56 by omega), q_t42, q_t30, hR (42 + j) (by omega), hR (30 + j) (by omega), e_ws_ (x := (j : Int) + 1) (by omega) (by omega)]
        by_cases c : L (42 + j) = 0
        · rw [if_neg (not_not_intro c)]
          by_cases c2 : L (30 + j) = (i : Int)
          · rw [if_neg (not_not_intro c2), q_cti1 (c := fun k => decide (L (42 + k) = 0) && decide (L (30 + k) = (i : Int))) (n := j) (by omega) (by simp [c, c2])]
          · rw [if_pos c2, q_cti0 (c := fun k => decide (L (42 + k) = 0) && decide (L (30 + k) = (i : Int))) (n := j) (by omega) (by simp [c2])]
        · rw [if_pos c, q_cti0 (c := fun k => decide (L (42 + k) = 0) && decide (L (30 + k) = (i : Int))) (n := j) (by omega) (by simp [c])]) (f + 1) (by omega)
      rw [show f + (t + 2) = (f + 1 + t * 1) + 1 by omega, f_X11_crowd_L37, if_pos rfl, if_neg (by omega)]
      refine e2.trans ?_
      rw [f_X11_crowd_L37, if_neg (by decide), if_pos (by omega), e_ws_ (x := (i : Int) + 1) (by omega) (by omega)]
      by_cases c : (cn i : Int) ≤ (q_cw cn i).2
      · rw [if_neg (show ¬ (q_cw cn i).2 < (cn i : Int) by omega), q_cw_k c]
      · rw [if_pos (show (q_cw cn i).2 < (cn i : Int) by omega), q_cw_t c])
    have hmul : 61 * (t + 2) ≤ 61 * 14 := Nat.mul_le_mul (Nat.le_refl _) (by omega)
    obtain ⟨f', rfl⟩ : ∃ f', F = (f' + 1) + 61 * (t + 2) := ⟨F - 1 - 61 * (t + 2), by omega⟩
    refine (e3 (f' + 1) (by omega)).trans ?_
    show f_X11_crowd_L37 (f' + 1) 0 w _ _ ((61 : Nat) : Int) 0 0 M' = _
    rw [f_X11_crowd_L37, if_pos rfl, if_pos (by omega)]
    by_cases h0 : w = 0
    · rw [if_pos h0, if_pos h0]
    · rw [if_neg h0, if_neg h0]
      by_cases h1 : (q_cw cn 61).1 = -1
      · rw [if_neg (not_not_intro h1), if_pos h1, h1]
      · rw [if_pos h1, if_neg h1]
section OP
variable {f : Nat} {v w z a b c : Int} {M : e_M}
theorem op_s00 : f_X10_shopHas 0 0 v w M = some (v, M) := rfl
theorem op_s01 : f_X10_shopHas 0 1 v w M = some (w, M) := rfl
theorem op_s10 : f_X10_shopHas 1 0 v w M = some (-1, M) := rfl
theorem op_s11 : f_X10_shopHas 1 1 v w M = some (0, M) := rfl
theorem op_w1 : e_w (1 - 0) = 1 := by decide
theorem op_w0 : e_w (1 - 1) = 0 := by decide
theorem op_a1 : e_w (0 + 1) = 1 := by decide
theorem op_a2 : e_w (1 + 1) = 2 := by decide
theorem op_m0 : e_w (e_w (10 * 0) + 0) = 0 := by decide
theorem op_c00 (hv : 0 ≤ v) : f_X10_open_L35 (f + 1) 1 v w z 0 (-1) 0 0 0 M = f_X10_open_L35 f 1 v w z 1 0 (e_w (v + v)) 0 1 M := by
  rw [f_X10_open_L35, if_neg (by decide), if_neg (by decide), op_s00, f_bs, op_s00, f_bs, op_w1, op_s10, f_bs, if_neg (by omega), op_s10, f_bs, if_neg (by omega), if_neg (by decide), op_a1, op_m0]
theorem op_c01 (hv : 0 ≤ v) (hw : 0 ≤ w) : f_X10_open_L35 (f + 1) 1 v w z a b c 0 1 M = f_X10_open_L35 f 1 v w z a b c 0 2 M := by
  rw [f_X10_open_L35, if_neg (by decide), if_neg (by decide), op_s01, f_bs, op_s10, f_bs, op_w1, op_s11, f_bs, if_neg (by omega), op_w0, op_s00, f_bs, if_pos (by omega), op_a2]
theorem op_c10 (hv : 0 ≤ v) : f_X10_open_L35 (f + 1) 1 v w z a b c 1 0 M = f_X10_open_L35 f 1 v w z a b c 1 1 M := by
  rw [f_X10_open_L35, if_neg (by decide), if_neg (by decide), op_s10, f_bs, op_s01, f_bs, op_w0, op_s00, f_bs, if_pos (by omega), op_a1]
theorem op_c11p (hw : 0 < w) : f_X10_open_L35 (f + 1) 1 v w z a b c 1 1 M = f_X10_open_L35 f 1 v w z a b c 1 2 M := by
  rw [f_X10_open_L35, if_neg (by decide), if_neg (by decide), op_s11, f_bs, op_s11, f_bs, op_w0, op_s01, f_bs, if_pos hw, op_a2]
theorem op_c11z : f_X10_open_L35 (f + 1) 1 v 0 z 1 b c 1 1 M = f_X10_open_L35 f 1 v 0 z 2 b c 1 2 M := by
  rw [f_X10_open_L35, if_neg (by decide), if_neg (by decide), op_s11, f_bs, op_s11, f_bs, op_w0, op_s01, f_bs, if_neg (by decide), op_s01, f_bs, if_neg (by decide), if_pos (by decide), op_a2]
theorem op_c2 {i : Int} : f_X10_open_L35 (f + 1) 1 v w z a b c i 2 M = f_X10_open_L35 f 0 v w z a b c (e_w (i + 1)) 0 M := by
  rw [f_X10_open_L35, if_neg (by decide), if_pos (by decide)]
theorem op_c0 {i : Int} (h : ¬ 1 < i) : f_X10_open_L35 (f + 1) 0 v w z a b c i 0 M = f_X10_open_L35 f 1 v w z a b c i 0 M := by
  rw [f_X10_open_L35, if_pos rfl, if_neg h]
theorem op_b00 : f_X11_hasBy 0 0 v w M = some (v, M) := rfl
theorem op_b01 : f_X11_hasBy 0 1 v w M = some (w, M) := rfl
theorem op_b10 : f_X11_hasBy 1 0 v w M = some (-1, M) := rfl
theorem op_b11 : f_X11_hasBy 1 1 v w M = some (0, M) := rfl
theorem op_i00 (hv : 0 ≤ v) : f_X11_isBest 0 0 v w M = some (1, M) := by
  unfold f_X11_isBest
  rw [op_b00, f_bs, op_w1, op_b10, f_bs, if_neg (by omega)]
theorem op_i01 (hw : 0 ≤ w) : f_X11_isBest 0 1 v w M = some (1, M) := by
  unfold f_X11_isBest
  rw [op_b01, f_bs, op_w1, op_b11, f_bs, if_neg (by omega)]
theorem op_i10 (hv : 0 ≤ v) : f_X11_isBest 1 0 v w M = some (0, M) := by
  unfold f_X11_isBest
  rw [op_b10, f_bs, op_w0, op_b00, f_bs, if_pos (by omega)]
theorem op_i11p (hw : 0 < w) : f_X11_isBest 1 1 v w M = some (0, M) := by
  unfold f_X11_isBest
  rw [op_b11, f_bs, op_w0, op_b01, f_bs, if_pos hw]
theorem op_i11z : f_X11_isBest 1 1 v 0 M = some (1, M) := by
  unfold f_X11_isBest
  rw [op_b11, f_bs, op_w0, op_b01, f_bs, if_neg (by decide)]
theorem op_d00 (hv : 0 ≤ v) : f_X11_open_L62 (f + 1) 1 v w z 0 (-1) 0 0 0 M = f_X11_open_L62 f 1 v w z 1 0 (e_w (v + v)) 0 1 M := by
  rw [f_X11_open_L62, if_neg (by decide), if_neg (by decide), op_i00 hv, f_bs, if_neg (by decide), op_i00 hv, f_bs, if_pos (by decide), if_neg (by decide), op_b00, f_bs, op_b00, f_bs, if_neg (by decide), op_a1, op_m0]
theorem op_d01 (hv : 0 ≤ v) (hw : 0 ≤ w) : f_X11_open_L62 (f + 1) 1 v w z a b c 0 1 M = f_X11_open_L62 f 1 v w z a b c 0 2 M := by
  rw [f_X11_open_L62, if_neg (by decide), if_neg (by decide), op_i01 hw, f_bs, if_neg (by decide), op_i10 hv, f_bs, if_neg (by decide), op_a2]
theorem op_d10 (hv : 0 ≤ v) : f_X11_open_L62 (f + 1) 1 v w z a b c 1 0 M = f_X11_open_L62 f 1 v w z a b c 1 1 M := by
  rw [f_X11_open_L62, if_neg (by decide), if_neg (by decide), op_i10 hv, f_bs, if_pos rfl, op_a1]
theorem op_d11p (hw : 0 < w) : f_X11_open_L62 (f + 1) 1 v w z a b c 1 1 M = f_X11_open_L62 f 1 v w z a b c 1 2 M := by
  rw [f_X11_open_L62, if_neg (by decide), if_neg (by decide), op_i11p hw, f_bs, if_pos rfl, op_a2]
theorem op_d11z : f_X11_open_L62 (f + 1) 1 v 0 z 1 b c 1 1 M = f_X11_open_L62 f 1 v 0 z 2 b c 1 2 M := by
  rw [f_X11_open_L62, if_neg (by decide), if_neg (by decide), op_i11z, f_bs, if_neg (by decide), op_i11z, f_bs, if_pos (by decide), if_pos (by decide), if_pos (by decide), op_a2]
theorem op_d2 {i : Int} : f_X11_open_L62 (f + 1) 1 v w z a b c i 2 M = f_X11_open_L62 f 0 v w z a b c (e_w (i + 1)) 0 M := by
  rw [f_X11_open_L62, if_neg (by decide), if_pos (by decide)]
theorem op_d0 {i : Int} (h : ¬ 2 ≤ i) : f_X11_open_L62 (f + 1) 0 v w z a b c i 0 M = f_X11_open_L62 f 1 v w z a b c i 0 M := by
  rw [f_X11_open_L62, if_pos rfl, if_neg h]
end OP
theorem o_open {F : Nat} (hF : 300 < F) (v w z : Int) : q_o2 (f_X10_open F v w z) (f_X11_open F v w z) k_c1 := by
  intro M k
  have k' := k
  obtain ⟨n, m, t, wa, sk, wo, ow, fi, l, cw, cv, L, hB⟩ := k'
  have hT : q_T n m t wa sk wo ow fi M := hB.1
  have h6 := hT.1
  have hm := hT.2.1
  have ht12 := hT.2.2.1
  have hn := hT.2.2.2.2.2.2.1
  have hC : q_cn n t L M := hB.2.2.2.2.2.1.1
  have hLB : q_LB n t L := hB.2.2.2.2.2.1.2.2
  by_cases hv : ¬ (0 ≤ v ∧ v ≤ 99)
  · refine q_ref1 (b := 0) (c := 1) k rfl (by decide) ?_ ?_
    · unfold f_X10_open
      rw [r_nw, if_neg hv, f_tr]
    · unfold f_X11_open
      rw [r_in, f_bs, if_neg hv, if_pos rfl, r_bada rfl (by decide), f_bs, if_neg (by decide)]
      rfl
  replace hv := Classical.not_not.mp hv
  by_cases hw : ¬ (0 ≤ w ∧ w ≤ 99)
  · refine q_ref1 (b := 0) (c := 1) k rfl (by decide) ?_ ?_
    · unfold f_X10_open
      rw [r_nw, if_pos hv, f_tl, r_nw, if_neg hw, f_tr]
    · unfold f_X11_open
      rw [r_in, f_bs, if_pos hv, if_neg (by decide), r_in, f_bs, if_neg hw, if_pos rfl, r_bada rfl (by decide), f_bs, if_neg (by decide)]
      rfl
  replace hw := Classical.not_not.mp hw
  by_cases hz : ¬ (0 ≤ z ∧ z ≤ 2)
  · refine q_ref1 (b := 0) (c := 1) k rfl (by decide) ?_ ?_
    · unfold f_X10_open
      rw [r_nw, if_pos hv, f_tl, r_nw, if_pos hw, f_tl, r_nw, if_neg hz, f_tr]
    · unfold f_X11_open
      rw [r_in, f_bs, if_pos hv, if_neg (by decide), r_in, f_bs, if_pos hw, if_neg (by decide), r_in, f_bs, if_neg hz, if_neg (by decide), r_bada rfl (by decide), f_bs, if_neg (by decide)]
      rfl
  replace hz := Classical.not_not.mp hz
  have hvv : e_w (v + v) = v + v := e_ws_ (by omega) (by omega)
  obtain ⟨f, rfl⟩ : ∃ f, F = f + 1 + 1 + 1 + 1 + 1 + 1 + 1 + 1 + 1 := ⟨F - 9, by omega⟩
  have hc : z = 0 ∨ z = 1 ∨ z = 2 := by omega
  refine q_ok (M1 := M) (v := if z = 0 then (if w = 0 then 2 else 1) else if z = 1 then 0 else v + v) k ?_ (fun _ _ _ => rfl) ?_ q_mf.rf
  · unfold f_X10_open
    rw [r_nw, if_pos hv, f_tl, r_nw, if_pos hw, f_tl, r_nw, if_pos hz, f_tl, op_c0 (by decide), op_c00 hv.1, op_c01 hv.1 hw.1, op_c2, op_a1, op_c0 (by decide), op_c10 hv.1]
    by_cases c : w = 0
    · subst c
      rw [op_c11z, op_c2, op_a2, f_X10_open_L35, if_pos rfl, if_pos (by decide), hvv]
      rcases hc with rfl | rfl | rfl <;> rfl
    · rw [op_c11p (by omega), op_c2, op_a2, f_X10_open_L35, if_pos rfl, if_pos (by decide), hvv, if_neg c]
      rcases hc with rfl | rfl | rfl <;> rfl
  · unfold f_X11_open
    rw [r_in, f_bs, if_pos hv, if_neg (by decide), r_in, f_bs, if_pos hw, if_neg (by decide), r_in, f_bs, if_pos hz, if_pos (by decide), r_bad0 rfl, f_bs, if_pos rfl]
    generalize e_up (e_up M 557 0 (if z = 0 then (if w = 0 then 2 else 1) else if z = 1 then 0 else v + v)) 64 0 0 = M'
    rw [op_d0 (by decide), op_d00 hv.1, op_d01 hv.1 hw.1, op_d2, op_a1, op_d0 (by decide), op_d10 hv.1]
    by_cases c : w = 0
    · subst c
      rw [op_d11z, op_d2, op_a2, f_X11_open_L62, if_pos rfl, if_pos (by decide), hvv]
      rcases hc with rfl | rfl | rfl <;> rfl
    · rw [op_d11p (by omega), op_d2, op_a2, f_X11_open_L62, if_pos rfl, if_pos (by decide), hvv, if_neg c]
      rcases hc with rfl | rfl | rfl <;> rfl
