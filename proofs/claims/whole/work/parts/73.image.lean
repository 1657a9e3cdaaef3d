/-! OPERATIONS, 23: image, restore -/
theorem u_id {M : e_M} {a k : Nat} {v : Int} (h : M a k = v) : e_up M a k v = M := by
  funext b j
  by_cases e : b = a
  · subst e
    by_cases e2 : j = k
    · subst e2; rw [u_s, h]
    · rw [u_c e2]
  · rw [u_r e]
theorem z_CLc {n t : Nat} {C C' L L' : Nat → Int} (h6 : n ≤ 6) (h12 : t ≤ 12) (h1 : ∀ j, j < 45 → C' j = C j) (h2 : ∀ j, j < 56 → L' j = L j) (h : q_CL n t C L) : q_CL n t C' L' := by
  obtain ⟨k1, k2, k3, k4, k5⟩ := h
  refine ⟨fun p hp => ?_, fun k hk => ?_, ?_, ?_, ?_⟩
  · rw [h1 p (by omega), h1 (6 + p) (by omega), h1 (12 + p) (by omega), h1 (18 + p) (by omega), h1 (24 + p) (by omega), h2 p (by omega), h2 (6 + p) (by omega), h2 (12 + p) (by omega), h2 (18 + p) (by omega), h2 (24 + p) (by omega)]
    exact k1 p hp
  · rw [h1 (30 + k) (by omega), h2 (30 + k) (by omega), h2 (42 + k) (by omega)]
    exact k2 k hk
  · rw [h1 42 (by omega), h2 55 (by omega)]; exact k3
  · rw [h1 43 (by omega), h2 54 (by omega)]; exact k4
  · rw [h1 44 (by omega), q_bs_congr (c := q_dn L') (d := q_dn L) (fun k hk => by unfold q_dn; rw [h2 (42 + k) (by omega)])]
    exact k5
theorem z_LBc {n t : Nat} {L L' : Nat → Int} (h6 : n ≤ 6) (h12 : t ≤ 12) (h2 : ∀ j, j < 56 → L' j = L j) (h : q_LB n t L) : q_LB n t L' := by
  obtain ⟨k1, k2, k3, k4, k5, k6⟩ := h
  unfold q_LB
  rw [h2 55 (by omega), h2 54 (by omega)]
  refine ⟨k1, k2, k3, k4, fun p hp => ?_, fun k hk => ?_⟩
  · rw [h2 p (by omega), h2 (6 + p) (by omega), h2 (12 + p) (by omega), h2 (18 + p) (by omega)]
    exact k5 p hp
  · rw [h2 (30 + k) (by omega)]
    exact k6 k hk
theorem z_ps {M : e_M} {q sp : Nat} {v : Int} (hq : q ≠ 64) (h : M 64 39 = (sp : Int)) (hs : sp < 953) : f_X11_puts q v 0 M = some (v, e_up (e_up M q sp v) 64 39 ((sp + 1 : Nat) : Int)) := by
  unfold f_X11_puts
  rw [if_neg (by decide), h, if_pos (show 0 ≤ (sp : Int) ∧ (sp : Int) < 953 by omega), Int.toNat_natCast, u_r (show (64 : Nat) ≠ q by omega), h, y_ei (by omega), u_s, e_ws_ (x := ((sp + 1 : Nat) : Int) - 1) (by omega) (by omega), show ((sp + 1 : Nat) : Int) - 1 = (sp : Int) by omega, if_pos (show 0 ≤ (sp : Int) ∧ (sp : Int) < 953 by omega), Int.toNat_natCast, u_r hq, u_s]
theorem z_pl {M : e_M} {q sp : Nat} {v : Int} (hq : q ≠ 64) (h : M 64 39 = (sp : Int)) (hs : sp < 953) : f_X11_puts q v 1 M = some (M q sp, e_up M 64 39 ((sp + 1 : Nat) : Int)) := by
  unfold f_X11_puts
  rw [if_pos (by decide), h, y_ei (by omega), u_s, e_ws_ (x := ((sp + 1 : Nat) : Int) - 1) (by omega) (by omega), show ((sp + 1 : Nat) : Int) - 1 = (sp : Int) by omega, if_pos (show 0 ≤ (sp : Int) ∧ (sp : Int) < 953 by omega), Int.toNat_natCast, u_r hq]
def z_ct (M : e_M) (k : Nat) : Int := if k = 0 then M 64 36 else if k < 57 then M 532 (k - 1) else M (535 + (k - 57) / 56) ((k - 57) % 56)
def z_I (q : Nat) (M : e_M) (sp : Nat) (A : e_M) : Prop := A 64 39 = (sp : Int) ∧ (∀ k, k < sp → A q k = z_ct M k) ∧ ∀ a j, a ≠ q → ¬ (a = 64 ∧ j = 39) → A a j = M a j
theorem z_ss {q sp : Nat} {M A : e_M} (hq : q ≠ 64) (hs : sp < 953) (h : z_I q M sp A) : ∃ A', f_X11_puts q (z_ct M sp) 0 A = some (z_ct M sp, A') ∧ z_I q M (sp + 1) A' := by
  obtain ⟨h1, h2, h3⟩ := h
  refine ⟨_, z_ps hq h1 hs, u_s _ _ _ _, fun k hk => ?_, fun a j x1 x2 => ?_⟩
  · rw [u_r hq]
    by_cases e : k = sp
    · rw [e, u_s]
    · rw [u_c e, h2 k (by omega)]
  · by_cases e : a = 64
    · subst e
      rw [u_c (by omega), u_r x1, h3 64 j x1 x2]
    · rw [u_r e, u_r x1, h3 a j x1 x2]
theorem z_st {M : e_M} {q : Nat} (hq : 551 < q) : ∃ N, (∀ f, 1200 < f → f_X11_putsAll q f 0 M = some (0, N)) ∧ z_I q M 953 N := by
  have hI0 : z_I q M 0 (e_up M 64 39 0) := ⟨u_s _ _ _ _, fun k hk => absurd hk (by omega), fun a j x1 x2 => by
    by_cases e : a = 64
    · subst e; exact u_c (by omega)
    · exact u_r e⟩
  obtain ⟨A0, s1, s2⟩ := z_ss (by omega) (by omega) hI0
  obtain ⟨A1, b1, hA1⟩ := q_run 0 1 56 (fun f (A : e_M) i => f_X11_putsAll_21 q f 0 i A) (fun i A => z_I q M (1 + i) A) (a := A0) (fun i A hi hA => by
    obtain ⟨A', c1, c2⟩ := z_ss (by omega) (by omega) hA
    have ec : z_ct M (1 + i) = M 532 i := by
      unfold z_ct
      rw [if_neg (by omega), if_pos (by omega), show 1 + i - 1 = i by omega]
    rw [ec] at c1
    refine ⟨A', c2, fun f hf => ?_⟩
    rw [f_X11_putsAll_21, if_neg (by omega), if_pos (show 0 ≤ (i : Int) ∧ (i : Int) < 56 by omega), Int.toNat_natCast, hA.2.2 532 i (by omega) (by omega), c1, f_bs, if_pos (show 0 ≤ (i : Int) ∧ (i : Int) < 56 by omega), u_id (by rw [c2.2.2 532 i (by omega) (by omega)]), e_ws_ (x := (i : Int) + 1) (by omega) (by omega)]) s2
  obtain ⟨A2, b2, hA2⟩ := q_run 0 58 16 (fun f (A : e_M) i => f_X11_putsAll_L53 q f 0 0 i 0 A) (fun w A => z_I q M (57 + 56 * w) A) (a := A1) (fun w A hw hA => by
    obtain ⟨A', d1, d2⟩ := q_run 0 1 56 (fun f (A : e_M) i => f_X11_putsAll_L53 q f 1 0 (w : Int) i A) (fun i A => z_I q M (57 + 56 * w + i) A) (a := A) (fun i A hi hA => by
      obtain ⟨A', c1, c2⟩ := z_ss (by omega) (by omega) hA
      have ec : z_ct M (57 + 56 * w + i) = M (535 + w) i := by
        unfold z_ct
        rw [if_neg (by omega), if_neg (by omega), show (57 + 56 * w + i - 57) / 56 = w by omega, show (57 + 56 * w + i - 57) % 56 = i by omega]
      rw [ec] at c1
      refine ⟨A', c2, fun f hf => ?_⟩
      rw [f_X11_putsAll_L53, if_neg (by decide), if_neg (by omega), if_pos (show 0 ≤ (w : Int) ∧ (w : Int) < 16 by omega), if_pos (show 0 ≤ (w : Int) ∧ (w : Int) < 16 by omega), if_pos (show 0 ≤ (i : Int) ∧ (i : Int) < 56 by omega), Int.toNat_natCast, Int.toNat_natCast, hA.2.2 (535 + w) i (by omega) (by omega), c1, f_bs, if_pos (show 0 ≤ (i : Int) ∧ (i : Int) < 56 by omega), u_id (by rw [c2.2.2 (535 + w) i (by omega) (by omega)]), e_ws_ (x := (i : Int) + 1) (by omega) (by omega)]) hA
    refine ⟨A', by rw [show 57 + 56 * (w + 1) = 57 + 56 * w + 56 by omega]; exact d1, fun f hf => ?_⟩
    rw [show f + 58 = (f + 1 + 56 * 1) + 1 by omega, f_X11_putsAll_L53, if_pos rfl, if_neg (by omega)]
    refine Eq.trans (d2 (f + 1) (by omega)) ?_
    show f_X11_putsAll_L53 q (f + 1) 1 0 (w : Int) ((56 : Nat) : Int) A' = _
    rw [f_X11_putsAll_L53, if_neg (by decide), if_pos (by decide), e_ws_ (x := (w : Int) + 1) (by omega) (by omega)]) b1
  refine ⟨A2, fun f hf => ?_, b2⟩
  have e0 : z_ct M 0 = M 64 36 := rfl
  rw [e0] at s1
  unfold f_X11_putsAll
  rw [u_c (show (36 : Nat) ≠ 39 by decide), s1, f_bs, u_id (by rw [s2.2.2 64 36 (by omega) (by omega)])]
  obtain ⟨f', rfl⟩ : ∃ f', f = ((f' + 1) + 16 * 58) + 1 + 56 * 1 := ⟨f - 986, by omega⟩
  refine Eq.trans (hA1 ((f' + 1) + 16 * 58 + 1) (by omega)) ?_
  show f_X11_putsAll_21 q ((f' + 1) + 16 * 58 + 1) 0 ((56 : Nat) : Int) A1 = _
  rw [f_X11_putsAll_21, if_pos (by decide)]
  refine Eq.trans (hA2 (f' + 1) (by omega)) ?_
  show f_X11_putsAll_L53 q (f' + 1) 0 0 ((16 : Nat) : Int) 0 A2 = _
  rw [f_X11_putsAll_L53, if_pos rfl, if_pos (by decide)]
def z_J (q : Nat) (M : e_M) (sp : Nat) (A : e_M) : Prop := A 64 39 = (sp : Int) ∧ (0 < sp → A 64 36 = M q 0) ∧ (∀ j, j < 56 → 1 + j < sp → A 532 j = M q (1 + j)) ∧ (∀ w j, w < 16 → j < 56 → 57 + 56 * w + j < sp → A (535 + w) j = M q (57 + 56 * w + j)) ∧ ∀ a j, a ≠ 532 → ¬ (535 ≤ a ∧ a ≤ 550) → ¬ (a = 64 ∧ (j = 36 ∨ j = 39)) → A a j = M a j
theorem z_lo {M : e_M} {q : Nat} (hq : 551 < q) : ∃ N, (∀ f, 1200 < f → f_X11_putsAll q f 1 M = some (0, N)) ∧ z_J q M 953 N := by
  have hJ0 : (e_up M 64 39 0) 64 39 = ((0 : Nat) : Int) := u_s _ _ _ _
  have s1 := z_pl (v := (e_up M 64 39 0) 64 36) (show q ≠ 64 by omega) hJ0 (by omega)
  rw [u_r (show q ≠ 64 by omega)] at s1
  have s2 : z_J q M (1 + 0) (e_up (e_up (e_up M 64 39 0) 64 39 ((0 + 1 : Nat) : Int)) 64 36 (M q 0)) := by
    refine ⟨by rw [u_c (by decide), u_s], fun _ => u_s _ _ _ _, fun j _ h => absurd h (by omega), fun w j _ _ h => absurd h (by omega), fun a j x1 x2 x3 => ?_⟩
    by_cases e : a = 64
    · subst e
      rw [u_c (by omega), u_c (by omega), u_c (by omega)]
    · rw [u_r e, u_r e, u_r e]
  obtain ⟨A1, b1, hA1⟩ := q_run 0 1 56 (fun f (A : e_M) i => f_X11_putsAll_21 q f 1 i A) (fun i A => z_J q M (1 + i) A) (a := e_up (e_up (e_up M 64 39 0) 64 39 ((0 + 1 : Nat) : Int)) 64 36 (M q 0)) (fun i A hi hA => by
    have c1 := z_pl (v := A 532 i) (show q ≠ 64 by omega) hA.1 (by omega)
    rw [hA.2.2.2.2 q (1 + i) (by omega) (by omega) (by omega)] at c1
    refine ⟨e_up (e_up A 64 39 ((1 + i + 1 : Nat) : Int)) 532 i (M q (1 + i)), ⟨?_, fun _ => ?_, fun j hj hj2 => ?_, fun w j _ _ h => absurd h (by omega), fun a j x1 x2 x3 => ?_⟩, fun f hf => ?_⟩
    · rw [u_r (by decide), u_s]; rfl
    · rw [u_r (by decide), u_c (by decide)]; exact hA.2.1 (by omega)
    · by_cases e : j = i
      · rw [e, u_s]
      · rw [u_c e, u_r (by decide)]; exact hA.2.2.1 j hj (by omega)
    · rw [u_r x1]
      by_cases e : a = 64
      · subst e
        rw [u_c (by omega)]; exact hA.2.2.2.2 64 j x1 x2 x3
      · rw [u_r e]; exact hA.2.2.2.2 a j x1 x2 x3
    · rw [f_X11_putsAll_21, if_neg (by omega), if_pos (show 0 ≤ (i : Int) ∧ (i : Int) < 56 by omega), Int.toNat_natCast, c1, f_bs, if_pos (show 0 ≤ (i : Int) ∧ (i : Int) < 56 by omega), e_ws_ (x := (i : Int) + 1) (by omega) (by omega)]) s2
  obtain ⟨A2, b2, hA2⟩ := q_run 0 58 16 (fun f (A : e_M) i => f_X11_putsAll_L53 q f 0 1 i 0 A) (fun w A => z_J q M (57 + 56 * w) A) (a := A1) (fun w A hw hA => by
    obtain ⟨A', d1, d2⟩ := q_run 0 1 56 (fun f (A : e_M) i => f_X11_putsAll_L53 q f 1 1 (w : Int) i A) (fun i A => z_J q M (57 + 56 * w + i) A) (a := A) (fun i A hi hA => by
      have c1 := z_pl (v := A (535 + w) i) (show q ≠ 64 by omega) hA.1 (by omega)
      rw [hA.2.2.2.2 q (57 + 56 * w + i) (by omega) (by omega) (by omega)] at c1
      refine ⟨e_up (e_up A 64 39 ((57 + 56 * w + i + 1 : Nat) : Int)) (535 + w) i (M q (57 + 56 * w + i)), ⟨?_, fun _ => ?_, fun j hj hj2 => ?_, fun w' j hw' hj h => ?_, fun a j x1 x2 x3 => ?_⟩, fun f hf => ?_⟩
      · rw [u_r (by omega), u_s]; rfl
      · rw [u_r (by omega), u_c (by decide)]; exact hA.2.1 (by omega)
      · rw [u_r (by omega), u_r (by decide)]; exact hA.2.2.1 j hj (by omega)
      · by_cases e : w' = w
        · subst e
          by_cases e2 : j = i
          · rw [e2, u_s]
          · rw [u_c e2, u_r (by omega)]; exact hA.2.2.2.1 w' j hw' hj (by omega)
        · rw [u_r (by omega), u_r (by omega)]; exact hA.2.2.2.1 w' j hw' hj (by omega)
      · rw [u_r (by omega)]
        by_cases e : a = 64
        · subst e
          rw [u_c (by omega)]; exact hA.2.2.2.2 64 j x1 x2 x3
        · rw [u_r e]; exact hA.2.2.2.2 a j x1 x2 x3
      · rw [f_X11_putsAll_L53, if_neg (by decide), if_neg (by omega), if_pos (show 0 ≤ (w : Int) ∧ (w : Int) < 16 by omega), if_pos (show 0 ≤ (w : Int) ∧ (w : Int) < 16 by omega), if_pos (show 0 ≤ (i : Int) ∧ (i : Int) < 56 by omega), Int.toNat_natCast, Int.toNat_natCast, c1, f_bs, if_pos (show 0 ≤ (i : Int) ∧ (i : Int) < 56 by omega), e_ws_ (x := (i : Int) + 1) (by omega) (by omega)]) hA
    refine ⟨A', by rw [show 57 + 56 * (w + 1) = 57 + 56 * w + 56 by omega]; exact d1, fun f hf => ?_⟩
    rw [show f + 58 = (f + 1 + 56 * 1) + 1 by omega, f_X11_putsAll_L53, if_pos rfl, if_neg (by omega)]
    refine Eq.trans (d2 (f + 1) (by omega)) ?_
    show f_X11_putsAll_L53 q (f + 1) 1 1 (w : Int) ((56 : Nat) : Int) A' = _
    rw [f_X11_putsAll_L53, if_neg (by decide), if_pos (by decide), e_ws_ (x := (w : Int) + 1) (by omega) (by omega)]) b1
  refine ⟨A2, fun f hf => ?_, b2⟩
  unfold f_X11_putsAll
  rw [s1, f_bs]
  obtain ⟨f', rfl⟩ : ∃ f', f = ((f' + 1) + 16 * 58) + 1 + 56 * 1 := ⟨f - 986, by omega⟩
  refine Eq.trans (hA1 ((f' + 1) + 16 * 58 + 1) (by omega)) ?_
  show f_X11_putsAll_21 q ((f' + 1) + 16 * 58 + 1) 1 ((56 : Nat) : Int) A1 = _
  rw [f_X11_putsAll_21, if_pos (by decide)]
  refine Eq.trans (hA2 (f' + 1) (by omega)) ?_
  show f_X11_putsAll_L53 q (f' + 1) 0 1 ((16 : Nat) : Int) 0 A2 = _
  rw [f_X11_putsAll_L53, if_pos rfl, if_pos (by decide)]
theorem z_cf {M : e_M} {a0 b0 n0 a1 b1 n1 h : Nat} (h1 : M a1 1 = (h : Int)) (hn0 : 45 * h ≤ n0) (hn1 : 45 * h ≤ n1) (hx : h ≤ 17) : f_X5_copyFrom a0 b0 n0 a1 b1 n1 M = some (0, e_cp (e_up M a0 1 (h : Int)) b1 0 b0 0 (45 * h)) := by
  unfold f_X5_copyFrom
  rw [h1, u_s, e_ws_ (x := (h : Int) * 45) (by omega) (by omega), show (h : Int) * 45 = ((45 * h : Nat) : Int) by omega, if_pos (by omega), if_pos (by omega), if_pos (by omega), Int.toNat_natCast]
theorem o_image {F : Nat} (hF : 2000 < F) : q_o1 f_X10_image (f_X11_image F) := by
  intro M k
  have k' := k
  obtain ⟨n, m, t, wa, sk, wo, ow, fi, l, cw, cv, L, hT, hK1, hK2, hLa, hK5, hLi, hK7, hK8⟩ := k'
  have h6 := hT.1
  have h12 := hT.2.2.1
  have hK7' := hK7
  obtain ⟨h, hh, hx, hm, hrow⟩ := hK7'
  obtain ⟨g, hg, gx, gm, gi⟩ := hK8
  by_cases c : g = 3
  · subst c
    refine ⟨-1, M, e_up M 64 0 0, ?_, ?_, q_K_f (q_fr_b1 (M := M) (M1 := M) (fun _ _ _ => rfl)) k⟩
    · unfold f_X10_image
      rw [gx, if_neg (by decide)]
    · unfold f_X11_image
      rw [u_c (show (38 : Nat) ≠ 0 by decide), gm, if_neg (by decide)]
  · -- the class's side
    have frC : ∀ a j, ¬ (a = 58 + 2 * g ∧ j = 1) → a ≠ 59 + 2 * g → (e_cp (e_up M (58 + 2 * g) 1 (h : Int)) 56 0 (59 + 2 * g) 0 (45 * h)) a j = M a j := fun a j x1 x2 => by
      rw [cp_r x2]
      by_cases e : a = 58 + 2 * g
      · subst e; exact u_c (by omega)
      · exact u_r e
    have cb : ∀ j, j < 45 * h → (e_cp (e_up M (58 + 2 * g) 1 (h : Int)) 56 0 (59 + 2 * g) 0 (45 * h)) (59 + 2 * g) j = M 56 j := fun j hj => by
      rw [cp_i (by omega), u_r (by omega), show 0 + (j - 0) = j by omega]
    have ca : (e_cp (e_up M (58 + 2 * g) 1 (h : Int)) 56 0 (59 + 2 * g) 0 (45 * h)) (58 + 2 * g) 1 = (h : Int) := by rw [cp_r (by omega), u_s]
    have hcf := z_cf (M := M) (a0 := 58 + 2 * g) (b0 := 59 + 2 * g) (n0 := 765) (a1 := 55) (b1 := 56) (n1 := 765) (h := h) hx (by omega) (by omega) (by omega)
    generalize hA : e_cp (e_up M (58 + 2 * g) 1 (h : Int)) 56 0 (59 + 2 * g) 0 (45 * h) = A at frC cb ca hcf
    have hcnA : q_cn n t L A := q_cn_f (fun a j z => frC a j (by omega) (by omega)) hLi.1
    have hCL := z_SD_CL (W := 45 * h) (q := 59 + 2 * g) (by omega) h6 h12 hcnA
    have frB : ∀ a j, ¬ (a = 58 + 2 * g ∧ j = 1) → a ≠ 59 + 2 * g → ¬ (a = 1 ∧ j = 15) → (e_up (e_up (z_SD (45 * h) (59 + 2 * g) A) (58 + 2 * g) 1 ((h + 1 : Nat) : Int)) 1 15 ((g + 1 : Nat) : Int)) a j = M a j := fun a j x1 x2 x3 => by
      by_cases e1 : a = 1
      · subst e1
        rw [u_c (by omega), u_r (by omega), z_SD_r x2, frC 1 j x1 x2]
      · rw [u_r e1]
        by_cases e : a = 58 + 2 * g
        · subst e
          rw [u_c (by omega), z_SD_r x2, frC _ j x1 x2]
        · rw [u_r e, z_SD_r x2, frC a j x1 x2]
    have Bb : ∀ j, (e_up (e_up (z_SD (45 * h) (59 + 2 * g) A) (58 + 2 * g) 1 ((h + 1 : Nat) : Int)) 1 15 ((g + 1 : Nat) : Int)) (59 + 2 * g) j = z_SD (45 * h) (59 + 2 * g) A (59 + 2 * g) j := fun j => by rw [u_r (by omega), u_r (by omega)]
    have Ba : (e_up (e_up (z_SD (45 * h) (59 + 2 * g) A) (58 + 2 * g) 1 ((h + 1 : Nat) : Int)) 1 15 ((g + 1 : Nat) : Int)) (58 + 2 * g) 1 = ((h + 1 : Nat) : Int) := by rw [u_r (by omega), u_s]
    have B1 : (e_up (e_up (z_SD (45 * h) (59 + 2 * g) A) (58 + 2 * g) 1 ((h + 1 : Nat) : Int)) 1 15 ((g + 1 : Nat) : Int)) 1 15 = ((g + 1 : Nat) : Int) := u_s _ _ _ _
    have hcl : f_X10_image M = some (((g + 1 : Nat) : Int), e_up (e_up (z_SD (45 * h) (59 + 2 * g) A) (58 + 2 * g) 1 ((h + 1 : Nat) : Int)) 1 15 ((g + 1 : Nat) : Int)) := by
      unfold f_X10_image
      rw [gx, if_pos (by omega), if_pos (by omega), Int.toNat_natCast, show 58 + 2 * g + 1 = 59 + 2 * g by omega, hcf, f_bs, frC 1 15 (by omega) (by omega), gx, if_pos (by omega), Int.toNat_natCast, show 58 + 2 * g + 1 = 59 + 2 * g by omega]
      unfold f_X5_push
      rw [ca, if_neg (by omega), e_ws_ (x := (h : Int) * 45) (by omega) (by omega), show (h : Int) * 45 = ((45 * h : Nat) : Int) by omega, z_sv (by omega) (by omega), f_bs, f_bs, z_SD_r (show 58 + 2 * g ≠ 59 + 2 * g by omega), ca, y_ei (by omega), u_r (show (1 : Nat) ≠ 58 + 2 * g by omega), z_SD_r (show (1 : Nat) ≠ 59 + 2 * g by omega), frC 1 15 (by omega) (by omega), gx, y_ei (by omega), u_s]
    generalize hBB : e_up (e_up (z_SD (45 * h) (59 + 2 * g) A) (58 + 2 * g) 1 ((h + 1 : Nat) : Int)) 1 15 ((g + 1 : Nat) : Int) = B at frB Bb Ba B1 hcl
    -- the model's side
    obtain ⟨N, n1, n2, n3, n4⟩ := z_st (M := e_up B 64 0 0) (q := 552 + g) (by omega)
    have frN : ∀ a j, ¬ (a = 58 + 2 * g ∧ j = 1) → a ≠ 59 + 2 * g → ¬ (a = 1 ∧ j = 15) → a ≠ 552 + g → ¬ (a = 64 ∧ (j = 0 ∨ j = 38 ∨ j = 39)) → (e_up N 64 38 ((g + 1 : Nat) : Int)) a j = M a j := fun a j x1 x2 x3 x4 x5 => by
      by_cases e : a = 64
      · subst e
        rw [u_c (by omega), n4 64 j x4 (by omega), u_c (by omega), frB 64 j x1 x2 x3]
      · rw [u_r e, n4 a j x4 (by omega), u_r e, frB a j x1 x2 x3]
    have N36 : N 64 38 = (g : Int) := by rw [n4 64 38 (by omega) (by omega), u_c (by decide), frB 64 38 (by omega) (by omega) (by omega)]; exact gm
    have ct0 : z_ct (e_up B 64 0 0) 0 = (h : Int) := by
      show (e_up B 64 0 0) 64 36 = _
      rw [u_c (by decide), frB 64 36 (by omega) (by omega) (by omega)]; exact hm
    have ct1 : ∀ j, j < 56 → z_ct (e_up B 64 0 0) (1 + j) = M 532 j := fun j hj => by
      unfold z_ct
      rw [if_neg (by omega), if_pos (by omega), show 1 + j - 1 = j by omega, u_r (by decide), frB 532 j (by omega) (by omega) (by omega)]
    have ct2 : ∀ w j, w < 16 → j < 56 → z_ct (e_up B 64 0 0) (57 + 56 * w + j) = M (535 + w) j := fun w j hw hj => by
      unfold z_ct
      rw [if_neg (by omega), if_neg (by omega), show (57 + 56 * w + j - 57) / 56 = w by omega, show (57 + 56 * w + j - 57) % 56 = j by omega, u_r (by omega), frB (535 + w) j (by omega) (by omega) (by omega)]
    refine ⟨((g + 1 : Nat) : Int), B, e_up N 64 38 ((g + 1 : Nat) : Int), hcl, ?_, n, m, t, wa, sk, wo, ow, fi, l, cw, cv, L, q_T_f (fun a j z => frN a j (by unfold q_F3 at z; omega) (by unfold q_F3 at z; omega) (by unfold q_F3 at z; omega) (by unfold q_F3 at z; omega) (by unfold q_F3 at z; omega)) hT, q_K1_f (fun a j z => frN a j (by unfold q_F1 at z; omega) (by unfold q_F1 at z; omega) (by unfold q_F1 at z; omega) (by unfold q_F1 at z; omega) (by unfold q_F1 at z; omega)) hK1, q_K2_f (fun a j z => frN a j (by unfold q_F2 at z; omega) (by unfold q_F2 at z; omega) (by unfold q_F2 at z; omega) (by unfold q_F2 at z; omega) (by unfold q_F2 at z; omega)) hK2, q_La_f (fun a j z => frN a j (by unfold q_F4 at z; omega) (by unfold q_F4 at z; omega) (by unfold q_F4 at z; omega) (by unfold q_F4 at z; omega) (by unfold q_F4 at z; omega)) hLa, q_K5_f hT.1 (fun a j z => frN a j (by unfold q_F5 at z; omega) (by unfold q_F5 at z; omega) (by unfold q_F5 at z; omega) (by unfold q_F5 at z; omega) (by unfold q_F5 at z; omega)) hK5, q_Li_f (fun a j z => frN a j (by unfold q_F6 at z; omega) (by unfold q_F6 at z; omega) (by unfold q_F6 at z; omega) (by unfold q_F6 at z; omega) (by unfold q_F6 at z; omega)) hLi, q_K7_f (fun a j z => frN a j (by unfold q_F7 at z; omega) (by unfold q_F7 at z; omega) (by unfold q_F7 at z; omega) (by unfold q_F7 at z; omega) (by unfold q_F7 at z; omega)) hK7, g + 1, by omega, ?_, u_s _ _ _ _, fun i hi => ?_⟩
    · have e38 : (e_up B 64 0 0) 64 38 = (g : Int) := by rw [u_c (by decide), frB 64 38 (by omega) (by omega) (by omega)]; exact gm
      unfold f_X11_image
      rw [e38, if_pos (by omega), if_pos (by omega), Int.toNat_natCast, n1 F (by omega), f_bs, N36, y_ei (by omega), u_s]
    · rw [u_r (by decide), n4 1 15 (by omega) (by omega), u_r (by decide)]; exact B1
    · by_cases e : i = g
      · subst e
        have Nb : ∀ j, (e_up N 64 38 ((i + 1 : Nat) : Int)) (59 + 2 * i) j = z_SD (45 * h) (59 + 2 * i) A (59 + 2 * i) j := fun j => by rw [u_r (by omega), n4 _ j (by omega) (by omega), u_r (by omega), Bb j]
        have Nk : ∀ j, j < 953 → (e_up N 64 38 ((i + 1 : Nat) : Int)) (552 + i) j = z_ct (e_up B 64 0 0) j := fun j hj => by rw [u_r (by omega), n3 j hj]
        refine ⟨h, hh, ?_, ?_, z_CLc h6 h12 (C := fun j => z_SD (45 * h) (59 + 2 * i) A (59 + 2 * i) (45 * h + j)) (L := L) (fun j _ => Nb _) (fun j hj => ?_) hCL, z_LBc h6 h12 (L := L) (fun j hj => ?_) hLi.2.2, fun w hw => ⟨z_CLc h6 h12 (fun j hj => ?_) (fun j hj => ?_) (hrow w hw).1, z_LBc h6 h12 (fun j hj => ?_) (hrow w hw).2⟩⟩
        · rw [u_r (by omega), n4 _ 1 (by omega) (by omega), u_r (by omega)]; exact Ba
        · rw [Nk 0 (by omega)]; exact ct0
        · show (e_up N 64 38 ((i + 1 : Nat) : Int)) (552 + i) (1 + j) = L j
          rw [Nk _ (by omega), ct1 j hj]; exact hLi.2.1 j hj
        · show (e_up N 64 38 ((i + 1 : Nat) : Int)) (552 + i) (1 + j) = L j
          rw [Nk _ (by omega), ct1 j hj]; exact hLi.2.1 j hj
        · show (e_up N 64 38 ((i + 1 : Nat) : Int)) (59 + 2 * i) (45 * w + j) = M 56 (45 * w + j)
          rw [Nb, z_SD_o (by omega), cb _ (by omega)]
        · show (e_up N 64 38 ((i + 1 : Nat) : Int)) (552 + i) (57 + 56 * w + j) = M (535 + w) j
          rw [Nk _ (by omega), ct2 w j (by omega) hj]
        · show (e_up N 64 38 ((i + 1 : Nat) : Int)) (552 + i) (57 + 56 * w + j) = M (535 + w) j
          rw [Nk _ (by omega), ct2 w j (by omega) hj]
      · obtain ⟨hi', i1, i2, i3, i4, i5, i6⟩ := gi i (by omega)
        have Nb : ∀ j, (e_up N 64 38 ((g + 1 : Nat) : Int)) (59 + 2 * i) j = M (59 + 2 * i) j := fun j => frN _ j (by omega) (by omega) (by omega) (by omega) (by omega)
        have Nk : ∀ j, (e_up N 64 38 ((g + 1 : Nat) : Int)) (552 + i) j = M (552 + i) j := fun j => frN _ j (by omega) (by omega) (by omega) (by omega) (by omega)
        refine ⟨hi', i1, ?_, ?_, z_CLc h6 h12 (fun j _ => Nb _) (fun j _ => Nk _) i4, z_LBc h6 h12 (fun j _ => Nk _) i5, fun w hw => ⟨z_CLc h6 h12 (fun j _ => Nb _) (fun j _ => Nk _) (i6 w hw).1, z_LBc h6 h12 (fun j _ => Nk _) (i6 w hw).2⟩⟩
        · rw [frN (58 + 2 * i) 1 (by omega) (by omega) (by omega) (by omega) (by omega)]; exact i2
        · rw [Nk]; exact i3
