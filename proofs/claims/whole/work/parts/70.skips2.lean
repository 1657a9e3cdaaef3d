/-! OPERATIONS, 20: skips, asked -/
theorem w_p0 {pr : Nat → Nat → Int → Int} {bz : Nat → Bool} {wg : Int} : ∀ (j i c : Nat) (k : Int), w_p pr bz wg 0 j i c k = true
  | 0, _, _, _ => rfl
  | j + 1, i, c, k => by
    unfold w_p
    rw [if_neg (by rw [Nat.zero_testBit]; decide)]
    exact w_p0 j (i + 1) c _
section SK
variable {n m t : Nat} {wa : Nat → Int} {sk : Nat → Nat} {wo : Nat → Int} {ow : Nat → Nat} {fi : Nat → Int} {l : Nat} {cw cv L : Nat → Int} {M : e_M}
theorem w_byp {kn : Nat → Int} {N : e_M} (hLa : q_La l cw cv N) (a0 a1 a2 a3 a4 a5 a6 a7 : Int) (hk : kn 0 = a0 ∧ kn 1 = a1 ∧ kn 2 = a2 ∧ kn 3 = a3 ∧ kn 4 = a4 ∧ kn 5 = a5 ∧ kn 6 = a6 ∧ kn 7 = a7) : ∃ N', (∀ f, 151 < f → f_X11_priceBy f a0 a1 a2 a3 a4 a5 a6 a7 N = some (q_ev l cw cv kn, N')) ∧ ∀ a j, a ≠ 449 → a ≠ 450 → N' a j = N a j := by
  obtain ⟨N', g1, g2⟩ := r_byLaw (M := e_up (e_up (e_up (e_up (e_up (e_up (e_up (e_up N 450 0 a0) 450 1 a1) 450 2 a2) 450 3 a3) 450 4 a4) 450 5 a5) 450 6 a6) 450 7 a7) (l := l) (cw := cw) (cv := cv) (kn := kn) (q_La_wf hLa) (by exact hLa.2.2.1) (fun k hk => by
    have h := hLa.2.2.2 k hk
    have hl := hLa.1
    rw [u_r (by omega), u_r (by omega), u_r (by omega), u_r (by omega), u_r (by omega), u_r (by omega), u_r (by omega), u_r (by omega), u_r (by omega), u_r (by omega), u_r (by omega), u_r (by omega), u_r (by omega), u_r (by omega), u_r (by omega), u_r (by omega)]
    exact ⟨h.1, h.2.1⟩) (fun j hj => by
    have hc : j = 0 ∨ j = 1 ∨ j = 2 ∨ j = 3 ∨ j = 4 ∨ j = 5 ∨ j = 6 ∨ j = 7 := by omega
    obtain ⟨h0, h1, h2, h3, h4, h5, h6, h7⟩ := hk
    rcases hc with rfl | rfl | rfl | rfl | rfl | rfl | rfl | rfl
    · exact h0.symm
    · exact h1.symm
    · exact h2.symm
    · exact h3.symm
    · exact h4.symm
    · exact h5.symm
    · exact h6.symm
    · exact h7.symm)
  refine ⟨N', fun f hf => ?_, fun a j h1 h2 => by rw [g2 a j h1, u_r h2, u_r h2, u_r h2, u_r h2, u_r h2, u_r h2, u_r h2, u_r h2]⟩
  unfold f_X11_priceBy
  rw [g1 f hf, f_bs]
theorem w_pd {p z x ov bb : Nat} (hp : p < n) (hz : z ≤ 10) (hx : x < 2147483648) (hLB : q_LB n t L) (hbb : ∀ i, i < z → bb.testBit i = q_any (fun k => decide (ow k = p) && (decide (L (42 + k) = 0) && decide (L (30 + k) = L 55 + (i : Int)))) t) : ∀ (j i c : Nat) (k : Int) (N : e_M), i + j = z → c ≤ i → 0 ≤ k → k ≤ 999 → q_T n m t wa sk wo ow fi N → q_La l cw cv N → q_ml N 532 L → ∃ N', (∀ f, j + 200 < f → f_X11_isPaid_69 f (p : Int) (z : Int) (x : Int) k (L (12 + p) + (c : Int)) (ov : Int) (i : Int) N = some (if w_p (w_pr l cw cv L wa (q_pc (q_an (sk p) ov)) p) bb.testBit (wa p) x j i c k then 1 else 0, N')) ∧ ∀ a j, a ≠ 449 → a ≠ 450 → N' a j = N a j := by
  intro j
  induction j with
  | zero =>
    intro i c k N hi hc hk0 hk1 hT hLa hr
    refine ⟨N, fun f hf => ?_, fun _ _ _ _ => rfl⟩
    obtain ⟨f', rfl⟩ : ∃ f', f = f' + 1 := ⟨f - 1, by omega⟩
    rw [f_X11_isPaid_69, if_pos (by omega)]
    rfl
  | succ j ih =>
    intro i c k N hi hc hk0 hk1 hT hLa hr
    have h6 := hT.1
    have hTp := hT.2.2.2.2.2.2.2.2.2.1 p hp
    have hL1 := hLB.1
    have hL2 := hLB.2.1
    have hLp := hLB.2.2.2.2.1 p hp
    have hsk := q_sk6 hT hp
    by_cases cx : x.testBit i = true
    · obtain ⟨N1, g1, g2⟩ := w_byp (kn := w_kn L wa (q_pc (q_an (sk p) ov)) p i c k) hLa (L 55 + (i : Int)) 0 (L (12 + p) + (c : Int)) k (wa p) (q_pc (q_an (sk p) ov) : Int) 0 (p : Int) ⟨rfl, rfl, rfl, rfl, rfl, rfl, rfl, rfl⟩
      have hpr : 0 ≤ w_pr l cw cv L wa (q_pc (q_an (sk p) ov)) p i c k ∧ w_pr l cw cv L wa (q_pc (q_an (sk p) ov)) p i c k ≤ 99 := q_ev_r
      have g1' : ∀ f, 151 < f → f_X11_priceBy f (L 55 + (i : Int)) 0 (L (12 + p) + (c : Int)) k (wa p) (q_pc (q_an (sk p) ov) : Int) 0 (p : Int) N = some (w_pr l cw cv L wa (q_pc (q_an (sk p) ov)) p i c k, N1) := g1
      have hT1 := q_T_450 g2 hT
      have hLa1 := q_La_450 g2 hLa
      have hr1 : q_ml N1 532 L := fun j hj => by rw [g2 532 j (by decide) (by decide)]; exact hr j hj
      have hxx : q_an (sk p) ov < 64 := q_an_lt (k := 6) hsk
      have est : ∀ f, 200 < f → f_X11_isPaid_69 (f + 1) (p : Int) (z : Int) (x : Int) k (L (12 + p) + (c : Int)) (ov : Int) (i : Int) N = if bb.testBit i = true then some (0, N1) else if w_pr l cw cv L wa (q_pc (q_an (sk p) ov)) p i c k ≤ k then f_X11_isPaid_69 f (p : Int) (z : Int) (x : Int) (k - w_pr l cw cv L wa (q_pc (q_an (sk p) ov)) p i c k) (L (12 + p) + ((c + 1 : Nat) : Int)) (ov : Int) ((i + 1 : Nat) : Int) N1 else some (0, N1) := by
        intro f hf
        rw [f_X11_isPaid_69, if_neg (by omega), r_has hx (by omega), f_bs, if_pos cx, if_pos (by decide), if_pos (show 0 ≤ (p : Int) ∧ (p : Int) < 6 by omega), if_pos (show 0 ≤ (p : Int) ∧ (p : Int) < 6 by omega), Int.toNat_natCast, hTp.2.2.2.2.2.1, q_andn (by omega), q_ones (by omega) (by omega), f_bs, hr 55 (by omega), hTp.2.1, e_ws_ (x := L 55 + (i : Int)) (by omega) (by omega), g1' f (by omega), f_bs, r_kept hT1 hr1 f (by omega), f_bs, hbb i (by omega), y_ei (by omega)]
        by_cases cb : q_any (fun k => decide (ow k = p) && (decide (L (42 + k) = 0) && decide (L (30 + k) = L 55 + (i : Int)))) t = true
        · rw [if_pos cb, if_pos (by decide), if_pos cb]
        · rw [if_neg cb, if_neg (by decide), if_neg cb]
          by_cases cp : w_pr l cw cv L wa (q_pc (q_an (sk p) ov)) p i c k ≤ k
          · rw [if_pos cp, if_pos cp, e_ws_ (x := k - w_pr l cw cv L wa (q_pc (q_an (sk p) ov)) p i c k) (by omega) (by omega), e_ws_ (x := L (12 + p) + (c : Int) + 1) (by omega) (by omega), show L (12 + p) + (c : Int) + 1 = L (12 + p) + ((c + 1 : Nat) : Int) by omega]
          · rw [if_neg cp, if_neg cp]
      by_cases cb : bb.testBit i = true
      · refine ⟨N1, fun f hf => ?_, g2⟩
        obtain ⟨f', rfl⟩ : ∃ f', f = f' + 1 := ⟨f - 1, by omega⟩
        unfold w_p
        rw [est f' (by omega), if_pos cb, if_pos cx, if_pos cb]
        rfl
      · by_cases cp : w_pr l cw cv L wa (q_pc (q_an (sk p) ov)) p i c k ≤ k
        · obtain ⟨N2, k1, k2⟩ := ih (i + 1) (c + 1) (k - w_pr l cw cv L wa (q_pc (q_an (sk p) ov)) p i c k) N1 (by omega) (by omega) (by omega) (by omega) hT1 hLa1 hr1
          refine ⟨N2, fun f hf => ?_, fun a j h1 h2 => by rw [k2 a j h1 h2, g2 a j h1 h2]⟩
          obtain ⟨f', rfl⟩ : ∃ f', f = f' + 1 := ⟨f - 1, by omega⟩
          unfold w_p
          rw [est f' (by omega), if_neg cb, if_pos cp, if_pos cx, if_neg cb, if_pos cp]
          exact k1 f' (by omega)
        · refine ⟨N1, fun f hf => ?_, g2⟩
          obtain ⟨f', rfl⟩ : ∃ f', f = f' + 1 := ⟨f - 1, by omega⟩
          unfold w_p
          rw [est f' (by omega), if_neg cb, if_neg cp, if_pos cx, if_neg cb, if_neg cp]
          rfl
    · obtain ⟨N2, k1, k2⟩ := ih (i + 1) c (min 999 (k + wa p)) N (by omega) (by omega) (by omega) (by omega) hT hLa hr
      refine ⟨N2, fun f hf => ?_, k2⟩
      obtain ⟨f', rfl⟩ : ∃ f', f = f' + 1 := ⟨f - 1, by omega⟩
      unfold w_p
      rw [f_X11_isPaid_69, if_neg (by omega), r_has hx (by omega), f_bs, if_neg cx, if_neg (by decide), if_pos (show 0 ≤ (p : Int) ∧ (p : Int) < 6 by omega), Int.toNat_natCast, hTp.2.1, e_ws_ (x := k + wa p) (by omega) (by omega), r_less, f_bs, y_ei (by omega), if_neg cx]
      exact k1 f' (by omega)
theorem w_ip {p z x bb : Nat} (hp : p < n) (hz : z ≤ 10) (hx : x < 2147483648) (hLB : q_LB n t L) (hbb : ∀ i, i < z → bb.testBit i = q_any (fun k => decide (ow k = p) && (decide (L (42 + k) = 0) && decide (L (30 + k) = L 55 + (i : Int)))) t) {N : e_M} (hT : q_T n m t wa sk wo ow fi N) (hLa : q_La l cw cv N) (hr : q_ml N 532 L) : ∃ N', (∀ f, 250 < f → f_X11_isPaid f (p : Int) (z : Int) (x : Int) N = some (if w_p (w_pr l cw cv L wa (q_pc (q_an (sk p) (q_or (fun q => !decide (q = p)) sk n))) p) bb.testBit (wa p) x z 0 0 (L p) then 1 else 0, N')) ∧ ∀ a j, a ≠ 449 → a ≠ 450 → N' a j = N a j := by
  have h6 := hT.1
  have hLp := hLB.2.2.2.2.1 p hp
  obtain ⟨N', k1, k2⟩ := w_pd (ov := q_or (fun q => !decide (q = p)) sk n) hp hz hx hLB hbb z 0 0 (L p) N (by omega) (Nat.le_refl _) hLp.1 hLp.2.1 hT hLa hr
  refine ⟨N', fun f hf => ?_, k2⟩
  unfold f_X11_isPaid
  rw [q_w0 p (by omega), if_pos (show 0 ≤ (p : Int) ∧ (p : Int) < 56 by omega), e_ws_ (x := 12 + (p : Int)) (by omega) (by omega), if_pos (show 0 ≤ 12 + (p : Int) ∧ 12 + (p : Int) < 56 by omega), Int.toNat_natCast, q_t12, hr p (by omega), hr (12 + p) (by omega)]
  have hs : ∀ q, q < n → N 72 q = (sk q : Int) ∧ sk q < 2 ^ 6 := fun q hq => ⟨(hT.2.2.2.2.2.2.2.2.2.1 q hq).2.2.2.2.2.1, q_sk6 hT hq⟩
  have h31 : ∀ i, i ≤ n → q_or (fun q => !decide (q = p)) sk i < 2 ^ 31 := fun i hi => Nat.lt_of_lt_of_le (q_or_lt (k := 6) (fun j hj _ => (hs j (by omega)).2)) (by decide)
  refine q_sB 230 (fun f (s : Int) i => f_X11_isPaid_27 f (p : Int) (z : Int) (x : Int) (L p) (L (12 + p)) s i N) (fun i => (q_or (fun q => !decide (q = p)) sk i : Int)) n _ (fun f i _ hi => ?_) (fun f hf => ?_) f (by omega)
  · have hsi := hs i hi
    rw [f_X11_isPaid_27, hT.2.2.2.2.2.2.1, if_neg (by omega), e_ws_ (x := (i : Int) + 1) (by omega) (by omega)]
    by_cases e : i = p
    · rw [if_neg (not_not_intro (by omega)), q_or0 (h31 i (by omega)), q_or_f (c := fun q => !decide (q = p)) (by rw [decide_eq_true e]; rfl)]
    · rw [if_pos (by omega), if_pos (show 0 ≤ (i : Int) ∧ (i : Int) < 6 by omega), Int.toNat_natCast, hsi.1, q_or_t (c := fun q => !decide (q = p)) (s := sk) (by rw [decide_eq_false e]; rfl) (h31 i (by omega)) (Nat.lt_of_lt_of_le hsi.2 (by decide))]
  · rw [f_X11_isPaid_27, hT.2.2.2.2.2.2.1, if_pos (by omega)]
    have h := k1 f (by omega)
    rw [show L (12 + p) + ((0 : Nat) : Int) = L (12 + p) by omega] at h
    exact h
theorem w_mo {p z bb : Nat} {w : Int} (hp : p < n) (hz : z ≤ 10) (hLB : q_LB n t L) (hbb : ∀ i, i < z → bb.testBit i = q_any (fun k => decide (ow k = p) && (decide (L (42 + k) = 0) && decide (L (30 + k) = L 55 + (i : Int)))) t) {N : e_M} (hT : q_T n m t wa sk wo ow fi N) (hLa : q_La l cw cv N) (hr : q_ml N 532 L) : ∃ (b : Nat) (N' : e_M), (b = 0 ∨ (b < 2 ^ z ∧ w_p (w_pr l cw cv L wa (q_pc (q_an (sk p) (q_or (fun q => !decide (q = p)) sk n))) p) bb.testBit (wa p) b z 0 0 (L p) = true)) ∧ (∀ x, x < 2 ^ z → w_p (w_pr l cw cv L wa (q_pc (q_an (sk p) (q_or (fun q => !decide (q = p)) sk n))) p) bb.testBit (wa p) x z 0 0 (L p) = true → w_le b x) ∧ (∀ f, 1500 < f → f_X11_skips_72 f (p : Int) (z : Int) w 0 ((2 ^ z - 1 : Nat) : Int) N = some (if ¬ w = 1 then (q_pc b : Int) else (b : Int), N')) ∧ ∀ a j, a ≠ 449 → a ≠ 450 → N' a j = N a j := by
  have h2z : (2 : Nat) ^ z ≤ 2 ^ 10 := Nat.pow_le_pow_right (by omega) hz
  have h2p := Nat.two_pow_pos z
  obtain ⟨⟨b, N'⟩, ⟨h0, h1, h2, h3⟩, hf⟩ := q_run 300 1 (2 ^ z) (fun f (a : Nat × e_M) i => f_X11_skips_72 f (p : Int) (z : Int) w (a.1 : Int) (((2 ^ z : Nat) : Int) - 1 - i) a.2) (fun i a => a.1 < 2 ^ z ∧ (a.1 = 0 ∨ (a.1 < 2 ^ z ∧ w_p (w_pr l cw cv L wa (q_pc (q_an (sk p) (q_or (fun q => !decide (q = p)) sk n))) p) bb.testBit (wa p) a.1 z 0 0 (L p) = true)) ∧ (∀ x, 2 ^ z - i ≤ x → x < 2 ^ z → w_p (w_pr l cw cv L wa (q_pc (q_an (sk p) (q_or (fun q => !decide (q = p)) sk n))) p) bb.testBit (wa p) x z 0 0 (L p) = true → w_le a.1 x) ∧ ∀ c j, c ≠ 449 → c ≠ 450 → a.2 c j = N c j) (a := (0, N)) (fun i a hi hA => by
    obtain ⟨b, A⟩ := a
    obtain ⟨h0, h1, h2, h3⟩ := hA
    have h0 : b < 2 ^ z := h0
    have h3 : ∀ c j, c ≠ 449 → c ≠ 450 → A c j = N c j := h3
    obtain ⟨x, hx⟩ : ∃ x : Nat, x + i + 1 = 2 ^ z := ⟨2 ^ z - 1 - i, by omega⟩
    have ex : ((2 ^ z : Nat) : Int) - 1 - (i : Int) = (x : Int) := by omega
    have ex2 : ((2 ^ z : Nat) : Int) - 1 - ((i : Int) + 1) = (x : Int) - 1 := by omega
    have eA : 2 ^ z - i = x + 1 := by omega
    have eB : 2 ^ z - (i + 1) = x := by omega
    rw [eA] at h2
    rw [eB, ex, ex2]
    have hxz : x < 2 ^ z := by omega
    obtain ⟨A', g1, g2⟩ := w_ip (x := x) hp hz (by omega) hLB hbb (q_T_450 h3 hT) (q_La_450 h3 hLa) (fun j hj => by rw [h3 532 j (by decide) (by decide)]; exact hr j hj)
    by_cases c1 : q_pc x < q_pc b
    · refine ⟨(b, A), ⟨h0, h1, fun y hy1 hy2 hy3 => ?_, h3⟩, fun f hf => ?_⟩
      · by_cases e : y = x
        · rw [e]; exact Or.inl c1
        · exact h2 y (by omega) hy2 hy3
      · show f_X11_skips_72 (f + 1) (p : Int) (z : Int) w (b : Int) (x : Int) A = f_X11_skips_72 f (p : Int) (z : Int) w (b : Int) ((x : Int) - 1) A
        rw [f_X11_skips_72, if_neg (by omega), q_ones (by omega) (by omega), f_bs, q_ones (by omega) (by omega), f_bs, if_pos (by omega), e_ws_ (x := (x : Int) + (-1)) (by omega) (by omega)]
        rfl
    · by_cases c2 : w_p (w_pr l cw cv L wa (q_pc (q_an (sk p) (q_or (fun q => !decide (q = p)) sk n))) p) bb.testBit (wa p) x z 0 0 (L p) = true
      · refine ⟨(x, A'), ⟨hxz, Or.inr ⟨hxz, c2⟩, fun y hy1 hy2 hy3 => ?_, fun c j k1 k2 => (g2 c j k1 k2).trans (h3 c j k1 k2)⟩, fun f hf => ?_⟩
        · by_cases e : y = x
          · rw [e]; exact w_le_rf
          · have h : w_le b y := h2 y (by omega) hy2 hy3
            unfold w_le at h ⊢
            show q_pc y < q_pc x ∨ (q_pc y = q_pc x ∧ x ≤ y)
            omega
        · show f_X11_skips_72 (f + 1) (p : Int) (z : Int) w (b : Int) (x : Int) A = f_X11_skips_72 f (p : Int) (z : Int) w (x : Int) ((x : Int) - 1) A'
          rw [f_X11_skips_72, if_neg (by omega), q_ones (by omega) (by omega), f_bs, q_ones (by omega) (by omega), f_bs, if_neg (by omega), g1 f (by omega), f_bs, if_pos c2, if_neg (by decide), e_ws_ (x := (x : Int) + (-1)) (by omega) (by omega)]
          rfl
      · refine ⟨(b, A'), ⟨h0, h1, fun y hy1 hy2 hy3 => ?_, fun c j k1 k2 => (g2 c j k1 k2).trans (h3 c j k1 k2)⟩, fun f hf => ?_⟩
        · by_cases e : y = x
          · rw [e] at hy3; exact absurd hy3 c2
          · exact h2 y (by omega) hy2 hy3
        · show f_X11_skips_72 (f + 1) (p : Int) (z : Int) w (b : Int) (x : Int) A = f_X11_skips_72 f (p : Int) (z : Int) w (b : Int) ((x : Int) - 1) A'
          rw [f_X11_skips_72, if_neg (by omega), q_ones (by omega) (by omega), f_bs, q_ones (by omega) (by omega), f_bs, if_neg (by omega), g1 f (by omega), f_bs, if_neg c2, if_pos rfl, e_ws_ (x := (x : Int) + (-1)) (by omega) (by omega)]
          rfl) ⟨h2p, Or.inl rfl, fun x hx1 hx2 => absurd hx1 (by omega), fun _ _ _ _ => rfl⟩
  rw [Nat.sub_self] at h2
  refine ⟨b, N', h1, fun x hx => h2 x (Nat.zero_le _) hx, fun f hff => ?_, h3⟩
  have h0 : b < 2 ^ z := h0
  obtain ⟨f', hf'⟩ : ∃ f', f = (f' + 1) + 2 ^ z * 1 := ⟨f - 1 - 2 ^ z, by omega⟩
  have e := hf (f' + 1) (by omega)
  have e0 : ((2 ^ z : Nat) : Int) - 1 - 0 = ((2 ^ z - 1 : Nat) : Int) := by omega
  have e9 : ((2 ^ z : Nat) : Int) - 1 - ((2 ^ z : Nat) : Int) = -1 := by omega
  rw [e0, e9] at e
  rw [hf']
  refine Eq.trans e ?_
  show f_X11_skips_72 (f' + 1) (p : Int) (z : Int) w (b : Int) (-1) N' = _
  rw [f_X11_skips_72, if_pos (by decide)]
  by_cases c : w = 1
  · rw [if_neg (not_not_intro c), if_neg (not_not_intro c)]
  · rw [if_pos c, if_pos c, q_ones (by omega) (by omega), f_bs]
end SK
theorem w_bz {p z t : Nat} {ow : Nat → Nat} {L : Nat → Int} : ∀ j, j < z → (q_or (fun k => decide (ow k = p) && (decide (L (42 + k) = 0) && (decide (L 55 ≤ L (30 + k)) && decide (L (30 + k) - L 55 < (z : Int))))) (fun k => 2 ^ (L (30 + k) - L 55).toNat) t).testBit j = q_any (fun k => decide (ow k = p) && (decide (L (42 + k) = 0) && decide (L (30 + k) = L 55 + (j : Int)))) t := by
  intro j hj
  rw [Bool.eq_iff_iff, q_or_tb, q_any_t]
  constructor
  · rintro ⟨i, h1, h2, h3⟩
    rw [Nat.testBit_two_pow] at h3
    have h3 := of_decide_eq_true h3
    simp at h2
    refine ⟨i, h1, ?_⟩
    simp [h2.1, h2.2.1]
    omega
  · rintro ⟨i, h1, h2⟩
    simp at h2
    refine ⟨i, h1, ?_, ?_⟩
    · simp [h2.1, h2.2.1]; omega
    · rw [Nat.testBit_two_pow]; simp; omega
theorem w_oth {n p : Nat} {sk : Nat → Nat} (hp : p < n) : q_or (fun q => (q_an (2 ^ n - 1) (2 ^ p)).testBit q) sk n = q_or (fun q => !decide (q = p)) sk n := q_or_congr (fun i hi => ⟨by
  rw [q_an_tb, Nat.testBit_two_pow_sub_one, Nat.testBit_two_pow, decide_eq_true hi, Bool.true_and]
  by_cases e : i = p
  · rw [decide_eq_true e, decide_eq_true e.symm]
  · rw [decide_eq_false e, decide_eq_false (fun h => e h.symm)], fun _ => rfl⟩)
theorem w_sf {M : e_M} {n m t : Nat} {wa : Nat → Int} {sk : Nat → Nat} {wo : Nat → Int} {ow : Nat → Nat} {fi L : Nat → Int} {l : Nat} {cw cv : Nat → Int} {p z : Nat} (hp : p < n) (hz : z ≤ 10) (hT : q_T n m t wa sk wo ow fi M) (hLa : q_La l cw cv M) (hC : q_cn n t L M) (hLB : q_LB n t L) : ∃ (bb b : Nat) (M' : e_M), (∀ i, i < z → bb.testBit i = q_any (fun k => decide (ow k = p) && (decide (L (42 + k) = 0) && decide (L (30 + k) = L 55 + (i : Int)))) t) ∧ (b = 0 ∨ (b < 2 ^ z ∧ w_p (w_pr l cw cv L wa (q_pc (q_an (sk p) (q_or (fun q => !decide (q = p)) sk n))) p) bb.testBit (wa p) b z 0 0 (L p) = true)) ∧ (∀ x, x < 2 ^ z → w_p (w_pr l cw cv L wa (q_pc (q_an (sk p) (q_or (fun q => !decide (q = p)) sk n))) p) bb.testBit (wa p) x z 0 0 (L p) = true → w_le b x) ∧ (∀ f, 300 < f → f_X6_searchFor f (p : Int) (z : Int) M = some (0, M')) ∧ M' 53 7 = (q_pc b : Int) ∧ M' 53 8 = (b : Int) ∧ ∀ a k, a ≠ 22 → a ≠ 23 → a ≠ 53 → M' a k = M a k := by
  have h6 := hT.1
  have ht12 := hT.2.2.1
  have h2n : (2 : Nat) ^ n ≤ 2 ^ 6 := Nat.pow_le_pow_right (by omega) h6
  have h2p := Nat.two_pow_pos n
  have hLp := hLB.2.2.2.2.1 p hp
  have hTp := hT.2.2.2.2.2.2.2.2.2.1 p hp
  have hCp := hC.1 p hp
  have hsk := q_sk6 hT hp
  have hs : ∀ q, q < n → M 7 q = (sk q : Int) ∧ sk q < 2 ^ 6 := fun q hq => ⟨(hT.2.2.2.2.2.2.2.2.2.1 q hq).2.2.2.2.1, q_sk6 hT hq⟩
  have hmin : min (z : Int) 10 = (z : Int) := by omega
  have hbl : q_or (fun k => decide (ow k = p) && (decide (L (42 + k) = 0) && (decide (L 55 ≤ L (30 + k)) && decide (L (30 + k) - L 55 < (z : Int))))) (fun k => 2 ^ (L (30 + k) - L 55).toNat) t < 2 ^ 10 := q_or_lt (k := 10) (fun i hi h => by
    simp at h
    exact Nat.pow_lt_pow_right (by omega) (by omega))
  have hbz := w_bz (p := p) (z := z) (t := t) (ow := ow) (L := L)
  have hbusy : ∀ f, 300 < f → f_X3_busyBits_now f (p : Int) (min (z : Int) 10) (e_up (e_up (e_up (e_up M 53 2 (p : Int)) 53 3 (min (z : Int) 10)) 53 4 (M 36 2)) 53 5 (M 39 p)) = some ((q_or (fun k => decide (ow k = p) && (decide (L (42 + k) = 0) && (decide (L 55 ≤ L (30 + k)) && decide (L (30 + k) - L 55 < (z : Int))))) (fun k => 2 ^ (L (30 + k) - L 55).toNat) t : Int), (e_up (e_up (e_up (e_up M 53 2 (p : Int)) 53 3 (min (z : Int) 10)) 53 4 (M 36 2)) 53 5 (M 39 p))) := fun f hf => by
    have h := rn_busy (M := e_up (e_up (e_up (e_up M 53 2 (p : Int)) 53 3 (min (z : Int) 10)) 53 4 (M 36 2)) 53 5 (M 39 p)) (p := p) (z := z) (q_T_f (fun a j z => by rw [u_r (by unfold q_F3 at z; omega), u_r (by unfold q_F3 at z; omega), u_r (by unfold q_F3 at z; omega), u_r (by unfold q_F3 at z; omega)]) hT) (q_cn_f (fun a j z => by rw [u_r (by omega), u_r (by omega), u_r (by omega), u_r (by omega)]) hC) hLB (by omega) f (by omega)
    rw [hmin] at h ⊢
    exact h
  generalize q_or (fun k => decide (ow k = p) && (decide (L (42 + k) = 0) && (decide (L 55 ≤ L (30 + k)) && decide (L (30 + k) - L 55 < (z : Int))))) (fun k => 2 ^ (L (30 + k) - L 55).toNat) t = bb at hbl hbz hbusy
  generalize hnd : q_pc (q_an (sk p) (q_or (fun q => !decide (q = p)) sk n)) = nd
  obtain ⟨b', A', k1, _, k3, k4, k5, k6, _, k8⟩ := w_cl (l := l) (cw := cw) (cv := cv) (L := L) (wa := wa) (nd := nd) (p := p) (z := z) (bb := bb) (q_La_wf hLa) (by omega) hz ⟨hLB.1, hLB.2.1⟩ (by have := hLB.2.1; omega) ⟨hTp.2.2.1, hTp.2.2.2.1⟩ (by omega) z 0 0 0 (M 37 p) (e_up (e_up (e_up (e_up (e_up (e_up (e_up (e_up (e_up (e_up (e_up (e_up M 53 2 (p : Int)) 53 3 (min (z : Int) 10)) 53 4 (M 36 2)) 53 5 (M 39 p)) 53 6 (bb : Int)) 53 7 0) 53 8 0) 23 1 0) 23 4 (M 6 p)) 23 5 (nd : Int)) 23 6 0) 23 7 (p : Int)) (by omega) (by decide) (by rw [hCp.1]; exact hLp.1) (by rw [hCp.1]; exact hLp.2.1) ⟨rfl, hmin, hC.2.2.1, hCp.2.2.1, rfl, hTp.1, rfl, hTp.1, rfl, rfl, rfl, hLa.2.1, fun k hk => (hLa.2.2.2 k hk).2.2.1⟩ rfl rfl
  rw [hCp.1] at k6 k8
  refine ⟨bb, b', A', hbz, ?_, fun x hx1 hx2 => k8 x ⟨hx1, fun q hq => absurd hq (by omega), hx2⟩, fun f hf => ?_, k4, k5, fun a k h1 h2 h3 => by rw [k3 a k h1 h2 h3, u_r h2, u_r h2, u_r h2, u_r h2, u_r h2, u_r h3, u_r h3, u_r h3, u_r h3, u_r h3, u_r h3, u_r h3]⟩
  · rcases k6 with h | h
    · exact Or.inl h
    · exact Or.inr ⟨h.1, h.2.2⟩
  · unfold f_X6_searchFor f_X10_bitsBelow
    rw [if_pos (show 0 ≤ (p : Int) ∧ (p : Int) < 6 by omega)]
    refine Eq.trans (congrArg (fun w => f_b w _) (hbusy f hf)) ?_
    rw [f_bs, f_bs]
    have e4 : (e_up (e_up (e_up (e_up (e_up (e_up (e_up M 53 2 (p : Int)) 53 3 (min (z : Int) 10)) 53 4 (M 36 2)) 53 5 (M 39 p)) 53 6 (bb : Int)) 53 7 0) 53 8 0) 4 0 = (n : Int) := hT.2.2.2.1
    rw [e4, q_bb (by omega), if_pos (show 0 ≤ (p : Int) ∧ (p : Int) < 6 by omega), if_pos (show 0 ≤ (p : Int) ∧ (p : Int) < 6 by omega), q_sh (by omega), q_andn (by omega)]
    rw [r_skof (N := n) (sk := sk) (by exact hT.2.2.2.1) h6 (by have := q_an_lt (a := 2 ^ n - 1) (b := 2 ^ p) (k := 6) (by omega); omega) (by exact hs) (by omega), f_bs, w_oth hp]
    have e7 : ∀ (A : e_M) (v w : Int), (e_up (e_up (e_up (e_up (e_up (e_up (e_up (e_up (e_up M 53 2 (p : Int)) 53 3 (min (z : Int) 10)) 53 4 (M 36 2)) 53 5 (M 39 p)) 53 6 (bb : Int)) 53 7 0) 53 8 0) 23 1 0) 23 4 v) 7 (p : Int).toNat = (sk p : Int) := fun _ _ _ => (hs p hp).1
    rw [e7 M _ 0, q_andn (by omega), q_bc (by have := q_an_lt (a := sk p) (b := q_or (fun q => !decide (q = p)) sk n) (k := 6) hsk; omega), f_bs, if_pos (show 0 ≤ (p : Int) ∧ (p : Int) < 6 by omega), hnd]
    refine Eq.trans (congrArg (fun w => f_b w fun _ NN10 => some ((0 : Int), NN10)) (k1 f 12 0 (by omega) (by omega))) ?_
    rw [f_bs]
theorem o_skips {F : Nat} (hF : 2000 < F) (p y w : Int) : q_o2 (f_X10_skips F p y w) (f_X11_skips F p y w) k_c2 := by
  intro M k
  have k' := k
  obtain ⟨n, m, t, wa, sk, wo, ow, fi, l, cw, cv, L, hB⟩ := k'
  have hT : q_T n m t wa sk wo ow fi M := hB.1
  have h6 := hT.1
  have hm := hT.2.1
  have ht12 := hT.2.2.1
  have hn := hT.2.2.2.2.2.2.1
  have hC : q_cn n t L M := hB.2.2.2.2.2.1.1
  have hLB : q_LB n t L := hB.2.2.2.2.2.1.2.2
  have hLa : q_La l cw cv M := hB.2.2.2.1
  by_cases hp : ¬ (0 ≤ p ∧ p < (n : Int))
  · refine q_ref0 (b := 0) (c := 1) k rfl (by decide) ?_ ?_
    · unfold f_X10_skips
      rw [r_np hT.2.2.2.1, if_neg hp, f_tr]
    · unfold f_X11_skips f_X11_skips_19
      rw [r_isP (n := n) (by exact hn) h6, f_bs, if_neg hp, if_neg (by decide), r_badm rfl (by decide), f_bs, if_pos (by decide)]
      rfl
  replace hp := Classical.not_not.mp hp
  by_cases hy : ¬ (0 ≤ y ∧ y ≤ 10)
  · refine q_ref1 (b := 0) (c := 2) k rfl (by decide) ?_ ?_
    · unfold f_X10_skips
      rw [r_np hT.2.2.2.1, if_pos hp, f_tl, r_nw, if_neg hy, f_tr]
    · unfold f_X11_skips f_X11_skips_19
      rw [r_isP (n := n) (by exact hn) h6, f_bs, if_pos hp, if_pos (by decide), r_bad0 rfl, f_bs, if_neg (by decide), r_in, f_bs, if_neg hy, if_pos rfl, r_bada rfl (by decide), f_bs, if_neg (by decide)]
      rfl
  replace hy := Classical.not_not.mp hy
  by_cases hw : ¬ (0 ≤ w ∧ w ≤ 1)
  · refine q_ref1 (b := 0) (c := 2) k rfl (by decide) ?_ ?_
    · unfold f_X10_skips
      rw [r_np hT.2.2.2.1, if_pos hp, f_tl, r_nw, if_pos hy, f_tl, r_nw, if_neg hw, f_tr]
    · unfold f_X11_skips f_X11_skips_19
      rw [r_isP (n := n) (by exact hn) h6, f_bs, if_pos hp, if_pos (by decide), r_bad0 rfl, f_bs, if_neg (by decide), r_in, f_bs, if_pos hy, if_neg (by decide), r_in, f_bs, if_neg hw, if_neg (by decide), r_bada rfl (by decide), f_bs, if_neg (by decide)]
      rfl
  replace hw := Classical.not_not.mp hw
  obtain ⟨a, ha, rfl⟩ := q_nat hp
  obtain ⟨z, hz, rfl⟩ := q_nat (n := 11) (p := y) (by omega)
  have h2z : (2 : Nat) ^ z ≤ 2 ^ 10 := Nat.pow_le_pow_right (by omega) (by omega)
  have h2p := Nat.two_pow_pos z
  obtain ⟨bb, b, M1, i1, i2, i3, i4, i5, i6, i7⟩ := w_sf (z := z) ha (by omega) hT hLa hC hLB
  have f1 : ∀ a j, ¬ q_sca a → M1 a j = M a j := fun a j ha => i7 a j (by unfold q_sca at ha; omega) (by unfold q_sca at ha; omega) (by unfold q_sca at ha; omega)
  generalize hv : (if ¬ w = 1 then (q_pc b : Int) else (b : Int)) = v
  have hB2 := q_B_f (q_fr_b (v := v) f1) hB
  obtain ⟨b2, N, j1, j2, j3, j4⟩ := w_mo (w := w) (z := z) ha (by omega) hLB i1 hB2.1 hB2.2.2.2.1 hB2.2.2.2.2.2.1.2.1
  have eb : b = b2 := by
    have s0 := w_p0 (pr := w_pr l cw cv L wa (q_pc (q_an (sk a) (q_or (fun q => !decide (q = a)) sk n))) a) (bz := bb.testBit) (wg := wa a) z 0 0 (L a)
    have m1 : b < 2 ^ z ∧ w_p (w_pr l cw cv L wa (q_pc (q_an (sk a) (q_or (fun q => !decide (q = a)) sk n))) a) bb.testBit (wa a) b z 0 0 (L a) = true := by
      rcases i2 with h | h
      · rw [h]; exact ⟨h2p, s0⟩
      · exact h
    have m2 : b2 < 2 ^ z ∧ w_p (w_pr l cw cv L wa (q_pc (q_an (sk a) (q_or (fun q => !decide (q = a)) sk n))) a) bb.testBit (wa a) b2 z 0 0 (L a) = true := by
      rcases j1 with h | h
      · rw [h]; exact ⟨h2p, s0⟩
      · exact h
    exact w_le_as (i3 b2 m2.1 m2.2) (j2 b m1.1 m1.2)
  refine q_ok (M1 := M1) (M2 := N) (v := v) k ?_ f1 ?_ (fun a j h1 h2 _ _ _ _ => j4 a j h1 h2)
  · unfold f_X10_skips
    rw [r_np hT.2.2.2.1, if_pos hp, f_tl, r_nw, if_pos hy, f_tl, r_nw, if_pos hw, f_tl, i4 F (by omega), f_bs, i5, i6, ← hv]
    by_cases c : w = 0
    · rw [if_neg (not_not_intro c), if_pos (by omega)]
    · rw [if_pos c, if_neg (by omega)]
  · unfold f_X11_skips f_X11_skips_19
    rw [r_isP (n := n) hB2.1.2.2.2.2.2.2.1 h6, f_bs, if_pos hp, if_pos (by decide), r_bad0 rfl, f_bs, if_neg (by decide), r_in, f_bs, if_pos hy, if_neg (by decide), r_in, f_bs, if_pos hw, if_pos (by decide), r_bad0 rfl, f_bs, if_pos rfl, q_bb (by omega), j3 F (by omega), ← hv, eb]
