/-! OPERATIONS, 21: feed -/
theorem x_and (y : Int) : e_and y 255 = y % 256 := by
  have e : (Int32.ofInt y &&& Int32.ofInt 255).toBitVec.toNat = (y % 256).toNat := by
    rw [Int32.toBitVec_and, BitVec.toNat_and]
    have h1 : (Int32.ofInt y).toBitVec.toNat = (y % 4294967296).toNat := by
      show (BitVec.ofInt 32 y).toNat = _
      rw [BitVec.toNat_ofInt]
      rfl
    have h2 : (Int32.ofInt 255).toBitVec.toNat = 2 ^ 8 - 1 := by decide
    rw [h1, h2, Nat.and_two_pow_sub_one_eq_mod]
    omega
  unfold e_and
  show (Int32.ofInt y &&& Int32.ofInt 255).toBitVec.toInt = _
  rw [BitVec.toInt_eq_toNat_of_lt (by rw [e]; omega), e]
  omega
theorem x_i2b (y : Int) : e_i2b y = Int.bmod y 256 := by
  unfold e_i2b
  rw [Int8.toInt_toInt32, Int32.toInt_toInt8, Int32.toInt_ofInt]
  exact Int.bmod_bmod_of_dvd (by decide)
theorem x_sb (y : Int) : e_i2b (e_i2b y) = q_sb (e_and y 255) := by
  rw [x_and, x_i2b, x_i2b, Int.bmod_bmod]
  unfold q_sb
  rw [Int.bmod_def]
  by_cases h : y % 256 < 128
  · rw [if_pos h, if_pos (by omega)]; rfl
  · rw [if_neg h, if_neg (by omega)]; rfl
/-- the byte i of a word -/
def x_y (p : Int) (i : Nat) : Int := e_shr p (24 - 8 * (i : Int))
theorem x_ab {M : e_M} {s : Nat} (p : Int) (h : M 2 1 = (s : Int)) (hs : s + 4 ≤ 600) : ∃ M', (∀ f, 10 < f → f_X7_addBytesOf f p M = some (0, M')) ∧ M' 2 1 = ((s + 4 : Nat) : Int) ∧ (∀ i, i < 4 → M' 3 (s + i) = e_i2b (e_i2b (x_y p i))) ∧ (∀ j, j < s ∨ s + 4 ≤ j → M' 3 j = M 3 j) ∧ ∀ a j, a ≠ 3 → ¬ (a = 2 ∧ j = 1) → M' a j = M a j := by
  obtain ⟨A, ⟨a1, a2, a3, a4⟩, hA⟩ := q_run 0 1 4 (fun f (A : e_M) i => f_X7_addBytesOf_3 f p (24 - 8 * i) A) (fun i A => A 2 1 = ((s + i : Nat) : Int) ∧ (∀ k, k < i → A 3 (s + k) = e_i2b (e_i2b (x_y p k))) ∧ (∀ j, j < s ∨ s + i ≤ j → A 3 j = M 3 j) ∧ ∀ a j, a ≠ 3 → ¬ (a = 2 ∧ j = 1) → A a j = M a j) (a := M) (fun i A hi hA => by
    obtain ⟨a1, a2, a3, a4⟩ := hA
    refine ⟨e_up (e_up A 3 (s + i) (e_i2b (e_i2b (x_y p i)))) 2 1 ((s + (i + 1) : Nat) : Int), ⟨u_s _ _ _ _, fun k hk => ?_, fun j hj => ?_, fun a j h1 h2 => ?_⟩, fun f hf => ?_⟩
    · rw [u_r (by decide)]
      by_cases e : k = i
      · rw [e, u_s]
      · rw [u_c (by omega), a2 k (by omega)]
    · rw [u_r (by decide), u_c (by omega), a3 j (by omega)]
    · by_cases e : a = 2
      · subst e
        rw [u_c (by omega), u_r (by decide), a4 2 j (by decide) h2]
      · rw [u_r e, u_r h1, a4 a j h1 h2]
    · rw [f_X7_addBytesOf_3, if_neg (by omega), a1, if_neg (by omega), if_pos (by omega), Int.toNat_natCast, u_r (show (2 : Nat) ≠ 3 by decide), a1, e_ws_ (x := ((s + i : Nat) : Int) + 1) (by omega) (by omega), e_ws_ (x := 24 - 8 * (i : Int) + (-8)) (by omega) (by omega), show 24 - 8 * (i : Int) + (-8) = 24 - 8 * ((i : Int) + 1) by omega]
      rfl) ⟨h, fun k hk => absurd hk (by omega), fun _ _ => rfl, fun _ _ _ _ => rfl⟩
  refine ⟨A, fun f hf => ?_, a1, a2, a3, a4⟩
  obtain ⟨f', rfl⟩ : ∃ f', f = (f' + 1) + 4 * 1 := ⟨f - 5, by omega⟩
  refine Eq.trans (hA (f' + 1) (by omega)) ?_
  show f_X7_addBytesOf_3 (f' + 1) p (24 - 8 * ((4 : Nat) : Int)) A = _
  rw [f_X7_addBytesOf_3, if_pos (by decide)]
def x_se (a b c d e : Int) (q : Nat) : Int := if q = 0 then a else if q = 1 then b else if q = 2 then c else if q = 3 then d else e
theorem x_fm {N : e_M} {s : Nat} (a b c d e : Int) (h : N 64 1 = (s : Int)) (hs : s + 20 ≤ 600) : ∃ N', (∀ f, 30 < f → f_X11_feed_23 f a b c d e 0 N = some (((s + 20 : Nat) : Int), N')) ∧ N' 64 1 = ((s + 20 : Nat) : Int) ∧ (∀ q i, q < 5 → i < 4 → N' 65 (s + 4 * q + i) = e_and (x_y (x_se a b c d e q) i) 255) ∧ (∀ j, j < s ∨ s + 20 ≤ j → N' 65 j = N 65 j) ∧ ∀ a j, a ≠ 65 → ¬ (a = 64 ∧ j = 1) → N' a j = N a j := by
  obtain ⟨A, ⟨a1, a2, a3, a4⟩, hA⟩ := q_run 0 1 20 (fun f (A : e_M) i => f_X11_feed_23 f a b c d e i A) (fun i A => A 64 1 = ((s + i : Nat) : Int) ∧ (∀ k, k < i → A 65 (s + k) = e_and (x_y (x_se a b c d e (k / 4)) (k % 4)) 255) ∧ (∀ j, j < s ∨ s + i ≤ j → A 65 j = N 65 j) ∧ ∀ a j, a ≠ 65 → ¬ (a = 64 ∧ j = 1) → A a j = N a j) (a := N) (fun i A hi hA => by
    obtain ⟨a1, a2, a3, a4⟩ := hA
    refine ⟨e_up (e_up A 65 (s + i) (e_and (x_y (x_se a b c d e (i / 4)) (i % 4)) 255)) 64 1 ((s + (i + 1) : Nat) : Int), ⟨u_s _ _ _ _, fun k hk => ?_, fun j hj => ?_, fun a j h1 h2 => ?_⟩, fun f hf => ?_⟩
    · rw [u_r (by decide)]
      by_cases e : k = i
      · rw [e, u_s]
      · rw [u_c (by omega), a2 k (by omega)]
    · rw [u_r (by decide), u_c (by omega), a3 j (by omega)]
    · by_cases e : a = 64
      · subst e
        rw [u_c (by omega), u_r (by decide), a4 64 j (by decide) h2]
      · rw [u_r e, u_r h1, a4 a j h1 h2]
    · have est : ∀ v : Int, e_up (e_up A 65 ((s + i : Nat) : Int).toNat (e_and (e_shr v (e_w (24 - e_w (8 * e_w (Int.tmod (i : Int) 4))))) 255)) 64 1 (e_w ((e_up A 65 ((s + i : Nat) : Int).toNat (e_and (e_shr v (e_w (24 - e_w (8 * e_w (Int.tmod (i : Int) 4))))) 255)) 64 1 + 1)) = e_up (e_up A 65 (s + i) (e_and (x_y v (i % 4)) 255)) 64 1 ((s + (i + 1) : Nat) : Int) := by
        intro v
        rw [Int.tmod_eq_emod_of_nonneg (by omega), Int.toNat_natCast, u_r (show (64 : Nat) ≠ 65 by decide), a1, e_ws_ (x := ((s + i : Nat) : Int) + 1) (by omega) (by omega), e_ws_ (x := (i : Int) % 4) (by omega) (by omega), e_ws_ (x := 8 * ((i : Int) % 4)) (by omega) (by omega), e_ws_ (x := 24 - 8 * ((i : Int) % 4)) (by omega) (by omega)]
        rfl
      have hsel : x_se a b c d e (i / 4) = if 4 ≤ (i : Int) then (if 8 ≤ (i : Int) then (if 12 ≤ (i : Int) then (if 16 ≤ (i : Int) then e else d) else c) else b) else a := by
        unfold x_se
        repeat' split
        all_goals first | rfl | omega
      rw [f_X11_feed_23, if_neg (by omega), a1, if_pos (show 0 ≤ ((s + i : Nat) : Int) ∧ ((s + i : Nat) : Int) < 600 by omega), if_pos (show 0 ≤ ((s + i : Nat) : Int) ∧ ((s + i : Nat) : Int) < 600 by omega), if_pos (show 0 ≤ ((s + i : Nat) : Int) ∧ ((s + i : Nat) : Int) < 600 by omega), if_pos (show 0 ≤ ((s + i : Nat) : Int) ∧ ((s + i : Nat) : Int) < 600 by omega), if_pos (show 0 ≤ ((s + i : Nat) : Int) ∧ ((s + i : Nat) : Int) < 600 by omega), est a, est b, est c, est d, est e, e_ws_ (x := (i : Int) + 1) (by omega) (by omega), hsel]
      repeat' split
      all_goals rfl) ⟨h, fun k hk => absurd hk (by omega), fun _ _ => rfl, fun _ _ _ _ => rfl⟩
  refine ⟨A, fun f hf => ?_, a1, fun q i hq hi => ?_, a3, a4⟩
  · obtain ⟨f', rfl⟩ : ∃ f', f = (f' + 1) + 20 * 1 := ⟨f - 21, by omega⟩
    refine Eq.trans (hA (f' + 1) (by omega)) ?_
    show f_X11_feed_23 (f' + 1) a b c d e ((20 : Nat) : Int) A = _
    rw [f_X11_feed_23, if_pos (by decide), a1]
  · have h := a2 (4 * q + i) (by omega)
    rw [show (4 * q + i) / 4 = q by omega, show (4 * q + i) % 4 = i by omega, ← Nat.add_assoc] at h
    exact h
theorem o_feed {F : Nat} (hF : 300 < F) (a b c d e : Int) : q_o1 (f_X10_feed F a b c d e) (f_X11_feed F a b c d e) := by
  intro M k
  have k' := k
  obtain ⟨n, m, t, wa, sk, wo, ow, fi, l, cw, cv, L, hT, hK1, hK2, hLa, hK5, hLi, hK7, hK8⟩ := k'
  obtain ⟨s, hs⟩ : ∃ s : Nat, M 2 1 = (s : Int) := ⟨(M 2 1).toNat, by have := hK1.1; omega⟩
  have h1 := hK1.1
  have h2 := hK1.2.1
  have h3 := hK1.2.2.1
  by_cases hr : 580 < s
  · refine ⟨-1, M, e_up M 64 0 0, ?_, ?_, q_K_f (q_fr_b1 (M := M) (M1 := M) (fun _ _ _ => rfl)) k⟩
    · unfold f_X10_feed f_X7_hasRoomFor
      rw [hs, e_ws_ (x := (s : Int) + 20) (by omega) (by omega), if_pos (by omega), f_bs, if_neg (by decide)]
    · unfold f_X11_feed
      rw [u_c (show (1 : Nat) ≠ 0 by decide), h3, hs, e_ws_ (x := (s : Int) + 20) (by omega) (by omega), if_neg (by omega)]
  · obtain ⟨A1, p1, p2, p3, p4, p5⟩ := x_ab a hs (by omega)
    obtain ⟨A2, q1, q2, q3, q4, q5⟩ := x_ab b p2 (by omega)
    obtain ⟨A3, r1, r2, r3, r4, r5⟩ := x_ab c q2 (by omega)
    obtain ⟨A4, s1, s2, s3, s4, s5⟩ := x_ab d r2 (by omega)
    obtain ⟨A5, t1, t2, t3, t4, t5⟩ := x_ab e s2 (by omega)
    have fr : ∀ a j, a ≠ 3 → ¬ (a = 2 ∧ j = 1) → A5 a j = M a j := fun a j x1 x2 => by rw [t5 a j x1 x2, s5 a j x1 x2, r5 a j x1 x2, q5 a j x1 x2, p5 a j x1 x2]
    have fr3 : ∀ j, j < s ∨ s + 20 ≤ j → A5 3 j = M 3 j := fun j hj => by rw [t4 j (by omega), s4 j (by omega), r4 j (by omega), q4 j (by omega), p4 j (by omega)]
    have by3 : ∀ q i, q < 5 → i < 4 → A5 3 (s + 4 * q + i) = e_i2b (e_i2b (x_y (x_se a b c d e q) i)) := fun q i hq hi => by
      have hc : q = 0 ∨ q = 1 ∨ q = 2 ∨ q = 3 ∨ q = 4 := by omega
      rcases hc with rfl | rfl | rfl | rfl | rfl
      · rw [t4 _ (by omega), s4 _ (by omega), r4 _ (by omega), q4 _ (by omega)]; exact p3 i hi
      · rw [t4 _ (by omega), s4 _ (by omega), r4 _ (by omega)]; exact q3 i hi
      · rw [t4 _ (by omega), s4 _ (by omega)]; exact r3 i hi
      · rw [t4 _ (by omega)]; exact s3 i hi
      · exact t3 i hi
    have hN1 : (e_up A5 64 0 0) 64 1 = (s : Int) := by rw [u_c (by decide), fr 64 1 (by decide) (by omega), h3, hs]
    obtain ⟨N, n1, n2, n3, n4, n5⟩ := x_fm (N := e_up A5 64 0 0) a b c d e hN1 (by omega)
    have frN : ∀ a j, a ≠ 3 → a ≠ 65 → ¬ (a = 2 ∧ j = 1) → ¬ (a = 64 ∧ (j = 0 ∨ j = 1)) → N a j = M a j := fun a j x1 x2 x3 x4 => by
      rw [n5 a j x2 (by omega)]
      by_cases h : a = 64
      · subst h
        rw [u_c (by omega), fr 64 j x1 x3]
      · rw [u_r h, fr a j x1 x3]
    have N3 : ∀ j, N 3 j = A5 3 j := fun j => by rw [n5 3 j (by decide) (by omega), u_r (by decide)]
    refine ⟨((s + 20 : Nat) : Int), A5, N, ?_, ?_, n, m, t, wa, sk, wo, ow, fi, l, cw, cv, L, q_T_f (fun a j z => frN a j (by unfold q_F3 at z; omega) (by unfold q_F3 at z; omega) (by unfold q_F3 at z; omega) (by unfold q_F3 at z; omega)) hT, ?_, ?_, q_La_f (fun a j z => frN a j (by unfold q_F4 at z; omega) (by unfold q_F4 at z; omega) (by unfold q_F4 at z; omega) (by unfold q_F4 at z; omega)) hLa, q_K5_f hT.1 (fun a j z => frN a j (by unfold q_F5 at z; omega) (by unfold q_F5 at z; omega) (by unfold q_F5 at z; omega) (by unfold q_F5 at z; omega)) hK5, q_Li_f (fun a j z => frN a j (by unfold q_F6 at z; omega) (by unfold q_F6 at z; omega) (by unfold q_F6 at z; omega) (by unfold q_F6 at z; omega)) hLi, q_K7_f (fun a j z => frN a j (by unfold q_F7 at z; omega) (by unfold q_F7 at z; omega) (by unfold q_F7 at z; omega) (by unfold q_F7 at z; omega)) hK7, q_K8_f (fun a j z => frN a j (by unfold q_F8 at z; omega) (by unfold q_F8 at z; omega) (by unfold q_F8 at z; omega) (by unfold q_F8 at z; omega)) hK8⟩
    · unfold f_X10_feed f_X7_hasRoomFor
      rw [hs, e_ws_ (x := (s : Int) + 20) (by omega) (by omega), if_neg (by omega), f_bs, if_pos (by decide), p1 F (by omega), f_bs, q1 F (by omega), f_bs, r1 F (by omega), f_bs, s1 F (by omega), f_bs, t1 F (by omega), f_bs, t2]
    · unfold f_X11_feed
      rw [hN1, e_ws_ (x := (s : Int) + 20) (by omega) (by omega), if_pos (by omega)]
      exact n1 F (by omega)
    · have eN : N 2 1 = ((s + 20 : Nat) : Int) := by rw [n5 2 1 (by decide) (by omega), u_r (by decide)]; exact t2
      unfold q_K1
      rw [eN, n2, frN 64 3 (by decide) (by decide) (by omega) (by omega), frN 2 5 (by decide) (by decide) (by omega) (by omega), frN 66 0 (by decide) (by decide) (by omega) (by omega), frN 1 16 (by decide) (by decide) (by omega) (by omega), frN 66 1 (by decide) (by decide) (by omega) (by omega), frN 1 17 (by decide) (by decide) (by omega) (by omega), frN 64 37 (by decide) (by decide) (by omega) (by omega), frN 32 6 (by decide) (by decide) (by omega) (by omega)]
      exact ⟨by omega, by omega, rfl, hK1.2.2.2⟩
    · intro j hj
      rw [N3 j]
      by_cases hj2 : s ≤ j ∧ j < s + 20
      · have ej : j = s + 4 * ((j - s) / 4) + (j - s) % 4 := by omega
        have b1 := by3 ((j - s) / 4) ((j - s) % 4) (by omega) (by omega)
        have b2 := n3 ((j - s) / 4) ((j - s) % 4) (by omega) (by omega)
        rw [← ej] at b1 b2
        rw [b1, b2, x_sb, x_and]
        exact ⟨by omega, by omega, rfl⟩
      · have e65 : N 65 j = M 65 j := by rw [n4 j (by omega), u_r (by decide), fr 65 j (by decide) (by omega)]
        rw [fr3 j (by omega), e65]
        exact hK2 j hj
