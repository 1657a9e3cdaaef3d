/-! A WORK IS DONE, 3: all its steps -/
section RV
variable {n m t : Nat} {wa : Nat → Int} {sk : Nat → Nat} {wo : Nat → Int} {ow : Nat → Nat} {fi : Nat → Int} {l : Nat} {cw cv : Nat → Int} {P : e_M} {lp F : Nat}
theorem r_end {rc : Int → Int → Int → e_M → Option (Int × e_M)} {rm : Nat → Int → Int → e_M → Option (Int × e_M)} {o i : Nat} : r_A n m t wa sk wo ow fi l cw cv P lp rc rm o i i := by
  intro v6 L b s r M hv hC
  refine ⟨L, b, s, r, M, fun f p2 hf => ?_, hC, r_FC.rf, fun N hN G hG => ⟨N, fun f p1 hf => ?_, hN, r_FN.rf⟩⟩
  · obtain ⟨g, rfl⟩ : ∃ g, f = g + 1 := ⟨f - 1, by omega⟩
    rw [f_X4_runSteps_L14, if_pos rfl]
    by_cases c : (30 : Int) ≤ (v6 : Int)
    · rw [if_pos c]
    · rw [if_neg c, if_pos (Int.le_refl _)]
  · obtain ⟨g, rfl⟩ : ∃ g, f = g + 1 := ⟨f - 1, by omega⟩
    rw [f_X11_goes_L2, if_pos rfl, if_pos (Int.le_refl _)]
theorem r_run (hF : 3000 < F) (hl : lp ≤ 30) : ∀ (u d i j kc km : Nat), p_W n t P u d i j → j ≤ lp → d ≤ 6 → d ≤ kc → d ≤ km → r_A n m t wa sk wo ow fi l cw cv P lp (fun x1 x2 x3 N => g_X4_runSteps F kc 0 x1 x2 x3 N) (fun G x1 x2 N => g_X11_goes G km 0 x1 x2 N) (6 - d) i j := by
  intro u
  induction u with
  | zero =>
    intro d i j kc km h
    have h' : i = j := h
    subst h'
    intro _ _ _ _
    exact r_end
  | succ u ih =>
    intro d i j kc km h hj hd hkc hkm
    rcases h with h | ⟨i', h1, h2, h35, h4, h5⟩
    · subst h; exact r_end
    intro v6 L b s r M hv hC
    have hC0 := hC
    obtain ⟨a1, a2, a3, a4, a5, a6, a7, a8, a9, a10⟩ := hC
    obtain ⟨e33, e34, e35⟩ := a10 i
    have hi30 : 0 ≤ (i : Int) ∧ (i : Int) < 30 := by omega
    have hi80 : 0 ≤ (i : Int) ∧ (i : Int) < 80 := by omega
    by_cases hb : b = 200
    · refine ⟨L, b, s, r, M, fun f p2 hf => ?_, hC0, r_FC.rf, fun N hN G hG => ⟨N, fun f p1 hf => ?_, hN, r_FN.rf⟩⟩
      · obtain ⟨g, rfl⟩ : ∃ g, f = g + 1 := ⟨f - 1, by omega⟩
        rw [f_X4_runSteps_L14, if_pos rfl, if_neg (show ¬ (30 : Int) ≤ (v6 : Int) by omega), if_neg (show ¬ (j : Int) ≤ (i : Int) by omega), a5, if_pos (show (200 : Int) ≤ (b : Int) by omega)]
      · obtain ⟨R, b1, b2, b3, b4, b5, b6, b7, b8⟩ := hN
        obtain ⟨g, rfl⟩ : ∃ g, f = g + 1 := ⟨f - 1, by omega⟩
        rw [f_X11_goes_L2, if_pos rfl, if_neg (show ¬ (j : Int) ≤ (i : Int) by omega), b5, if_pos (show (200 : Int) ≤ (b : Int) by omega)]
    -- one more is begun
    have hC1 : r_C n m t wa sk wo ow fi l cw cv P L (b + 1) s r (e_up M 32 4 ((b + 1 : Nat) : Int)) := r_C_f hC0 (r_FC_u (by omega)) (q_cn_f (fun a j z => u_r (by omega)) a3) a4 (u_s _ _ _ _) (by rw [u_c (by decide)]; exact a6) (by rw [u_c (by decide)]; exact a7) (by omega) (by omega)
    have hN1 : ∀ N, r_N n m t wa sk wo ow fi l cw cv P lp L b s r N → r_N n m t wa sk wo ow fi l cw cv P lp L (b + 1) s r (e_up N 64 40 ((b + 1 : Nat) : Int)) := fun N hN => by
      have hN0 := hN
      obtain ⟨R, b1, b2, b3, b4, b5, b6, b7, b8⟩ := hN
      exact r_N_f hN0 (r_FN_u (by omega)) (fun j hj => by rw [u_r (by decide)]; exact b3 j hj) b4 (u_s _ _ _ _) (by rw [u_c (by decide)]; exact b6) (by rw [u_c (by decide)]; exact b7) hl
    rcases h4 with ⟨hi', hok⟩ | ⟨h33, hv0, hv60, d', hd', hin⟩
    · -- a step that is no loop
      subst hi'
      have hk4 : ¬ P 33 i = 4 := by
        unfold p_ok at hok; omega
      obtain ⟨ok, L2, M2, d1, d2, d3, d4, d5, d6⟩ := d_stp hok hC1.1 hC1.2.1 hC1.2.2.1 hC1.2.2.2.1
      have F2 : r_FC M M2 := fun a j x y => by rw [d5 a j x]; exact r_FC_u (by omega) a j x y
      have c4 : M2 32 4 = ((b + 1 : Nat) : Int) := by rw [d5 32 4 (by omega), u_s]
      have c5 : M2 32 5 = (s : Int) := by rw [d5 32 5 (by omega), u_c (by decide)]; exact a6
      have c6 : M2 32 6 = (r : Int) := by rw [d5 32 6 (by omega), u_c (by decide)]; exact a7
      have c35 : M2 35 i = ((i + 1 : Nat) : Int) := by rw [F2 35 i (by omega) (by omega), e35]; exact h35
      obtain ⟨s3, r3, M3, g1, g2, g3, g4⟩ : ∃ (s3 r3 : Nat) (M3 : e_M), r_C n m t wa sk wo ow fi l cw cv P L2 (b + 1) s3 r3 M3 ∧ r_FC M M3 ∧ (∀ (f : Nat) (p2 : Int), 300 < f → f_X4_runSteps_L14 (fun x1 x2 x3 N => g_X4_runSteps F kc 0 x1 x2 x3 N) (f + 1) 0 p2 (j : Int) ((6 - d : Nat) : Int) (i : Int) (v6 : Int) 0 M = f_X4_runSteps_L14 (fun x1 x2 x3 N => g_X4_runSteps F kc 0 x1 x2 x3 N) f 0 p2 (j : Int) ((6 - d : Nat) : Int) ((i + 1 : Nat) : Int) ((v6 + 1 : Nat) : Int) 0 M3) ∧ ∀ N, r_N n m t wa sk wo ow fi l cw cv P lp L b s r N → ∀ G, 2500 < G → ∃ N3, (∀ (f : Nat) (p1 : Int), 300 < f → f_X11_goes_L2 (fun x1 x2 N => g_X11_goes G km 0 x1 x2 N) (f + 1) 0 p1 (j : Int) (i : Int) 0 N = f_X11_goes_L2 (fun x1 x2 N => g_X11_goes G km 0 x1 x2 N) f 0 p1 (j : Int) ((i + 1 : Nat) : Int) 0 N3) ∧ r_N n m t wa sk wo ow fi l cw cv P lp L2 (b + 1) s3 r3 N3 ∧ r_FN N N3 := by
        have mod : ∀ N, r_N n m t wa sk wo ow fi l cw cv P lp L b s r N → ∃ (N2 : e_M) (R2 : Nat → Int), (∀ f, 300 < f → f_X11_does 532 (452 + i) f (e_up N 64 40 ((b + 1 : Nat) : Int)) = some (ok, N2)) ∧ q_ml N2 532 R2 ∧ q_ag n t L2 R2 ∧ r_FN N N2 ∧ N2 64 40 = ((b + 1 : Nat) : Int) ∧ N2 64 41 = (s : Int) ∧ N2 64 37 = (r : Int) ∧ N2 (452 + i) 3 = ((i + 1 : Nat) : Int) ∧ (e_up N 64 40 ((b + 1 : Nat) : Int)) (452 + i) 0 = P 33 i := fun N hN => by
          obtain ⟨R, b1, b2, b3, b4, b5, b6, b7, b8⟩ := hN1 N hN
          obtain ⟨x1, x2, x3⟩ := b8 i (by omega) (by omega)
          obtain ⟨N2, R2, y1, y2, y3, y4⟩ := d6 _ i R (by omega) b1 b2 b3 b4 x1 x2
          refine ⟨N2, R2, y1, y2, y3, fun a j x y => by rw [y4 a j x]; exact r_FN_u (by omega) a j x y, by rw [y4 64 40 (by omega)]; exact b5, by rw [y4 64 41 (by omega)]; exact b6, by rw [y4 64 37 (by omega)]; exact b7, by rw [y4 _ 3 (by omega), x3]; exact h35, x1⟩
        have cls : ∀ (f : Nat) (p2 : Int), 300 < f → f_X4_runSteps_L14 (fun x1 x2 x3 N => g_X4_runSteps F kc 0 x1 x2 x3 N) (f + 1) 0 p2 (j : Int) ((6 - d : Nat) : Int) (i : Int) (v6 : Int) 0 M = (if ok = 0 then f_X4_runSteps_L14 (fun x1 x2 x3 N => g_X4_runSteps F kc 0 x1 x2 x3 N) f 0 p2 (j : Int) ((6 - d : Nat) : Int) ((i + 1 : Nat) : Int) ((v6 + 1 : Nat) : Int) 0 (e_up M2 32 6 ((r + 1 : Nat) : Int)) else f_X4_runSteps_L14 (fun x1 x2 x3 N => g_X4_runSteps F kc 0 x1 x2 x3 N) f 0 p2 (j : Int) ((6 - d : Nat) : Int) ((i + 1 : Nat) : Int) ((v6 + 1 : Nat) : Int) 0 (e_up M2 32 5 ((s + 1 : Nat) : Int))) := fun f p2 hf => by
          rw [f_X4_runSteps_L14, if_pos rfl, if_neg (show ¬ (30 : Int) ≤ (v6 : Int) by omega), if_neg (show ¬ (j : Int) ≤ (i : Int) by omega), a5, if_neg (show ¬ (200 : Int) ≤ (b : Int) by omega), if_pos hi30, y_ei (show b < 1000000 by omega), u_r (show (33 : Nat) ≠ 32 by decide), Int.toNat_natCast, e33, if_pos hk4, if_pos hi30, if_pos hi30, u_r (show (34 : Nat) ≠ 32 by decide), e34, d1 f hf, f_bs, if_pos hi30, if_pos hi30, u_r (show (35 : Nat) ≠ 32 by decide), u_r (show (35 : Nat) ≠ 32 by decide), c35, c5, c6, y_ei (show r < 1000000 by omega), y_ei (show s < 1000000 by omega), y_ei (show v6 < 1000000 by omega)]
        rcases d2 with rfl | rfl
        · refine ⟨s, r + 1, e_up M2 32 6 ((r + 1 : Nat) : Int), r_C_f hC0 (F2.tr (r_FC_u (by omega))) (q_cn_f (fun a j z => u_r (by omega)) d3) d4 (by rw [u_c (by decide)]; exact c4) (by rw [u_c (by decide)]; exact c5) (u_s _ _ _ _) (by omega) (by omega), F2.tr (r_FC_u (by omega)), fun f p2 hf => by rw [cls f p2 hf, if_pos rfl], fun N hN G hG => ?_⟩
          obtain ⟨N2, R2, y1, y2, y3, y4, y5, y6, y7, y8, y9⟩ := mod N hN
          refine ⟨e_up (e_up N2 64 41 (s : Int)) 64 37 ((r + 1 : Nat) : Int), fun f p1 hf => ?_, r_N_f hN ((y4.tr (r_FN_u (by omega))).tr (r_FN_u (by omega))) (fun j hj => by rw [u_r (by decide), u_r (by decide)]; exact y2 j hj) y3 (by rw [u_c (by decide), u_c (by decide)]; exact y5) (by rw [u_c (by decide), u_s]) (u_s _ _ _ _) hl, (y4.tr (r_FN_u (by omega))).tr (r_FN_u (by omega))⟩
          obtain ⟨R, b1, b2, b3, b4, b5, b6, b7, b8⟩ := hN
          rw [f_X11_goes_L2, if_pos rfl, if_neg (show ¬ (j : Int) ≤ (i : Int) by omega), b5, if_neg (show ¬ (200 : Int) ≤ (b : Int) by omega), if_pos hi80, y_ei (show b < 1000000 by omega), Int.toNat_natCast, y9, if_pos hk4, if_pos hi80, y1 f hf, f_bs, if_pos rfl, if_pos rfl, if_pos hi80, y6, Int.add_zero, e_ws_ (x := (s : Int)) (by omega) (by omega), u_c (show (37 : Nat) ≠ 41 by decide), y7, y_ei (show r < 1000000 by omega), u_r (show 452 + i ≠ 64 by omega), u_r (show 452 + i ≠ 64 by omega), y8]
        · refine ⟨s + 1, r, e_up M2 32 5 ((s + 1 : Nat) : Int), r_C_f hC0 (F2.tr (r_FC_u (by omega))) (q_cn_f (fun a j z => u_r (by omega)) d3) d4 (by rw [u_c (by decide)]; exact c4) (u_s _ _ _ _) (by rw [u_c (by decide)]; exact c6) (by omega) (by omega), F2.tr (r_FC_u (by omega)), fun f p2 hf => by rw [cls f p2 hf, if_neg (by decide)], fun N hN G hG => ?_⟩
          obtain ⟨N2, R2, y1, y2, y3, y4, y5, y6, y7, y8, y9⟩ := mod N hN
          refine ⟨e_up (e_up N2 64 41 ((s + 1 : Nat) : Int)) 64 37 (r : Int), fun f p1 hf => ?_, r_N_f hN ((y4.tr (r_FN_u (by omega))).tr (r_FN_u (by omega))) (fun j hj => by rw [u_r (by decide), u_r (by decide)]; exact y2 j hj) y3 (by rw [u_c (by decide), u_c (by decide)]; exact y5) (by rw [u_c (by decide), u_s]) (u_s _ _ _ _) hl, (y4.tr (r_FN_u (by omega))).tr (r_FN_u (by omega))⟩
          obtain ⟨R, b1, b2, b3, b4, b5, b6, b7, b8⟩ := hN
          rw [f_X11_goes_L2, if_pos rfl, if_neg (show ¬ (j : Int) ≤ (i : Int) by omega), b5, if_neg (show ¬ (200 : Int) ≤ (b : Int) by omega), if_pos hi80, y_ei (show b < 1000000 by omega), Int.toNat_natCast, y9, if_pos hk4, if_pos hi80, y1 f hf, f_bs, if_neg (show ¬ (1 : Int) = 0 by decide), if_neg (show ¬ (1 : Int) = 0 by decide), if_pos hi80, y6, y_ei (show s < 1000000 by omega), u_c (show (37 : Nat) ≠ 41 by decide), y7, Int.add_zero, e_ws_ (x := (r : Int)) (by omega) (by omega), u_r (show 452 + i ≠ 64 by omega), u_r (show 452 + i ≠ 64 by omega), y8]
      obtain ⟨L4, b4, s4, r4, M4, k1, k2, k3, k4⟩ := ih d (i + 1) j kc km h5 hj hd hkc hkm (v6 + 1) L2 (b + 1) s3 r3 M3 (by omega) g1
      refine ⟨L4, b4, s4, r4, M4, fun f p2 hf => ?_, k2, g2.tr k3, fun N hN G hG => ?_⟩
      · obtain ⟨g, rfl⟩ : ∃ g, f = g + 1 := ⟨f - 1, by omega⟩
        rw [g3 g p2 (by omega)]
        exact k1 g p2 (by omega)
      · obtain ⟨N3, o1, o2, o3⟩ := g4 N hN G hG
        obtain ⟨N4, q1, q2, q3⟩ := k4 N3 o2 G hG
        refine ⟨N4, fun f p1 hf => ?_, q2, o3.tr q3⟩
        obtain ⟨g, rfl⟩ : ∃ g, f = g + 1 := ⟨f - 1, by omega⟩
        rw [o1 g p1 (by omega)]
        exact q1 g p1 (by omega)
    · -- a loop
      subst hd'
      obtain ⟨kc', rfl⟩ : ∃ x, kc = x + 1 := ⟨kc - 1, by omega⟩
      obtain ⟨km', rfl⟩ : ∃ x, km = x + 1 := ⟨km - 1, by omega⟩
      obtain ⟨V, hV⟩ : ∃ V : Nat, P 34 i = (V : Int) := ⟨(P 34 i).toNat, by omega⟩
      have hA := ih d' (i + 1) i' kc' km' hin (by omega) (by omega) (by omega) (by omega)
      have ho : 6 - (d' + 1) + 1 = 6 - d' := by omega
      have rep := r_rep (n := n) (m := m) (t := t) (wa := wa) (sk := sk) (wo := wo) (ow := ow) (fi := fi) (l := l) (cw := cw) (cv := cv) (P := P) (lp := lp) (rc := fun x1 x2 x3 N => g_X4_runSteps F (kc' + 1) 0 x1 x2 x3 N) (rm := fun G x1 x2 N => g_X11_goes G (km' + 1) 0 x1 x2 N) (o := 6 - (d' + 1)) (i := i) (i' := i') (v6 := v6) hl (by omega) (by omega) (by omega) h35 h33 (fun L b s r M hCC => by
        obtain ⟨L', b', s', r', M', x1, x2, x3, x4⟩ := hA 0 L b s r M (Nat.zero_le _) hCC
        refine ⟨L', b', s', r', M', ?_, x2, x3, fun N hN G hG => ?_⟩
        · show g_X4_runSteps F (kc' + 1) 0 ((i + 1 : Nat) : Int) (i' : Int) ((6 - (d' + 1) + 1 : Nat) : Int) M = _
          rw [g_X4_runSteps, ho]
          unfold f_X4_runSteps
          rw [if_pos (show ((6 - d' : Nat) : Int) ≤ 6 by omega)]
          exact x1 F _ (by omega)
        · obtain ⟨N', y1, y2, y3⟩ := x4 N hN G hG
          refine ⟨N', ?_, y2, y3⟩
          show g_X11_goes G (km' + 1) 0 ((i + 1 : Nat) : Int) (i' : Int) N = _
          rw [g_X11_goes]
          unfold f_X11_goes
          exact y1 G _ (by omega)) V 0 L (b + 1) s r _ (by rw [hV, Nat.zero_add]) (by omega) hC1
      obtain ⟨L2, b2, s2, r2, M2, x1, x2, x3, x4⟩ := rep
      obtain ⟨L4, b4, s4, r4, M4, k1, k2, k3, k4⟩ := ih (d' + 1) i' j (kc' + 1) (km' + 1) h5 hj hd hkc hkm (v6 + 1) L2 b2 s2 r2 M2 (by omega) x2
      refine ⟨L4, b4, s4, r4, M4, fun f p2 hf => ?_, k2, (r_FC_u (show 4 ≤ 4 ∧ 4 ≤ 6 by omega)).tr (x3.tr k3), fun N hN G hG => ?_⟩
      · obtain ⟨g, rfl⟩ : ∃ g, f = g + 1 := ⟨f - 1, by omega⟩
        obtain ⟨g2, g3, g4, g5⟩ := x1 g p2 (j : Int) (by omega)
        rw [f_X4_runSteps_L14, if_pos rfl, if_neg (show ¬ (30 : Int) ≤ (v6 : Int) by omega), if_neg (show ¬ (j : Int) ≤ (i : Int) by omega), a5, if_neg (show ¬ (200 : Int) ≤ (b : Int) by omega), if_pos hi30, y_ei (show b < 1000000 by omega), u_r (show (33 : Nat) ≠ 32 by decide), Int.toNat_natCast, e33, if_neg (not_not_intro h33)]
        refine Eq.trans g5 ?_
        exact k1 g2 p2 (by omega)
      · obtain ⟨N2, y1, y2, y3⟩ := x4 _ (hN1 N hN) G hG
        obtain ⟨N4, q1, q2, q3⟩ := k4 N2 y2 G hG
        refine ⟨N4, fun f p1 hf => ?_, q2, (r_FN_u (show (40 : Nat) = 37 ∨ (40 : Nat) = 40 ∨ (40 : Nat) = 41 by omega)).tr (y3.tr q3)⟩
        obtain ⟨g, rfl⟩ : ∃ g, f = g + 1 := ⟨f - 1, by omega⟩
        obtain ⟨g2, g3, g4, g5⟩ := y1 g p1 (j : Int) (by omega)
        obtain ⟨R, z1, z2, z3, z4, z5, z6, z7, z8⟩ := hN
        obtain ⟨w1, w2, w3⟩ := z8 i (by omega) (by omega)
        rw [f_X11_goes_L2, if_pos rfl, if_neg (show ¬ (j : Int) ≤ (i : Int) by omega), z5, if_neg (show ¬ (200 : Int) ≤ (b : Int) by omega), if_pos hi80, y_ei (show b < 1000000 by omega), Int.toNat_natCast, u_r (show 452 + i ≠ 64 by omega), w1, if_neg (not_not_intro h33)]
        refine Eq.trans g5 ?_
        exact q1 g2 p1 (by omega)
end RV
