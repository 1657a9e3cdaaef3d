/-! A WORK IS DONE, 2: steps and loops -/
section RU
variable {n m t : Nat} {wa : Nat → Int} {sk : Nat → Nat} {wo : Nat → Int} {ow : Nat → Nat} {fi : Nat → Int} {l : Nat} {cw cv : Nat → Int} {P : e_M} {lp F : Nat}
def r_C (n m t : Nat) (wa : Nat → Int) (sk : Nat → Nat) (wo : Nat → Int) (ow : Nat → Nat) (fi : Nat → Int) (l : Nat) (cw cv : Nat → Int) (P : e_M) (L : Nat → Int) (b s r : Nat) (M : e_M) : Prop := q_T n m t wa sk wo ow fi M ∧ q_La l cw cv M ∧ q_cn n t L M ∧ q_LB n t L ∧ M 32 4 = (b : Int) ∧ M 32 5 = (s : Int) ∧ M 32 6 = (r : Int) ∧ s + r ≤ b ∧ b ≤ 200 ∧ ∀ k, M 33 k = P 33 k ∧ M 34 k = P 34 k ∧ M 35 k = P 35 k
def r_N (n m t : Nat) (wa : Nat → Int) (sk : Nat → Nat) (wo : Nat → Int) (ow : Nat → Nat) (fi : Nat → Int) (l : Nat) (cw cv : Nat → Int) (P : e_M) (lp : Nat) (L : Nat → Int) (b s r : Nat) (N : e_M) : Prop := ∃ R, q_T n m t wa sk wo ow fi N ∧ q_La l cw cv N ∧ q_ml N 532 R ∧ q_ag n t L R ∧ N 64 40 = (b : Int) ∧ N 64 41 = (s : Int) ∧ N 64 37 = (r : Int) ∧ p_E P N 0 lp
def r_FC (M M' : e_M) : Prop := ∀ a j, ¬ (a = 22 ∨ a = 23 ∨ (36 ≤ a ∧ a ≤ 42)) → ¬ (a = 32 ∧ 4 ≤ j ∧ j ≤ 6) → M' a j = M a j
def r_FN (M M' : e_M) : Prop := ∀ a j, ¬ (a = 449 ∨ a = 450 ∨ a = 532) → ¬ (a = 64 ∧ (j = 37 ∨ j = 40 ∨ j = 41)) → M' a j = M a j
theorem r_FC.tr {M N O : e_M} (h : r_FC M N) (g : r_FC N O) : r_FC M O := fun a j x y => (g a j x y).trans (h a j x y)
theorem r_FN.tr {M N O : e_M} (h : r_FN M N) (g : r_FN N O) : r_FN M O := fun a j x y => (g a j x y).trans (h a j x y)
theorem r_FC.rf {M : e_M} : r_FC M M := fun _ _ _ _ => rfl
theorem r_FN.rf {M : e_M} : r_FN M M := fun _ _ _ _ => rfl
theorem r_FC_u {M : e_M} {j : Nat} {v : Int} (h : 4 ≤ j ∧ j ≤ 6) : r_FC M (e_up M 32 j v) := fun a i x y => by
  by_cases e : a = 32
  · subst e; exact u_c (by omega)
  · exact u_r e
theorem r_FN_u {M : e_M} {j : Nat} {v : Int} (h : j = 37 ∨ j = 40 ∨ j = 41) : r_FN M (e_up M 64 j v) := fun a i x y => by
  by_cases e : a = 64
  · subst e; exact u_c (by omega)
  · exact u_r e
theorem r_C_f {L L' : Nat → Int} {b s r b' s' r' : Nat} {M M' : e_M} (h : r_C n m t wa sk wo ow fi l cw cv P L b s r M) (hf : r_FC M M') (hC : q_cn n t L' M') (hLB : q_LB n t L') (h4 : M' 32 4 = (b' : Int)) (h5 : M' 32 5 = (s' : Int)) (h6 : M' 32 6 = (r' : Int)) (h7 : s' + r' ≤ b') (h8 : b' ≤ 200) : r_C n m t wa sk wo ow fi l cw cv P L' b' s' r' M' := by
  obtain ⟨a1, a2, a3, a4, a5, a6, a7, a8, a9, a10⟩ := h
  refine ⟨q_T_f (fun a j z => hf a j (by unfold q_F3 at z; omega) (by unfold q_F3 at z; omega)) a1, q_La_f (fun a j z => hf a j (by unfold q_F4 at z; omega) (by unfold q_F4 at z; omega)) a2, hC, hLB, h4, h5, h6, h7, h8, fun k => ?_⟩
  rw [hf 33 k (by omega) (by omega), hf 34 k (by omega) (by omega), hf 35 k (by omega) (by omega)]
  exact a10 k
theorem r_N_f {L L' R' : Nat → Int} {b s r b' s' r' : Nat} {N N' : e_M} (h : r_N n m t wa sk wo ow fi l cw cv P lp L b s r N) (hf : r_FN N N') (hr : q_ml N' 532 R') (hag : q_ag n t L' R') (h4 : N' 64 40 = (b' : Int)) (h5 : N' 64 41 = (s' : Int)) (h6 : N' 64 37 = (r' : Int)) (hl : lp ≤ 30) : r_N n m t wa sk wo ow fi l cw cv P lp L' b' s' r' N' := by
  obtain ⟨R, a1, a2, a3, a4, a5, a6, a7, a8⟩ := h
  refine ⟨R', q_T_f (fun a j z => hf a j (by unfold q_F3 at z; omega) (by unfold q_F3 at z; omega)) a1, q_La_f (fun a j z => hf a j (by unfold q_F4 at z; omega) (by unfold q_F4 at z; omega)) a2, hr, hag, h4, h5, h6, fun k h1 h2 => ?_⟩
  rw [hf (452 + k) 0 (by omega) (by omega), hf (452 + k) 1 (by omega) (by omega), hf (452 + k) 3 (by omega) (by omega)]
  exact a8 k h1 h2
/-- steps i .. j at a level, from a life, both sides -/
def r_A (n m t : Nat) (wa : Nat → Int) (sk : Nat → Nat) (wo : Nat → Int) (ow : Nat → Nat) (fi : Nat → Int) (l : Nat) (cw cv : Nat → Int) (P : e_M) (lp : Nat) (rc : Int → Int → Int → e_M → Option (Int × e_M)) (rm : Nat → Int → Int → e_M → Option (Int × e_M)) (o i j : Nat) : Prop := ∀ (v6 : Nat) (L : Nat → Int) (b s r : Nat) (M : e_M), v6 ≤ i → r_C n m t wa sk wo ow fi l cw cv P L b s r M → ∃ (L' : Nat → Int) (b' s' r' : Nat) (M' : e_M), (∀ (f : Nat) (p2 : Int), 64 * (j - i) + 310 < f → f_X4_runSteps_L14 rc f 0 p2 (j : Int) (o : Int) (i : Int) (v6 : Int) 0 M = some (0, M')) ∧ r_C n m t wa sk wo ow fi l cw cv P L' b' s' r' M' ∧ r_FC M M' ∧ ∀ N, r_N n m t wa sk wo ow fi l cw cv P lp L b s r N → ∀ G, 2500 < G → ∃ N', (∀ (f : Nat) (p1 : Int), 64 * (j - i) + 310 < f → f_X11_goes_L2 (rm G) f 0 p1 (j : Int) (i : Int) 0 N = some (0, N')) ∧ r_N n m t wa sk wo ow fi l cw cv P lp L' b' s' r' N' ∧ r_FN N N'
/-- a loop is done again and again -/
theorem r_rep {rc : Int → Int → Int → e_M → Option (Int × e_M)} {rm : Nat → Int → Int → e_M → Option (Int × e_M)} {o i i' v6 : Nat} (hl : lp ≤ 30) (hi : i < lp) (ho : o < 1000) (hv6 : v6 < 1000) (h35 : P 35 i = (i' : Int)) (h33 : P 33 i = 4)
    (hin : ∀ (L : Nat → Int) (b s r : Nat) (M : e_M), r_C n m t wa sk wo ow fi l cw cv P L b s r M → ∃ (L' : Nat → Int) (b' s' r' : Nat) (M' : e_M), rc ((i + 1 : Nat) : Int) (i' : Int) ((o + 1 : Nat) : Int) M = some (0, M') ∧ r_C n m t wa sk wo ow fi l cw cv P L' b' s' r' M' ∧ r_FC M M' ∧ ∀ N, r_N n m t wa sk wo ow fi l cw cv P lp L b s r N → ∀ G, 2500 < G → ∃ N', rm G ((i + 1 : Nat) : Int) (i' : Int) N = some (0, N') ∧ r_N n m t wa sk wo ow fi l cw cv P lp L' b' s' r' N' ∧ r_FN N N') :
    ∀ (q v7 : Nat) (L : Nat → Int) (b s r : Nat) (M : e_M), P 34 i = ((v7 + q : Nat) : Int) → v7 + q ≤ 60 → r_C n m t wa sk wo ow fi l cw cv P L b s r M → ∃ (L' : Nat → Int) (b' s' r' : Nat) (M' : e_M), (∀ (f : Nat) (p2 p3 : Int), q + 1 < f → ∃ g, g < f ∧ f ≤ g + q + 1 ∧ f_X4_runSteps_L14 rc f 1 p2 p3 (o : Int) (i : Int) (v6 : Int) (v7 : Int) M = f_X4_runSteps_L14 rc g 0 p2 p3 (o : Int) (i' : Int) ((v6 + 1 : Nat) : Int) 0 M') ∧ r_C n m t wa sk wo ow fi l cw cv P L' b' s' r' M' ∧ r_FC M M' ∧ ∀ N, r_N n m t wa sk wo ow fi l cw cv P lp L b s r N → ∀ G, 2500 < G → ∃ N', (∀ (f : Nat) (p1 p2 : Int), q + 1 < f → ∃ g, g < f ∧ f ≤ g + q + 1 ∧ f_X11_goes_L2 (rm G) f 1 p1 p2 (i : Int) (v7 : Int) N = f_X11_goes_L2 (rm G) g 0 p1 p2 (i' : Int) 0 N') ∧ r_N n m t wa sk wo ow fi l cw cv P lp L' b' s' r' N' ∧ r_FN N N' := by
  have hi30 : 0 ≤ (i : Int) ∧ (i : Int) < 30 := by omega
  have hi80 : 0 ≤ (i : Int) ∧ (i : Int) < 80 := by omega
  have stop : ∀ (q v7 : Nat) (L : Nat → Int) (b s r : Nat) (M : e_M), P 34 i = ((v7 + q : Nat) : Int) → (q = 0 ∨ b = 200) → r_C n m t wa sk wo ow fi l cw cv P L b s r M → ∃ (L' : Nat → Int) (b' s' r' : Nat) (M' : e_M), (∀ (f : Nat) (p2 p3 : Int), q + 1 < f → ∃ g, g < f ∧ f ≤ g + q + 1 ∧ f_X4_runSteps_L14 rc f 1 p2 p3 (o : Int) (i : Int) (v6 : Int) (v7 : Int) M = f_X4_runSteps_L14 rc g 0 p2 p3 (o : Int) (i' : Int) ((v6 + 1 : Nat) : Int) 0 M') ∧ r_C n m t wa sk wo ow fi l cw cv P L' b' s' r' M' ∧ r_FC M M' ∧ ∀ N, r_N n m t wa sk wo ow fi l cw cv P lp L b s r N → ∀ G, 2500 < G → ∃ N', (∀ (f : Nat) (p1 p2 : Int), q + 1 < f → ∃ g, g < f ∧ f ≤ g + q + 1 ∧ f_X11_goes_L2 (rm G) f 1 p1 p2 (i : Int) (v7 : Int) N = f_X11_goes_L2 (rm G) g 0 p1 p2 (i' : Int) 0 N') ∧ r_N n m t wa sk wo ow fi l cw cv P lp L' b' s' r' N' ∧ r_FN N N' := by
    intro q v7 L b s r M h34 hq hC
    obtain ⟨a1, a2, a3, a4, a5, a6, a7, a8, a9, a10⟩ := hC
    obtain ⟨e33, e34, e35⟩ := a10 i
    refine ⟨L, b, s, r, M, fun f p2 p3 hf => ⟨f - 1, by omega, by omega, ?_⟩, ⟨a1, a2, a3, a4, a5, a6, a7, a8, a9, a10⟩, r_FC.rf, fun N hN G hG => ⟨N, fun f p1 p2 hf => ⟨f - 1, by omega, by omega, ?_⟩, hN, r_FN.rf⟩⟩
    · obtain ⟨g, rfl⟩ : ∃ g, f = g + 1 := ⟨f - 1, by omega⟩
      rw [f_X4_runSteps_L14, if_neg (show ¬ (1 : Nat) = 0 by decide), if_pos hi30, Int.toNat_natCast, e34, h34, e35, h35, if_pos hi30, y_ei (by omega), a5]
      by_cases c : ((v7 + q : Nat) : Int) ≤ (v7 : Int)
      · rw [if_pos c]; rfl
      · rw [if_neg c, if_pos (show (200 : Int) ≤ (b : Int) by omega)]; rfl
    · obtain ⟨R, b1, b2, b3, b4, b5, b6, b7, b8⟩ := hN
      obtain ⟨x1, x2, x3⟩ := b8 i (by omega) hi
      obtain ⟨g, rfl⟩ : ∃ g, f = g + 1 := ⟨f - 1, by omega⟩
      rw [f_X11_goes_L2, if_neg (show ¬ (1 : Nat) = 0 by decide), if_pos hi80, Int.toNat_natCast, x2 (by rw [h33]; decide), h34, x3, h35, if_pos hi80, b5]
      by_cases c : ((v7 + q : Nat) : Int) ≤ (v7 : Int)
      · rw [if_pos c]; rfl
      · rw [if_neg c, if_pos (show (200 : Int) ≤ (b : Int) by omega)]; rfl
  intro q
  induction q with
  | zero => intro v7 L b s r M h34 _ hC; exact stop 0 v7 L b s r M h34 (Or.inl rfl) hC
  | succ q ih =>
    intro v7 L b s r M h34 hq60 hC
    by_cases hb : b = 200
    · exact stop (q + 1) v7 L b s r M h34 (Or.inr hb) hC
    · have hC0 := hC
      obtain ⟨a1, a2, a3, a4, a5, a6, a7, a8, a9, a10⟩ := hC
      obtain ⟨e33, e34, e35⟩ := a10 i
      obtain ⟨L1, b1, s1, r1, M1, k1, k2, k3, k4⟩ := hin L b s r M hC0
      obtain ⟨L2, b2, s2, r2, M2, i1, i2, i3, i4⟩ := ih (v7 + 1) L1 b1 s1 r1 M1 (by rw [h34]; omega) (by omega) k2
      refine ⟨L2, b2, s2, r2, M2, fun f p2 p3 hf => ?_, i2, k3.tr i3, fun N hN G hG => ?_⟩
      · obtain ⟨g, rfl⟩ : ∃ g, f = g + 1 := ⟨f - 1, by omega⟩
        obtain ⟨g2, g3, g4, g5⟩ := i1 g p2 p3 (by omega)
        refine ⟨g2, by omega, by omega, ?_⟩
        rw [f_X4_runSteps_L14, if_neg (show ¬ (1 : Nat) = 0 by decide), if_pos hi30, Int.toNat_natCast, e34, h34, e35, h35, if_pos hi30, a5, if_neg (show ¬ ((v7 + (q + 1) : Nat) : Int) ≤ (v7 : Int) by omega), if_neg (show ¬ (200 : Int) ≤ (b : Int) by omega), if_pos hi30, y_ei (show i < 1000000 by omega), y_ei (show o < 1000000 by omega), y_ei (show v7 < 1000000 by omega), k1, f_bs]
        exact g5
      · have hN0 := hN
        obtain ⟨R, b1', b2', b3, b4, b5, b6, b7, b8⟩ := hN
        obtain ⟨x1, x2, x3⟩ := b8 i (by omega) hi
        obtain ⟨N1, n1, n2, n3⟩ := k4 N hN0 G hG
        obtain ⟨N2, o1, o2, o3⟩ := i4 N1 n2 G hG
        refine ⟨N2, fun f p1 p2 hf => ?_, o2, n3.tr o3⟩
        obtain ⟨g, rfl⟩ : ∃ g, f = g + 1 := ⟨f - 1, by omega⟩
        obtain ⟨g2, g3, g4, g5⟩ := o1 g p1 p2 (by omega)
        refine ⟨g2, by omega, by omega, ?_⟩
        rw [f_X11_goes_L2, if_neg (show ¬ (1 : Nat) = 0 by decide), if_pos hi80, Int.toNat_natCast, x2 (by rw [h33]; decide), h34, x3, h35, if_pos hi80, b5, if_neg (show ¬ ((v7 + (q + 1) : Nat) : Int) ≤ (v7 : Int) by omega), if_neg (show ¬ (200 : Int) ≤ (b : Int) by omega), if_pos hi80, y_ei (show i < 1000000 by omega), y_ei (show v7 < 1000000 by omega), n1, f_bs]
        exact g5
end RU
