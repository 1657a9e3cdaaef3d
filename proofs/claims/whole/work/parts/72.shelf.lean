/-! OPERATIONS, 22: lives put away and fetched; undo -/
theorem cp_i {M : e_M} {b sp a dp n j : Nat} (h : dp ≤ j ∧ j < dp + n) : e_cp M b sp a dp n a j = M b (sp + (j - dp)) := by unfold e_cp; rw [if_pos rfl, if_pos h]
theorem cp_o {M : e_M} {b sp a dp n j : Nat} (h : ¬ (dp ≤ j ∧ j < dp + n)) : e_cp M b sp a dp n a j = M a j := by unfold e_cp; rw [if_pos rfl, if_neg h]
theorem cp_r {M : e_M} {b sp a dp n c j : Nat} (h : c ≠ a) : e_cp M b sp a dp n c j = M c j := by unfold e_cp; rw [if_neg h]
theorem z_w {W c : Nat} (h : W + c < 100000) : e_w ((W : Int) + (c : Int)) = ((W + c : Nat) : Int) := by rw [e_ws_ (by omega) (by omega)]; omega
theorem z_v {W c d : Nat} (h : W + d < 100000) (hc : c ≤ d) : e_w (e_w ((W : Int) + (d : Int)) - (c : Int)) = ((W + (d - c) : Nat) : Int) := by rw [e_ws_ (x := (W : Int) + (d : Int)) (by omega) (by omega), e_ws_ (by omega) (by omega)]; omega
def z_LA (W q : Nat) (M : e_M) : e_M := e_cp (e_cp (e_cp (e_cp (e_cp (e_cp M q W 37 0 6) q (W + 6) 38 0 6) q (W + 12) 39 0 6) q (W + 18) 40 0 6) q (W + 24) 41 0 6) q (W + 30) 42 0 12
def z_LB (W q : Nat) (M : e_M) : e_M := e_up (z_LA W q M) 36 2 (z_LA W q M q (W + 42))
def z_LC (W q : Nat) (M : e_M) : e_M := e_up (z_LB W q M) 36 3 (z_LB W q M q (W + 43))
def z_LD (W q : Nat) (M : e_M) : e_M := e_up (z_LC W q M) 36 4 (z_LC W q M q (W + 44))
theorem z_ld {M : e_M} {W q n9 : Nat} (h : W + 45 ≤ n9) (h9 : n9 ≤ 765) : f_X3_loadFrom_now n9 q (W : Int) M = some (0, z_LD W q M) := by
  unfold f_X3_loadFrom_now
  rw [show e_w ((W : Int) + 6) = ((W + 6 : Nat) : Int) from z_w (c := 6) (by omega), show e_w ((W : Int) + 12) = ((W + 12 : Nat) : Int) from z_w (c := 12) (by omega), show e_w ((W : Int) + 18) = ((W + 18 : Nat) : Int) from z_w (c := 18) (by omega), show e_w ((W : Int) + 24) = ((W + 24 : Nat) : Int) from z_w (c := 24) (by omega), show e_w ((W : Int) + 30) = ((W + 30 : Nat) : Int) from z_w (c := 30) (by omega), show e_w (e_w ((W : Int) + 45) - 3) = ((W + 42 : Nat) : Int) from z_v (c := 3) (d := 45) (by omega) (by omega), show e_w (e_w ((W : Int) + 45) - 2) = ((W + 43 : Nat) : Int) from z_v (c := 2) (d := 45) (by omega) (by omega), show e_w (e_w ((W : Int) + 45) - 1) = ((W + 44 : Nat) : Int) from z_v (c := 1) (d := 45) (by omega) (by omega)]
  rw [if_pos (show (0 : Int) ≤ (W : Int) by omega), if_pos (show (W : Int) + 6 ≤ (n9 : Int) by omega), if_pos (show (0 : Int) ≤ ((W + 6 : Nat) : Int) by omega), if_pos (show ((W + 6 : Nat) : Int) + 6 ≤ (n9 : Int) by omega), if_pos (show (0 : Int) ≤ ((W + 12 : Nat) : Int) by omega), if_pos (show ((W + 12 : Nat) : Int) + 6 ≤ (n9 : Int) by omega), if_pos (show (0 : Int) ≤ ((W + 18 : Nat) : Int) by omega), if_pos (show ((W + 18 : Nat) : Int) + 6 ≤ (n9 : Int) by omega), if_pos (show (0 : Int) ≤ ((W + 24 : Nat) : Int) by omega), if_pos (show ((W + 24 : Nat) : Int) + 6 ≤ (n9 : Int) by omega), if_pos (show (0 : Int) ≤ ((W + 30 : Nat) : Int) by omega), if_pos (show ((W + 30 : Nat) : Int) + 12 ≤ (n9 : Int) by omega), if_pos (show (0 : Int) ≤ ((W + 42 : Nat) : Int) ∧ ((W + 42 : Nat) : Int) < (n9 : Int) by omega), if_pos (show (0 : Int) ≤ ((W + 43 : Nat) : Int) ∧ ((W + 43 : Nat) : Int) < (n9 : Int) by omega), if_pos (show (0 : Int) ≤ ((W + 44 : Nat) : Int) ∧ ((W + 44 : Nat) : Int) < (n9 : Int) by omega)]
  rfl
theorem z_LA_r {M : e_M} {W q a j : Nat} (h : a < 37 ∨ 42 < a) : z_LA W q M a j = M a j := by
  unfold z_LA
  rw [cp_r (by omega), cp_r (by omega), cp_r (by omega), cp_r (by omega), cp_r (by omega), cp_r (by omega)]
theorem z_LD_r {M : e_M} {W q a j : Nat} (h : a < 36 ∨ 42 < a) : z_LD W q M a j = M a j := by
  unfold z_LD z_LC z_LB
  rw [u_r (by omega), u_r (by omega), u_r (by omega), z_LA_r (by omega)]
theorem z_LD_6 {M : e_M} {W q j : Nat} (h : j < 2 ∨ 4 < j) : z_LD W q M 36 j = M 36 j := by
  unfold z_LD z_LC z_LB
  rw [u_c (by omega), u_c (by omega), u_c (by omega), z_LA_r (by omega)]
theorem z_LD_cn {M : e_M} {W q n t : Nat} {L : Nat → Int} (hq : 42 < q) (h6 : n ≤ 6) (h12 : t ≤ 12) (h : q_CL n t (fun j => M q (W + j)) L) : q_cn n t L (z_LD W q M) := by
  obtain ⟨k1, k2, k3, k4, k5⟩ := h
  refine ⟨fun p hp => ?_, fun k hk => ?_, ?_, ?_, ?_⟩
  · obtain ⟨c1, c2, c3, c4, c5⟩ := k1 p hp
    unfold z_LD z_LC z_LB z_LA
    refine ⟨?_, ?_, ?_, ?_, ?_⟩
    · rw [u_r (by decide), u_r (by decide), u_r (by decide), cp_r (by decide), cp_r (by decide), cp_r (by decide), cp_r (by decide), cp_r (by decide), cp_i (by omega)]
      exact c1
    · rw [u_r (by decide), u_r (by decide), u_r (by decide), cp_r (by decide), cp_r (by decide), cp_r (by decide), cp_r (by decide), cp_i (by omega), cp_r (by omega), show W + 6 + (p - 0) = W + (6 + p) by omega]
      exact c2
    · rw [u_r (by decide), u_r (by decide), u_r (by decide), cp_r (by decide), cp_r (by decide), cp_r (by decide), cp_i (by omega), cp_r (by omega), cp_r (by omega), show W + 12 + (p - 0) = W + (12 + p) by omega]
      exact c3
    · rw [u_r (by decide), u_r (by decide), u_r (by decide), cp_r (by decide), cp_r (by decide), cp_i (by omega), cp_r (by omega), cp_r (by omega), cp_r (by omega), show W + 18 + (p - 0) = W + (18 + p) by omega]
      exact c4
    · rw [u_r (by decide), u_r (by decide), u_r (by decide), cp_r (by decide), cp_i (by omega), cp_r (by omega), cp_r (by omega), cp_r (by omega), cp_r (by omega), show W + 24 + (p - 0) = W + (24 + p) by omega]
      exact c5
  · refine ⟨?_, (k2 k hk).2⟩
    unfold z_LD z_LC z_LB z_LA
    rw [u_r (by decide), u_r (by decide), u_r (by decide), cp_i (by omega), cp_r (by omega), cp_r (by omega), cp_r (by omega), cp_r (by omega), cp_r (by omega), show W + 30 + (k - 0) = W + (30 + k) by omega]
    exact (k2 k hk).1
  · unfold z_LD z_LC z_LB
    rw [u_c (by decide), u_c (by decide), u_s, z_LA_r (by omega)]
    exact k3
  · unfold z_LD z_LC
    rw [u_c (by decide), u_s]
    unfold z_LB
    rw [u_r (by omega), z_LA_r (by omega)]
    exact k4
  · unfold z_LD
    rw [u_s]
    unfold z_LC z_LB
    rw [u_r (by omega), u_r (by omega), z_LA_r (by omega)]
    exact k5
def z_SA (W q : Nat) (M : e_M) : e_M := e_cp (e_cp (e_cp (e_cp (e_cp (e_cp M 37 0 q W 6) 38 0 q (W + 6) 6) 39 0 q (W + 12) 6) 40 0 q (W + 18) 6) 41 0 q (W + 24) 6) 42 0 q (W + 30) 12
def z_SB (W q : Nat) (M : e_M) : e_M := e_up (z_SA W q M) q (W + 42) (z_SA W q M 36 2)
def z_SC (W q : Nat) (M : e_M) : e_M := e_up (z_SB W q M) q (W + 43) (z_SB W q M 36 3)
def z_SD (W q : Nat) (M : e_M) : e_M := e_up (z_SC W q M) q (W + 44) (z_SC W q M 36 4)
theorem z_sv {M : e_M} {W q n9 : Nat} (h : W + 45 ≤ n9) (h9 : n9 ≤ 765) : f_X3_saveTo_now n9 q (W : Int) M = some (0, z_SD W q M) := by
  unfold f_X3_saveTo_now
  rw [show e_w ((W : Int) + 6) = ((W + 6 : Nat) : Int) from z_w (c := 6) (by omega), show e_w ((W : Int) + 12) = ((W + 12 : Nat) : Int) from z_w (c := 12) (by omega), show e_w ((W : Int) + 18) = ((W + 18 : Nat) : Int) from z_w (c := 18) (by omega), show e_w ((W : Int) + 24) = ((W + 24 : Nat) : Int) from z_w (c := 24) (by omega), show e_w ((W : Int) + 30) = ((W + 30 : Nat) : Int) from z_w (c := 30) (by omega), show e_w (e_w ((W : Int) + 45) - 3) = ((W + 42 : Nat) : Int) from z_v (c := 3) (d := 45) (by omega) (by omega), show e_w (e_w ((W : Int) + 45) - 2) = ((W + 43 : Nat) : Int) from z_v (c := 2) (d := 45) (by omega) (by omega), show e_w (e_w ((W : Int) + 45) - 1) = ((W + 44 : Nat) : Int) from z_v (c := 1) (d := 45) (by omega) (by omega)]
  rw [if_pos (show (0 : Int) ≤ (W : Int) by omega), if_pos (show (W : Int) + 6 ≤ (n9 : Int) by omega), if_pos (show (0 : Int) ≤ ((W + 6 : Nat) : Int) by omega), if_pos (show ((W + 6 : Nat) : Int) + 6 ≤ (n9 : Int) by omega), if_pos (show (0 : Int) ≤ ((W + 12 : Nat) : Int) by omega), if_pos (show ((W + 12 : Nat) : Int) + 6 ≤ (n9 : Int) by omega), if_pos (show (0 : Int) ≤ ((W + 18 : Nat) : Int) by omega), if_pos (show ((W + 18 : Nat) : Int) + 6 ≤ (n9 : Int) by omega), if_pos (show (0 : Int) ≤ ((W + 24 : Nat) : Int) by omega), if_pos (show ((W + 24 : Nat) : Int) + 6 ≤ (n9 : Int) by omega), if_pos (show (0 : Int) ≤ ((W + 30 : Nat) : Int) by omega), if_pos (show ((W + 30 : Nat) : Int) + 12 ≤ (n9 : Int) by omega), if_pos (show (0 : Int) ≤ ((W + 42 : Nat) : Int) ∧ ((W + 42 : Nat) : Int) < (n9 : Int) by omega), if_pos (show (0 : Int) ≤ ((W + 43 : Nat) : Int) ∧ ((W + 43 : Nat) : Int) < (n9 : Int) by omega), if_pos (show (0 : Int) ≤ ((W + 44 : Nat) : Int) ∧ ((W + 44 : Nat) : Int) < (n9 : Int) by omega)]
  rfl
theorem z_SA_r {M : e_M} {W q a j : Nat} (h : a ≠ q) : z_SA W q M a j = M a j := by
  unfold z_SA
  rw [cp_r h, cp_r h, cp_r h, cp_r h, cp_r h, cp_r h]
theorem z_SD_r {M : e_M} {W q a j : Nat} (h : a ≠ q) : z_SD W q M a j = M a j := by
  unfold z_SD z_SC z_SB
  rw [u_r h, u_r h, u_r h, z_SA_r h]
theorem z_SD_o {M : e_M} {W q j : Nat} (h : j < W ∨ W + 45 ≤ j) : z_SD W q M q j = M q j := by
  unfold z_SD z_SC z_SB z_SA
  rw [u_c (by omega), u_c (by omega), u_c (by omega), cp_o (by omega), cp_o (by omega), cp_o (by omega), cp_o (by omega), cp_o (by omega), cp_o (by omega)]
theorem z_SD_CL {M : e_M} {W q n t : Nat} {L : Nat → Int} (hq : 42 < q) (h6 : n ≤ 6) (h12 : t ≤ 12) (h : q_cn n t L M) : q_CL n t (fun j => z_SD W q M q (W + j)) L := by
  obtain ⟨k1, k2, k3, k4, k5⟩ := h
  refine ⟨fun p hp => ?_, fun k hk => ?_, ?_, ?_, ?_⟩
  · obtain ⟨c1, c2, c3, c4, c5⟩ := k1 p hp
    refine ⟨?_, ?_, ?_, ?_, ?_⟩
    · show z_SD W q M q (W + p) = _
      unfold z_SD z_SC z_SB z_SA
      rw [u_c (by omega), u_c (by omega), u_c (by omega), cp_o (by omega), cp_o (by omega), cp_o (by omega), cp_o (by omega), cp_o (by omega), cp_i (by omega), show 0 + (W + p - W) = p by omega]
      exact c1
    · show z_SD W q M q (W + (6 + p)) = _
      unfold z_SD z_SC z_SB z_SA
      rw [u_c (by omega), u_c (by omega), u_c (by omega), cp_o (by omega), cp_o (by omega), cp_o (by omega), cp_o (by omega), cp_i (by omega), cp_r (by omega), show 0 + (W + (6 + p) - (W + 6)) = p by omega]
      exact c2
    · show z_SD W q M q (W + (12 + p)) = _
      unfold z_SD z_SC z_SB z_SA
      rw [u_c (by omega), u_c (by omega), u_c (by omega), cp_o (by omega), cp_o (by omega), cp_o (by omega), cp_i (by omega), cp_r (by omega), cp_r (by omega), show 0 + (W + (12 + p) - (W + 12)) = p by omega]
      exact c3
    · show z_SD W q M q (W + (18 + p)) = _
      unfold z_SD z_SC z_SB z_SA
      rw [u_c (by omega), u_c (by omega), u_c (by omega), cp_o (by omega), cp_o (by omega), cp_i (by omega), cp_r (by omega), cp_r (by omega), cp_r (by omega), show 0 + (W + (18 + p) - (W + 18)) = p by omega]
      exact c4
    · show z_SD W q M q (W + (24 + p)) = _
      unfold z_SD z_SC z_SB z_SA
      rw [u_c (by omega), u_c (by omega), u_c (by omega), cp_o (by omega), cp_i (by omega), cp_r (by omega), cp_r (by omega), cp_r (by omega), cp_r (by omega), show 0 + (W + (24 + p) - (W + 24)) = p by omega]
      exact c5
  · refine ⟨?_, (k2 k hk).2⟩
    show z_SD W q M q (W + (30 + k)) = _
    unfold z_SD z_SC z_SB z_SA
    rw [u_c (by omega), u_c (by omega), u_c (by omega), cp_i (by omega), cp_r (by omega), cp_r (by omega), cp_r (by omega), cp_r (by omega), cp_r (by omega), show 0 + (W + (30 + k) - (W + 30)) = k by omega]
    exact (k2 k hk).1
  · show z_SD W q M q (W + 42) = _
    unfold z_SD z_SC z_SB
    rw [u_c (by omega), u_c (by omega), u_s, z_SA_r (by omega)]
    exact k3
  · show z_SD W q M q (W + 43) = _
    unfold z_SD z_SC
    rw [u_c (by omega), u_s]
    unfold z_SB
    rw [u_r (by omega), z_SA_r (by omega)]
    exact k4
  · show z_SD W q M q (W + 44) = _
    unfold z_SD
    rw [u_s]
    unfold z_SC z_SB
    rw [u_r (by omega), u_r (by omega), z_SA_r (by omega)]
    exact k5
theorem z_pop {M : e_M} {a b n9 h : Nat} (h2 : M a 1 = ((h + 1 : Nat) : Int)) (h9 : n9 ≤ 765) (hh : 45 * h + 45 ≤ n9) : f_X5_popInto a b n9 M = some (1, z_LD (45 * h) b (e_up M a 1 (h : Int))) := by
  unfold f_X5_popInto
  rw [h2, if_pos (by omega), e_ws_ (x := ((h + 1 : Nat) : Int) - 1) (by omega) (by omega), u_s, show ((h + 1 : Nat) : Int) - 1 = (h : Int) by omega, e_ws_ (x := (h : Int) * 45) (by omega) (by omega), show (h : Int) * 45 = ((45 * h : Nat) : Int) by omega, z_ld hh h9, f_bs]
theorem o_undo {F : Nat} (hF : 300 < F) : q_o1 f_X10_undo (f_X11_undo F) := by
  intro M k
  have k' := k
  obtain ⟨n, m, t, wa, sk, wo, ow, fi, l, cw, cv, L, hT, hK1, hK2, hLa, hK5, hLi, hK7, hK8⟩ := k'
  have h6 := hT.1
  have h12 := hT.2.2.1
  obtain ⟨h, hh, hx, hm, hrow⟩ := hK7
  by_cases c : h = 0
  · subst c
    refine ⟨-1, M, e_up M 64 0 0, ?_, ?_, q_K_f (q_fr_b1 (M := M) (M1 := M) (fun _ _ _ => rfl)) k⟩
    · unfold f_X10_undo f_X5_popInto
      rw [hx, if_neg (by decide), f_bs, if_neg (by decide)]
    · unfold f_X11_undo
      rw [u_c (show (36 : Nat) ≠ 0 by decide), hm, if_neg (by decide)]
  · obtain ⟨g, rfl⟩ : ∃ g, h = g + 1 := ⟨h - 1, by omega⟩
    obtain ⟨hr1, hr2⟩ := hrow g (by omega)
    have frA : ∀ a j, ¬ (36 ≤ a ∧ a ≤ 42) → ¬ (a = 55 ∧ j = 1) → ¬ (a = 32 ∧ j = 6) → (e_up (z_LD (45 * g) 56 (e_up M 55 1 (g : Int))) 32 6 0) a j = M a j := fun a j x1 x2 x3 => by
      by_cases e : a = 32
      · subst e
        rw [u_c (by omega), z_LD_r (by omega), u_r (by decide)]
      · rw [u_r e, z_LD_r (by omega)]
        by_cases e2 : a = 55
        · subst e2
          exact u_c (by omega)
        · exact u_r e2
    have hcn : q_cn n t (M (535 + g)) (e_up (z_LD (45 * g) 56 (e_up M 55 1 (g : Int))) 32 6 0) := q_cn_f (fun a j z => u_r (by omega)) (z_LD_cn (by decide) h6 h12 hr1)
    generalize hA : e_up (z_LD (45 * g) 56 (e_up M 55 1 (g : Int))) 32 6 0 = A at frA hcn
    have hA55 : A 55 1 = (g : Int) := by rw [← hA, u_r (by decide), z_LD_r (by omega), u_s]
    have hA32 : A 32 6 = 0 := by rw [← hA, u_s]
    obtain ⟨N, c1, c2, c3⟩ := r_copies (M := e_up (e_up A 64 0 0) 64 36 (g : Int)) (q0 := 535 + g) (q1 := 532) (by omega)
    have frN : ∀ a j, ¬ (36 ≤ a ∧ a ≤ 42) → ¬ (a = 55 ∧ j = 1) → ¬ (a = 32 ∧ j = 6) → a ≠ 532 → ¬ (a = 64 ∧ (j = 0 ∨ j = 36 ∨ j = 37)) → (e_up N 64 37 0) a j = M a j := fun a j x1 x2 x3 x4 x5 => by
      by_cases e : a = 64
      · subst e
        rw [u_c (by omega), c3 64 j x4, u_c (by omega), u_c (by omega), frA 64 j x1 x2 x3]
      · rw [u_r e, c3 a j x4, u_r e, u_r e, frA a j x1 x2 x3]
    refine ⟨(g : Int), A, e_up N 64 37 0, ?_, ?_, n, m, t, wa, sk, wo, ow, fi, l, cw, cv, M (535 + g), q_T_f (fun a j z => frN a j (by unfold q_F3 at z; omega) (by unfold q_F3 at z; omega) (by unfold q_F3 at z; omega) (by unfold q_F3 at z; omega) (by unfold q_F3 at z; omega)) hT, ?_, q_K2_f (fun a j z => frN a j (by unfold q_F2 at z; omega) (by unfold q_F2 at z; omega) (by unfold q_F2 at z; omega) (by unfold q_F2 at z; omega) (by unfold q_F2 at z; omega)) hK2, q_La_f (fun a j z => frN a j (by unfold q_F4 at z; omega) (by unfold q_F4 at z; omega) (by unfold q_F4 at z; omega) (by unfold q_F4 at z; omega) (by unfold q_F4 at z; omega)) hLa, q_K5_f hT.1 (fun a j z => frN a j (by unfold q_F5 at z; omega) (by unfold q_F5 at z; omega) (by unfold q_F5 at z; omega) (by unfold q_F5 at z; omega) (by unfold q_F5 at z; omega)) hK5, ⟨?_, ?_, hr2⟩, ⟨g, by omega, ?_, ?_, ?_⟩, q_K8_f (fun a j z => frN a j (by unfold q_F8 at z; omega) (by unfold q_F8 at z; omega) (by unfold q_F8 at z; omega) (by unfold q_F8 at z; omega) (by unfold q_F8 at z; omega)) hK8⟩
    · unfold f_X10_undo f_X4_forgetRefused
      rw [z_pop hx (by decide) (by omega), f_bs, if_pos (by decide), f_bs, hA, hA55]
    · have e36 : (e_up A 64 0 0) 64 36 = ((g + 1 : Nat) : Int) := by rw [u_c (by decide), frA 64 36 (by omega) (by omega) (by omega)]; exact hm
      unfold f_X11_undo
      rw [e36, if_pos (by omega), e_ws_ (x := ((g + 1 : Nat) : Int) - 1) (by omega) (by omega), u_s, show ((g + 1 : Nat) : Int) - 1 = (g : Int) by omega, if_pos (by omega), Int.toNat_natCast, c1 F (by omega), f_bs, u_c (show (36 : Nat) ≠ 37 by decide), c3 64 36 (by decide), u_s]
    · unfold q_K1
      rw [u_s, u_r (show (32 : Nat) ≠ 64 by decide), c3 32 6 (by decide), u_r (show (32 : Nat) ≠ 64 by decide), u_r (show (32 : Nat) ≠ 64 by decide), hA32, frN 2 1 (by omega) (by omega) (by omega) (by decide) (by omega), frN 64 1 (by omega) (by omega) (by omega) (by decide) (by omega), frN 64 3 (by omega) (by omega) (by omega) (by decide) (by omega), frN 2 5 (by omega) (by omega) (by omega) (by decide) (by omega), frN 66 0 (by omega) (by omega) (by omega) (by decide) (by omega), frN 1 16 (by omega) (by omega) (by omega) (by decide) (by omega), frN 66 1 (by omega) (by omega) (by omega) (by decide) (by omega), frN 1 17 (by omega) (by omega) (by omega) (by decide) (by omega)]
      exact ⟨hK1.1, hK1.2.1, hK1.2.2.1, hK1.2.2.2.1, hK1.2.2.2.2.1, hK1.2.2.2.2.2.1, rfl⟩
    · exact q_cn_f (fun a j z => by rw [u_r (by omega), c3 a j (by omega), u_r (by omega), u_r (by omega)]) hcn
    · intro j hj
      rw [u_r (by decide), c2 j hj, u_r (by omega), u_r (by omega), frA (535 + g) j (by omega) (by omega) (by omega)]
    · rw [u_r (by decide), c3 55 1 (by decide), u_r (by decide), u_r (by decide)]; exact hA55
    · rw [u_c (by decide), c3 64 36 (by decide), u_s]
    · intro w hw
      have e1 : (fun j => (e_up N 64 37 0) 56 (45 * w + j)) = fun j => M 56 (45 * w + j) := funext (fun j => frN 56 _ (by omega) (by omega) (by omega) (by decide) (by omega))
      have e2 : (e_up N 64 37 0) (535 + w) = M (535 + w) := funext (fun j => frN (535 + w) j (by omega) (by omega) (by omega) (by omega) (by omega))
      rw [e1, e2]
      exact hrow w (by omega)
