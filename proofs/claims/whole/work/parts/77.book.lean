/-! TEXTS, 3: the book -/
theorem t_rn2 {T : Nat → Int} {n a : Nat} {fl fp lo hi : Int} {M : e_M} (hf : fl ≠ 0) (h : t_C T n a fl fp M) {f : Nat} : f_X7_readNumber f lo hi M = some (-1, M) := by
  unfold f_X7_readNumber
  rw [h.2.2.1, if_neg hf]
theorem t_es2 {T : Nat → Int} {n a : Nat} {fl fp c : Int} {M : e_M} (hf : fl ≠ 0) (h : t_C T n a fl fp M) {f : Nat} : f_X7_expectSign f c M = some (0, M) := by
  unfold f_X7_expectSign
  rw [h.2.2.1, if_pos hf]
theorem t_mn2 {T : Nat → Int} {n a : Nat} {fl fp lo hi : Int} {M : e_M} (hf : fl ≠ 0) (h : t_m T n a fl fp M) {f : Nat} : f_X11_number f lo hi M = some (0, M) := by
  unfold f_X11_number
  rw [h.2.2.1, if_neg hf]
theorem t_ms2 {T : Nat → Int} {n a : Nat} {fl fp c : Int} {M : e_M} (hf : fl ≠ 0) (h : t_m T n a fl fp M) {f : Nat} : f_X11_sign f c M = some (0, M) := by
  unfold f_X11_sign
  rw [h.2.2.1, if_neg hf]
theorem t_fd {T : Nat → Int} {n a : Nat} {fl fp : Int} {M : e_M} (h : t_C T n a fl fp M) : f_X7_flawed M = some (if fl = 0 then 0 else 1, M) := by
  unfold f_X7_flawed
  rw [h.2.2.1]
  split <;> rfl
theorem t_ae {T : Nat → Int} {n : Nat} (hT : ∀ j, j < 600 → 0 ≤ T j ∧ T j ≤ 255) (hn : n ≤ 600) {fl fp : Int} {a : Nat} {M : e_M} (ha : a ≤ n) (h : t_C T n a fl fp M) : ∃ M', (∀ f, 601 < f → f_X7_atEnd f M = some (if t_s T n a < n then 0 else 1, M')) ∧ t_C T n (t_s T n a) fl fp M' ∧ t_fC M M' := by
  obtain ⟨M1, k1, k2, k3⟩ := t_peek hT hn (n - a) a fl fp M rfl ha h
  refine ⟨M1, fun f hf => ?_, k2, k3⟩
  unfold f_X7_atEnd
  rw [k1 f (by omega), f_bs]
  unfold t_b
  by_cases c : t_s T n a < n
  · have hs := (t_s_p (T := T) (n - a) a rfl).2.1 ha
    have := hT (t_s T n a) (by omega)
    rw [if_pos c, if_pos (by omega), if_pos c]
  · rw [if_neg c, if_neg (by decide), if_neg c]
theorem t_na_le {T : Nat → Int} {n s : Nat} (hs : s ≤ n) : t_na T n s ≤ n := by
  unfold t_na
  split
  · exact (t_de_r (T := T) (n := n) (n - s) s rfl hs).2
  · exact hs
/-- the lines read: c of them, for the persons in b -/
def t_BD (n c b : Nat) (P : Nat → Nat) (D : Nat → Int) (M : e_M) : Prop := (∀ k, k < c → P k < n ∧ M 31 (P k) = D k ∧ 0 ≤ D k ∧ D k ≤ 140) ∧ (∀ k k', k < k' → k' < c → P k ≠ P k') ∧ ∀ p, b.testBit p = true ↔ ∃ k, k < c ∧ P k = p
def t_ro (c : Nat) (P : Nat → Nat) (D : Nat → Int) (N : e_M) : Prop := ∀ k, k < c → N (443 + k) 0 = (P k : Int) ∧ N (443 + k) 1 = D k
theorem t_nf_v {T : Nat → Int} {n : Nat} {lo hi : Int} {s : Nat} (h : t_nf T n lo hi s = 0) : lo ≤ t_nv T n s ∧ t_nv T n s ≤ hi := by
  unfold t_nf at h
  unfold t_nv
  by_cases c : s < n ∧ 48 ≤ T s ∧ T s ≤ 57
  · rw [if_pos c] at h
    by_cases d : lo ≤ t_dv T n (n - s) s 0 ∧ t_dv T n (n - s) s 0 ≤ hi
    · exact d
    · rw [if_neg d] at h; exact absurd h (by decide)
  · rw [if_neg c] at h; exact absurd h (by decide)
section BK
variable {T : Nat → Int} {e n : Nat}
/-- the class is done with a flaw -/
theorem t_bf {a : Nat} {fl fp : Int} {M : e_M} {p2 v3 : Int} (hf : fl ≠ 0) (h : t_C T e a fl fp M) {f : Nat} (h0 : 0 < f) : f_X0_readFrom_bookDraft_6 f p2 v3 M = some (0, M) := by
  obtain ⟨f', rfl⟩ : ∃ f', f = f' + 1 := ⟨f - 1, by omega⟩
  rw [f_X0_readFrom_bookDraft_6, t_fd h, f_bs, if_neg hf, if_pos (show ¬ (1 : Int) = 0 by decide)]
  split <;> rfl
theorem t_bm (hT : ∀ j, j < 600 → 0 ≤ T j ∧ T j ≤ 255) (he : e ≤ 600) {a : Nat} {fl fp : Int} {M : e_M} {p1 v2 v3 : Int} (hf : fl ≠ 0) (ha : a ≤ e) (h : t_m T e a fl fp M) : ∃ M', (∀ f, 602 < f → (f_b (f_X11_blanks f M) fun _ NN => f_X11_book_48 f p1 v2 v3 NN) = some (e_w (fl - 10), e_up M' 64 3 fp)) ∧ t_fm M M' ∧ M' 64 6 = fp := by
  obtain ⟨M1, k1, k2, k3⟩ := t_bl hT he (e - a) a fl fp M rfl ha h
  refine ⟨M1, fun f hf2 => ?_, k3, k2.2.2.2.1⟩
  rw [k1 f (by omega), f_bs]
  obtain ⟨f', rfl⟩ : ∃ f', f = f' + 1 := ⟨f - 1, by omega⟩
  unfold f_X11_book_48 f_X11_ends
  rw [k2.2.2.1, if_pos hf, if_neg hf, k2.2.2.2.1, u_c (show (5 : Nat) ≠ 3 by decide), k2.2.2.1, f_bs]
/-- what is left behind by the reading of a book -/
def t_bO (n : Nat) (c' b' : Nat) (P' : Nat → Nat) (D' : Nat → Int) (fl fp : Int) (M' : e_M) : Prop := M' 2 4 = fl ∧ M' 2 5 = fp ∧ (fl = 0 → fp = -1 ∧ c' ≤ 6 ∧ M' 30 0 = (c' : Int) ∧ M' 30 1 = (b' : Int) ∧ b' < 2 ^ n ∧ t_BD n c' b' P' D' M')
def t_bR (T : Nat → Int) (e n c b a : Nat) (P : Nat → Nat) (D : Nat → Int) (c' : Nat) (P' : Nat → Nat) (D' : Nat → Int) (fl fp : Int) (j : Nat) : Prop := ∀ (N : e_M) (p1 : Int), t_m T e (t_s T e a) 0 (-1) N → N 68 0 = (n : Int) → t_ro c P D N → ∃ N', (∀ f, j + 700 < f → ∃ g, 650 < g ∧ f_X11_book_48 f p1 (c : Int) (b : Int) N = if fl = 0 then (f_b (f_X11_lays_m_line g (c' : Int) (e_up (e_up N' 64 3 (-1)) 64 35 (c' : Int))) fun _ NN => some ((c' : Int), NN)) else some (e_w (fl - 10), e_up N' 64 3 fp)) ∧ (∀ a k, ¬ (a = 64 ∧ 4 ≤ k ∧ k ≤ 6) → ¬ (443 ≤ a ∧ a ≤ 448) → N' a k = N a k) ∧ (fl = 0 → t_ro c' P' D' N')
theorem q_ct_lt {c : Nat → Bool} {p : Nat} (hp : c p = false) : ∀ {n : Nat}, p < n → q_ct c n < n
  | 0, h => absurd h (by omega)
  | n + 1, h => by
    by_cases e : p = n
    · subst e
      rw [q_ct_0 hp]
      have := q_ct_le c p
      omega
    · have := q_ct_lt hp (n := n) (by omega)
      by_cases d : c n = true
      · rw [q_ct_1 d]; omega
      · rw [q_ct_0 (by simpa using d)]; omega
theorem q_ct_or {c : Nat → Bool} {p : Nat} (hp : c p = false) : ∀ {n : Nat}, p < n → q_ct (fun i => c i || decide (p = i)) n = q_ct c n + 1
  | 0, h => absurd h (by omega)
  | n + 1, h => by
    by_cases e : p = n
    · subst e
      rw [q_ct_0 hp, q_ct_1 (by rw [decide_eq_true rfl, Bool.or_true])]
      refine congrArg (· + 1) (q_ct_congr (fun i hi => ?_))
      rw [decide_eq_false (by omega), Bool.or_false]
    · have ih := q_ct_or hp (n := n) (by omega)
      by_cases d : c n = true
      · rw [q_ct_1 d, q_ct_1 (by rw [d, Bool.true_or]), ih]
      · have d' : c n = false := by simpa using d
        rw [q_ct_0 d', q_ct_0 (by rw [d', decide_eq_false e]; rfl), ih]
theorem t_BD_f {c b : Nat} {P : Nat → Nat} {D : Nat → Int} {M N : e_M} (h : ∀ k, N 31 k = M 31 k) (k : t_BD n c b P D M) : t_BD n c b P D N := ⟨fun i hi => by rw [h]; exact k.1 i hi, k.2.1, k.2.2⟩
theorem t_ga_le {c : Int} {s : Nat} (hc : c ≠ -1) (hs : s ≤ e) : t_ga T e c s ≤ e := by
  unfold t_ga t_b
  by_cases d : s < e
  · rw [if_pos d]
    split <;> omega
  · rw [if_neg d, if_neg (fun h => hc h.symm)]
    exact hs
theorem t_cut {M : e_M} {q a k : Nat} {v w x : Int} (h1 : ¬ (a = 30 ∧ k < 2)) (h2 : a ≠ 31) : (e_up (e_up (e_up M 31 q v) 30 1 w) 30 0 x) a k = M a k := by
  by_cases e : a = 30
  · subst e
    rw [u_c (by omega), u_c (by omega), u_r h2]
  · rw [u_r e, u_r e, u_r h2]
theorem t_bstep (hT : ∀ j, j < 600 → 0 ≤ T j ∧ T j ≤ 255) (he : e ≤ 600) (h6 : n ≤ 6) {j c a b : Nat} {P : Nat → Nat} {D : Nat → Int} {M : e_M} (hc : c + j = 6) (ha : a ≤ e) (hC : t_C T e a 0 (-1) M) (h30 : M 30 0 = (c : Int)) (h31 : M 30 1 = (b : Int)) (hb : b < 2 ^ n) (hpc : q_pc b = c) (hBD : t_BD n c b P D M)
    (ih : c < 6 → ∀ (a b : Nat) (P : Nat → Nat) (D : Nat → Int) (M : e_M), a ≤ e → t_C T e a 0 (-1) M → M 30 0 = ((c + 1 : Nat) : Int) → M 30 1 = (b : Int) → b < 2 ^ n → q_pc b = c + 1 → t_BD n (c + 1) b P D M → ∃ (c' b' : Nat) (P' : Nat → Nat) (D' : Nat → Int) (fl fp : Int) (M' : e_M), (∀ f, (j - 1) + 700 < f → f_X0_readFrom_bookDraft_6 f (n : Int) ((c + 1 : Nat) : Int) M = some (0, M')) ∧ t_bO n c' b' P' D' fl fp M' ∧ (∀ a k, ¬ (a = 2 ∧ 3 ≤ k ∧ k ≤ 6) → ¬ (a = 30 ∧ k < 2) → a ≠ 31 → M' a k = M a k) ∧ t_bR T e n (c + 1) b a P D c' P' D' fl fp (j - 1)) :
    ∃ (c' b' : Nat) (P' : Nat → Nat) (D' : Nat → Int) (fl fp : Int) (M' : e_M), (∀ f, j + 700 < f → f_X0_readFrom_bookDraft_6 f (n : Int) (c : Int) M = some (0, M')) ∧ t_bO n c' b' P' D' fl fp M' ∧ (∀ a k, ¬ (a = 2 ∧ 3 ≤ k ∧ k ≤ 6) → ¬ (a = 30 ∧ k < 2) → a ≠ 31 → M' a k = M a k) ∧ t_bR T e n c b a P D c' P' D' fl fp j := by
  have h2n : (2 : Nat) ^ n ≤ 2 ^ 6 := Nat.pow_le_pow_right (by omega) h6
  obtain ⟨M1, a1, a2, a3⟩ := t_ae hT he ha hC
  have hsp := t_s_p (T := T) (e - a) a rfl
  have hse := hsp.2.1 ha
  have hss : t_s T e (t_s T e a) = t_s T e a := t_ss
  unfold t_bR
  generalize t_s T e a = s at *
  by_cases c1 : s < e
  · obtain ⟨M2, n1, n2, n3, n4⟩ := t_rn (lo := 0) (hi := (n : Int) - 1) hT he hse a2
    rw [hss] at n1 n2 n3
    have fr2 : t_fC M M2 := a3.tr n4
    have hne : t_na T e s ≤ e := t_na_le hse
    by_cases f1 : t_nf T e 0 ((n : Int) - 1) s = 0
    · obtain ⟨v1, v2⟩ := t_nf_v f1
      obtain ⟨q, hq⟩ : ∃ q : Nat, t_nv T e s = (q : Int) := ⟨(t_nv T e s).toNat, by omega⟩
      have hqn : q < n := by omega
      rw [f1, if_pos rfl] at n2
      rw [f1, if_pos rfl, hq] at n1
      have n3' := n3 f1
      have hline : f_X0_hasLine_bookDraft (q : Int) M2 = some (if b.testBit q then 1 else 0, M2) := by
        unfold f_X0_hasLine_bookDraft
        rw [fr2 30 1 (by omega), h31, q_tb (by omega) (by omega)]
        by_cases g : b.testBit q = true
        · rw [if_pos g, if_neg (by decide)]
        · rw [if_neg g, if_pos rfl]
      by_cases g1 : b.testBit q = true
      · obtain ⟨l1, l2, l3⟩ := t_C_fl (k := 2) (p := (s : Int)) n2
        refine ⟨0, 0, fun _ => 0, fun _ => 0, 2, (s : Int), _, fun f hf => ?_, ⟨l2.2.2.1, l2.2.2.2.1, fun h => absurd h (by decide)⟩, fun a k x1 _ _ => (fr2.tr l3) a k x1, fun N p1 hN hn0 hro => ?_⟩
        · obtain ⟨f', rfl⟩ : ∃ f', f = f' + 1 := ⟨f - 1, by omega⟩
          rw [f_X0_readFrom_bookDraft_6, if_neg (show ¬ (6 : Int) < (c : Int) by omega), t_fd hC, f_bs, if_pos rfl, if_neg (show ¬ ¬ (0 : Int) = 0 by decide), a1 f' (by omega), f_bs, if_pos c1, if_neg (show ¬ ¬ (0 : Int) = 0 by decide), e_ws_ (x := (n : Int) - 1) (by omega) (by omega), y_ei (show c < 1000000 by omega), n1 f' (by omega), f_bs, if_neg (show ¬ (q : Int) = -1 by omega), hline, f_bs, if_pos g1, if_neg (show ¬ (1 : Int) = 0 by decide), n3', l1, f_bs, t_rn2 (by decide) l2, f_bs, t_es2 (by decide) l2, f_bs, t_fd l2, f_bs, if_neg (show ¬ (2 : Int) = 0 by decide), if_pos (show ¬ (1 : Int) = 0 by decide), t_bf (by decide) l2 (by omega)]
        · obtain ⟨N2, o1, o2, o3⟩ := t_mn (lo := 0) (hi := (n : Int) - 1) hT he (by omega) hse hN
          rw [hss] at o1 o2
          rw [f1, if_pos rfl] at o2
          rw [f1, if_pos rfl, hq] at o1
          obtain ⟨r1, r2, r3⟩ := t_m_fl (k := 2) (p := (s : Int)) o2
          obtain ⟨N4, w1, w2, w3⟩ := t_bm (p1 := p1) (v2 := (c : Int)) (v3 := (b : Int)) hT he (by decide) hne r2
          refine ⟨N4, fun f hf => ?_, fun a k x1 _ => ((o3.tr r3).tr w2) a k x1, fun h => absurd h (by decide)⟩
          obtain ⟨f', rfl⟩ : ∃ f', f = f' + 1 := ⟨f - 1, by omega⟩
          refine ⟨f', by omega, ?_⟩
          rw [f_X11_book_48, hN.2.2.1, if_neg (show ¬ ¬ (0 : Int) = 0 by decide), hN.1, hN.2.1, if_neg (show ¬ (e : Int) ≤ (s : Int) by omega), hn0, e_ws_ (x := (n : Int) - 1) (by omega) (by omega), o1 f' (by omega), f_bs, o2.2.2.1, if_neg (show ¬ ¬ (0 : Int) = 0 by decide), r_has (by omega) (by omega), f_bs, if_pos g1, if_neg (show ¬ (1 : Int) = 0 by decide), r1, f_bs, t_mn2 (by decide) r2, f_bs, t_ms2 (by decide) r2, f_bs, r2.2.2.1, if_pos (show ¬ (2 : Int) = 0 by decide), if_neg (show ¬ (2 : Int) = 0 by decide)]
          exact w1 f' (by omega)
      · obtain ⟨M3, d1, d2, d3, d4⟩ := t_rn (lo := 0) (hi := 140) hT he hne n2
        have hs2 := (t_s_p (T := T) (e - t_na T e s) (t_na T e s) rfl).2.1 hne
        generalize hs2' : t_s T e (t_na T e s) = s2 at *
        have hne2 : t_na T e s2 ≤ e := t_na_le hs2
        by_cases f2 : t_nf T e 0 140 s2 = 0
        · obtain ⟨y1, y2⟩ := t_nf_v f2
          obtain ⟨dv, hdv⟩ : ∃ dv, t_nv T e s2 = dv := ⟨_, rfl⟩
          rw [hdv] at d1 y1 y2
          rw [f2, if_pos rfl] at d1 d2
          obtain ⟨M4, x1, x2, x3⟩ := t_es (c := 59) hT he hne2 d2
          have hs3 := (t_s_p (T := T) (e - t_na T e s2) (t_na T e s2) rfl).2.1 hne2
          generalize hs3' : t_s T e (t_na T e s2) = s3 at *
          have hga : t_ga T e 59 s3 ≤ e := t_ga_le (by decide) hs3
          have fr4 : t_fC M M4 := (fr2.tr d4).tr x3
          have mod3 : ∀ (N : e_M), t_m T e s 0 (-1) N → ∃ N2 N3 N4, (∀ f, 601 < f → f_X11_number f 0 ((n : Int) - 1) N = some ((q : Int), N2)) ∧ N2 64 5 = 0 ∧ (∀ f, 601 < f → f_X11_number f 0 140 N2 = some (dv, N3)) ∧ (∀ f, 601 < f → f_X11_sign f 59 N3 = some (0, N4)) ∧ t_m T e (t_ga T e 59 s3) (t_gf T e 59 s3) (if t_gf T e 59 s3 = 0 then -1 else (s3 : Int)) N4 ∧ t_fm N N4 := by
            intro N hN
            obtain ⟨N2, o1, o2, o3⟩ := t_mn (lo := 0) (hi := (n : Int) - 1) hT he (by omega) hse hN
            rw [hss] at o1 o2
            rw [f1, if_pos rfl] at o2
            rw [f1, if_pos rfl, hq] at o1
            obtain ⟨N3, r1, r2, r3⟩ := t_mn (lo := 0) (hi := 140) hT he (by omega) hne o2
            rw [hs2'] at r1 r2
            rw [f2, if_pos rfl] at r2
            rw [f2, if_pos rfl, hdv] at r1
            obtain ⟨N4, z1, z2, z3⟩ := t_ms (c := 59) hT he hne2 r2
            rw [hs3'] at z2
            exact ⟨N2, N3, N4, o1, o2.2.2.1, r1, z1, z2, (o3.tr r3).tr z3⟩
          by_cases f3 : t_gf T e 59 s3 = 0
          · rw [f3, if_pos rfl] at x2
            have g1' : b.testBit q = false := by simpa using g1
            have hc6 : c < 6 := by
              rw [q_pc_n hb (by omega)] at hpc
              have := q_ct_lt (c := fun i => b.testBit i) g1' hqn
              omega
            have h2q : (2 : Nat) ^ q < 2 ^ n := Nat.pow_lt_pow_right (by omega) hqn
            have hb2 : b ||| 2 ^ q < 2 ^ n := Nat.or_lt_two_pow hb h2q
            have hpc2 : q_pc (b ||| 2 ^ q) = c + 1 := by
              rw [q_pc_n hb2 (by omega), ← hpc, q_pc_n hb (by omega), ← q_ct_or (c := fun i => b.testBit i) g1' hqn]
              exact q_ct_congr (fun i _ => by rw [Nat.testBit_or, Nat.testBit_two_pow])
            have hP : ∀ k, k < c → P k ≠ q := fun k hk h => by
              have := (hBD.2.2 (P k)).mpr ⟨k, hk, rfl⟩
              rw [h, g1'] at this; exact absurd this (by decide)
            have hC5 : t_C T e (t_ga T e 59 s3) 0 (-1) (e_up (e_up (e_up M4 31 q dv) 30 1 ((b ||| 2 ^ q : Nat) : Int)) 30 0 ((c + 1 : Nat) : Int)) := ⟨x2.1, x2.2.1, x2.2.2.1, x2.2.2.2.1, fun j hj => x2.2.2.2.2 j hj⟩
            have hBD5 : t_BD n (c + 1) (b ||| 2 ^ q) (fun k => if k = c then q else P k) (fun k => if k = c then dv else D k) (e_up (e_up (e_up M4 31 q dv) 30 1 ((b ||| 2 ^ q : Nat) : Int)) 30 0 ((c + 1 : Nat) : Int)) := by
              refine ⟨fun k hk => ?_, fun k k' h1 h2 => ?_, fun p => ?_⟩
              · rw [u_r (by decide), u_r (by decide)]
                show (if k = c then q else P k) < n ∧ e_up M4 31 q dv 31 (if k = c then q else P k) = (if k = c then dv else D k) ∧ 0 ≤ (if k = c then dv else D k) ∧ (if k = c then dv else D k) ≤ 140
                by_cases ek : k = c
                · rw [if_pos ek, if_pos ek, u_s]
                  exact ⟨hqn, rfl, y1, y2⟩
                · rw [if_neg ek, if_neg ek, u_c (hP k (by omega)), fr4 31 _ (by omega)]
                  exact hBD.1 k (by omega)
              · show (if k = c then q else P k) ≠ (if k' = c then q else P k')
                rw [if_neg (show ¬ k = c by omega)]
                by_cases ek : k' = c
                · rw [if_pos ek]; exact hP k (by omega)
                · rw [if_neg ek]; exact hBD.2.1 k k' h1 (by omega)
              · rw [Nat.testBit_or, Nat.testBit_two_pow, Bool.or_eq_true, decide_eq_true_eq, hBD.2.2 p]
                constructor
                · rintro (⟨k, h1, h2⟩ | h)
                  · exact ⟨k, by omega, by show (if k = c then q else P k) = p; rw [if_neg (by omega)]; exact h2⟩
                  · exact ⟨c, by omega, by show (if c = c then q else P c) = p; rw [if_pos rfl]; exact h⟩
                · rintro ⟨k, h1, h2⟩
                  have h2' : (if k = c then q else P k) = p := h2
                  by_cases ek : k = c
                  · rw [if_pos ek] at h2'; exact Or.inr h2'
                  · rw [if_neg ek] at h2'; exact Or.inl ⟨k, by omega, h2'⟩
            obtain ⟨c', b', P', D', fl, fp, M', k1, kO, kF, kR⟩ := ih hc6 (t_ga T e 59 s3) (b ||| 2 ^ q) _ _ _ hga hC5 (u_s _ _ _ _) (by rw [u_c (by decide), u_s]) hb2 hpc2 hBD5
            refine ⟨c', b', P', D', fl, fp, M', fun f hf => ?_, kO, fun a k z1 z2 z3 => by rw [kF a k z1 z2 z3]; exact (t_cut z2 z3).trans (fr4 a k z1), fun N p1 hN hn0 hro => ?_⟩
            · obtain ⟨f', rfl⟩ : ∃ f', f = f' + 1 := ⟨f - 1, by omega⟩
              rw [f_X0_readFrom_bookDraft_6, if_neg (show ¬ (6 : Int) < (c : Int) by omega), t_fd hC, f_bs, if_pos rfl, if_neg (show ¬ ¬ (0 : Int) = 0 by decide), a1 f' (by omega), f_bs, if_pos c1, if_neg (show ¬ ¬ (0 : Int) = 0 by decide), e_ws_ (x := (n : Int) - 1) (by omega) (by omega), y_ei (show c < 1000000 by omega), n1 f' (by omega), f_bs, if_neg (show ¬ (q : Int) = -1 by omega), hline, f_bs, if_neg g1, if_pos rfl, d1 f' (by omega), f_bs, x1 f' (by omega), f_bs, t_fd x2, f_bs, if_pos rfl, if_neg (show ¬ ¬ (0 : Int) = 0 by decide), if_pos (show 0 ≤ (q : Int) ∧ (q : Int) < 6 by omega), Int.toNat_natCast, u_r (show (30 : Nat) ≠ 31 by decide), fr4 30 1 (by omega), h31, q_sh (by omega), b_or (by omega) (by omega), u_c (show (0 : Nat) ≠ 1 by decide), u_r (show (30 : Nat) ≠ 31 by decide), fr4 30 0 (by omega), h30, y_ei (by omega)]
              exact k1 f' (by omega)
            · obtain ⟨N2, N3, N4, o1, o2, r1, z1, z2, z3⟩ := mod3 N hN
              rw [f3, if_pos rfl] at z2
              have hN5 : t_m T e (t_ga T e 59 s3) 0 (-1) (e_up (e_up N4 (443 + c) 0 (q : Int)) (443 + c) 1 dv) := ⟨by rw [u_r (by omega), u_r (by omega)]; exact z2.1, by rw [u_r (by omega), u_r (by omega)]; exact z2.2.1, by rw [u_r (by omega), u_r (by omega)]; exact z2.2.2.1, by rw [u_r (by omega), u_r (by omega)]; exact z2.2.2.2.1, fun j hj => by rw [u_r (by omega), u_r (by omega)]; exact z2.2.2.2.2 j hj⟩
              obtain ⟨N6, w1, w2, w3⟩ := t_bl hT he (e - t_ga T e 59 s3) (t_ga T e 59 s3) 0 (-1) _ rfl hga hN5
              have fr6 : ∀ a k, ¬ (a = 64 ∧ 4 ≤ k ∧ k ≤ 6) → a ≠ 443 + c → N6 a k = N a k := fun a k t1 t2 => by rw [w3 a k t1, u_r t2, u_r t2, z3 a k t1]
              obtain ⟨N', v1, v2, v3⟩ := kR N6 p1 w2 (by rw [fr6 68 0 (by omega) (by omega)]; exact hn0) (fun k hk => by
                show N6 (443 + k) 0 = ((if k = c then q else P k : Nat) : Int) ∧ N6 (443 + k) 1 = if k = c then dv else D k
                by_cases ek : k = c
                · subst ek
                  rw [if_pos rfl, if_pos rfl, w3 _ 0 (by omega), w3 _ 1 (by omega), u_c (by decide), u_s, u_s]
                  exact ⟨rfl, rfl⟩
                · rw [if_neg ek, if_neg ek, fr6 _ 0 (by omega) (by omega), fr6 _ 1 (by omega) (by omega)]
                  exact hro k (by omega))
              refine ⟨N', fun f hf => ?_, fun a k t1 t2 => by rw [v2 a k t1 t2, fr6 a k t1 (by omega)], v3⟩
              obtain ⟨f', rfl⟩ : ∃ f', f = f' + 1 := ⟨f - 1, by omega⟩
              obtain ⟨g, v4, v5⟩ := v1 f' (by omega)
              refine ⟨g, v4, ?_⟩
              rw [f_X11_book_48, hN.2.2.1, if_neg (show ¬ ¬ (0 : Int) = 0 by decide), hN.1, hN.2.1, if_neg (show ¬ (e : Int) ≤ (s : Int) by omega), hn0, e_ws_ (x := (n : Int) - 1) (by omega) (by omega), o1 f' (by omega), f_bs, o2, if_neg (show ¬ ¬ (0 : Int) = 0 by decide), r_has (by omega) (by omega), f_bs, if_neg g1, if_pos rfl, r1 f' (by omega), f_bs, z1 f' (by omega), f_bs, z2.2.2.1, if_neg (show ¬ ¬ (0 : Int) = 0 by decide), if_pos (show 0 ≤ (c : Int) ∧ (c : Int) < 6 by omega), if_pos (show 0 ≤ (c : Int) ∧ (c : Int) < 6 by omega), Int.toNat_natCast, w1 f' (by omega), f_bs, y_ei (by omega), q_sh (by omega), b_or (by omega) (by omega)]
              exact v5
          · rw [if_neg f3] at x2
            refine ⟨0, 0, fun _ => 0, fun _ => 0, t_gf T e 59 s3, (s3 : Int), M4, fun f hf => ?_, ⟨x2.2.2.1, x2.2.2.2.1, fun h => absurd h f3⟩, fun a k z1 _ _ => fr4 a k z1, fun N p1 hN hn0 hro => ?_⟩
            · obtain ⟨f', rfl⟩ : ∃ f', f = f' + 1 := ⟨f - 1, by omega⟩
              rw [f_X0_readFrom_bookDraft_6, if_neg (show ¬ (6 : Int) < (c : Int) by omega), t_fd hC, f_bs, if_pos rfl, if_neg (show ¬ ¬ (0 : Int) = 0 by decide), a1 f' (by omega), f_bs, if_pos c1, if_neg (show ¬ ¬ (0 : Int) = 0 by decide), e_ws_ (x := (n : Int) - 1) (by omega) (by omega), y_ei (show c < 1000000 by omega), n1 f' (by omega), f_bs, if_neg (show ¬ (q : Int) = -1 by omega), hline, f_bs, if_neg g1, if_pos rfl, d1 f' (by omega), f_bs, x1 f' (by omega), f_bs, t_fd x2, f_bs, if_neg f3, if_pos (show ¬ (1 : Int) = 0 by decide), t_bf f3 x2 (by omega)]
            · obtain ⟨N2, N3, N4, o1, o2, r1, z1, z2, z3⟩ := mod3 N hN
              rw [if_neg f3] at z2
              obtain ⟨N5, w1, w2, w3⟩ := t_bm (p1 := p1) (v2 := (c : Int)) (v3 := (b : Int)) hT he f3 hga z2
              refine ⟨N5, fun f hf => ?_, fun a k t1 _ => (z3.tr w2) a k t1, fun h => absurd h f3⟩
              obtain ⟨f', rfl⟩ : ∃ f', f = f' + 1 := ⟨f - 1, by omega⟩
              refine ⟨f', by omega, ?_⟩
              rw [f_X11_book_48, hN.2.2.1, if_neg (show ¬ ¬ (0 : Int) = 0 by decide), hN.1, hN.2.1, if_neg (show ¬ (e : Int) ≤ (s : Int) by omega), hn0, e_ws_ (x := (n : Int) - 1) (by omega) (by omega), o1 f' (by omega), f_bs, o2, if_neg (show ¬ ¬ (0 : Int) = 0 by decide), r_has (by omega) (by omega), f_bs, if_neg g1, if_pos rfl, r1 f' (by omega), f_bs, z1 f' (by omega), f_bs, z2.2.2.1, if_pos f3, if_neg f3]
              exact w1 f' (by omega)
        · rw [if_neg f2] at d1 d2
          refine ⟨0, 0, fun _ => 0, fun _ => 0, t_nf T e 0 140 s2, (s2 : Int), M3, fun f hf => ?_, ⟨d2.2.2.1, d2.2.2.2.1, fun h => absurd h f2⟩, fun a k x1 _ _ => (fr2.tr d4) a k x1, fun N p1 hN hn0 hro => ?_⟩
          · obtain ⟨f', rfl⟩ : ∃ f', f = f' + 1 := ⟨f - 1, by omega⟩
            rw [f_X0_readFrom_bookDraft_6, if_neg (show ¬ (6 : Int) < (c : Int) by omega), t_fd hC, f_bs, if_pos rfl, if_neg (show ¬ ¬ (0 : Int) = 0 by decide), a1 f' (by omega), f_bs, if_pos c1, if_neg (show ¬ ¬ (0 : Int) = 0 by decide), e_ws_ (x := (n : Int) - 1) (by omega) (by omega), y_ei (show c < 1000000 by omega), n1 f' (by omega), f_bs, if_neg (show ¬ (q : Int) = -1 by omega), hline, f_bs, if_neg g1, if_pos rfl, d1 f' (by omega), f_bs, t_es2 f2 d2, f_bs, t_fd d2, f_bs, if_neg f2, if_pos (show ¬ (1 : Int) = 0 by decide), t_bf f2 d2 (by omega)]
          · obtain ⟨N2, o1, o2, o3⟩ := t_mn (lo := 0) (hi := (n : Int) - 1) hT he (by omega) hse hN
            rw [hss] at o1 o2
            rw [f1, if_pos rfl] at o2
            rw [f1, if_pos rfl, hq] at o1
            obtain ⟨N3, r1, r2, r3⟩ := t_mn (lo := 0) (hi := 140) hT he (by omega) hne o2
            rw [hs2'] at r1 r2
            rw [if_neg f2] at r1 r2
            obtain ⟨N4, w1, w2, w3⟩ := t_bm (p1 := p1) (v2 := (c : Int)) (v3 := (b : Int)) hT he f2 hne2 r2
            refine ⟨N4, fun f hf => ?_, fun a k x1 _ => ((o3.tr r3).tr w2) a k x1, fun h => absurd h f2⟩
            obtain ⟨f', rfl⟩ : ∃ f', f = f' + 1 := ⟨f - 1, by omega⟩
            refine ⟨f', by omega, ?_⟩
            rw [f_X11_book_48, hN.2.2.1, if_neg (show ¬ ¬ (0 : Int) = 0 by decide), hN.1, hN.2.1, if_neg (show ¬ (e : Int) ≤ (s : Int) by omega), hn0, e_ws_ (x := (n : Int) - 1) (by omega) (by omega), o1 f' (by omega), f_bs, o2.2.2.1, if_neg (show ¬ ¬ (0 : Int) = 0 by decide), r_has (by omega) (by omega), f_bs, if_neg g1, if_pos rfl, r1 f' (by omega), f_bs, t_ms2 f2 r2, f_bs, r2.2.2.1, if_pos f2, if_neg f2]
            exact w1 f' (by omega)
    · rw [if_neg f1] at n1 n2
      refine ⟨0, 0, fun _ => 0, fun _ => 0, t_nf T e 0 ((n : Int) - 1) s, (s : Int), M2, fun f hf => ?_, ⟨n2.2.2.1, n2.2.2.2.1, fun h => absurd h f1⟩, fun a k x1 _ _ => fr2 a k x1, fun N p1 hN hn0 hro => ?_⟩
      · obtain ⟨f', rfl⟩ : ∃ f', f = f' + 1 := ⟨f - 1, by omega⟩
        rw [f_X0_readFrom_bookDraft_6, if_neg (show ¬ (6 : Int) < (c : Int) by omega), t_fd hC, f_bs, if_pos rfl, if_neg (show ¬ ¬ (0 : Int) = 0 by decide), a1 f' (by omega), f_bs, if_pos c1, if_neg (show ¬ ¬ (0 : Int) = 0 by decide), e_ws_ (x := (n : Int) - 1) (by omega) (by omega), y_ei (show c < 1000000 by omega), n1 f' (by omega), f_bs, if_pos rfl, t_rn2 f1 n2, f_bs, t_es2 f1 n2, f_bs, t_fd n2, f_bs, if_neg f1, if_pos (show ¬ (1 : Int) = 0 by decide), t_bf f1 n2 (by omega)]
      · obtain ⟨N2, o1, o2, o3⟩ := t_mn (lo := 0) (hi := (n : Int) - 1) hT he (by omega) hse hN
        rw [hss] at o1 o2
        rw [if_neg f1] at o1 o2
        obtain ⟨N4, w1, w2, w3⟩ := t_bm (p1 := p1) (v2 := (c : Int)) (v3 := (b : Int)) hT he f1 hne o2
        refine ⟨N4, fun f hf => ?_, fun a k x1 _ => (o3.tr w2) a k x1, fun h => absurd h f1⟩
        obtain ⟨f', rfl⟩ : ∃ f', f = f' + 1 := ⟨f - 1, by omega⟩
        refine ⟨f', by omega, ?_⟩
        rw [f_X11_book_48, hN.2.2.1, if_neg (show ¬ ¬ (0 : Int) = 0 by decide), hN.1, hN.2.1, if_neg (show ¬ (e : Int) ≤ (s : Int) by omega), hn0, e_ws_ (x := (n : Int) - 1) (by omega) (by omega), o1 f' (by omega), f_bs, o2.2.2.1, if_pos f1, t_mn2 f1 o2, f_bs, t_ms2 f1 o2, f_bs, o2.2.2.1, if_pos f1, if_neg f1]
        exact w1 f' (by omega)
  · refine ⟨c, b, P, D, 0, -1, M1, fun f hf => ?_, ⟨a2.2.2.1, a2.2.2.2.1, fun _ => ⟨rfl, by omega, by rw [a3 30 0 (by omega)]; exact h30, by rw [a3 30 1 (by omega)]; exact h31, hb, t_BD_f (fun k => a3 31 k (by omega)) hBD⟩⟩, fun a k x1 _ _ => a3 a k x1, fun N p1 hN hn0 hro => ⟨N, fun f hf => ?_, fun _ _ _ _ => rfl, fun _ => hro⟩⟩
    · obtain ⟨f', rfl⟩ : ∃ f', f = f' + 1 := ⟨f - 1, by omega⟩
      rw [f_X0_readFrom_bookDraft_6, if_neg (show ¬ (6 : Int) < (c : Int) by omega), t_fd hC, f_bs, if_pos rfl, if_neg (by decide), a1 f' (by omega), f_bs, if_neg c1, if_pos (by decide)]
    · obtain ⟨f', rfl⟩ : ∃ f', f = f' + 1 := ⟨f - 1, by omega⟩
      refine ⟨f', by omega, ?_⟩
      rw [f_X11_book_48, hN.2.2.1, if_neg (show ¬ ¬ (0 : Int) = 0 by decide), hN.1, hN.2.1, if_pos (show (e : Int) ≤ (s : Int) by omega), if_pos rfl, if_pos rfl]
theorem t_book (hT : ∀ j, j < 600 → 0 ≤ T j ∧ T j ≤ 255) (he : e ≤ 600) (h6 : n ≤ 6) : ∀ (j c a b : Nat) (P : Nat → Nat) (D : Nat → Int) (M : e_M), c + j = 6 → a ≤ e → t_C T e a 0 (-1) M → M 30 0 = (c : Int) → M 30 1 = (b : Int) → b < 2 ^ n → q_pc b = c → t_BD n c b P D M →
    ∃ (c' b' : Nat) (P' : Nat → Nat) (D' : Nat → Int) (fl fp : Int) (M' : e_M), (∀ f, j + 700 < f → f_X0_readFrom_bookDraft_6 f (n : Int) (c : Int) M = some (0, M')) ∧ t_bO n c' b' P' D' fl fp M' ∧ (∀ a k, ¬ (a = 2 ∧ 3 ≤ k ∧ k ≤ 6) → ¬ (a = 30 ∧ k < 2) → a ≠ 31 → M' a k = M a k) ∧ t_bR T e n c b a P D c' P' D' fl fp j := by
  intro j
  induction j with
  | zero =>
    intro c a b P D M hc ha hC h30 h31 hb hpc hBD
    exact t_bstep hT he h6 hc ha hC h30 h31 hb hpc hBD (fun h => absurd h (by omega))
  | succ j ih =>
    intro c a b P D M hc ha hC h30 h31 hb hpc hBD
    exact t_bstep hT he h6 hc ha hC h30 h31 hb hpc hBD (fun h a b P D M g1 g2 g3 g4 g5 g6 g7 => ih (c + 1) a b P D M (by omega) g1 g2 g3 g4 g5 g6 g7)
end BK
