/-! PURE 6: a week, on the model's side -/
def q_td (L : Nat → Int) (k : Nat) : Bool := decide (L (42 + k) = 0) && decide (L (30 + k) = L 55)
theorem q_td_t {L : Nat → Int} {k : Nat} : q_td L k = true ↔ L (42 + k) = 0 ∧ L (30 + k) = L 55 := by unfold q_td; simp
def q_fn (ow : Nat → Nat) (fi L : Nat → Int) (p : Nat) : Nat → Int × Int
  | 0 => (L p, L (24 + p))
  | k + 1 => if ow k = p ∧ q_td L k = true then (e_w ((q_fn ow fi L p k).1 - min (fi k) (q_fn ow fi L p k).1), e_w ((q_fn ow fi L p k).2 + min (fi k) (q_fn ow fi L p k).1)) else q_fn ow fi L p k
theorem q_fn_1 {ow : Nat → Nat} {fi L : Nat → Int} {p k : Nat} (h : ow k = p ∧ q_td L k = true) : q_fn ow fi L p (k + 1) = (e_w ((q_fn ow fi L p k).1 - min (fi k) (q_fn ow fi L p k).1), e_w ((q_fn ow fi L p k).2 + min (fi k) (q_fn ow fi L p k).1)) := by
  show (if ow k = p ∧ q_td L k = true then _ else _) = _
  rw [if_pos h]
theorem q_fn_0 {ow : Nat → Nat} {fi L : Nat → Int} {p k : Nat} (h : ¬ (ow k = p ∧ q_td L k = true)) : q_fn ow fi L p (k + 1) = q_fn ow fi L p k := by
  show (if ow k = p ∧ q_td L k = true then _ else _) = _
  rw [if_neg h]
def q_lw (n m : Nat) (sk : Nat → Nat) (wo L : Nat → Int) : Int := q_sm (fun d => if (q_an (2 ^ m - 1) (q_or (fun q => decide (L (18 + q) = -1)) sk n)).testBit d then wo d else 0) m
def q_wc (t : Nat) (wa : Nat → Int) (ow : Nat → Nat) (fi L : Nat → Int) (p : Nat) : Int := if L (18 + p) = -1 then min 999 (e_w (L p + wa p)) else (q_fn ow fi L p t).1
def q_wf1 (t : Nat) (ow : Nat → Nat) (fi L : Nat → Int) (p : Nat) : Int := if L (18 + p) = -1 then L (24 + p) else (q_fn ow fi L p t).2
def q_wl (L : Nat → Int) (p : Nat) : Int := if L (18 + p) = -1 then e_w (L (6 + p) + 7) else e_w (L (6 + p) + 6)
def q_ws (L : Nat → Int) (p : Nat) : Int := if L (18 + p) = -1 then e_w (L (12 + p) + 0) else e_w (L (12 + p) + 1)
/-- the life behind a week -/
def q_WK (n m t : Nat) (wa : Nat → Int) (sk : Nat → Nat) (wo : Nat → Int) (ow : Nat → Nat) (fi L L' : Nat → Int) : Prop :=
  (∀ p, p < n → L' p = q_wc t wa ow fi L p ∧ L' (6 + p) = q_wl L p ∧ L' (12 + p) = q_ws L p ∧ L' (18 + p) = -1 ∧ L' (24 + p) = q_wf1 t ow fi L p) ∧
  (∀ k, k < t → L' (30 + k) = L (30 + k) ∧ L' (42 + k) = if q_td L k = true ∧ L (18 + ow k) = -1 then 1 else L (42 + k)) ∧ L' 54 = e_w (L 54 + q_lw n m sk wo L) ∧ L' 55 = e_w (L 55 + 1)
section WE
variable {n m t : Nat} {wa : Nat → Int} {sk : Nat → Nat} {wo : Nat → Int} {ow : Nat → Nat} {fi : Nat → Int} {L : Nat → Int} {M : e_M} {r : Nat}
/-- behind p persons, and k tasks of the person p if o -/
def q_J (n t : Nat) (wa : Nat → Int) (ow : Nat → Nat) (fi L : Nat → Int) (x54 : Int) (M : e_M) (r p k o : Nat) (N : e_M) : Prop :=
  (∀ a j, a ≠ r → N a j = M a j) ∧ (∀ q, q < 6 → N r (18 + q) = L (18 + q)) ∧ (∀ q, q < 12 → N r (30 + q) = L (30 + q)) ∧ N r 55 = L 55 ∧ N r 54 = x54 ∧
  (∀ q, q < n → N r q = if q < p then q_wc t wa ow fi L q else if q < p + o then (if L (18 + q) = -1 then min 999 (e_w (L q + wa q)) else (q_fn ow fi L q k).1) else L q) ∧
  (∀ q, q < n → N r (6 + q) = if q < p + o then q_wl L q else L (6 + q)) ∧ (∀ q, q < n → N r (12 + q) = if q < p + o then q_ws L q else L (12 + q)) ∧
  (∀ q, q < n → N r (24 + q) = if q < p then q_wf1 t ow fi L q else if q < p + o then (if L (18 + q) = -1 then L (24 + q) else (q_fn ow fi L q k).2) else L (24 + q)) ∧
  (∀ q, q < t → N r (42 + q) = if (ow q < p ∨ (ow q < p + o ∧ q < k)) ∧ (q_td L q = true ∧ L (18 + ow q) = -1) then 1 else L (42 + q))
theorem q_J_next {x54 : Int} {p : Nat} {N : e_M} (h : q_J n t wa ow fi L x54 M r p t 1 N) : q_J n t wa ow fi L x54 M r (p + 1) 0 0 N := by
  obtain ⟨h1, h2, h3, h4, h5, h6, h7, h8, h9, h10⟩ := h
  refine ⟨h1, h2, h3, h4, h5, fun q hq => ?_, fun q hq => ?_, fun q hq => ?_, fun q hq => ?_, fun q hq => ?_⟩
  · rw [h6 q hq]
    by_cases c : q < p
    · rw [if_pos c, if_pos (by omega)]
    · rw [if_neg c]
      by_cases c2 : q < p + 1
      · rw [if_pos c2, if_pos c2]; rfl
      · rw [if_neg c2, if_neg (by omega), if_neg (by omega)]
  · rw [h7 q hq]
  · rw [h8 q hq]
  · rw [h9 q hq]
    by_cases c : q < p
    · rw [if_pos c, if_pos (by omega)]
    · rw [if_neg c]
      by_cases c2 : q < p + 1
      · rw [if_pos c2, if_pos c2]; rfl
      · rw [if_neg c2, if_neg (by omega), if_neg (by omega)]
  · rw [h10 q hq]
    by_cases c : q_td L q = true ∧ L (18 + ow q) = -1
    · by_cases c2 : ow q < p + 1
      · rw [if_pos ⟨by omega, c⟩, if_pos ⟨by omega, c⟩]
      · rw [if_neg (fun z => by omega), if_neg (fun z => by omega)]
    · rw [if_neg (fun z => c z.2), if_neg (fun z => c z.2)]
theorem q_J_uni {x54 : Int} {p k : Nat} {N : e_M} (hT : q_T n m t wa sk wo ow fi M) (hr : 113 < r) (hp : p < n) (hk : k < t) (h : q_J n t wa ow fi L x54 M r p k 1 N) (s : Int) (hs : s = if L (18 + p) = -1 then 1 else 0) : ∃ N', q_J n t wa ow fi L x54 M r p (k + 1) 1 N' ∧ ∀ f, 0 ≤ f → f_X11_weekEnds_L18 r (f + 1) 1 (p : Int) s (k : Int) N = f_X11_weekEnds_L18 r f 1 (p : Int) s ((k : Int) + 1) N' := by
  have h6 := hT.1
  have ht12 := hT.2.2.1
  obtain ⟨j1, j2, j3, j4, j5, j6, j7, j8, j9, j10⟩ := h
  have g1 : N 68 2 = (t : Int) := by rw [j1 68 2 (by omega)]; exact hT.2.2.2.2.2.2.2.2.1
  have hk1 := hT.2.2.2.2.2.2.2.2.2.2.2 k hk
  have g2 : N (101 + k) 0 = (ow k : Int) := by rw [j1 _ _ (by omega)]; exact hk1.2.1
  have g3 : N (101 + k) 2 = fi k := by rw [j1 _ _ (by omega)]; exact hk1.2.2.2.2.1
  have w1 : ∀ f, f_X11_weekEnds_L18 r (f + 1) 1 (p : Int) s (k : Int) N = (if ¬ ((ow k : Nat) : Int) = (p : Int) then f_X11_weekEnds_L18 r f 1 (p : Int) s ((k : Int) + 1) N else (if N r (42 + k) = 0 ∧ N r (30 + k) = N r 55 then (if s = 0 then f_X11_weekEnds_L18 r f 1 (p : Int) s ((k : Int) + 1) (e_up (e_up N r p (e_w (N r p - min (fi k) (N r p)))) r (24 + p) (e_w ((e_up N r p (e_w (N r p - min (fi k) (N r p)))) r (24 + p) + min (fi k) (N r p)))) else f_X11_weekEnds_L18 r f 1 (p : Int) s ((k : Int) + 1) (e_up N r (42 + k) 1)) else f_X11_weekEnds_L18 r f 1 (p : Int) s ((k : Int) + 1) N)) := by
    intro f
    rw [f_X11_weekEnds_L18, if_neg (by decide), if_neg (by omega), if_pos (by omega), Int.toNat_natCast, g2, e_ws_ (x := (k : Int) + 1) (by omega) (by omega), r_today (by omega), f_bs, g3, q_w0 p (by omega), Int.toNat_natCast, e_ws_ (x := 24 + (p : Int)) (by omega) (by omega), q_t24, e_ws_ (x := 42 + (k : Int)) (by omega) (by omega), q_t42, r_less, f_bs]
    by_cases c1 : ((ow k : Nat) : Int) = (p : Int)
    · rw [if_neg (not_not_intro c1), if_neg (not_not_intro c1)]
      by_cases c2 : N r (42 + k) = 0 ∧ N r (30 + k) = N r 55
      · rw [if_pos c2, if_pos (by decide), if_pos c2]
        by_cases c3 : s = 0
        · rw [if_pos c3, if_pos c3, if_pos (by omega), if_pos (by omega), if_pos (by omega), if_pos (by omega), if_pos (by omega), if_pos (by omega)]
        · rw [if_neg c3, if_neg c3, if_pos (by omega)]
      · rw [if_neg c2, if_neg (by decide), if_neg c2]
    · rw [if_pos c1, if_pos c1]
  by_cases c1 : ow k = p
  · have hd : N r (42 + k) = L (42 + k) := by
      rw [j10 k hk, if_neg (fun z => by omega)]
    by_cases c2 : q_td L k = true
    · have c2' := q_td_t.mp c2
      have w2 : ∀ f, f_X11_weekEnds_L18 r (f + 1) 1 (p : Int) s (k : Int) N = _ := fun f => (w1 f).trans (by rw [if_neg (not_not_intro (by omega)), if_pos (by rw [hd, j3 k (by omega), j4]; exact c2')])
      by_cases c3 : L (18 + p) = -1
      · rw [if_pos c3] at hs
        refine ⟨e_up N r (42 + k) 1, ⟨fun a j ha => by rw [u_r ha]; exact j1 a j ha, fun q hq => by rw [u_c (by omega)]; exact j2 q hq, fun q hq => by rw [u_c (by omega)]; exact j3 q hq, by rw [u_c (by omega)]; exact j4, by rw [u_c (by omega)]; exact j5, fun q hq => ?_, fun q hq => by rw [u_c (by omega)]; exact j7 q hq, fun q hq => by rw [u_c (by omega)]; exact j8 q hq, fun q hq => ?_, fun q hq => ?_⟩, fun f _ => by rw [w2, if_neg (by rw [hs]; decide)]⟩
        · rw [u_c (by omega), j6 q hq]
          by_cases e1 : q < p
          · rw [if_pos e1, if_pos e1]
          · rw [if_neg e1, if_neg e1]
            by_cases e2 : q < p + 1
            · have : q = p := by omega
              subst this
              rw [if_pos e2, if_pos e2, if_pos c3, if_pos c3]
            · rw [if_neg e2, if_neg e2]
        · rw [u_c (by omega), j9 q hq]
          by_cases e1 : q < p
          · rw [if_pos e1, if_pos e1]
          · rw [if_neg e1, if_neg e1]
            by_cases e2 : q < p + 1
            · have : q = p := by omega
              subst this
              rw [if_pos e2, if_pos e2, if_pos c3, if_pos c3]
            · rw [if_neg e2, if_neg e2]
        · by_cases e1 : q = k
          · subst e1
            rw [u_s, if_pos ⟨by omega, c2, by rw [c1]; exact c3⟩]
          · rw [u_c (by omega), j10 q hq]
            by_cases c : q_td L q = true ∧ L (18 + ow q) = -1
            · by_cases c4 : ow q < p ∨ (ow q < p + 1 ∧ q < k)
              · rw [if_pos ⟨c4, c⟩, if_pos ⟨by omega, c⟩]
              · rw [if_neg (fun z => c4 z.1), if_neg (fun z => c4 (by omega))]
            · rw [if_neg (fun z => c z.2), if_neg (fun z => c z.2)]
      · rw [if_neg c3] at hs
        have hq1 : N r p = (q_fn ow fi L p k).1 := by rw [j6 p hp, if_neg (by omega), if_pos (by omega), if_neg c3]
        have hq2 : N r (24 + p) = (q_fn ow fi L p k).2 := by rw [j9 p hp, if_neg (by omega), if_pos (by omega), if_neg c3]
        have hfn := q_fn_1 (fi := fi) (L := L) (k := k) ⟨c1, c2⟩
        refine ⟨e_up (e_up N r p (e_w (N r p - min (fi k) (N r p)))) r (24 + p) (e_w ((e_up N r p (e_w (N r p - min (fi k) (N r p)))) r (24 + p) + min (fi k) (N r p))), ⟨fun a j ha => by rw [u_r ha, u_r ha]; exact j1 a j ha, fun q hq => by rw [u_c (by omega), u_c (by omega)]; exact j2 q hq, fun q hq => by rw [u_c (by omega), u_c (by omega)]; exact j3 q hq, by rw [u_c (by omega), u_c (by omega)]; exact j4, by rw [u_c (by omega), u_c (by omega)]; exact j5, fun q hq => ?_, fun q hq => by rw [u_c (by omega), u_c (by omega)]; exact j7 q hq, fun q hq => by rw [u_c (by omega), u_c (by omega)]; exact j8 q hq, fun q hq => ?_, fun q hq => ?_⟩, fun f _ => by rw [w2, if_pos hs]⟩
        · rw [u_c (by omega)]
          by_cases e0 : q = p
          · subst e0
            rw [u_s, if_neg (by omega), if_pos (by omega), if_neg c3, hfn, hq1]
          · rw [u_c e0, j6 q hq]
            by_cases e1 : q < p
            · rw [if_pos e1, if_pos e1]
            · rw [if_neg e1, if_neg e1, if_neg (by omega), if_neg (by omega)]
        · by_cases e0 : q = p
          · subst e0
            rw [u_s, u_c (by omega), if_neg (by omega), if_pos (by omega), if_neg c3, hfn, hq1, hq2]
          · rw [u_c (by omega), u_c (by omega), j9 q hq]
            by_cases e1 : q < p
            · rw [if_pos e1, if_pos e1]
            · rw [if_neg e1, if_neg e1, if_neg (by omega), if_neg (by omega)]
        · rw [u_c (by omega), u_c (by omega), j10 q hq]
          by_cases c : q_td L q = true ∧ L (18 + ow q) = -1
          · have hne : q ≠ k := fun e => c3 (by rw [← c1, ← e]; exact c.2)
            by_cases c4 : ow q < p ∨ (ow q < p + 1 ∧ q < k)
            · rw [if_pos ⟨c4, c⟩, if_pos ⟨by omega, c⟩]
            · rw [if_neg (fun z => c4 z.1), if_neg (fun z => c4 (by omega))]
          · rw [if_neg (fun z => c z.2), if_neg (fun z => c z.2)]
    · have c2' : ¬ (L (42 + k) = 0 ∧ L (30 + k) = L 55) := fun z => c2 (q_td_t.mpr z)
      refine ⟨N, ⟨j1, j2, j3, j4, j5, fun q hq => ?_, j7, j8, fun q hq => ?_, fun q hq => ?_⟩, fun f _ => by rw [w1, if_neg (not_not_intro (by omega)), if_neg (by rw [hd, j3 k (by omega), j4]; exact c2')]⟩
      · rw [j6 q hq, q_fn_0 (fun z => c2 z.2)]
      · rw [j9 q hq, q_fn_0 (fun z => c2 z.2)]
      · rw [j10 q hq]
        by_cases c : q_td L q = true ∧ L (18 + ow q) = -1
        · have hne : q ≠ k := fun e => c2 (by rw [← e]; exact c.1)
          by_cases c4 : ow q < p ∨ (ow q < p + 1 ∧ q < k)
          · rw [if_pos ⟨c4, c⟩, if_pos ⟨by omega, c⟩]
          · rw [if_neg (fun z => c4 z.1), if_neg (fun z => c4 (by omega))]
        · rw [if_neg (fun z => c z.2), if_neg (fun z => c z.2)]
  · refine ⟨N, ⟨j1, j2, j3, j4, j5, fun q hq => ?_, j7, j8, fun q hq => ?_, fun q hq => ?_⟩, fun f _ => by rw [w1, if_pos (by omega)]⟩
    · rw [j6 q hq]
      by_cases e1 : q < p
      · rw [if_pos e1, if_pos e1]
      · rw [if_neg e1, if_neg e1]
        by_cases e2 : q < p + 1
        · rw [q_fn_0 (p := q) (fun z => by omega)]
        · rw [if_neg e2, if_neg e2]
    · rw [j9 q hq]
      by_cases e1 : q < p
      · rw [if_pos e1, if_pos e1]
      · rw [if_neg e1, if_neg e1]
        by_cases e2 : q < p + 1
        · rw [q_fn_0 (p := q) (fun z => by omega)]
        · rw [if_neg e2, if_neg e2]
    · rw [j10 q hq]
      by_cases c : q_td L q = true ∧ L (18 + ow q) = -1
      · by_cases c4 : ow q < p ∨ (ow q < p + 1 ∧ q < k)
        · rw [if_pos ⟨c4, c⟩, if_pos ⟨by omega, c⟩]
        · have hqk : q = k → ow q ≠ p := fun e => by rw [e]; exact c1
          rw [if_neg (fun z => c4 z.1), if_neg (fun z => c4 (by omega))]
      · rw [if_neg (fun z => c z.2), if_neg (fun z => c z.2)]
end WE
