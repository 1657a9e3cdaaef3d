/-! PURE 9: buy, sell, later -/
def q_u (L : Nat → Int) (j : Nat) (v : Int) : Nat → Int := fun i => if i = j then v else L i
theorem q_u_s {L : Nat → Int} {j : Nat} {v : Int} : q_u L j v j = v := by unfold q_u; rw [if_pos rfl]
theorem q_u_n {L : Nat → Int} {i j : Nat} {v : Int} (h : i ≠ j) : q_u L j v i = L i := by unfold q_u; rw [if_neg h]
def q_ca (n t : Nat) (wa : Nat → Int) (sk ow : Nat → Nat) (l : Nat) (cw cv L : Nat → Int) (p : Nat) : Prop := L (18 + p) = -1 ∧ q_pr n t wa sk ow l cw cv L p ≤ L p
def q_bu (n t : Nat) (wa : Nat → Int) (sk ow : Nat → Nat) (l : Nat) (cw cv L : Nat → Int) (p : Nat) : Nat → Int := q_u (q_u L (18 + p) (q_pr n t wa sk ow l cw cv L p)) p (e_w (L p - q_pr n t wa sk ow l cw cv L p))
def q_se (L : Nat → Int) (p : Nat) : Nat → Int := q_u (q_u L p (e_w (L p + e_w (Int.tdiv (L (18 + p)) 2)))) (18 + p) (-1)
section SP
variable {n m t : Nat} {wa : Nat → Int} {sk : Nat → Nat} {wo : Nat → Int} {ow : Nat → Nat} {fi : Nat → Int} {l : Nat} {cw cv L : Nat → Int} {M : e_M} {r p : Nat}
theorem r_can {Z : Int} (hp : p < n) (hT : q_T n m t wa sk wo ow fi M) (hLa : q_La l cw cv M) (hr : q_ml M r L) (hrr : r ≠ 449 ∧ r ≠ 450): (q_ca n t wa sk ow l cw cv L p → ∃ M', (∀ f, 300 < f → f_X11_canBuy r f (p : Int) M = some (1, M')) ∧ ∀ a j, a ≠ 449 → a ≠ 450 → M' a j = M a j) ∧ (¬ q_ca n t wa sk ow l cw cv L p → ∃ M', (∀ f, 300 < f → f_X11_canBuy r f (p : Int) M = some (0, M')) ∧ ∀ a j, a ≠ 449 → a ≠ 450 → M' a j = M a j) := by
  have h6 := hT.1
  have e0 : ∀ f, f_X11_canBuy r f (p : Int) M = if L (18 + p) = -1 then (f_b (f_X11_priceOf r f (p : Int) M) fun rr3 NN4 => if L p < rr3 then some (0, NN4) else some (1, NN4)) else some (0, M) := by
    intro f
    unfold f_X11_canBuy
    rw [r_sold (by omega), f_bs, hr (18 + p) (by omega), q_w0 p (by omega), if_pos (show 0 ≤ (p : Int) ∧ (p : Int) < 56 by omega), Int.toNat_natCast, hr p (by omega)]
    by_cases c : L (18 + p) = -1
    · rw [if_pos c, if_pos c, if_neg (by decide)]
    · rw [if_neg c, if_neg c, if_pos (by decide)]
  obtain ⟨M', g1, g2⟩ := r_priceOf hp hT hLa hr
  refine ⟨fun hc => ⟨M', fun f hf => ?_, g2⟩, fun hc => ?_⟩
  · rw [e0, if_pos hc.1, g1 f hf, f_bs, if_neg (by have := hc.2; omega)]
  · by_cases c : L (18 + p) = -1
    · exact ⟨M', fun f hf => by rw [e0, if_pos c, g1 f hf, f_bs, if_pos (Int.not_le.mp (fun z => hc ⟨c, z⟩))], g2⟩
    · exact ⟨M, fun f hf => by rw [e0, if_neg c], fun _ _ _ _ => rfl⟩
theorem q_La_450 {M N : e_M} (h : ∀ a j, a ≠ 449 → a ≠ 450 → N a j = M a j) (k : q_La l cw cv M) : q_La l cw cv N := q_La_f (fun a j z => h a j (by unfold q_F4 at z; omega) (by unfold q_F4 at z; omega)) k
theorem q_T_450 {M N : e_M} (h : ∀ a j, a ≠ 449 → a ≠ 450 → N a j = M a j) (k : q_T n m t wa sk wo ow fi M) : q_T n m t wa sk wo ow fi N := q_T_f (fun a j z => h a j (by unfold q_F3 at z; omega) (by unfold q_F3 at z; omega)) k
theorem r_buys (hp : p < n) (hT : q_T n m t wa sk wo ow fi M) (hLa : q_La l cw cv M) (hr : q_ml M r L) (hrr : 450 < r): (q_ca n t wa sk ow l cw cv L p → ∃ M', (∀ f, 300 < f → f_X11_buys r f (p : Int) M = some (1, M')) ∧ q_ml M' r (q_bu n t wa sk ow l cw cv L p) ∧ ∀ a j, a ≠ 449 → a ≠ 450 → a ≠ r → M' a j = M a j) ∧ (¬ q_ca n t wa sk ow l cw cv L p → ∃ M', (∀ f, 300 < f → f_X11_buys r f (p : Int) M = some (0, M')) ∧ q_ml M' r L ∧ ∀ a j, a ≠ 449 → a ≠ 450 → a ≠ r → M' a j = M a j) := by
  have h6 := hT.1
  have hcan := r_can (Z := 0) hp hT hLa hr ⟨by omega, by omega⟩
  refine ⟨fun hc => ?_, fun hc => ?_⟩
  · obtain ⟨M1, a1, a2⟩ := hcan.1 hc
    have hr1 : q_ml M1 r L := fun j hj => by rw [a2 r j (by omega) (by omega)]; exact hr j hj
    obtain ⟨M2, b1, b2⟩ := r_priceOf hp (q_T_450 a2 hT) (q_La_450 a2 hLa) hr1
    refine ⟨e_up (e_up M2 r (18 + p) (q_pr n t wa sk ow l cw cv L p)) r p (e_w (L p - q_pr n t wa sk ow l cw cv L p)), fun f hf => ?_, fun j hj => ?_, fun a j h1 h2 h3 => ?_⟩
    · unfold f_X11_buys
      rw [a1 f hf, f_bs, if_pos (by decide), b1 f hf, f_bs, e_ws_ (x := 18 + (p : Int)) (by omega) (by omega), if_pos (by omega), q_w0 p (by omega), if_pos (by omega), if_pos (by omega), if_pos (by omega), q_t18, Int.toNat_natCast, u_s, u_c (by omega), b2 r p (by omega) (by omega), hr1 p (by omega)]
    · unfold q_bu
      by_cases e : j = p
      · subst e; rw [u_s, q_u_s]
      · rw [u_c e, q_u_n e]
        by_cases e2 : j = 18 + p
        · subst e2; rw [u_s, q_u_s]
        · rw [u_c e2, q_u_n e2, b2 r j (by omega) (by omega)]; exact hr1 j hj
    · rw [u_r h3, u_r h3, b2 a j h1 h2, a2 a j h1 h2]
  · obtain ⟨M1, a1, a2⟩ := hcan.2 hc
    refine ⟨M1, fun f hf => ?_, fun j hj => by rw [a2 r j (by omega) (by omega)]; exact hr j hj, fun a j h1 h2 _ => a2 a j h1 h2⟩
    unfold f_X11_buys
    rw [a1 f hf, f_bs, if_neg (by decide)]
theorem r_sells (hp : p < 6) (hr : q_ml M r L) : (L (18 + p) ≠ -1 → ∃ M', f_X11_sells r (p : Int) M = some (1, M') ∧ q_ml M' r (q_se L p) ∧ ∀ a j, a ≠ r → M' a j = M a j) ∧ (L (18 + p) = -1 → f_X11_sells r (p : Int) M = some (0, M)) := by
  refine ⟨fun hc => ⟨e_up (e_up M r p (e_w (L p + e_w (Int.tdiv (L (18 + p)) 2)))) r (18 + p) (-1), ?_, fun j hj => ?_, fun a j h => by rw [u_r h, u_r h]⟩, fun hc => ?_⟩
  · unfold f_X11_sells
    rw [r_sold hp, f_bs, hr (18 + p) (by omega), if_neg hc, if_pos (by decide), q_w0 p (by omega), if_pos (by omega), e_ws_ (x := 18 + (p : Int)) (by omega) (by omega), if_pos (by omega), if_pos (by omega), if_pos (by omega), q_t18, Int.toNat_natCast, hr (18 + p) (by omega), hr p (by omega)]
  · unfold q_se
    by_cases e : j = 18 + p
    · subst e; rw [u_s, q_u_s]
    · rw [u_c e, q_u_n e]
      by_cases e2 : j = p
      · subst e2; rw [u_s, q_u_s]
      · rw [u_c e2, q_u_n e2]; exact hr j hj
  · unfold f_X11_sells
    rw [r_sold hp, f_bs, hr (18 + p) (by omega), if_pos hc, if_neg (by decide)]
theorem qn_cu {M' : e_M} {c d : Int} (hp : p < n) (h6 : n ≤ 6) (hC : q_cn n t L M) (h1 : ∀ q, q < n → M' 37 q = if q = p then c else M 37 q) (h2 : ∀ q, q < n → M' 40 q = if q = p then d else M 40 q) (h3 : ∀ a j, a ≠ 37 → a ≠ 40 → a ≠ 22 → a ≠ 23 → M' a j = M a j) : q_cn n t (q_u (q_u L p c) (18 + p) d) M' := by
  have hdn : ∀ k, q_dn (q_u (q_u L p c) (18 + p) d) k = q_dn L k := fun k => by unfold q_dn; rw [q_u_n (by omega), q_u_n (by omega)]
  refine ⟨fun q hq => ?_, fun k hk => ?_, ?_, ?_, ?_⟩
  · obtain ⟨c1, c2, c3, c4, c5⟩ := hC.1 q hq
    refine ⟨?_, ?_, ?_, ?_, ?_⟩
    · rw [h1 q hq, q_u_n (by omega)]
      by_cases e : q = p
      · subst e; rw [if_pos rfl, q_u_s]
      · rw [if_neg e, q_u_n e]; exact c1
    · rw [h3 _ _ (by omega) (by omega) (by omega) (by omega), q_u_n (by omega), q_u_n (by omega)]; exact c2
    · rw [h3 _ _ (by omega) (by omega) (by omega) (by omega), q_u_n (by omega), q_u_n (by omega)]; exact c3
    · rw [h2 q hq]
      by_cases e : q = p
      · subst e; rw [if_pos rfl, q_u_s]
      · rw [if_neg e, q_u_n (by omega), q_u_n (by omega)]; exact c4
    · rw [h3 _ _ (by omega) (by omega) (by omega) (by omega), q_u_n (by omega), q_u_n (by omega)]; exact c5
  · rw [h3 _ _ (by omega) (by omega) (by omega) (by omega), q_u_n (by omega), q_u_n (by omega), q_u_n (by omega), q_u_n (by omega)]; exact hC.2.1 k hk
  · rw [h3 _ _ (by omega) (by omega) (by omega) (by omega), q_u_n (by omega), q_u_n (by omega)]; exact hC.2.2.1
  · rw [h3 _ _ (by omega) (by omega) (by omega) (by omega), q_u_n (by omega), q_u_n (by omega)]; exact hC.2.2.2.1
  · rw [h3 _ _ (by omega) (by omega) (by omega) (by omega), hC.2.2.2.2]
    congr 1
    exact q_bs_congr (fun i _ => (hdn i).symm)
theorem rn_can (hp : p < n) (hT : q_T n m t wa sk wo ow fi M) (hLa : q_La l cw cv M) (hC : q_cn n t L M): (q_ca n t wa sk ow l cw cv L p → ∃ M', (∀ f, 300 < f → f_X3_canBuy_now f (p : Int) M = some (1, M')) ∧ ∀ a j, a ≠ 22 → a ≠ 23 → M' a j = M a j) ∧ (¬ q_ca n t wa sk ow l cw cv L p → ∃ M', (∀ f, 300 < f → f_X3_canBuy_now f (p : Int) M = some (0, M')) ∧ ∀ a j, a ≠ 22 → a ≠ 23 → M' a j = M a j) := by
  have h6 := hT.1
  have hCp := hC.1 p hp
  have e0 : ∀ f, f_X3_canBuy_now f (p : Int) M = if L (18 + p) = -1 then (f_b (f_X3_priceFor_now f (p : Int) M) fun rr3 NN4 => if L p < rr3 then some (0, NN4) else some (1, NN4)) else some (0, M) := by
    intro f
    unfold f_X3_canBuy_now
    rw [rn_hb (by omega), f_bs, hCp.2.2.2.1, if_pos (show 0 ≤ (p : Int) ∧ (p : Int) < 6 by omega), Int.toNat_natCast, hCp.1]
    by_cases c : L (18 + p) = -1
    · rw [if_pos c, if_pos c, if_neg (by decide)]
    · rw [if_neg c, if_neg c, if_pos (by decide)]
  obtain ⟨M', g1, g2⟩ := rn_price hp hT hLa hC
  refine ⟨fun hc => ⟨M', fun f hf => ?_, g2⟩, fun hc => ?_⟩
  · rw [e0, if_pos hc.1, g1 f hf, f_bs, if_neg (by have := hc.2; omega)]
  · by_cases c : L (18 + p) = -1
    · exact ⟨M', fun f hf => by rw [e0, if_pos c, g1 f hf, f_bs, if_pos (Int.not_le.mp (fun z => hc ⟨c, z⟩))], g2⟩
    · exact ⟨M, fun f hf => by rw [e0, if_neg c], fun _ _ _ _ => rfl⟩
theorem rn_buy (hp : p < n) (hT : q_T n m t wa sk wo ow fi M) (hLa : q_La l cw cv M) (hC : q_cn n t L M): (q_ca n t wa sk ow l cw cv L p → ∃ M', (∀ f, 300 < f → f_X3_buyOff_now f (p : Int) M = some (1, M')) ∧ q_cn n t (q_bu n t wa sk ow l cw cv L p) M' ∧ ∀ a j, a ≠ 22 → a ≠ 23 → a ≠ 37 → a ≠ 40 → M' a j = M a j) ∧ (¬ q_ca n t wa sk ow l cw cv L p → ∃ M', (∀ f, 300 < f → f_X3_buyOff_now f (p : Int) M = some (0, M')) ∧ q_cn n t L M' ∧ ∀ a j, a ≠ 22 → a ≠ 23 → a ≠ 37 → a ≠ 40 → M' a j = M a j) := by
  have h6 := hT.1
  have hCp := hC.1 p hp
  obtain ⟨M', g1, g2⟩ := rn_price hp hT hLa hC
  have e0 : ∀ f, 300 < f → f_X3_buyOff_now f (p : Int) M = if L (18 + p) = -1 then (if q_pr n t wa sk ow l cw cv L p ≤ L p then some (1, e_up (e_up M' 37 p (e_w (L p - q_pr n t wa sk ow l cw cv L p))) 40 p (q_pr n t wa sk ow l cw cv L p)) else some (0, M')) else some (0, M) := by
    intro f hf
    unfold f_X3_buyOff_now
    rw [rn_hb (by omega), f_bs, hCp.2.2.2.1]
    by_cases c : L (18 + p) = -1
    · rw [if_pos c, if_pos c, if_pos rfl, g1 f hf, f_bs, if_pos (show 0 ≤ (p : Int) ∧ (p : Int) < 6 by omega), Int.toNat_natCast, g2 37 p (by omega) (by omega), hCp.1, if_pos (show 0 ≤ (p : Int) ∧ (p : Int) < 6 by omega), if_pos (show 0 ≤ (p : Int) ∧ (p : Int) < 6 by omega), if_pos (show 0 ≤ (p : Int) ∧ (p : Int) < 6 by omega)]
    · rw [if_neg c, if_neg c, if_neg (by decide)]
  refine ⟨fun hc => ⟨_, fun f hf => by rw [e0 f hf, if_pos hc.1, if_pos hc.2], ?_, fun a j h1 h2 h3 h4 => by rw [u_r h4, u_r h3]; exact g2 a j h1 h2⟩, fun hc => ?_⟩
  · have hq : q_bu n t wa sk ow l cw cv L p = q_u (q_u L p (e_w (L p - q_pr n t wa sk ow l cw cv L p))) (18 + p) (q_pr n t wa sk ow l cw cv L p) := by
      unfold q_bu
      funext i
      by_cases e1 : i = p
      · rw [e1, q_u_s, q_u_n (by omega), q_u_s]
      · by_cases e2 : i = 18 + p
        · rw [e2, q_u_n (by omega), q_u_s, q_u_s]
        · rw [q_u_n e1, q_u_n e2, q_u_n e2, q_u_n e1]
    rw [hq]
    refine qn_cu hp h6 hC (fun q hq => ?_) (fun q hq => ?_) (fun a j h1 h2 h3 h4 => by rw [u_r h2, u_r h1]; exact g2 a j h3 h4)
    · rw [u_r (show (37 : Nat) ≠ 40 by omega)]
      by_cases e : q = p
      · subst e; rw [u_s, if_pos rfl]
      · rw [u_c e, if_neg e]; exact g2 _ _ (by omega) (by omega)
    · by_cases e : q = p
      · subst e; rw [u_s, if_pos rfl]
      · rw [u_c e, if_neg e, u_r (show (40 : Nat) ≠ 37 by omega)]; exact g2 _ _ (by omega) (by omega)
  · by_cases c : L (18 + p) = -1
    · refine ⟨M', fun f hf => by rw [e0 f hf, if_pos c, if_neg (fun z => hc ⟨c, z⟩)], q_cn_f (fun a j z => g2 a j (by omega) (by omega)) hC, fun a j h1 h2 _ _ => g2 a j h1 h2⟩
    · exact ⟨M, fun f hf => by rw [e0 f hf, if_neg c], hC, fun _ _ _ _ _ _ => rfl⟩
theorem rn_sell (hp : p < n) (h6 : n ≤ 6) (hC : q_cn n t L M) : (L (18 + p) ≠ -1 → ∃ M', f_X3_sellBack_now (p : Int) M = some (1, M') ∧ q_cn n t (q_se L p) M' ∧ ∀ a j, a ≠ 37 → a ≠ 40 → M' a j = M a j) ∧ (L (18 + p) = -1 → f_X3_sellBack_now (p : Int) M = some (0, M)) := by
  have hCp := hC.1 p hp
  refine ⟨fun hc => ⟨e_up (e_up M 37 p (e_w (L p + e_w (Int.tdiv (L (18 + p)) 2)))) 40 p (-1), ?_, ?_, fun a j h1 h2 => by rw [u_r h2, u_r h1]⟩, fun hc => ?_⟩
  · unfold f_X3_sellBack_now
    rw [rn_hb (by omega), f_bs, hCp.2.2.2.1, if_neg hc, if_pos (by decide), if_pos (show 0 ≤ (p : Int) ∧ (p : Int) < 6 by omega), if_pos (show 0 ≤ (p : Int) ∧ (p : Int) < 6 by omega), if_pos (show 0 ≤ (p : Int) ∧ (p : Int) < 6 by omega), if_pos (show 0 ≤ (p : Int) ∧ (p : Int) < 6 by omega), Int.toNat_natCast, hCp.2.2.2.1, hCp.1]
  · unfold q_se
    refine qn_cu hp h6 hC (fun q hq => ?_) (fun q hq => ?_) (fun a j h1 h2 h3 h4 => by rw [u_r h2, u_r h1])
    · rw [u_r (show (37 : Nat) ≠ 40 by omega)]
      by_cases e : q = p
      · subst e; rw [u_s, if_pos rfl]
      · rw [u_c e, if_neg e]
    · by_cases e : q = p
      · subst e; rw [u_s, if_pos rfl]
      · rw [u_c e, if_neg e, u_r (show (40 : Nat) ≠ 37 by omega)]
  · unfold f_X3_sellBack_now
    rw [rn_hb (by omega), f_bs, hCp.2.2.2.1, if_pos hc, if_neg (by decide)]
theorem qr_cu {M' : e_M} {c d : Int} (hp : p < n) (h6 : n ≤ 6) (hC : q_cr n t L M) (h1 : ∀ q, q < n → M' 44 q = if q = p then c else M 44 q) (h2 : ∀ q, q < n → M' 47 q = if q = p then d else M 47 q) (h3 : ∀ a j, a ≠ 44 → a ≠ 47 → a ≠ 22 → a ≠ 23 → M' a j = M a j) : q_cr n t (q_u (q_u L p c) (18 + p) d) M' := by
  have hdn : ∀ k, q_dn (q_u (q_u L p c) (18 + p) d) k = q_dn L k := fun k => by unfold q_dn; rw [q_u_n (by omega), q_u_n (by omega)]
  refine ⟨fun q hq => ?_, fun k hk => ?_, ?_, ?_, ?_⟩
  · obtain ⟨c1, c2, c3, c4, c5⟩ := hC.1 q hq
    refine ⟨?_, ?_, ?_, ?_, ?_⟩
    · rw [h1 q hq, q_u_n (by omega)]
      by_cases e : q = p
      · subst e; rw [if_pos rfl, q_u_s]
      · rw [if_neg e, q_u_n e]; exact c1
    · rw [h3 _ _ (by omega) (by omega) (by omega) (by omega), q_u_n (by omega), q_u_n (by omega)]; exact c2
    · rw [h3 _ _ (by omega) (by omega) (by omega) (by omega), q_u_n (by omega), q_u_n (by omega)]; exact c3
    · rw [h2 q hq]
      by_cases e : q = p
      · subst e; rw [if_pos rfl, q_u_s]
      · rw [if_neg e, q_u_n (by omega), q_u_n (by omega)]; exact c4
    · rw [h3 _ _ (by omega) (by omega) (by omega) (by omega), q_u_n (by omega), q_u_n (by omega)]; exact c5
  · rw [h3 _ _ (by omega) (by omega) (by omega) (by omega), q_u_n (by omega), q_u_n (by omega), q_u_n (by omega), q_u_n (by omega)]; exact hC.2.1 k hk
  · rw [h3 _ _ (by omega) (by omega) (by omega) (by omega), q_u_n (by omega), q_u_n (by omega)]; exact hC.2.2.1
  · rw [h3 _ _ (by omega) (by omega) (by omega) (by omega), q_u_n (by omega), q_u_n (by omega)]; exact hC.2.2.2.1
  · rw [h3 _ _ (by omega) (by omega) (by omega) (by omega), hC.2.2.2.2]
    congr 1
    exact q_bs_congr (fun i _ => (hdn i).symm)
theorem rr_can (hp : p < n) (hT : q_T n m t wa sk wo ow fi M) (hLa : q_La l cw cv M) (hC : q_cr n t L M): (q_ca n t wa sk ow l cw cv L p → ∃ M', (∀ f, 300 < f → f_X3_canBuy_trial f (p : Int) M = some (1, M')) ∧ ∀ a j, a ≠ 22 → a ≠ 23 → M' a j = M a j) ∧ (¬ q_ca n t wa sk ow l cw cv L p → ∃ M', (∀ f, 300 < f → f_X3_canBuy_trial f (p : Int) M = some (0, M')) ∧ ∀ a j, a ≠ 22 → a ≠ 23 → M' a j = M a j) := by
  have h6 := hT.1
  have hCp := hC.1 p hp
  have e0 : ∀ f, f_X3_canBuy_trial f (p : Int) M = if L (18 + p) = -1 then (f_b (f_X3_priceFor_trial f (p : Int) M) fun rr3 NN4 => if L p < rr3 then some (0, NN4) else some (1, NN4)) else some (0, M) := by
    intro f
    unfold f_X3_canBuy_trial
    rw [rr_hb (by omega), f_bs, hCp.2.2.2.1, if_pos (show 0 ≤ (p : Int) ∧ (p : Int) < 6 by omega), Int.toNat_natCast, hCp.1]
    by_cases c : L (18 + p) = -1
    · rw [if_pos c, if_pos c, if_neg (by decide)]
    · rw [if_neg c, if_neg c, if_pos (by decide)]
  obtain ⟨M', g1, g2⟩ := rr_price hp hT hLa hC
  refine ⟨fun hc => ⟨M', fun f hf => ?_, g2⟩, fun hc => ?_⟩
  · rw [e0, if_pos hc.1, g1 f hf, f_bs, if_neg (by have := hc.2; omega)]
  · by_cases c : L (18 + p) = -1
    · exact ⟨M', fun f hf => by rw [e0, if_pos c, g1 f hf, f_bs, if_pos (Int.not_le.mp (fun z => hc ⟨c, z⟩))], g2⟩
    · exact ⟨M, fun f hf => by rw [e0, if_neg c], fun _ _ _ _ => rfl⟩
theorem rr_buy (hp : p < n) (hT : q_T n m t wa sk wo ow fi M) (hLa : q_La l cw cv M) (hC : q_cr n t L M): (q_ca n t wa sk ow l cw cv L p → ∃ M', (∀ f, 300 < f → f_X3_buyOff_trial f (p : Int) M = some (1, M')) ∧ q_cr n t (q_bu n t wa sk ow l cw cv L p) M' ∧ ∀ a j, a ≠ 22 → a ≠ 23 → a ≠ 44 → a ≠ 47 → M' a j = M a j) ∧ (¬ q_ca n t wa sk ow l cw cv L p → ∃ M', (∀ f, 300 < f → f_X3_buyOff_trial f (p : Int) M = some (0, M')) ∧ q_cr n t L M' ∧ ∀ a j, a ≠ 22 → a ≠ 23 → a ≠ 44 → a ≠ 47 → M' a j = M a j) := by
  have h6 := hT.1
  have hCp := hC.1 p hp
  obtain ⟨M', g1, g2⟩ := rr_price hp hT hLa hC
  have e0 : ∀ f, 300 < f → f_X3_buyOff_trial f (p : Int) M = if L (18 + p) = -1 then (if q_pr n t wa sk ow l cw cv L p ≤ L p then some (1, e_up (e_up M' 44 p (e_w (L p - q_pr n t wa sk ow l cw cv L p))) 47 p (q_pr n t wa sk ow l cw cv L p)) else some (0, M')) else some (0, M) := by
    intro f hf
    unfold f_X3_buyOff_trial
    rw [rr_hb (by omega), f_bs, hCp.2.2.2.1]
    by_cases c : L (18 + p) = -1
    · rw [if_pos c, if_pos c, if_pos rfl, g1 f hf, f_bs, if_pos (show 0 ≤ (p : Int) ∧ (p : Int) < 6 by omega), Int.toNat_natCast, g2 44 p (by omega) (by omega), hCp.1, if_pos (show 0 ≤ (p : Int) ∧ (p : Int) < 6 by omega), if_pos (show 0 ≤ (p : Int) ∧ (p : Int) < 6 by omega), if_pos (show 0 ≤ (p : Int) ∧ (p : Int) < 6 by omega)]
    · rw [if_neg c, if_neg c, if_neg (by decide)]
  refine ⟨fun hc => ⟨_, fun f hf => by rw [e0 f hf, if_pos hc.1, if_pos hc.2], ?_, fun a j h1 h2 h3 h4 => by rw [u_r h4, u_r h3]; exact g2 a j h1 h2⟩, fun hc => ?_⟩
  · have hq : q_bu n t wa sk ow l cw cv L p = q_u (q_u L p (e_w (L p - q_pr n t wa sk ow l cw cv L p))) (18 + p) (q_pr n t wa sk ow l cw cv L p) := by
      unfold q_bu
      funext i
      by_cases e1 : i = p
      · rw [e1, q_u_s, q_u_n (by omega), q_u_s]
      · by_cases e2 : i = 18 + p
        · rw [e2, q_u_n (by omega), q_u_s, q_u_s]
        · rw [q_u_n e1, q_u_n e2, q_u_n e2, q_u_n e1]
    rw [hq]
    refine qr_cu hp h6 hC (fun q hq => ?_) (fun q hq => ?_) (fun a j h1 h2 h3 h4 => by rw [u_r h2, u_r h1]; exact g2 a j h3 h4)
    · rw [u_r (show (44 : Nat) ≠ 47 by omega)]
      by_cases e : q = p
      · subst e; rw [u_s, if_pos rfl]
      · rw [u_c e, if_neg e]; exact g2 _ _ (by omega) (by omega)
    · by_cases e : q = p
      · subst e; rw [u_s, if_pos rfl]
      · rw [u_c e, if_neg e, u_r (show (47 : Nat) ≠ 44 by omega)]; exact g2 _ _ (by omega) (by omega)
  · by_cases c : L (18 + p) = -1
    · refine ⟨M', fun f hf => by rw [e0 f hf, if_pos c, if_neg (fun z => hc ⟨c, z⟩)], q_cr_f (fun a j z => g2 a j (by omega) (by omega)) hC, fun a j h1 h2 _ _ => g2 a j h1 h2⟩
    · exact ⟨M, fun f hf => by rw [e0 f hf, if_neg c], hC, fun _ _ _ _ _ _ => rfl⟩
theorem rr_sell (hp : p < n) (h6 : n ≤ 6) (hC : q_cr n t L M) : (L (18 + p) ≠ -1 → ∃ M', f_X3_sellBack_trial (p : Int) M = some (1, M') ∧ q_cr n t (q_se L p) M' ∧ ∀ a j, a ≠ 44 → a ≠ 47 → M' a j = M a j) ∧ (L (18 + p) = -1 → f_X3_sellBack_trial (p : Int) M = some (0, M)) := by
  have hCp := hC.1 p hp
  refine ⟨fun hc => ⟨e_up (e_up M 44 p (e_w (L p + e_w (Int.tdiv (L (18 + p)) 2)))) 47 p (-1), ?_, ?_, fun a j h1 h2 => by rw [u_r h2, u_r h1]⟩, fun hc => ?_⟩
  · unfold f_X3_sellBack_trial
    rw [rr_hb (by omega), f_bs, hCp.2.2.2.1, if_neg hc, if_pos (by decide), if_pos (show 0 ≤ (p : Int) ∧ (p : Int) < 6 by omega), if_pos (show 0 ≤ (p : Int) ∧ (p : Int) < 6 by omega), if_pos (show 0 ≤ (p : Int) ∧ (p : Int) < 6 by omega), if_pos (show 0 ≤ (p : Int) ∧ (p : Int) < 6 by omega), Int.toNat_natCast, hCp.2.2.2.1, hCp.1]
  · unfold q_se
    refine qr_cu hp h6 hC (fun q hq => ?_) (fun q hq => ?_) (fun a j h1 h2 h3 h4 => by rw [u_r h2, u_r h1])
    · rw [u_r (show (44 : Nat) ≠ 47 by omega)]
      by_cases e : q = p
      · subst e; rw [u_s, if_pos rfl]
      · rw [u_c e, if_neg e]
    · by_cases e : q = p
      · subst e; rw [u_s, if_pos rfl]
      · rw [u_c e, if_neg e, u_r (show (47 : Nat) ≠ 44 by omega)]
  · unfold f_X3_sellBack_trial
    rw [rr_hb (by omega), f_bs, hCp.2.2.2.1, if_pos hc, if_neg (by decide)]
end SP
