/-! OPERATIONS, 14: a drawn year -/
def y_d (s : Int) : Int := e_w (e_w (s * 1103515245) + 12345)
def y_k (k : Nat) (s : Int) : Nat := (e_and (e_shr s 16) 32767).toNat % k
theorem y_v1 (x : Int32) : ((x.toUInt32 >>> ((Int32.ofInt 16).toUInt32 &&& Int32.toUInt32 31)).toInt32 &&& Int32.ofInt 32767) = ((x >>> (Int32.ofInt 16 &&& 31)) &&& Int32.ofInt 32767) := by
  apply Int32.toBitVec_inj.mp
  have h16 : (Int32.ofInt 16 &&& 31) = 16 := by decide
  have h16' : ((Int32.ofInt 16).toUInt32 &&& Int32.toUInt32 31) = 16 := by decide
  rw [h16, h16']
  ext i hi
  simp only [Int32.toBitVec_and, Int32.toBitVec_shiftRight, UInt32.toBitVec_toInt32, UInt32.toBitVec_shiftRight, BitVec.getElem_and, Int32.toBitVec_toUInt32]
  by_cases h : i < 15
  · congr 1
    have e1 : ((16 : UInt32).toBitVec % 32).toNat = 16 := by decide
    have e2 : ((16 : Int32).toBitVec.smod 32).toNat = 16 := by decide
    simp [BitVec.getElem_sshiftRight, BitVec.getElem_ushiftRight, e1, e2]
    rw [dif_pos (show 16 + i < 32 by omega), BitVec.getLsbD_eq_getElem (show 16 + i < 32 by omega)]
  · have e : ∀ i, i < 32 → ¬ i < 15 → (Int32.ofInt 32767).toBitVec.getLsbD i = false := by decide
    have e' := e i hi h
    rw [BitVec.getLsbD_eq_getElem hi] at e'
    rw [e', Bool.and_false, Bool.and_false]
theorem y_v2 (x : Int32) : 0 ≤ (x &&& Int32.ofInt 32767).toInt ∧ (x &&& Int32.ofInt 32767).toInt < 32768 := by
  have h : (x &&& Int32.ofInt 32767).toInt = ((x.toBitVec.toNat &&& 32767 : Nat) : Int) := by
    have e : (x &&& Int32.ofInt 32767).toBitVec.toNat = x.toBitVec.toNat &&& 32767 := by
      rw [Int32.toBitVec_and, BitVec.toNat_and]; rfl
    have h2 : x.toBitVec.toNat &&& 32767 ≤ 32767 := Nat.and_le_right
    show (x &&& Int32.ofInt 32767).toBitVec.toInt = _
    rw [BitVec.toInt_eq_toNat_of_lt (by rw [e]; omega), e]
  have h2 : x.toBitVec.toNat &&& 32767 ≤ 32767 := Nat.and_le_right
  rw [h]
  omega
theorem y_v (s : Int) : e_and (e_ushr s 16) 32767 = e_and (e_shr s 16) 32767 ∧ 0 ≤ e_and (e_shr s 16) 32767 ∧ e_and (e_shr s 16) 32767 < 32768 := by
  unfold e_and e_ushr e_shr
  rw [Int32.ofInt_toInt, Int32.ofInt_toInt]
  refine ⟨congrArg Int32.toInt (y_v1 _), y_v2 _⟩
theorem y_m {s : Int} {k : Nat} (hk : 0 < k) (h32 : k < 1000) : e_w (Int.tmod (e_and (e_shr s 16) 32767) (k : Int)) = ((y_k k s : Nat) : Int) ∧ y_k k s < k := by
  have h := y_v s
  unfold y_k
  have hlt := Nat.mod_lt (e_and (e_shr s 16) 32767).toNat hk
  refine ⟨?_, hlt⟩
  obtain ⟨z, hz⟩ : ∃ z : Nat, e_and (e_shr s 16) 32767 = (z : Int) := ⟨(e_and (e_shr s 16) 32767).toNat, by omega⟩
  rw [hz] at hlt ⊢
  rw [Int.toNat_natCast] at hlt ⊢
  rw [Int.tmod_eq_emod_of_nonneg (by omega), ← Int.natCast_emod, e_ws_ (by omega) (by omega)]
theorem y_drc {M : e_M} {k : Nat} {s : Int} (hk : 0 < k) (h32 : k < 1000) (hs : M 54 1 = s) : f_X9_drawBelow (k : Int) M = some ((y_k k (y_d s) : Int), e_up M 54 1 (y_d s)) := by
  subst hs
  unfold f_X9_drawBelow
  rw [if_neg (by omega), if_pos (by omega), u_s, (y_v _).1]
  show some (e_w (Int.tmod (e_and (e_shr (y_d (M 54 1)) 16) 32767) (k : Int)), e_up M 54 1 (y_d (M 54 1))) = _
  rw [(y_m hk h32).1]
theorem y_drm {M : e_M} {k : Nat} {s : Int} (hk : 0 < k) (h32 : k < 1000) (hs : M 64 45 = s) : f_X11_draw (k : Int) M = some ((y_k k (y_d s) : Int), e_up M 64 45 (y_d s)) := by
  subst hs
  unfold f_X11_draw
  rw [if_pos (by omega), u_s]
  show some (e_w (Int.tmod (e_and (e_shr (y_d (M 64 45)) 16) 32767) (k : Int)), e_up M 64 45 (y_d (M 64 45))) = _
  rw [(y_m hk h32).1]
def y_mk (f : Nat) (p1 p2 p3 p4 v5 : Int) (N : e_M) : Option (Int × e_M) := (f_b (f_X11_draw (N 68 0) N) fun rr27 NN28 => (f_b (f_X11_draw 16 NN28) fun rr29 NN30 => (if p4 ≤ rr29 then (f_b (f_X11_weekEnds 533 f NN30) fun _ NN36 => (f_X11_yearBy_24 f p1 p2 p3 p4 (e_w (v5 + 1)) NN36)) else (f_b (f_X11_sells 533 rr27 NN30) fun _ NN32 => (f_b (f_X11_weekEnds 533 f NN32) fun _ NN34 => (f_X11_yearBy_24 f p1 p2 p3 p4 (e_w (v5 + 1)) NN34))))))
section YR
variable {n m t : Nat} {wa : Nat → Int} {sk : Nat → Nat} {wo : Nat → Int} {ow : Nat → Nat} {fi : Nat → Int} {l : Nat} {cw cv L R : Nat → Int} {M : e_M}
theorem y_dc2 {k : Nat} {s : Int} (hk : 0 < k) (h32 : k < 1000) (hs : M 54 1 = s) : ∃ M', f_X9_drawBelow (k : Int) M = some ((y_k k (y_d s) : Int), e_up M 54 1 (y_d s)) ∧ f_X9_drawBelow 16 (e_up M 54 1 (y_d s)) = some ((y_k 16 (y_d (y_d s)) : Int), M') ∧ M' 54 1 = y_d (y_d s) ∧ (∀ a j, a ≠ 54 → M' a j = M a j) ∧ M' 54 2 = M 54 2 := by
  refine ⟨e_up (e_up M 54 1 (y_d s)) 54 1 (y_d (y_d s)), y_drc hk h32 hs, ?_, u_s _ _ _ _, fun a j h => by rw [u_r h, u_r h], by rw [u_c (by decide), u_c (by decide)]⟩
  exact y_drc (k := 16) (by decide) (by decide) (u_s _ _ _ _)
theorem y_dm2 {k : Nat} {s : Int} (hk : 0 < k) (h32 : k < 1000) (hs : M 64 45 = s) : ∃ M', f_X11_draw (k : Int) M = some ((y_k k (y_d s) : Int), e_up M 64 45 (y_d s)) ∧ f_X11_draw 16 (e_up M 64 45 (y_d s)) = some ((y_k 16 (y_d (y_d s)) : Int), M') ∧ M' 64 45 = y_d (y_d s) ∧ ∀ a j, (a = 64 → j ≠ 45) → M' a j = M a j := by
  refine ⟨e_up (e_up M 64 45 (y_d s)) 64 45 (y_d (y_d s)), y_drm hk h32 hs, ?_, u_s _ _ _ _, fun a j h => ?_⟩
  · exact y_drm (k := 16) (by decide) (by decide) (u_s _ _ _ _)
  · by_cases c : a = 64
    · subst c
      rw [u_c (h rfl), u_c (h rfl)]
    · rw [u_r c, u_r c]
theorem y_A {s b q : Int} (hn : 0 < n) (hT : q_T n m t wa sk wo ow fi M) (hLa : q_La l cw cv M) (hC : q_cr n t L M) (hs : M 54 1 = s) (hb : M 54 2 = b) (h0 : 0 ≤ b ∧ b ≤ 1000) (hR : ∀ p, p < n → e_i32 (L (12 + p))) :
    ∃ (L1 : Nat → Int) (b1 : Int) (M' : e_M), (b ≤ b1 ∧ b1 ≤ b + 1) ∧ L1 54 = L 54 ∧ (∀ p, p < n → e_i32 (L1 (12 + p))) ∧ q_cr n t L1 M' ∧ M' 54 1 = y_d (y_d s) ∧ M' 54 2 = b1 ∧ (∀ a j, a ≠ 22 → a ≠ 23 → a < 43 ∨ 54 < a → M' a j = M a j) ∧ (∀ f r, 300 < f → f_X9_tradeAmong f (n : Int) q r M = f_X9_tradeAmong_39 f (n : Int) q r (y_k n (y_d s) : Int) M') ∧
    ∀ (N : e_M) (R : Nat → Int), q_T n m t wa sk wo ow fi N → q_La l cw cv N → q_ml N 533 R → q_ag n t L R → N 64 45 = s → N 64 46 = b → ∃ (N' : e_M) (R' : Nat → Int), q_ml N' 533 R' ∧ q_ag n t L1 R' ∧ N' 64 45 = y_d (y_d s) ∧ N' 64 46 = b1 ∧ (∀ a j, a ≠ 449 → a ≠ 450 → a ≠ 533 → (a = 64 → j ≠ 45 ∧ j ≠ 46) → N' a j = N a j) ∧ ∀ f s0 w r (i : Int), 300 < f → ¬ w ≤ i → f_X11_yearBy_24 (f + 1) s0 w q r i N = y_mk f s0 w q r i N' := by
  have h6 := hT.1
  have hp : y_k n (y_d s) < n := (y_m hn (by omega)).2
  obtain ⟨M1, d1, d2, d3, d4, d5⟩ := y_dc2 hn (by omega) hs
  have hT1 : q_T n m t wa sk wo ow fi M1 := q_T_f (fun a j z => d4 a j (by unfold q_F3 at z; omega)) hT
  have hLa1 : q_La l cw cv M1 := q_La_f (fun a j z => d4 a j (by unfold q_F4 at z; omega)) hLa
  have hC1 : q_cr n t L M1 := ⟨fun p hp => by rw [d4 44 p (by decide), d4 45 p (by decide), d4 46 p (by decide), d4 47 p (by decide), d4 48 p (by decide)]; exact hC.1 p hp, fun k hk => by rw [d4 49 k (by decide)]; exact hC.2.1 k hk, by rw [d4 43 2 (by decide)]; exact hC.2.2.1, by rw [d4 43 3 (by decide)]; exact hC.2.2.2.1, by rw [d4 43 4 (by decide)]; exact hC.2.2.2.2⟩
  -- the model's two draws
  have md : ∀ (N : e_M), q_T n m t wa sk wo ow fi N → q_La l cw cv N → N 64 45 = s → ∃ N1, q_T n m t wa sk wo ow fi N1 ∧ q_La l cw cv N1 ∧ N1 64 45 = y_d (y_d s) ∧ (∀ a j, (a = 64 → j ≠ 45) → N1 a j = N a j) ∧ f_X11_draw (n : Int) N = some ((y_k n (y_d s) : Int), e_up N 64 45 (y_d s)) ∧ f_X11_draw 16 (e_up N 64 45 (y_d s)) = some ((y_k 16 (y_d (y_d s)) : Int), N1) := fun N hTN hLN hsN => by
    obtain ⟨N1, e1, e2, e3, e4⟩ := y_dm2 hn (by omega) hsN
    exact ⟨N1, q_T_f (fun a j z => e4 a j (by unfold q_F3 at z; omega)) hTN, q_La_f (fun a j z => e4 a j (by unfold q_F4 at z; omega)) hLN, e3, e4, e1, e2⟩
  by_cases c1 : q ≤ (y_k 16 (y_d (y_d s)) : Int)
  · refine ⟨L, b, M1, ⟨Int.le_refl _, by omega⟩, rfl, hR, hC1, d3, by rw [d5]; exact hb, fun a j _ _ ha => d4 a j (by omega), fun f r hf => ?_, fun N R hTN hLN hrN hag hsN hbN => ?_⟩
    · unfold f_X9_tradeAmong
      rw [d1, f_bs, d2, f_bs, if_pos c1]
    · obtain ⟨N1, _, _, e3, e4, e1, e2⟩ := md N hTN hLN hsN
      refine ⟨N1, R, fun j hj => by rw [e4 533 j (by omega)]; exact hrN j hj, hag, e3, by rw [e4 64 46 (by omega)]; exact hbN, fun a j _ _ _ h => e4 a j (fun hh => (h hh).1), fun f s0 w r i hf hi => ?_⟩
      rw [f_X11_yearBy_24, if_neg hi, hTN.2.2.2.2.2.2.1, if_neg (by omega), e1, f_bs, e2, f_bs, if_pos c1]
      rfl
  · by_cases c2 : q_ca n t wa sk ow l cw cv L (y_k n (y_d s))
    · obtain ⟨M2, g1, g2, g3⟩ := (rr_buy hp hT1 hLa1 hC1).1 c2
      refine ⟨q_bu n t wa sk ow l cw cv L (y_k n (y_d s)), e_w (b + 1), e_up M2 54 2 (e_w (b + 1)), by rw [e_ws_ (by omega) (by omega)]; omega, ?_, ?_, ?_, ?_, u_s _ _ _ _, ?_, fun f r hf => ?_, fun N R hTN hLN hrN hag hsN hbN => ?_⟩
      · unfold q_bu
        rw [q_u_n (by omega), q_u_n (by omega)]
      · rw [q_bu_eq]
        exact q_u_r hp h6 hR
      · exact ⟨fun p hp => by rw [u_r (by decide), u_r (by decide), u_r (by decide), u_r (by decide), u_r (by decide)]; exact g2.1 p hp, fun k hk => by rw [u_r (by decide)]; exact g2.2.1 k hk, by rw [u_r (by decide)]; exact g2.2.2.1, by rw [u_r (by decide)]; exact g2.2.2.2.1, by rw [u_r (by decide)]; exact g2.2.2.2.2⟩
      · rw [u_c (by decide), g3 54 1 (by decide) (by decide) (by decide) (by decide)]; exact d3
      · intro a j h1 h2 h3
        rw [u_r (by omega), g3 a j h1 h2 (by omega) (by omega), d4 a j (by omega)]
      · unfold f_X9_tradeAmong
        rw [d1, f_bs, d2, f_bs, if_neg c1, g1 f hf, f_bs, if_neg (by decide), g3 54 2 (by decide) (by decide) (by decide) (by decide), d5, hb]
      · obtain ⟨N1, hT1', hL1', e3, e4, e1, e2⟩ := md N hTN hLN hsN
        obtain ⟨N2, k1, k2, k3⟩ := (r_buys (r := 533) hp hT1' hL1' (fun j hj => by rw [e4 533 j (by omega)]; exact hrN j hj) (by decide)).1 ((q_ca_ag hp hag).mp c2)
        refine ⟨e_up N2 64 46 (e_w (b + 1)), q_bu n t wa sk ow l cw cv R (y_k n (y_d s)), fun j hj => by rw [u_r (by decide)]; exact k2 j hj, q_bu_ag h6 hp hag, ?_, u_s _ _ _ _, ?_, fun f s0 w r i hf hi => ?_⟩
        · rw [u_c (by decide), k3 64 45 (by decide) (by decide) (by decide)]; exact e3
        · intro a j h1 h2 h3 h4
          by_cases ha : a = 64
          · subst ha
            rw [u_c (h4 rfl).2, k3 64 j h1 h2 h3, e4 64 j (fun _ => (h4 rfl).1)]
          · rw [u_r ha, k3 a j h1 h2 h3, e4 a j (fun h => absurd h ha)]
        · have hb1 : N1 64 46 = b := by rw [e4 64 46 (by omega)]; exact hbN
          rw [f_X11_yearBy_24, if_neg hi, hTN.2.2.2.2.2.2.1, if_neg (by omega), e1, f_bs, e2, f_bs, if_neg c1, k1 f hf, f_bs, if_neg (by decide), hb1]
          rfl
    · obtain ⟨M2, g1, g2, g3⟩ := (rr_buy hp hT1 hLa1 hC1).2 c2
      refine ⟨L, b, M2, ⟨Int.le_refl _, by omega⟩, rfl, hR, g2, ?_, ?_, ?_, fun f r hf => ?_, fun N R hTN hLN hrN hag hsN hbN => ?_⟩
      · rw [g3 54 1 (by decide) (by decide) (by decide) (by decide)]; exact d3
      · rw [g3 54 2 (by decide) (by decide) (by decide) (by decide), d5]; exact hb
      · intro a j h1 h2 h3
        rw [g3 a j h1 h2 (by omega) (by omega), d4 a j (by omega)]
      · unfold f_X9_tradeAmong
        rw [d1, f_bs, d2, f_bs, if_neg c1, g1 f hf, f_bs, if_pos rfl]
      · obtain ⟨N1, hT1', hL1', e3, e4, e1, e2⟩ := md N hTN hLN hsN
        obtain ⟨N2, k1, k2, k3⟩ := (r_buys (r := 533) hp hT1' hL1' (fun j hj => by rw [e4 533 j (by omega)]; exact hrN j hj) (by decide)).2 (fun h => c2 ((q_ca_ag hp hag).mpr h))
        refine ⟨e_up N2 64 46 b, R, fun j hj => by rw [u_r (by decide)]; exact k2 j hj, hag, ?_, u_s _ _ _ _, ?_, fun f s0 w r i hf hi => ?_⟩
        · rw [u_c (by decide), k3 64 45 (by decide) (by decide) (by decide)]; exact e3
        · intro a j h1 h2 h3 h4
          by_cases ha : a = 64
          · subst ha
            rw [u_c (h4 rfl).2, k3 64 j h1 h2 h3, e4 64 j (fun _ => (h4 rfl).1)]
          · rw [u_r ha, k3 a j h1 h2 h3, e4 a j (fun h => absurd h ha)]
        · have hb1 : N1 64 46 = b := by rw [e4 64 46 (by omega)]; exact hbN
          rw [f_X11_yearBy_24, if_neg hi, hTN.2.2.2.2.2.2.1, if_neg (by omega), e1, f_bs, e2, f_bs, if_neg c1, k1 f hf, f_bs, if_pos rfl, hb1, Int.add_zero, e_ws_ (x := b) (by omega) (by omega)]
          rfl
theorem y_B {s r : Int} (hn : 0 < n) (h6 : n ≤ 6) (hC : q_cr n t L M) (hs : M 54 1 = s) (hR : ∀ p, p < n → e_i32 (L (12 + p))) :
    ∃ (L1 : Nat → Int) (M' : e_M), L1 54 = L 54 ∧ (∀ p, p < n → e_i32 (L1 (12 + p))) ∧ q_cr n t L1 M' ∧ M' 54 1 = y_d (y_d s) ∧ M' 54 2 = M 54 2 ∧ (∀ a j, a < 43 ∨ 54 < a → M' a j = M a j) ∧ (∀ f q v, f_X9_tradeAmong_39 f (n : Int) q r v M = some (0, M')) ∧
    ∀ (N : e_M) (R : Nat → Int), N 68 0 = (n : Int) → q_ml N 533 R → q_ag n t L R → N 64 45 = s → ∃ (N' : e_M) (R' : Nat → Int), q_ml N' 533 R' ∧ q_ag n t L1 R' ∧ N' 64 45 = y_d (y_d s) ∧ (∀ a j, a ≠ 533 → (a = 64 → j ≠ 45) → N' a j = N a j) ∧ ∀ f s0 w q (i : Int), y_mk f s0 w q r i N = f_b (f_X11_weekEnds 533 f N') fun _ NN => f_X11_yearBy_24 f s0 w q r (e_w (i + 1)) NN := by
  have hp : y_k n (y_d s) < n := (y_m hn (by omega)).2
  obtain ⟨M1, d1, d2, d3, d4, d5⟩ := y_dc2 hn (by omega) hs
  have hC1 : q_cr n t L M1 := ⟨fun p hp => by rw [d4 44 p (by decide), d4 45 p (by decide), d4 46 p (by decide), d4 47 p (by decide), d4 48 p (by decide)]; exact hC.1 p hp, fun k hk => by rw [d4 49 k (by decide)]; exact hC.2.1 k hk, by rw [d4 43 2 (by decide)]; exact hC.2.2.1, by rw [d4 43 3 (by decide)]; exact hC.2.2.2.1, by rw [d4 43 4 (by decide)]; exact hC.2.2.2.2⟩
  by_cases c1 : r ≤ (y_k 16 (y_d (y_d s)) : Int)
  · refine ⟨L, M1, rfl, hR, hC1, d3, d5, fun a j ha => d4 a j (by omega), fun f q v => ?_, fun N R hnN hrN hag hsN => ?_⟩
    · unfold f_X9_tradeAmong_39
      rw [d1, f_bs, d2, f_bs, if_pos c1]
    · obtain ⟨N1, e1, e2, e3, e4⟩ := y_dm2 hn (by omega) hsN
      refine ⟨N1, R, fun j hj => by rw [e4 533 j (by omega)]; exact hrN j hj, hag, e3, fun a j _ h => e4 a j h, fun f s0 w q i => ?_⟩
      unfold y_mk
      rw [hnN, e1, f_bs, e2, f_bs, if_pos c1]
  · by_cases c2 : L (18 + y_k n (y_d s)) = -1
    · refine ⟨L, M1, rfl, hR, hC1, d3, d5, fun a j ha => d4 a j (by omega), fun f q v => ?_, fun N R hnN hrN hag hsN => ?_⟩
      · unfold f_X9_tradeAmong_39
        rw [d1, f_bs, d2, f_bs, if_neg c1, (rr_sell hp h6 hC1).2 c2, f_bs]
      · obtain ⟨N1, e1, e2, e3, e4⟩ := y_dm2 hn (by omega) hsN
        have hr1 : q_ml N1 533 R := fun j hj => by rw [e4 533 j (by omega)]; exact hrN j hj
        refine ⟨N1, R, hr1, hag, e3, fun a j _ h => e4 a j h, fun f s0 w q i => ?_⟩
        unfold y_mk
        rw [hnN, e1, f_bs, e2, f_bs, if_neg c1, (r_sells (by omega) hr1).2 (by rw [← (hag.1 _ hp).2.2.2.1]; exact c2), f_bs]
    · obtain ⟨M2, g1, g2, g3⟩ := (rr_sell hp h6 hC1).1 c2
      refine ⟨q_se L (y_k n (y_d s)), M2, ?_, ?_, g2, ?_, ?_, fun a j ha => ?_, fun f q v => ?_, fun N R hnN hrN hag hsN => ?_⟩
      · unfold q_se
        rw [q_u_n (by omega), q_u_n (by omega)]
      · exact q_u_r hp h6 hR
      · rw [g3 54 1 (by decide) (by decide)]; exact d3
      · rw [g3 54 2 (by decide) (by decide)]; exact d5
      · rw [g3 a j (by omega) (by omega), d4 a j (by omega)]
      · unfold f_X9_tradeAmong_39
        rw [d1, f_bs, d2, f_bs, if_neg c1, g1, f_bs]
      · obtain ⟨N1, e1, e2, e3, e4⟩ := y_dm2 hn (by omega) hsN
        have hr1 : q_ml N1 533 R := fun j hj => by rw [e4 533 j (by omega)]; exact hrN j hj
        obtain ⟨N2, k1, k2, k3⟩ := (r_sells (p := y_k n (y_d s)) (by omega) hr1).1 (by rw [← (hag.1 _ hp).2.2.2.1]; exact c2)
        refine ⟨N2, _, k2, q_se_ag h6 hp hag, ?_, fun a j h1 h => ?_, fun f s0 w q i => ?_⟩
        · rw [k3 64 45 (by decide)]; exact e3
        · rw [k3 a j h1, e4 a j h]
        · unfold y_mk
          rw [hnN, e1, f_bs, e2, f_bs, if_neg c1, k1, f_bs]
end YR
