/-! THE RELATION between the two sides -/
def q_sb (x : Int) : Int := if x < 128 then x else x - 256
def q_K1 (M : e_M) : Prop := 0 ≤ M 2 1 ∧ M 2 1 ≤ 600 ∧ M 64 1 = M 2 1 ∧ M 64 3 = M 2 5 ∧ M 66 0 = M 1 16 ∧ M 66 1 = M 1 17 ∧ M 64 37 = M 32 6
def q_K2 (M : e_M) : Prop := ∀ j, j < 600 → 0 ≤ M 65 j ∧ M 65 j ≤ 255 ∧ M 3 j = q_sb (M 65 j)
/-- the town: persons n, duties m, tasks t; wages, skills, worths, owners, fines -/
def q_T (n m t : Nat) (wa : Nat → Int) (sk : Nat → Nat) (wo : Nat → Int) (ow : Nat → Nat) (fi : Nat → Int) (M : e_M) : Prop :=
  n ≤ 6 ∧ m ≤ 6 ∧ t ≤ 12 ∧ M 4 0 = (n : Int) ∧ M 4 1 = (m : Int) ∧ M 4 2 = (t : Int) ∧ M 68 0 = (n : Int) ∧ M 68 1 = (m : Int) ∧ M 68 2 = (t : Int) ∧
  (∀ p, p < n → M 6 p = wa p ∧ M (81 + p) 1 = wa p ∧ 0 ≤ wa p ∧ wa p ≤ 30 ∧ M 7 p = (sk p : Int) ∧ M 72 p = (sk p : Int) ∧ sk p < 2 ^ m) ∧
  (∀ d, d < m → M 8 d = wo d ∧ M 70 d = wo d ∧ 1 ≤ wo d ∧ wo d ≤ 30) ∧
  (∀ k, k < t → M 9 k = (ow k : Int) ∧ M (101 + k) 0 = (ow k : Int) ∧ ow k < n ∧ M 11 k = fi k ∧ M (101 + k) 2 = fi k ∧ 0 ≤ fi k ∧ fi k ≤ 60)
/-- a code of the law on the class's side and on the model's -/
def q_cd (c w v : Int) : Prop := (w = 0 ∧ 0 ≤ v ∧ v ≤ 999 ∧ c = v) ∨ (w = 1 ∧ 0 ≤ v ∧ v < 8 ∧ c = 1000 + v) ∨ (2 ≤ w ∧ w ≤ 8 ∧ c = 1998 + w)
/-- how high the stack stands ahead of a code -/
def q_hg (w : Nat → Int) : Nat → Nat
  | 0 => 0
  | k + 1 => if w k < 2 then q_hg w k + 1 else q_hg w k - 1
def q_La (l : Nat) (cw cv : Nat → Int) (M : e_M) : Prop := l ≤ 150 ∧ M 20 1 = (l : Int) ∧ M 64 21 = (l : Int) ∧ ∀ k, k < l → M (114 + k) 0 = cw k ∧ M (114 + k) 1 = cv k ∧ q_cd (M 21 k) (cw k) (cv k) ∧ (2 ≤ cw k → 2 ≤ q_hg cw k)
def q_K5 (n : Nat) (M : e_M) : Prop := ∃ l b : Nat, l ≤ 6 ∧ b < 64 ∧ M 28 0 = (l : Int) ∧ M 64 35 = (l : Int) ∧ M 28 1 = (b : Int) ∧
  ∀ p, p < n → (b.testBit p = false ∧ ∀ k, k < l → M (436 + k) 0 ≠ (p : Int)) ∨ (b.testBit p = true ∧ ∃ k, k < l ∧ M (436 + k) 0 = (p : Int) ∧ M (436 + k) 1 = M 29 p ∧ 0 ≤ M 29 p ∧ M 29 p ≤ 140 ∧ ∀ k', k' < k → M (436 + k') 0 ≠ (p : Int))
/-- bounds of a life -/
def q_LB (n t : Nat) (L : Nat → Int) : Prop := 0 ≤ L 55 ∧ L 55 ≤ 300 ∧ 0 ≤ L 54 ∧ L 54 ≤ 180 * L 55 ∧
  (∀ p, p < n → 0 ≤ L p ∧ L p ≤ 999 ∧ -1 ≤ L (18 + p) ∧ L (18 + p) ≤ 99 ∧ L p + L (18 + p) ≤ 999 ∧ 0 ≤ L (6 + p) ∧ L (6 + p) ≤ 7 * L 55 ∧ 0 ≤ L (12 + p) ∧ L (12 + p) ≤ L 55) ∧
  (∀ k, k < t → 0 ≤ L (30 + k) ∧ L (30 + k) ≤ 60)
/-- a life as the class holds it (in the order in which it is saved), and as the model does -/
def q_dn (L : Nat → Int) (k : Nat) : Bool := decide (L (42 + k) = 1)
def q_CL (n t : Nat) (C L : Nat → Int) : Prop := (∀ p, p < n → C p = L p ∧ C (6 + p) = L (6 + p) ∧ C (12 + p) = L (12 + p) ∧ C (18 + p) = L (18 + p) ∧ C (24 + p) = L (24 + p)) ∧
  (∀ k, k < t → C (30 + k) = L (30 + k) ∧ (L (42 + k) = 0 ∨ L (42 + k) = 1)) ∧ C 42 = L 55 ∧ C 43 = L 54 ∧ C 44 = (q_bs (q_dn L) t : Int)
def q_cn (n t : Nat) (L : Nat → Int) (M : e_M) : Prop := (∀ p, p < n → M 37 p = L p ∧ M 38 p = L (6 + p) ∧ M 39 p = L (12 + p) ∧ M 40 p = L (18 + p) ∧ M 41 p = L (24 + p)) ∧
  (∀ k, k < t → M 42 k = L (30 + k) ∧ (L (42 + k) = 0 ∨ L (42 + k) = 1)) ∧ M 36 2 = L 55 ∧ M 36 3 = L 54 ∧ M 36 4 = (q_bs (q_dn L) t : Int)
def q_cr (n t : Nat) (L : Nat → Int) (M : e_M) : Prop := (∀ p, p < n → M 44 p = L p ∧ M 45 p = L (6 + p) ∧ M 46 p = L (12 + p) ∧ M 47 p = L (18 + p) ∧ M 48 p = L (24 + p)) ∧
  (∀ k, k < t → M 49 k = L (30 + k) ∧ (L (42 + k) = 0 ∨ L (42 + k) = 1)) ∧ M 43 2 = L 55 ∧ M 43 3 = L 54 ∧ M 43 4 = (q_bs (q_dn L) t : Int)
def q_ml (M : e_M) (r : Nat) (L : Nat → Int) : Prop := ∀ j, j < 56 → M r j = L j
def q_Li (n t : Nat) (L : Nat → Int) (M : e_M) : Prop := q_cn n t L M ∧ q_ml M 532 L ∧ q_LB n t L
def q_K7 (n t : Nat) (M : e_M) : Prop := ∃ h : Nat, h ≤ 16 ∧ M 55 1 = (h : Int) ∧ M 64 36 = (h : Int) ∧ ∀ w, w < h → q_CL n t (fun j => M 56 (45 * w + j)) (M (535 + w)) ∧ q_LB n t (M (535 + w))
def q_K8 (n t : Nat) (M : e_M) : Prop := ∃ g : Nat, g ≤ 3 ∧ M 1 15 = (g : Int) ∧ M 64 38 = (g : Int) ∧
  ∀ i, i < g → ∃ h : Nat, h ≤ 16 ∧ M (58 + 2 * i) 1 = ((h + 1 : Nat) : Int) ∧ M (552 + i) 0 = (h : Int) ∧ q_CL n t (fun j => M (59 + 2 * i) (45 * h + j)) (fun j => M (552 + i) (1 + j)) ∧ q_LB n t (fun j => M (552 + i) (1 + j)) ∧
    ∀ w, w < h → q_CL n t (fun j => M (59 + 2 * i) (45 * w + j)) (fun j => M (552 + i) (57 + 56 * w + j)) ∧ q_LB n t (fun j => M (552 + i) (57 + 56 * w + j))
def q_K (M : e_M) : Prop := ∃ (n m t : Nat) (wa : Nat → Int) (sk : Nat → Nat) (wo : Nat → Int) (ow : Nat → Nat) (fi : Nat → Int) (l : Nat) (cw cv : Nat → Int) (L : Nat → Int),
  q_T n m t wa sk wo ow fi M ∧ q_K1 M ∧ q_K2 M ∧ q_La l cw cv M ∧ q_K5 n M ∧ q_Li n t L M ∧ q_K7 n t M ∧ q_K8 n t M
/-! which cells each part speaks of -/
def q_F1 (a j : Nat) : Prop := (a = 2 ∧ (j = 1 ∨ j = 5)) ∨ (a = 1 ∧ (j = 16 ∨ j = 17)) ∨ (a = 64 ∧ (j = 1 ∨ j = 3 ∨ j = 37)) ∨ a = 66 ∨ (a = 32 ∧ j = 6)
def q_F2 (a : Nat) : Prop := a = 3 ∨ a = 65
def q_F3 (a j : Nat) : Prop := (a = 4 ∧ j < 3) ∨ (6 ≤ a ∧ a ≤ 9) ∨ a = 11 ∨ a = 68 ∨ a = 70 ∨ a = 72 ∨ (81 ≤ a ∧ a ≤ 86) ∨ (101 ≤ a ∧ a ≤ 112)
def q_F4 (a j : Nat) : Prop := (a = 20 ∧ j = 1) ∨ (a = 64 ∧ j = 21) ∨ a = 21 ∨ (114 ≤ a ∧ a ≤ 273)
def q_F5 (a j : Nat) : Prop := (a = 28 ∧ j < 2) ∨ (a = 64 ∧ j = 35) ∨ a = 29 ∨ (436 ≤ a ∧ a ≤ 441)
def q_F6 (a j : Nat) : Prop := (a = 36 ∧ 2 ≤ j) ∨ (37 ≤ a ∧ a ≤ 42) ∨ a = 532
def q_F7 (a j : Nat) : Prop := a = 55 ∨ a = 56 ∨ (a = 64 ∧ j = 36) ∨ (535 ≤ a ∧ a ≤ 550)
def q_F8 (a j : Nat) : Prop := (58 ≤ a ∧ a ≤ 63) ∨ (a = 1 ∧ j = 15) ∨ (a = 64 ∧ j = 38) ∨ (552 ≤ a ∧ a ≤ 554)
theorem q_K1_f {M N : e_M} (h : ∀ a j, q_F1 a j → N a j = M a j) (k : q_K1 M) : q_K1 N := by
  unfold q_K1 at *
  rw [h 2 1 (by unfold q_F1; omega), h 2 5 (by unfold q_F1; omega), h 64 1 (by unfold q_F1; omega), h 64 3 (by unfold q_F1; omega), h 66 0 (by unfold q_F1; omega), h 66 1 (by unfold q_F1; omega), h 1 16 (by unfold q_F1; omega), h 1 17 (by unfold q_F1; omega), h 64 37 (by unfold q_F1; omega), h 32 6 (by unfold q_F1; omega)]
  exact k
theorem q_K2_f {M N : e_M} (h : ∀ a j, q_F2 a → N a j = M a j) (k : q_K2 M) : q_K2 N := by
  intro j hj
  have := k j hj
  rw [h 65 j (by unfold q_F2; omega), h 3 j (by unfold q_F2; omega)]
  exact this
theorem q_T_f {n m t : Nat} {wa : Nat → Int} {sk : Nat → Nat} {wo : Nat → Int} {ow : Nat → Nat} {fi : Nat → Int} {M N : e_M} (h : ∀ a j, q_F3 a j → N a j = M a j) (k : q_T n m t wa sk wo ow fi M) : q_T n m t wa sk wo ow fi N := by
  obtain ⟨k1, k2, k3, k4, k5, k6, k7, k8, k9, k10, k11, k12⟩ := k
  refine ⟨k1, k2, k3, ?_, ?_, ?_, ?_, ?_, ?_, fun p hp => ?_, fun d hd => ?_, fun k hk => ?_⟩
  · rw [h 4 0 (by unfold q_F3; omega)]; exact k4
  · rw [h 4 1 (by unfold q_F3; omega)]; exact k5
  · rw [h 4 2 (by unfold q_F3; omega)]; exact k6
  · rw [h 68 0 (by unfold q_F3; omega)]; exact k7
  · rw [h 68 1 (by unfold q_F3; omega)]; exact k8
  · rw [h 68 2 (by unfold q_F3; omega)]; exact k9
  · have := k10 p hp
    rw [h 6 p (by unfold q_F3; omega), h (81 + p) 1 (by unfold q_F3; omega), h 7 p (by unfold q_F3; omega), h 72 p (by unfold q_F3; omega)]
    exact this
  · have := k11 d hd
    rw [h 8 d (by unfold q_F3; omega), h 70 d (by unfold q_F3; omega)]
    exact this
  · have := k12 k hk
    rw [h 9 k (by unfold q_F3; omega), h (101 + k) 0 (by unfold q_F3; omega), h 11 k (by unfold q_F3; omega), h (101 + k) 2 (by unfold q_F3; omega)]
    exact this
theorem q_La_f {l : Nat} {cw cv : Nat → Int} {M N : e_M} (h : ∀ a j, q_F4 a j → N a j = M a j) (k : q_La l cw cv M) : q_La l cw cv N := by
  obtain ⟨k1, k2, k3, k4⟩ := k
  refine ⟨k1, ?_, ?_, fun k hk => ?_⟩
  · rw [h 20 1 (by unfold q_F4; omega)]; exact k2
  · rw [h 64 21 (by unfold q_F4; omega)]; exact k3
  · have := k4 k hk
    rw [h (114 + k) 0 (by unfold q_F4; omega), h (114 + k) 1 (by unfold q_F4; omega), h 21 k (by unfold q_F4; omega)]
    exact this
theorem q_K5_f {n : Nat} {M N : e_M} (hn : n ≤ 6) (h : ∀ a j, q_F5 a j → N a j = M a j) (k : q_K5 n M) : q_K5 n N := by
  obtain ⟨l, b, k1, k2, k3, k4, k5, k6⟩ := k
  refine ⟨l, b, k1, k2, ?_, ?_, ?_, fun p hp => ?_⟩
  · rw [h 28 0 (by unfold q_F5; omega)]; exact k3
  · rw [h 64 35 (by unfold q_F5; omega)]; exact k4
  · rw [h 28 1 (by unfold q_F5; omega)]; exact k5
  · rcases k6 p hp with ⟨z1, z2⟩ | ⟨z1, k, z2, z3, z4, z5, z6, z7⟩
    · exact Or.inl ⟨z1, fun k hk => by rw [h (436 + k) 0 (by unfold q_F5; omega)]; exact z2 k hk⟩
    · refine Or.inr ⟨z1, k, z2, ?_⟩
      rw [h (436 + k) 0 (by unfold q_F5; omega), h (436 + k) 1 (by unfold q_F5; omega), h 29 p (by unfold q_F5; omega)]
      exact ⟨z3, z4, z5, z6, fun k' hk => by rw [h (436 + k') 0 (by unfold q_F5; omega)]; exact z7 k' hk⟩
theorem q_cn_f {n t : Nat} {L : Nat → Int} {M N : e_M} (h : ∀ a j, (a = 36 ∧ 2 ≤ j) ∨ (37 ≤ a ∧ a ≤ 42) → N a j = M a j) (k : q_cn n t L M) : q_cn n t L N := by
  obtain ⟨k1, k2, k3, k4, k5⟩ := k
  refine ⟨fun p hp => ?_, fun k hk => ?_, ?_, ?_, ?_⟩
  · rw [h 37 p (by omega), h 38 p (by omega), h 39 p (by omega), h 40 p (by omega), h 41 p (by omega)]; exact k1 p hp
  · rw [h 42 k (by omega)]; exact k2 k hk
  · rw [h 36 2 (by omega)]; exact k3
  · rw [h 36 3 (by omega)]; exact k4
  · rw [h 36 4 (by omega)]; exact k5
theorem q_cr_f {n t : Nat} {L : Nat → Int} {M N : e_M} (h : ∀ a j, (a = 43 ∧ 2 ≤ j) ∨ (44 ≤ a ∧ a ≤ 49) → N a j = M a j) (k : q_cr n t L M) : q_cr n t L N := by
  obtain ⟨k1, k2, k3, k4, k5⟩ := k
  refine ⟨fun p hp => ?_, fun k hk => ?_, ?_, ?_, ?_⟩
  · rw [h 44 p (by omega), h 45 p (by omega), h 46 p (by omega), h 47 p (by omega), h 48 p (by omega)]; exact k1 p hp
  · rw [h 49 k (by omega)]; exact k2 k hk
  · rw [h 43 2 (by omega)]; exact k3
  · rw [h 43 3 (by omega)]; exact k4
  · rw [h 43 4 (by omega)]; exact k5
theorem q_Li_f {n t : Nat} {L : Nat → Int} {M N : e_M} (h : ∀ a j, q_F6 a j → N a j = M a j) (k : q_Li n t L M) : q_Li n t L N := by
  obtain ⟨k1, k2, k3⟩ := k
  refine ⟨q_cn_f (fun a j z => h a j (by unfold q_F6; omega)) k1, fun j hj => ?_, k3⟩
  rw [h 532 j (by unfold q_F6; omega)]; exact k2 j hj
theorem q_K7_f {n t : Nat} {M N : e_M} (h : ∀ a j, q_F7 a j → N a j = M a j) (k : q_K7 n t M) : q_K7 n t N := by
  obtain ⟨hh, k1, k2, k3, k4⟩ := k
  refine ⟨hh, k1, ?_, ?_, fun w hw => ?_⟩
  · rw [h 55 1 (by unfold q_F7; omega)]; exact k2
  · rw [h 64 36 (by unfold q_F7; omega)]; exact k3
  · have e1 : N (535 + w) = M (535 + w) := funext fun j => h _ _ (by unfold q_F7; omega)
    have e2 : (fun j => N 56 (45 * w + j)) = (fun j => M 56 (45 * w + j)) := funext fun j => h _ _ (by unfold q_F7; omega)
    rw [e1, e2]; exact k4 w hw
theorem q_K8_f {n t : Nat} {M N : e_M} (h : ∀ a j, q_F8 a j → N a j = M a j) (k : q_K8 n t M) : q_K8 n t N := by
  obtain ⟨g, k0, k1, k2, k4⟩ := k
  refine ⟨g, k0, ?_, ?_, fun i hi => ?_⟩
  · rw [h 1 15 (by unfold q_F8; omega)]; exact k1
  · rw [h 64 38 (by unfold q_F8; omega)]; exact k2
  · have e1 : N (552 + i) = M (552 + i) := funext fun j => h _ _ (by unfold q_F8; omega)
    have e2 : N (59 + 2 * i) = M (59 + 2 * i) := funext fun j => h _ _ (by unfold q_F8; omega)
    have e3 : N (58 + 2 * i) = M (58 + 2 * i) := funext fun j => h _ _ (by unfold q_F8; omega)
    rw [e1, e2, e3]; exact k4 i hi
/-- all that the relation speaks of -/
def q_ft (a j : Nat) : Prop := q_F1 a j ∨ q_F2 a ∨ q_F3 a j ∨ q_F4 a j ∨ q_F5 a j ∨ q_F6 a j ∨ q_F7 a j ∨ q_F8 a j
/-- only cells that it doesn't speak of have changed -/
def q_fr (M N : e_M) : Prop := ∀ a j, q_ft a j → N a j = M a j
theorem q_fr.rf {M : e_M} : q_fr M M := fun _ _ _ => rfl
theorem q_fr.tr {M N O : e_M} (h1 : q_fr M N) (h2 : q_fr N O) : q_fr M O := fun a j h => (h2 a j h).trans (h1 a j h)
theorem q_fr.up {M N : e_M} {a k : Nat} {v : Int} (h1 : q_fr M N) (h : ¬ q_ft a k) : q_fr M (e_up N a k v) := fun b j hb => by
  by_cases hba : b = a
  · by_cases hjk : j = k
    · subst hba; subst hjk; exact absurd hb h
    · subst hba; rw [u_c hjk]; exact h1 b j hb
  · rw [u_r hba]; exact h1 b j hb
theorem q_K_f {M N : e_M} (h : q_fr M N) (k : q_K M) : q_K N := by
  obtain ⟨n, m, t, wa, sk, wo, ow, fi, l, cw, cv, L, a1, a2, a3, a4, a5, a6, a7, a8⟩ := k
  exact ⟨n, m, t, wa, sk, wo, ow, fi, l, cw, cv, L, q_T_f (fun a j z => h a j (Or.inr (Or.inr (Or.inl z)))) a1, q_K1_f (fun a j z => h a j (Or.inl z)) a2, q_K2_f (fun a j z => h a j (Or.inr (Or.inl z))) a3, q_La_f (fun a j z => h a j (Or.inr (Or.inr (Or.inr (Or.inl z))))) a4, q_K5_f a1.1 (fun a j z => h a j (Or.inr (Or.inr (Or.inr (Or.inr (Or.inl z)))))) a5, q_Li_f (fun a j z => h a j (Or.inr (Or.inr (Or.inr (Or.inr (Or.inr (Or.inl z))))))) a6, q_K7_f (fun a j z => h a j (Or.inr (Or.inr (Or.inr (Or.inr (Or.inr (Or.inr (Or.inl z)))))))) a7, q_K8_f (fun a j z => h a j (Or.inr (Or.inr (Or.inr (Or.inr (Or.inr (Or.inr (Or.inr z)))))))) a8⟩
/-- one operation, the two sides as functions -/
def q_o1 (fx fm : e_M → Option (Int × e_M)) : Prop := ∀ M, q_K M → ∃ v M1 M2, fx M = some (v, M1) ∧ fm M1 = some (v, M2) ∧ q_K M2
def q_o2 (fx : e_M → Option ((Int ⊕ Nat) × e_M)) (fm : e_M → Option (Int × e_M)) (cd : Nat → Option Int) : Prop := ∀ M, q_K M →
  (∃ v M1 M2, fx M = some (.inl v, M1) ∧ fm (e_up M1 557 0 v) = some (v, M2) ∧ M2 64 0 = 0 ∧ M2 557 0 = v ∧ q_K M2) ∨
  (∃ z c b M1 M2, cd z = some c ∧ c ≠ 0 ∧ fx M = some (.inr z, M1) ∧ fm M1 = some (b, M2) ∧ M2 64 0 = c ∧ q_K M2)
/-- refusals on both sides -/
theorem q_rf0 {M : e_M} {c : Int} (k : q_K M) : q_K (e_up (e_up (e_up (e_up M 1 16 (e_w (M 1 16 + 1))) 64 0 0) 64 0 c) 66 0 (e_w (M 66 0 + 1))) := by
  obtain ⟨n, m, t, wa, sk, wo, ow, fi, l, cw, cv, L, a1, a2, a3, a4, a5, a6, a7, a8⟩ := k
  refine ⟨n, m, t, wa, sk, wo, ow, fi, l, cw, cv, L, q_T_f (fun a j z => ?_) a1, ?_, q_K2_f (fun a j z => ?_) a3, q_La_f (fun a j z => ?_) a4, q_K5_f a1.1 (fun a j z => ?_) a5, q_Li_f (fun a j z => ?_) a6, q_K7_f (fun a j z => ?_) a7, q_K8_f (fun a j z => ?_) a8⟩
  case refine_2 =>
    obtain ⟨b1, b2, b3, b4, b5, b6, b7⟩ := a2
    refine ⟨b1, b2, b3, b4, ?_, b6, b7⟩
    show e_w (M 66 0 + 1) = e_w (M 1 16 + 1)
    rw [b5]
  all_goals
    simp only [e_up]
    simp only [q_F2, q_F3, q_F4, q_F5, q_F6, q_F7, q_F8] at z
    rw [if_neg (by omega)]
    repeat' split
    all_goals first | rfl | omega
theorem q_rf1 {M : e_M} {c : Int} (k : q_K M) : q_K (e_up (e_up (e_up (e_up M 1 17 (e_w (M 1 17 + 1))) 64 0 0) 64 0 c) 66 1 (e_w (M 66 1 + 1))) := by
  obtain ⟨n, m, t, wa, sk, wo, ow, fi, l, cw, cv, L, a1, a2, a3, a4, a5, a6, a7, a8⟩ := k
  refine ⟨n, m, t, wa, sk, wo, ow, fi, l, cw, cv, L, q_T_f (fun a j z => ?_) a1, ?_, q_K2_f (fun a j z => ?_) a3, q_La_f (fun a j z => ?_) a4, q_K5_f a1.1 (fun a j z => ?_) a5, q_Li_f (fun a j z => ?_) a6, q_K7_f (fun a j z => ?_) a7, q_K8_f (fun a j z => ?_) a8⟩
  case refine_2 =>
    obtain ⟨b1, b2, b3, b4, b5, b6, b7⟩ := a2
    refine ⟨b1, b2, b3, b4, b5, ?_, b7⟩
    show e_w (M 66 1 + 1) = e_w (M 1 17 + 1)
    rw [b6]
  all_goals
    simp only [e_up]
    simp only [q_F2, q_F3, q_F4, q_F5, q_F6, q_F7, q_F8] at z
    rw [if_neg (by omega)]
    repeat' split
    all_goals first | rfl | omega
