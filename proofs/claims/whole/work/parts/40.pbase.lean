/-! PURE 1: rows for simp, loops, bits -/
theorem q_le {a b : Int} (h : a ≤ b) : (a ≤ b) = True := eq_true h
theorem q_nle {a b : Int} (h : ¬ a ≤ b) : (a ≤ b) = False := eq_false h
theorem q_lt {a b : Int} (h : a < b) : (a < b) = True := eq_true h
theorem q_nlt {a b : Int} (h : ¬ a < b) : (a < b) = False := eq_false h
theorem q_eq {a b : Int} (h : a = b) : (a = b) = True := eq_true h
theorem q_ne {a b : Int} (h : ¬ a = b) : (a = b) = False := eq_false h
theorem q_t0 (i : Nat) : (0 + (i : Int)).toNat = i := by omega
theorem q_t6 (i : Nat) : (6 + (i : Int)).toNat = 6 + i := by omega
theorem q_t12 (i : Nat) : (12 + (i : Int)).toNat = 12 + i := by omega
theorem q_t18 (i : Nat) : (18 + (i : Int)).toNat = 18 + i := by omega
theorem q_t24 (i : Nat) : (24 + (i : Int)).toNat = 24 + i := by omega
theorem q_t30 (i : Nat) : (30 + (i : Int)).toNat = 30 + i := by omega
theorem q_t42 (i : Nat) : (42 + (i : Int)).toNat = 42 + i := by omega
theorem q_w0 (i : Nat) (h : i < 1000000) : e_w (0 + (i : Int)) = (i : Int) := by rw [Int.zero_add]; exact e_ws_ (by omega) (by omega)
/-- a loop that counts up from 0, each turn taking c of the fuel, with an invariant -/
theorem q_run {α β : Type} (B c N : Nat) (f : Nat → α → Int → Option β) (I : Nat → α → Prop) (hs : ∀ i a, i < N → I i a → ∃ a', I (i + 1) a' ∧ ∀ n, B ≤ n → f (n + c) a (i : Int) = f n a' ((i : Int) + 1)) {a : α} (h0 : I 0 a) : ∃ a', I N a' ∧ ∀ n, B ≤ n → f (n + N * c) a 0 = f n a' (N : Int) := by
  have h : ∀ k, k ≤ N → ∃ a', I k a' ∧ ∀ n, B ≤ n → f (n + k * c) a 0 = f n a' (k : Int) := by
    intro k
    induction k with
    | zero => intro _; exact ⟨a, h0, fun n _ => by rw [Nat.zero_mul]; rfl⟩
    | succ k ih =>
      intro hk
      obtain ⟨b, hb, he⟩ := ih (by omega)
      obtain ⟨b', hb', he'⟩ := hs k b (by omega) hb
      refine ⟨b', hb', fun n hn => ?_⟩
      rw [show n + (k + 1) * c = (n + c) + k * c by rw [Nat.succ_mul]; omega, he (n + c) (by omega), he' n hn]
      rfl
  exact h N (Nat.le_refl _)
/-- the same, the state given place by place -/
theorem q_seq {α β : Type} (B c N : Nat) (f : Nat → α → Int → Option β) (σ : Nat → α) (hs : ∀ n i, B ≤ n → i < N → f (n + c) (σ i) (i : Int) = f n (σ (i + 1)) ((i : Int) + 1)) (n : Nat) (hn : B ≤ n) : f (n + N * c) (σ 0) 0 = f n (σ N) (N : Int) := by
  obtain ⟨a', h1, h2⟩ := q_run B c N f (fun i a => a = σ i) (fun i a hi ha => ⟨σ (i + 1), rfl, fun n hn => by rw [ha]; exact hs n i hn hi⟩) (a := σ 0) rfl
  rw [h2 n hn, h1]
theorem q_sB {α β : Type} (B : Nat) (f : Nat → α → Int → Option β) (σ : Nat → α) (N : Nat) (r : β) (hs : ∀ n i, B ≤ n → i < N → f (n + 1) (σ i) (i : Int) = f n (σ (i + 1)) ((i : Int) + 1)) (hf : ∀ n, B ≤ n → f (n + 1) (σ N) (N : Int) = some r) (n : Nat) (hn : N + B < n) : f n (σ 0) 0 = some r := by
  obtain ⟨n', rfl⟩ : ∃ n', n = (n' + 1) + N * 1 := ⟨n - 1 - N, by omega⟩
  rw [q_seq B 1 N f σ hs (n' + 1) (by omega)]
  exact hf n' (by omega)
theorem q_sq {α β : Type} (f : Nat → α → Int → Option β) (σ : Nat → α) (N : Nat) (r : β) (hs : ∀ n i, i < N → f (n + 1) (σ i) (i : Int) = f n (σ (i + 1)) ((i : Int) + 1)) (hf : ∀ n, f (n + 1) (σ N) (N : Int) = some r) (n : Nat) (hn : N < n) : f n (σ 0) 0 = some r :=
  q_sB 0 f σ N r (fun n i _ hi => hs n i hi) (fun n _ => hf n) n hn
/-- sums that wrap -/
def q_sm (c : Nat → Int) : Nat → Int
  | 0 => 0
  | n + 1 => e_w (q_sm c n + c n)
theorem q_sm_congr {c d : Nat → Int} : ∀ {n : Nat}, (∀ i, i < n → c i = d i) → q_sm c n = q_sm d n
  | 0, _ => rfl
  | n + 1, h => by
    show e_w (q_sm c n + c n) = e_w (q_sm d n + d n)
    rw [q_sm_congr (fun i hi => h i (by omega)), h n (by omega)]
/-- how many -/
def q_ct (c : Nat → Bool) : Nat → Nat
  | 0 => 0
  | n + 1 => q_ct c n + (if c n then 1 else 0)
theorem q_ct_congr {c d : Nat → Bool} : ∀ {n : Nat}, (∀ i, i < n → c i = d i) → q_ct c n = q_ct d n
  | 0, _ => rfl
  | n + 1, h => by
    show q_ct c n + _ = q_ct d n + _
    rw [q_ct_congr (fun i hi => h i (by omega)), h n (by omega)]
theorem q_ct_le (c : Nat → Bool) : ∀ n, q_ct c n ≤ n
  | 0 => Nat.le_refl _
  | n + 1 => by
    have := q_ct_le c n
    show q_ct c n + _ ≤ n + 1
    split <;> omega
theorem q_ct_z {c : Nat → Bool} : ∀ {n k : Nat}, n ≤ k → (∀ i, n ≤ i → i < k → c i = false) → q_ct c k = q_ct c n := by
  intro n k
  induction k with
  | zero => intro h _; have : n = 0 := by omega
            subst this; rfl
  | succ k ih =>
    intro h h1
    by_cases hk : n = k + 1
    · subst hk; rfl
    · show q_ct c k + _ = _
      rw [ih (by omega) (fun i a b => h1 i a (by omega)), h1 k (by omega) (by omega)]; simp
/-- rows of bits joined -/
def q_or (c : Nat → Bool) (s : Nat → Nat) : Nat → Nat
  | 0 => 0
  | n + 1 => q_or c s n ||| (if c n then s n else 0)
theorem q_or_congr {c d : Nat → Bool} {s t : Nat → Nat} : ∀ {n : Nat}, (∀ i, i < n → c i = d i ∧ (c i = true → s i = t i)) → q_or c s n = q_or d t n
  | 0, _ => rfl
  | n + 1, h => by
    show q_or c s n ||| _ = q_or d t n ||| _
    have h1 := h n (by omega)
    rw [q_or_congr (fun i hi => h i (by omega)), ← h1.1]
    by_cases hc : c n = true
    · rw [if_pos hc, if_pos hc, h1.2 hc]
    · rw [if_neg hc, if_neg hc]
theorem q_or_lt {c : Nat → Bool} {s : Nat → Nat} {k : Nat} : ∀ {n : Nat}, (∀ i, i < n → c i = true → s i < 2 ^ k) → q_or c s n < 2 ^ k
  | 0, _ => Nat.two_pow_pos k
  | n + 1, h => by
    refine Nat.or_lt_two_pow (q_or_lt (fun i hi => h i (by omega))) ?_
    split
    · rename_i hc; exact h n (by omega) hc
    · exact Nat.two_pow_pos k
theorem q_or_tb {c : Nat → Bool} {s : Nat → Nat} {j : Nat} : ∀ {n : Nat}, (q_or c s n).testBit j = true ↔ ∃ i, i < n ∧ c i = true ∧ (s i).testBit j = true
  | 0 => by simp [q_or]
  | n + 1 => by
    show (q_or c s n ||| _).testBit j = true ↔ _
    rw [Nat.testBit_or, Bool.or_eq_true, q_or_tb]
    constructor
    · rintro (⟨i, h1, h2⟩ | h)
      · exact ⟨i, by omega, h2⟩
      · by_cases hc : c n = true
        · rw [if_pos hc] at h; exact ⟨n, by omega, hc, h⟩
        · rw [if_neg hc] at h; simp at h
    · rintro ⟨i, h1, h2, h3⟩
      by_cases hi : i = n
      · subst hi; right; rw [if_pos h2]; exact h3
      · exact Or.inl ⟨i, by omega, h2, h3⟩
abbrev q_bs (c : Nat → Bool) (n : Nat) : Nat := q_or c (fun i => 2 ^ i) n
theorem q_bs_tb {c : Nat → Bool} {n j : Nat} : (q_bs c n).testBit j = true ↔ j < n ∧ c j = true := by
  rw [q_or_tb]
  constructor
  · rintro ⟨i, h1, h2, h3⟩
    have : i = j := by
      have h4 := Nat.testBit_two_pow (n := i) (m := j)
      rw [h4] at h3; exact of_decide_eq_true h3
    subst this; exact ⟨h1, h2⟩
  · rintro ⟨h1, h2⟩
    exact ⟨j, h1, h2, by rw [Nat.testBit_two_pow]; simp⟩
theorem q_bs_lt {c : Nat → Bool} {n : Nat} : q_bs c n < 2 ^ n := q_or_lt (fun i hi _ => Nat.pow_lt_pow_right (by omega) hi)
/-- bits without others -/
def q_an (a b : Nat) : Nat := a ^^^ (a &&& b)
theorem q_an_tb {a b j : Nat} : (q_an a b).testBit j = (a.testBit j && !b.testBit j) := by
  unfold q_an
  rw [Nat.testBit_xor, Nat.testBit_and]
  cases a.testBit j <;> cases b.testBit j <;> rfl
theorem q_an_lt {a b k : Nat} (h : a < 2 ^ k) : q_an a b < 2 ^ k := Nat.xor_lt_two_pow h (Nat.lt_of_le_of_lt Nat.and_le_left h)
theorem q_andn {a b : Nat} (h : a < 2147483648) : e_and (a : Int) (e_xor (b : Int) (-1)) = ((q_an a b : Nat) : Int) := by
  have h1 : Int32.ofInt (a : Int) &&& Int32.ofInt (e_xor (b : Int) (-1)) = nI (q_an a b) := by
    unfold e_xor
    rw [e_ofI, b_of, b_of]
    apply Int32.toBitVec_inj.mp
    apply BitVec.eq_of_getLsbD_eq
    intro i hi
    have e1 : (Int32.ofInt (-1)).toBitVec = BitVec.allOnes 32 := by decide
    simp only [nI, Int32.toBitVec_and, Int32.toBitVec_xor, Int32.toBitVec_ofNat', BitVec.getLsbD_and, BitVec.getLsbD_xor, BitVec.getLsbD_ofNat, e1, BitVec.getLsbD_allOnes, q_an_tb]
    cases a.testBit i <;> cases b.testBit i <;> simp [hi]
  unfold e_and
  rw [h1, b_to]
  exact q_an_lt (k := 31) h
theorem q_tb {a k : Nat} (ha : a < 2147483648) (hk : k < 32) : e_and (e_shr (a : Int) (k : Int)) 1 = if a.testBit k then 1 else 0 := by
  rw [b_shr ha hk, show (1 : Int) = ((1 : Nat) : Int) from rfl, b_and (Nat.lt_of_le_of_lt (Nat.div_le_self _ _) ha), Nat.and_one_is_mod, Nat.testBit_eq_decide_div_mod_eq]
  by_cases h : a / 2 ^ k % 2 = 1
  · rw [h]; simp
  · have : a / 2 ^ k % 2 = 0 := by omega
    rw [this]; simp
theorem q_bb {k : Nat} (hk : k < 31) : e_w (e_shl 1 (k : Int) - 1) = ((2 ^ k - 1 : Nat) : Int) := by
  have h1 : (2 : Nat) ^ k ≤ 2 ^ 30 := Nat.pow_le_pow_right (by omega) (by omega)
  have h2 := Nat.two_pow_pos k
  have h3 := b_shl (a := 1) (k := k) (by omega) (by omega)
  rw [show (1 : Int) = ((1 : Nat) : Int) from rfl, h3, Nat.one_mul]
  rw [e_ws_ (by omega) (by omega)]
  omega
theorem q_sh {k : Nat} (hk : k < 31) : e_shl 1 (k : Int) = ((2 ^ k : Nat) : Int) := by
  have h1 : (2 : Nat) ^ k ≤ 2 ^ 30 := Nat.pow_le_pow_right (by omega) (by omega)
  have h3 := b_shl (a := 1) (k := k) (by omega) (by omega)
  rw [show (1 : Int) = ((1 : Nat) : Int) from rfl, h3, Nat.one_mul]
theorem q_or_t {c : Nat → Bool} {s : Nat → Nat} {i : Nat} (hc : c i = true) (h1 : q_or c s i < 2 ^ 31) (h2 : s i < 2 ^ 31) : e_or (q_or c s i : Int) (s i : Int) = (q_or c s (i + 1) : Int) := by
  rw [b_or h1 h2]
  show _ = ((q_or c s i ||| (if c i then s i else 0) : Nat) : Int)
  rw [if_pos hc]
theorem q_or_f {c : Nat → Bool} {s : Nat → Nat} {i : Nat} (hc : c i = false) : q_or c s (i + 1) = q_or c s i := by
  show q_or c s i ||| (if c i then s i else 0) = _
  rw [hc]; simp
theorem q_or0 {x : Nat} (h : x < 2 ^ 31) : e_or (x : Int) 0 = (x : Int) := by
  rw [show (0 : Int) = ((0 : Nat) : Int) from rfl, b_or h (by decide), Nat.or_zero]
theorem q_bs_t {c : Nat → Bool} {i : Nat} (hc : c i = true) (hi : i < 30) : e_or (q_bs c i : Int) (e_shl 1 (i : Int)) = (q_bs c (i + 1) : Int) := by
  rw [q_sh (by omega)]
  have h1 : (2 : Nat) ^ i < 2 ^ 31 := Nat.pow_lt_pow_right (by omega) (by omega)
  have h2 : q_bs c i < 2 ^ i := q_bs_lt
  exact q_or_t hc (Nat.lt_trans h2 h1) h1
theorem q_bs_31 {c : Nat → Bool} {i : Nat} (hi : i < 31) : q_bs c i < 2 ^ 31 := Nat.lt_trans q_bs_lt (Nat.pow_lt_pow_right (by omega) (by omega))
/-- bits by which two numbers are the same -/
theorem q_tbx {a b : Nat} (h : ∀ j, a.testBit j = true ↔ b.testBit j = true) : a = b := by
  apply Nat.eq_of_testBit_eq
  intro i
  have := h i
  cases h1 : a.testBit i <;> cases h2 : b.testBit i <;> simp_all
theorem q_tlt {a k j : Nat} (h : a < 2 ^ k) (hj : k ≤ j) : a.testBit j = false := Nat.testBit_lt_two_pow (Nat.lt_of_lt_of_le h (Nat.pow_le_pow_right (by omega) hj))
/-- how many bits -/
def q_pc (x : Nat) : Nat := q_ct (fun i => x.testBit i) 16
def q_bcf (p0 : Int) : Int := (e_and (e_w ((e_w ((e_and (e_w ((e_w ((e_and (e_w (p0 - (e_and (e_ushr p0 1) 1431655765))) 858993459) + (e_and (e_ushr (e_w (p0 - (e_and (e_ushr p0 1) 1431655765))) 2) 858993459))) + (e_ushr (e_w ((e_and (e_w (p0 - (e_and (e_ushr p0 1) 1431655765))) 858993459) + (e_and (e_ushr (e_w (p0 - (e_and (e_ushr p0 1) 1431655765))) 2) 858993459))) 4))) 252645135) + (e_ushr (e_and (e_w ((e_w ((e_and (e_w (p0 - (e_and (e_ushr p0 1) 1431655765))) 858993459) + (e_and (e_ushr (e_w (p0 - (e_and (e_ushr p0 1) 1431655765))) 2) 858993459))) + (e_ushr (e_w ((e_and (e_w (p0 - (e_and (e_ushr p0 1) 1431655765))) 858993459) + (e_and (e_ushr (e_w (p0 - (e_and (e_ushr p0 1) 1431655765))) 2) 858993459))) 4))) 252645135) 8))) + (e_ushr (e_w ((e_and (e_w ((e_w ((e_and (e_w (p0 - (e_and (e_ushr p0 1) 1431655765))) 858993459) + (e_and (e_ushr (e_w (p0 - (e_and (e_ushr p0 1) 1431655765))) 2) 858993459))) + (e_ushr (e_w ((e_and (e_w (p0 - (e_and (e_ushr p0 1) 1431655765))) 858993459) + (e_and (e_ushr (e_w (p0 - (e_and (e_ushr p0 1) 1431655765))) 2) 858993459))) 4))) 252645135) + (e_ushr (e_and (e_w ((e_w ((e_and (e_w (p0 - (e_and (e_ushr p0 1) 1431655765))) 858993459) + (e_and (e_ushr (e_w (p0 - (e_and (e_ushr p0 1) 1431655765))) 2) 858993459))) + (e_ushr (e_w ((e_and (e_w (p0 - (e_and (e_ushr p0 1) 1431655765))) 858993459) + (e_and (e_ushr (e_w (p0 - (e_and (e_ushr p0 1) 1431655765))) 2) 858993459))) 4))) 252645135) 8))) 16))) 63)
theorem q_bc_all : ∀ x : Nat, x < 1024 → q_bcf (x : Int) = (q_pc x : Int) := by decide +kernel
theorem q_bc {x : Nat} {M : e_M} (h : x < 1024) : f_J6_bitCount_0f7a4 (x : Int) M = some ((q_pc x : Int), M) := by
  show some (q_bcf (x : Int), M) = _
  rw [q_bc_all x h]
theorem q_pc_n {x k : Nat} (h : x < 2 ^ k) (hk : k ≤ 16) : q_pc x = q_ct (fun i => x.testBit i) k :=
  q_ct_z hk (fun i h1 _ => q_tlt h h1)
theorem q_ones {x n : Nat} {M : e_M} (hx : x < 2147483648) (hn : 16 < n) : f_X11_ones n (x : Int) M = some ((q_pc x : Int), M) := by
  refine q_sq (fun n a i => f_X11_ones_4 n (x : Int) a i M) (fun i => (q_ct (fun j => x.testBit j) i : Int)) 16 _ (fun n i hi => ?_) (fun n => ?_) n hn
  · have h1 := q_ct_le (fun j => x.testBit j) i
    have e : (q_ct (fun j => x.testBit j) (i + 1) : Int) = (q_ct (fun j => x.testBit j) i : Int) + (if x.testBit i then 1 else 0) := by
      show ((q_ct (fun j => x.testBit j) i + (if x.testBit i then 1 else 0) : Nat) : Int) = _
      split <;> simp
    simp only [e]
    rw [f_X11_ones_4, if_neg (by omega), q_tb hx (by omega)]
    split
    · rw [e_ws_ (by omega) (by omega), e_ws_ (by omega) (by omega)]
    · rw [e_ws_ (by omega) (by omega), e_ws_ (by omega) (by omega)]
  · show f_X11_ones_4 (n + 1) (x : Int) _ ((16 : Nat) : Int) M = _
    rw [f_X11_ones_4, if_pos (by omega)]
    rfl
