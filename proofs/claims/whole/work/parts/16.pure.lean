/-! PURE: loops, memory, small numbers, bits -/
theorem e_ws_ {x : Int} (h1 : -2147483648 ≤ x) (h2 : x < 2147483648) : e_w x = x := e_w_id ⟨h1, h2⟩
/-- a loop that counts up: from place i to n, the state by f -/
def p_it {σ : Type} (f : Nat → σ → σ) : Nat → Nat → σ → σ
  | _, 0, s => s
  | i, k + 1, s => p_it f (i + 1) k (f i s)
theorem p_loop {σ : Type} (G : Nat → σ → Prop) (I : Nat → σ → Prop) (f : Nat → σ → σ) (n : Nat) (hI : ∀ i s, i < n → I i s → I (i + 1) (f i s)) (hs : ∀ i s, i < n → I i s → G (i + 1) (f i s) → G i s) :
    ∀ (k i : Nat) (s : σ), i + k = n → I i s → (I n (p_it f i k s) → G n (p_it f i k s)) → G i s
  | 0, i, s, h, hi, hx => by
    have e : i = n := by omega
    subst e
    exact hx hi
  | k + 1, i, s, h, hi, hx => hs i s (by omega) hi (p_loop G I f n hI hs k (i + 1) (f i s) (by omega) (hI i s (by omega) hi) hx)
theorem p_loop0 {σ : Type} (G : Nat → σ → Prop) (I : Nat → σ → Prop) (f : Nat → σ → σ) (n : Nat) (s : σ) (h0 : I 0 s) (hI : ∀ i s, i < n → I i s → I (i + 1) (f i s)) (hs : ∀ i s, i < n → I i s → G (i + 1) (f i s) → G i s) (hx : I n (p_it f 0 n s) → G n (p_it f 0 n s)) : G 0 s :=
  p_loop G I f n hI hs n 0 s (by omega) h0 hx
theorem p_it_inv {σ : Type} (I : Nat → σ → Prop) (f : Nat → σ → σ) (n : Nat) (hI : ∀ i s, i < n → I i s → I (i + 1) (f i s)) : ∀ (k i : Nat) (s : σ), i + k = n → I i s → I n (p_it f i k s)
  | 0, i, s, h, hi => by
    have e : i = n := by omega
    subst e
    exact hi
  | k + 1, i, s, h, hi => p_it_inv I f n hI k (i + 1) (f i s) (by omega) (hI i s (by omega) hi)
theorem p_it_congr {σ : Type} (f g : Nat → σ → σ) (n : Nat) (h : ∀ i s, i < n → f i s = g i s) : ∀ (k i : Nat) (s : σ), i + k = n → p_it f i k s = p_it g i k s
  | 0, _, _, _ => rfl
  | k + 1, i, s, hk => by
    show p_it f (i + 1) k (f i s) = p_it g (i + 1) k (g i s)
    rw [h i s (by omega)]
    exact p_it_congr f g n h k (i + 1) _ (by omega)
theorem p_it_succ {σ : Type} (f : Nat → σ → σ) : ∀ (k i : Nat) (s : σ), p_it f i (k + 1) s = f (i + k) (p_it f i k s)
  | 0, i, s => rfl
  | k + 1, i, s => by
    show p_it f (i + 1) (k + 1) (f i s) = f (i + (k + 1)) (p_it f (i + 1) k (f i s))
    rw [p_it_succ f k (i + 1) (f i s)]
    congr 1
    omega
/-- memory -/
theorem u_s (M : e_M) (a k : Nat) (v : Int) : e_up M a k v a k = v := by simp [e_up]
theorem u_r {M : e_M} {a k b j : Nat} {v : Int} (h : b ≠ a) : e_up M a k v b j = M b j := by simp [e_up, h]
theorem u_c {M : e_M} {a k j : Nat} {v : Int} (h : j ≠ k) : e_up M a k v a j = M a j := by simp [e_up, h]
/-- bits -/
theorem b_of (n : Nat) : Int32.ofInt (n : Int) = nI n := by
  apply e_eqI
  show e_w (n : Int) = (Int32.ofNat n).toInt
  rw [Int32.toInt_ofNat']
  exact (e_bm32 (n : Int)).symm
theorem b_to {n : Nat} (h : n < 2147483648) : (nI n).toInt = (n : Int) := nI_toInt h
theorem b_and_nI (a b : Nat) : nI a &&& nI b = nI (a &&& b) := by
  apply Int32.toBitVec_inj.mp
  apply BitVec.eq_of_toNat_eq
  simp [nI, Int32.toBitVec_ofNat, Nat.and_mod_two_pow]
theorem b_or_nI (a b : Nat) : nI a ||| nI b = nI (a ||| b) := by
  apply Int32.toBitVec_inj.mp
  apply BitVec.eq_of_toNat_eq
  simp [nI, Int32.toBitVec_ofNat, Nat.or_mod_two_pow]
theorem b_and {a b : Nat} (h : a < 2147483648) : e_and (a : Int) (b : Int) = ((a &&& b : Nat) : Int) := by
  unfold e_and
  rw [b_of, b_of, b_and_nI, b_to]
  exact Nat.lt_of_le_of_lt Nat.and_le_left h
theorem b_or {a b : Nat} (ha : a < 2 ^ 31) (hb : b < 2 ^ 31) : e_or (a : Int) (b : Int) = ((a ||| b : Nat) : Int) := by
  unfold e_or
  rw [b_of, b_of, b_or_nI, b_to]
  exact Nat.or_lt_two_pow ha hb
theorem b_sm : ∀ k, k < 32 → (((nI k) &&& 31).toBitVec.smod 32).toNat = k := by decide +kernel
theorem b_shr {a k : Nat} (ha : a < 2147483648) (hk : k < 32) : e_shr (a : Int) (k : Int) = ((a / 2 ^ k : Nat) : Int) := by
  unfold e_shr
  rw [b_of, b_of, pk_shrN ha (nI k &&& 31) k (b_sm k hk), b_to]
  exact Nat.lt_of_le_of_lt (Nat.div_le_self _ _) ha
theorem b_shl {a k : Nat} (hk : k < 32) (h : a * 2 ^ k < 2147483648) : e_shl (a : Int) (k : Int) = ((a * 2 ^ k : Nat) : Int) := by
  unfold e_shl
  rw [b_of, b_of, pk_shlN (nI k &&& 31) k (b_sm k hk) (by omega), b_to h]
