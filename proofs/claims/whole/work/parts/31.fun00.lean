/-! THE METHODS AS FUNCTIONS: f_.. is a method on numbers and memory (none: it leaves what is proved of it), s_.. says that the machine follows it -/
def f_b {α : Type} (w : Option (Int × e_M)) (k : Int → e_M → Option α) : Option α := match w with
  | none => none
  | some q => k q.1 q.2
def f_t (w : Option ((Int ⊕ Nat) × e_M)) (k : Int → e_M → Option ((Int ⊕ Nat) × e_M)) : Option ((Int ⊕ Nat) × e_M) := match w with
  | none => none
  | some (.inl v, N) => k v N
  | some (.inr z, N) => some (.inr z, N)
theorem f_bs {α : Type} (v : Int) (N : e_M) (k : Int → e_M → Option α) : f_b (some (v, N)) k = k v N := rfl
theorem f_tl (v : Int) (N : e_M) (k : Int → e_M → Option ((Int ⊕ Nat) × e_M)) : f_t (some (.inl v, N)) k = k v N := rfl
theorem f_tr (z : Nat) (N : e_M) (k : Int → e_M → Option ((Int ⊕ Nat) × e_M)) : f_t (some (.inr z, N)) k = some (.inr z, N) := rfl
theorem f_bd {α : Type} {w : Option (Int × e_M)} {k : Int → e_M → Option α} {x : α} (h : f_b w k = some x) : ∃ v N, w = some (v, N) ∧ k v N = some x := by
  cases w with
  | none => cases h
  | some q => exact ⟨q.1, q.2, rfl, h⟩
theorem f_td {w : Option ((Int ⊕ Nat) × e_M)} {k : Int → e_M → Option ((Int ⊕ Nat) × e_M)} {x : (Int ⊕ Nat) × e_M} (h : f_t w k = some x) : (∃ v N, w = some (.inl v, N) ∧ k v N = some x) ∨ (∃ z N, w = some (.inr z, N) ∧ some (.inr z, N) = some x) := by
  match w, h with
  | some (.inl v, N), h => exact Or.inl ⟨v, N, rfl, h⟩
  | some (.inr z, N), h => exact Or.inr ⟨z, N, rfl, h⟩
theorem f_gd {α : Type} {c : Prop} {i : Decidable c} {a : Option α} {x : α} (h : (if c then a else none) = some x) : c ∧ a = some x := by
  by_cases q : c
  · rw [if_pos q] at h; exact ⟨q, h⟩
  · rw [if_neg q] at h; cases h
def f_oT (gn : Nat) (w : Int ⊕ Nat) (M : e_M) : e_O := match w with
  | .inl v => (.inl (some (.inl v)), (557, gn, e_RF, M))
  | .inr z => (.inr z, (557, gn + 1, e_RF, M))
def f_oL (gn : Nat) (w : Int ⊕ Nat) (M : e_M) : e_O := match w with
  | .inl v => (.inl (some (.inr (.inl v))), (557, gn, e_RF, M))
  | .inr z => (.inr z, (557, gn + 1, e_RF, M))
def f_oV (gn : Nat) (w : Int ⊕ Nat) (M : e_M) : e_O := match w with
  | .inl _ => (.inl none, (557, gn, e_RF, M))
  | .inr z => (.inr z, (557, gn + 1, e_RF, M))
theorem f_mn {gn : Nat} {M N : e_M} : e_mn (557, gn, e_RF, M) (557, gn, e_RF, N) := ⟨Nat.le_refl _, Nat.le_refl _⟩
theorem f_mnT {gn : Nat} {M N : e_M} {w : Int ⊕ Nat} : e_mn (557, gn, e_RF, M) (f_oT gn w N).2 := by
  cases w
  · exact ⟨Nat.le_refl _, Nat.le_refl _⟩
  · exact ⟨Nat.le_refl _, Nat.le_succ _⟩
theorem f_mnL {gn : Nat} {M N : e_M} {w : Int ⊕ Nat} : e_mn (557, gn, e_RF, M) (f_oL gn w N).2 := by
  cases w
  · exact ⟨Nat.le_refl _, Nat.le_refl _⟩
  · exact ⟨Nat.le_refl _, Nat.le_succ _⟩
theorem f_mnV {gn : Nat} {M N : e_M} {w : Int ⊕ Nat} : e_mn (557, gn, e_RF, M) (f_oV gn w N).2 := by
  cases w
  · exact ⟨Nat.le_refl _, Nat.le_refl _⟩
  · exact ⟨Nat.le_refl _, Nat.le_succ _⟩
theorem sb_57 {i : Int} (h0 : 0 ≤ i) (h1 : i < 3) : e_SH ((58 + 2 * i.toNat) + 1) = (20, 765) ∧ (58 + 2 * i.toNat) + 1 ≤ 557 ∧ (58 + 2 * i.toNat) + 1 ≠ 0 ∧ e_RF (58 + 2 * i.toNat) 0 = (58 + 2 * i.toNat) + 1 := by
  have h : ∀ j, j < 3 → e_SH ((58 + 2 * j) + 1) = (20, 765) ∧ (58 + 2 * j) + 1 ≤ 557 ∧ (58 + 2 * j) + 1 ≠ 0 ∧ e_RF (58 + 2 * j) 0 = (58 + 2 * j) + 1 := by decide +kernel
  exact h i.toNat (by omega)
def f_X10_refuseMissing (M : e_M) : Option ((Int ⊕ Nat) × e_M) := some (.inr 0, e_up M 1 16 (e_w (M 1 16 + 1)))
def f_X10_refuseArgument (M : e_M) : Option ((Int ⊕ Nat) × e_M) := some (.inr 1, e_up M 1 17 (e_w (M 1 17 + 1)))
theorem s_X10_refuseMissing {X : e_X} {d gn : Nat} {M M' : e_M} {v : Int ⊕ Nat} (h : f_X10_refuseMissing M = some (v, M')) : e_E X (d + 8) YX10_refuseMissing [.inr (.inr 1)] (557, gn, e_RF, M) (f_oV gn v M') := by
  cases h; exact c_refuseMissing M
theorem s_X10_refuseArgument {X : e_X} {d gn : Nat} {M M' : e_M} {v : Int ⊕ Nat} (h : f_X10_refuseArgument M = some (v, M')) : e_E X (d + 8) YX10_refuseArgument [.inr (.inr 1)] (557, gn, e_RF, M) (f_oV gn v M') := by
  cases h; exact c_refuseArgument M
