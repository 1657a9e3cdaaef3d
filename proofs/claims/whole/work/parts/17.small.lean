/-! CONTRACTS, 1: the small ones -/
abbrev k_S (gn : Nat) (M : e_M) : e_S := (557, gn, e_RF, M)
abbrev k_i (v : Int) : Option e_V ⊕ Nat := .inl (some (.inl v))
theorem k_le {gn : Nat} {M N : e_M} : e_mn (557, gn, e_RF, M) (557, gn, e_RF, N) := ⟨Nat.le_refl _, Nat.le_refl _⟩
theorem k_le1 {gn : Nat} {M N : e_M} : e_mn (557, gn, e_RF, M) (557, gn + 1, e_RF, N) := ⟨Nat.le_refl _, Nat.le_succ _⟩
section KS
variable {X : e_X} {d gn : Nat}
theorem c_needWithin {M : e_M} {a b c : Int} (h : b ≤ a ∧ a ≤ c) : e_E X (d + 1) YX10_needWithin [.inr (.inr 1), .inl a, .inl b, .inl c] (k_S gn M) (.inl none, k_S gn M) :=
  wp_X10_needWithin_0 M a b c ⟨fun q => absurd q (by omega), fun _ => ⟨fun _ => rfl, fun q => absurd h.2 q⟩⟩
theorem c_needWithinX {M : e_M} {a b c : Int} (h : ¬ (b ≤ a ∧ a ≤ c)) : e_E X (d + 9) YX10_needWithin [.inr (.inr 1), .inl a, .inl b, .inl c] (k_S gn M) (.inr 1, k_S (gn + 1) (e_up M 1 17 (e_w (M 1 17 + 1)))) := by
  have g : e_G X (d + 9) YX10_needWithin 10 [some (.inr (.inr 1)), some (.inl a), some (.inl b), some (.inl c)] [] (557, gn, e_RF, M) (.inr 1, k_S (gn + 1) (e_up M 1 17 (e_w (M 1 17 + 1)))) :=
    wp_X10_needWithin_10 M a b c k_le1 (Or.inr ⟨1, _, c_refuseArgument M, rfl⟩)
  exact wp_X10_needWithin_0 M a b c ⟨fun _ => g, fun q => ⟨fun z => absurd ⟨by omega, z⟩ h, fun _ => g⟩⟩
theorem c_needPerson {M : e_M} {a : Int} (h : 0 ≤ a ∧ a < M 4 0) : e_E X (d + 1) YX10_needPerson [.inr (.inr 1), .inl a] (k_S gn M) (.inl none, k_S gn M) :=
  wp_X10_needPerson_0 M a ⟨fun q => absurd q (by omega), fun _ => ⟨fun _ => rfl, fun q => absurd h.2 q⟩⟩
theorem c_needPersonX {M : e_M} {a : Int} (h : ¬ (0 ≤ a ∧ a < M 4 0)) : e_E X (d + 9) YX10_needPerson [.inr (.inr 1), .inl a] (k_S gn M) (.inr 0, k_S (gn + 1) (e_up M 1 16 (e_w (M 1 16 + 1)))) := by
  have g : e_G X (d + 9) YX10_needPerson 15 [some (.inr (.inr 1)), some (.inl a)] [] (557, gn, e_RF, M) (.inr 0, k_S (gn + 1) (e_up M 1 16 (e_w (M 1 16 + 1)))) :=
    wp_X10_needPerson_15 M a k_le1 (Or.inr ⟨0, _, c_refuseMissing M, rfl⟩)
  exact wp_X10_needPerson_0 M a ⟨fun _ => g, fun q => ⟨fun z => absurd ⟨by omega, z⟩ h, fun _ => g⟩⟩
end KS
