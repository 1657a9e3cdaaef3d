/-! THE LAW'S LOOP: an operation keeps a relation k between the two sides, and both answer alike -/
/-- an operation without exceptions -/
def k_o1 (X : e_X) (K : e_M → Prop) (Yx Ym : e_Y) (av : List e_V) : Prop := ∀ (gn : Nat) (M : e_M), K M → ∃ (v : Int) (M1 M2 : e_M),
  e_E X 400 Yx (.inr (.inr 1) :: av) (557, gn, e_RF, M) (.inl (some (.inl v)), (557, gn, e_RF, M1)) ∧ e_E X 400 Ym (.inr (.inr 64) :: av) (557, gn, e_RF, M1) (.inl (some (.inl v)), (557, gn, e_RF, M2)) ∧ K M2
/-- an operation with exceptions: cd z is what the law's helper answers when z is thrown; w wraps the answer -/
def k_o2 (X : e_X) (K : e_M → Prop) (w : Int → e_V) (Yx Ym : e_Y) (av : List e_V) (cd : Nat → Option Int) : Prop := ∀ (gn : Nat) (M : e_M), K M →
  (∃ (v : Int) (M1 M2 : e_M), e_E X 399 Yx (.inr (.inr 1) :: av) (557, gn, e_RF, M) (.inl (some (w v)), (557, gn, e_RF, M1)) ∧ e_E X 400 Ym (.inr (.inr 64) :: av) (557, gn, e_RF, e_up M1 557 0 v) (.inl (some (w v)), (557, gn, e_RF, M2)) ∧ M2 64 0 = 0 ∧ M2 557 0 = v ∧ K M2) ∨
  (∃ (z : Nat) (c b : Int) (M1 M2 : e_M), cd z = some c ∧ c ≠ 0 ∧ e_E X 399 Yx (.inr (.inr 1) :: av) (557, gn, e_RF, M) (.inr z, (557, gn + 1, e_RF, M1)) ∧ e_E X 400 Ym (.inr (.inr 64) :: av) (557, gn + 1, e_RF, M1) (.inl (some (w b)), (557, gn + 1, e_RF, M2)) ∧ M2 64 0 = c ∧ K M2)
/-- the same, the answer 0 or 1 -/
def k_oz (X : e_X) (K : e_M → Prop) (Yx Ym : e_Y) (av : List e_V) (cd : Nat → Option Int) : Prop := ∀ (gn : Nat) (M : e_M), K M →
  (∃ (v : Int) (M1 M2 : e_M), (v = 0 ∨ v = 1) ∧ e_E X 399 Yx (.inr (.inr 1) :: av) (557, gn, e_RF, M) (.inl (some (.inl v)), (557, gn, e_RF, M1)) ∧ e_E X 400 Ym (.inr (.inr 64) :: av) (557, gn, e_RF, e_up M1 557 0 v) (.inl (some (.inl v)), (557, gn, e_RF, M2)) ∧ M2 64 0 = 0 ∧ M2 557 0 = v ∧ K M2) ∨
  (∃ (z : Nat) (c b : Int) (M1 M2 : e_M), (b = 0 ∨ b = 1) ∧ cd z = some c ∧ c ≠ 0 ∧ e_E X 399 Yx (.inr (.inr 1) :: av) (557, gn, e_RF, M) (.inr z, (557, gn + 1, e_RF, M1)) ∧ e_E X 400 Ym (.inr (.inr 64) :: av) (557, gn + 1, e_RF, M1) (.inl (some (.inl b)), (557, gn + 1, e_RF, M2)) ∧ M2 64 0 = c ∧ K M2)
def k_c1 : Nat → Option Int
  | 1 => some 1
  | _ => none
def k_c0 : Nat → Option Int
  | 0 => some 1
  | _ => none
def k_c2 : Nat → Option Int
  | 0 => some 1
  | 1 => some 2
  | _ => none
section LL
variable {X : e_X} {K : e_M → Prop}
theorem ls_0 (h0 : ∀ i : Nat, k_o1 X K YX10_feed YX11_feed [.inl (k_xi X i 1), .inl (k_xi X i 2), .inl (k_xi X i 3), .inl (k_xi X i 4), .inl (k_xi X i 5)]) (hL : X.2.2.2.2.2.1 ≤ 4608) (hb : X.2.2.2.2.1 < (e_H0 X).size) {i gn : Nat} {M : e_M} (hi : i + 9 ≤ X.2.2.2.2.2.1) (hK : K M) : ∃ (g1 : Nat) (M2 : e_M), gn ≤ g1 ∧ g1 ≤ gn + 1 ∧ K M2 ∧ ∀ o : e_O, e_mn (557, g1, e_RF, M2) o.2 → e_G X 401 YL_law_ 2729 [some (.inr (.inr 999999)), some (.inr (.inr 1)), some (.inr (.inr 64)), some (.inr (.inr 557)), some (.inl (i : Int)), none, none, none] [] (557, g1, e_RF, M2) o → e_G X 401 YL_law_ 236 [some (.inr (.inr 999999)), some (.inr (.inr 1)), some (.inr (.inr 64)), some (.inr (.inr 557)), some (.inl (i : Int)), none, none, none] [] (557, gn, e_RF, M) o := by
  obtain ⟨v, M1, M2, hx, hm, h2⟩ := h0 i gn M hK
  exact ⟨gn, M2, Nat.le_refl _, Nat.le_succ _, h2, fun o hmo k9 => lc_0 hL hb hi (Nat.le_refl _) hmo hx hm k9⟩
theorem ls_1 (h0 : ∀ i : Nat, k_o2 X K (fun v => .inl v) YX10_town YX11_town [.inl (k_xi X i 1)] k_c1) (hL : X.2.2.2.2.2.1 ≤ 4608) (hb : X.2.2.2.2.1 < (e_H0 X).size) {i gn : Nat} {M : e_M} (hi : i + 9 ≤ X.2.2.2.2.2.1) (hK : K M) : ∃ (g1 : Nat) (M2 : e_M), gn ≤ g1 ∧ g1 ≤ gn + 1 ∧ K M2 ∧ ∀ o : e_O, e_mn (557, g1, e_RF, M2) o.2 → e_G X 401 YL_law_ 2729 [some (.inr (.inr 999999)), some (.inr (.inr 1)), some (.inr (.inr 64)), some (.inr (.inr 557)), some (.inl (i : Int)), none, none, none] [] (557, g1, e_RF, M2) o → e_G X 401 YL_law_ 309 [some (.inr (.inr 999999)), some (.inr (.inr 1)), some (.inr (.inr 64)), some (.inr (.inr 557)), some (.inl (i : Int)), none, none, none] [] (557, gn, e_RF, M) o := by
  rcases h0 i gn M hK with ⟨v, M1, M2, hx, hm, ht, ho, h3⟩ | ⟨z, c, b, M1, M2, hcd, hc0, hx, hm, ht, h3⟩
  · exact ⟨gn, M2, Nat.le_refl _, Nat.le_succ _, h3, fun o hmo k9 => lc_1 hL hb hi (Nat.le_refl _) hmo (hl_L_town hx) hm ht (fun _ => ho) k9⟩
  · match z, hcd with
    | 1, hcd =>
      cases hcd
      exact ⟨gn + 1, M2, Nat.le_succ _, Nat.le_refl _, h3, fun o hmo k9 => lc_1 hL hb hi (Nat.le_succ _) hmo (hx_L_town_1 hx) hm ht (fun q => absurd q hc0) k9⟩
theorem ls_2 (h0 : ∀ i : Nat, k_o2 X K (fun v => .inl v) YX10_law YX11_law [.inl (k_xi X i 1)] k_c1) (hL : X.2.2.2.2.2.1 ≤ 4608) (hb : X.2.2.2.2.1 < (e_H0 X).size) {i gn : Nat} {M : e_M} (hi : i + 9 ≤ X.2.2.2.2.2.1) (hK : K M) : ∃ (g1 : Nat) (M2 : e_M), gn ≤ g1 ∧ g1 ≤ gn + 1 ∧ K M2 ∧ ∀ o : e_O, e_mn (557, g1, e_RF, M2) o.2 → e_G X 401 YL_law_ 2729 [some (.inr (.inr 999999)), some (.inr (.inr 1)), some (.inr (.inr 64)), some (.inr (.inr 557)), some (.inl (i : Int)), none, none, none] [] (557, g1, e_RF, M2) o → e_G X 401 YL_law_ 365 [some (.inr (.inr 999999)), some (.inr (.inr 1)), some (.inr (.inr 64)), some (.inr (.inr 557)), some (.inl (i : Int)), none, none, none] [] (557, gn, e_RF, M) o := by
  rcases h0 i gn M hK with ⟨v, M1, M2, hx, hm, ht, ho, h3⟩ | ⟨z, c, b, M1, M2, hcd, hc0, hx, hm, ht, h3⟩
  · exact ⟨gn, M2, Nat.le_refl _, Nat.le_succ _, h3, fun o hmo k9 => lc_2 hL hb hi (Nat.le_refl _) hmo (hl_L_law hx) hm ht (fun _ => ho) k9⟩
  · match z, hcd with
    | 1, hcd =>
      cases hcd
      exact ⟨gn + 1, M2, Nat.le_succ _, Nat.le_refl _, h3, fun o hmo k9 => lc_2 hL hb hi (Nat.le_succ _) hmo (hx_L_law_1 hx) hm ht (fun q => absurd q hc0) k9⟩
theorem ls_3 (h0 : ∀ i : Nat, k_o2 X K (fun v => .inl v) YX10_work YX11_work [.inl (k_xi X i 1)] k_c1) (hL : X.2.2.2.2.2.1 ≤ 4608) (hb : X.2.2.2.2.1 < (e_H0 X).size) {i gn : Nat} {M : e_M} (hi : i + 9 ≤ X.2.2.2.2.2.1) (hK : K M) : ∃ (g1 : Nat) (M2 : e_M), gn ≤ g1 ∧ g1 ≤ gn + 1 ∧ K M2 ∧ ∀ o : e_O, e_mn (557, g1, e_RF, M2) o.2 → e_G X 401 YL_law_ 2729 [some (.inr (.inr 999999)), some (.inr (.inr 1)), some (.inr (.inr 64)), some (.inr (.inr 557)), some (.inl (i : Int)), none, none, none] [] (557, g1, e_RF, M2) o → e_G X 401 YL_law_ 421 [some (.inr (.inr 999999)), some (.inr (.inr 1)), some (.inr (.inr 64)), some (.inr (.inr 557)), some (.inl (i : Int)), none, none, none] [] (557, gn, e_RF, M) o := by
  rcases h0 i gn M hK with ⟨v, M1, M2, hx, hm, ht, ho, h3⟩ | ⟨z, c, b, M1, M2, hcd, hc0, hx, hm, ht, h3⟩
  · exact ⟨gn, M2, Nat.le_refl _, Nat.le_succ _, h3, fun o hmo k9 => lc_3 hL hb hi (Nat.le_refl _) hmo (hl_L_work hx) hm ht (fun _ => ho) k9⟩
  · match z, hcd with
    | 1, hcd =>
      cases hcd
      exact ⟨gn + 1, M2, Nat.le_succ _, Nat.le_refl _, h3, fun o hmo k9 => lc_3 hL hb hi (Nat.le_succ _) hmo (hx_L_work_1 hx) hm ht (fun q => absurd q hc0) k9⟩
theorem ls_4 (h0 : ∀ i : Nat, k_o2 X K (fun v => .inl v) YX10_book YX11_book [.inl (k_xi X i 1)] k_c1) (hL : X.2.2.2.2.2.1 ≤ 4608) (hb : X.2.2.2.2.1 < (e_H0 X).size) {i gn : Nat} {M : e_M} (hi : i + 9 ≤ X.2.2.2.2.2.1) (hK : K M) : ∃ (g1 : Nat) (M2 : e_M), gn ≤ g1 ∧ g1 ≤ gn + 1 ∧ K M2 ∧ ∀ o : e_O, e_mn (557, g1, e_RF, M2) o.2 → e_G X 401 YL_law_ 2729 [some (.inr (.inr 999999)), some (.inr (.inr 1)), some (.inr (.inr 64)), some (.inr (.inr 557)), some (.inl (i : Int)), none, none, none] [] (557, g1, e_RF, M2) o → e_G X 401 YL_law_ 477 [some (.inr (.inr 999999)), some (.inr (.inr 1)), some (.inr (.inr 64)), some (.inr (.inr 557)), some (.inl (i : Int)), none, none, none] [] (557, gn, e_RF, M) o := by
  rcases h0 i gn M hK with ⟨v, M1, M2, hx, hm, ht, ho, h3⟩ | ⟨z, c, b, M1, M2, hcd, hc0, hx, hm, ht, h3⟩
  · exact ⟨gn, M2, Nat.le_refl _, Nat.le_succ _, h3, fun o hmo k9 => lc_4 hL hb hi (Nat.le_refl _) hmo (hl_L_book hx) hm ht (fun _ => ho) k9⟩
  · match z, hcd with
    | 1, hcd =>
      cases hcd
      exact ⟨gn + 1, M2, Nat.le_succ _, Nat.le_refl _, h3, fun o hmo k9 => lc_4 hL hb hi (Nat.le_succ _) hmo (hx_L_book_1 hx) hm ht (fun q => absurd q hc0) k9⟩
theorem ls_5 (h0 : ∀ i : Nat, k_o1 X K YX10_fault YX11_fault []) (hL : X.2.2.2.2.2.1 ≤ 4608) (hb : X.2.2.2.2.1 < (e_H0 X).size) {i gn : Nat} {M : e_M} (hi : i + 9 ≤ X.2.2.2.2.2.1) (hK : K M) : ∃ (g1 : Nat) (M2 : e_M), gn ≤ g1 ∧ g1 ≤ gn + 1 ∧ K M2 ∧ ∀ o : e_O, e_mn (557, g1, e_RF, M2) o.2 → e_G X 401 YL_law_ 2729 [some (.inr (.inr 999999)), some (.inr (.inr 1)), some (.inr (.inr 64)), some (.inr (.inr 557)), some (.inl (i : Int)), none, none, none] [] (557, g1, e_RF, M2) o → e_G X 401 YL_law_ 533 [some (.inr (.inr 999999)), some (.inr (.inr 1)), some (.inr (.inr 64)), some (.inr (.inr 557)), some (.inl (i : Int)), none, none, none] [] (557, gn, e_RF, M) o := by
  obtain ⟨v, M1, M2, hx, hm, h2⟩ := h0 i gn M hK
  exact ⟨gn, M2, Nat.le_refl _, Nat.le_succ _, h2, fun o hmo k9 => lc_5 hL hb hi (Nat.le_refl _) hmo hx hm k9⟩
theorem ls_6 (h0 : ∀ i : Nat, k_o1 X K YX10_undo YX11_undo []) (hL : X.2.2.2.2.2.1 ≤ 4608) (hb : X.2.2.2.2.1 < (e_H0 X).size) {i gn : Nat} {M : e_M} (hi : i + 9 ≤ X.2.2.2.2.2.1) (hK : K M) : ∃ (g1 : Nat) (M2 : e_M), gn ≤ g1 ∧ g1 ≤ gn + 1 ∧ K M2 ∧ ∀ o : e_O, e_mn (557, g1, e_RF, M2) o.2 → e_G X 401 YL_law_ 2729 [some (.inr (.inr 999999)), some (.inr (.inr 1)), some (.inr (.inr 64)), some (.inr (.inr 557)), some (.inl (i : Int)), none, none, none] [] (557, g1, e_RF, M2) o → e_G X 401 YL_law_ 546 [some (.inr (.inr 999999)), some (.inr (.inr 1)), some (.inr (.inr 64)), some (.inr (.inr 557)), some (.inl (i : Int)), none, none, none] [] (557, gn, e_RF, M) o := by
  obtain ⟨v, M1, M2, hx, hm, h2⟩ := h0 i gn M hK
  exact ⟨gn, M2, Nat.le_refl _, Nat.le_succ _, h2, fun o hmo k9 => lc_6 hL hb hi (Nat.le_refl _) hmo hx hm k9⟩
theorem ls_7 (h0 : ∀ i : Nat, k_o2 X K (fun v => .inl v) YX10_told YX11_told [.inl (k_xi X i 1)] k_c1) (hL : X.2.2.2.2.2.1 ≤ 4608) (hb : X.2.2.2.2.1 < (e_H0 X).size) {i gn : Nat} {M : e_M} (hi : i + 9 ≤ X.2.2.2.2.2.1) (hK : K M) : ∃ (g1 : Nat) (M2 : e_M), gn ≤ g1 ∧ g1 ≤ gn + 1 ∧ K M2 ∧ ∀ o : e_O, e_mn (557, g1, e_RF, M2) o.2 → e_G X 401 YL_law_ 2729 [some (.inr (.inr 999999)), some (.inr (.inr 1)), some (.inr (.inr 64)), some (.inr (.inr 557)), some (.inl (i : Int)), none, none, none] [] (557, g1, e_RF, M2) o → e_G X 401 YL_law_ 559 [some (.inr (.inr 999999)), some (.inr (.inr 1)), some (.inr (.inr 64)), some (.inr (.inr 557)), some (.inl (i : Int)), none, none, none] [] (557, gn, e_RF, M) o := by
  rcases h0 i gn M hK with ⟨v, M1, M2, hx, hm, ht, ho, h3⟩ | ⟨z, c, b, M1, M2, hcd, hc0, hx, hm, ht, h3⟩
  · exact ⟨gn, M2, Nat.le_refl _, Nat.le_succ _, h3, fun o hmo k9 => lc_7 hL hb hi (Nat.le_refl _) hmo (hl_L_told hx) hm ht (fun _ => ho) k9⟩
  · match z, hcd with
    | 1, hcd =>
      cases hcd
      exact ⟨gn + 1, M2, Nat.le_succ _, Nat.le_refl _, h3, fun o hmo k9 => lc_7 hL hb hi (Nat.le_succ _) hmo (hx_L_told_1 hx) hm ht (fun q => absurd q hc0) k9⟩
theorem ls_8 (h0 : ∀ i : Nat, k_o2 X K (fun v => .inl v) YX10_person YX11_person [.inl (k_xi X i 1), .inl (k_xi X i 2)] k_c2) (hL : X.2.2.2.2.2.1 ≤ 4608) (hb : X.2.2.2.2.1 < (e_H0 X).size) {i gn : Nat} {M : e_M} (hi : i + 9 ≤ X.2.2.2.2.2.1) (hK : K M) : ∃ (g1 : Nat) (M2 : e_M), gn ≤ g1 ∧ g1 ≤ gn + 1 ∧ K M2 ∧ ∀ o : e_O, e_mn (557, g1, e_RF, M2) o.2 → e_G X 401 YL_law_ 2729 [some (.inr (.inr 999999)), some (.inr (.inr 1)), some (.inr (.inr 64)), some (.inr (.inr 557)), some (.inl (i : Int)), none, none, none] [] (557, g1, e_RF, M2) o → e_G X 401 YL_law_ 615 [some (.inr (.inr 999999)), some (.inr (.inr 1)), some (.inr (.inr 64)), some (.inr (.inr 557)), some (.inl (i : Int)), none, none, none] [] (557, gn, e_RF, M) o := by
  rcases h0 i gn M hK with ⟨v, M1, M2, hx, hm, ht, ho, h3⟩ | ⟨z, c, b, M1, M2, hcd, hc0, hx, hm, ht, h3⟩
  · exact ⟨gn, M2, Nat.le_refl _, Nat.le_succ _, h3, fun o hmo k9 => lc_8 hL hb hi (Nat.le_refl _) hmo (hl_L_person hx) hm ht (fun _ => ho) k9⟩
  · match z, hcd with
    | 0, hcd =>
      cases hcd
      exact ⟨gn + 1, M2, Nat.le_succ _, Nat.le_refl _, h3, fun o hmo k9 => lc_8 hL hb hi (Nat.le_succ _) hmo (hx_L_person_0 hx) hm ht (fun q => absurd q hc0) k9⟩
    | 1, hcd =>
      cases hcd
      exact ⟨gn + 1, M2, Nat.le_succ _, Nat.le_refl _, h3, fun o hmo k9 => lc_8 hL hb hi (Nat.le_succ _) hmo (hx_L_person_1 hx) hm ht (fun q => absurd q hc0) k9⟩
theorem ls_9 (h0 : ∀ i : Nat, k_o2 X K (fun v => .inl v) YX10_duty YX11_duty [.inl (k_xi X i 1), .inl (k_xi X i 2)] k_c2) (hL : X.2.2.2.2.2.1 ≤ 4608) (hb : X.2.2.2.2.1 < (e_H0 X).size) {i gn : Nat} {M : e_M} (hi : i + 9 ≤ X.2.2.2.2.2.1) (hK : K M) : ∃ (g1 : Nat) (M2 : e_M), gn ≤ g1 ∧ g1 ≤ gn + 1 ∧ K M2 ∧ ∀ o : e_O, e_mn (557, g1, e_RF, M2) o.2 → e_G X 401 YL_law_ 2729 [some (.inr (.inr 999999)), some (.inr (.inr 1)), some (.inr (.inr 64)), some (.inr (.inr 557)), some (.inl (i : Int)), none, none, none] [] (557, g1, e_RF, M2) o → e_G X 401 YL_law_ 683 [some (.inr (.inr 999999)), some (.inr (.inr 1)), some (.inr (.inr 64)), some (.inr (.inr 557)), some (.inl (i : Int)), none, none, none] [] (557, gn, e_RF, M) o := by
  rcases h0 i gn M hK with ⟨v, M1, M2, hx, hm, ht, ho, h3⟩ | ⟨z, c, b, M1, M2, hcd, hc0, hx, hm, ht, h3⟩
  · exact ⟨gn, M2, Nat.le_refl _, Nat.le_succ _, h3, fun o hmo k9 => lc_9 hL hb hi (Nat.le_refl _) hmo (hl_L_duty hx) hm ht (fun _ => ho) k9⟩
  · match z, hcd with
    | 0, hcd =>
      cases hcd
      exact ⟨gn + 1, M2, Nat.le_succ _, Nat.le_refl _, h3, fun o hmo k9 => lc_9 hL hb hi (Nat.le_succ _) hmo (hx_L_duty_0 hx) hm ht (fun q => absurd q hc0) k9⟩
    | 1, hcd =>
      cases hcd
      exact ⟨gn + 1, M2, Nat.le_succ _, Nat.le_refl _, h3, fun o hmo k9 => lc_9 hL hb hi (Nat.le_succ _) hmo (hx_L_duty_1 hx) hm ht (fun q => absurd q hc0) k9⟩
theorem ls_10 (h0 : ∀ i : Nat, k_o2 X K (fun v => .inl v) YX10_task YX11_task [.inl (k_xi X i 1), .inl (k_xi X i 2)] k_c2) (hL : X.2.2.2.2.2.1 ≤ 4608) (hb : X.2.2.2.2.1 < (e_H0 X).size) {i gn : Nat} {M : e_M} (hi : i + 9 ≤ X.2.2.2.2.2.1) (hK : K M) : ∃ (g1 : Nat) (M2 : e_M), gn ≤ g1 ∧ g1 ≤ gn + 1 ∧ K M2 ∧ ∀ o : e_O, e_mn (557, g1, e_RF, M2) o.2 → e_G X 401 YL_law_ 2729 [some (.inr (.inr 999999)), some (.inr (.inr 1)), some (.inr (.inr 64)), some (.inr (.inr 557)), some (.inl (i : Int)), none, none, none] [] (557, g1, e_RF, M2) o → e_G X 401 YL_law_ 751 [some (.inr (.inr 999999)), some (.inr (.inr 1)), some (.inr (.inr 64)), some (.inr (.inr 557)), some (.inl (i : Int)), none, none, none] [] (557, gn, e_RF, M) o := by
  rcases h0 i gn M hK with ⟨v, M1, M2, hx, hm, ht, ho, h3⟩ | ⟨z, c, b, M1, M2, hcd, hc0, hx, hm, ht, h3⟩
  · exact ⟨gn, M2, Nat.le_refl _, Nat.le_succ _, h3, fun o hmo k9 => lc_10 hL hb hi (Nat.le_refl _) hmo (hl_L_task hx) hm ht (fun _ => ho) k9⟩
  · match z, hcd with
    | 0, hcd =>
      cases hcd
      exact ⟨gn + 1, M2, Nat.le_succ _, Nat.le_refl _, h3, fun o hmo k9 => lc_10 hL hb hi (Nat.le_succ _) hmo (hx_L_task_0 hx) hm ht (fun q => absurd q hc0) k9⟩
    | 1, hcd =>
      cases hcd
      exact ⟨gn + 1, M2, Nat.le_succ _, Nat.le_refl _, h3, fun o hmo k9 => lc_10 hL hb hi (Nat.le_succ _) hmo (hx_L_task_1 hx) hm ht (fun q => absurd q hc0) k9⟩
theorem ls_11 (h0 : ∀ i : Nat, k_o2 X K (fun v => .inl v) YX10_price YX11_price [.inl (k_xi X i 1)] k_c0) (hL : X.2.2.2.2.2.1 ≤ 4608) (hb : X.2.2.2.2.1 < (e_H0 X).size) {i gn : Nat} {M : e_M} (hi : i + 9 ≤ X.2.2.2.2.2.1) (hK : K M) : ∃ (g1 : Nat) (M2 : e_M), gn ≤ g1 ∧ g1 ≤ gn + 1 ∧ K M2 ∧ ∀ o : e_O, e_mn (557, g1, e_RF, M2) o.2 → e_G X 401 YL_law_ 2729 [some (.inr (.inr 999999)), some (.inr (.inr 1)), some (.inr (.inr 64)), some (.inr (.inr 557)), some (.inl (i : Int)), none, none, none] [] (557, g1, e_RF, M2) o → e_G X 401 YL_law_ 819 [some (.inr (.inr 999999)), some (.inr (.inr 1)), some (.inr (.inr 64)), some (.inr (.inr 557)), some (.inl (i : Int)), none, none, none] [] (557, gn, e_RF, M) o := by
  rcases h0 i gn M hK with ⟨v, M1, M2, hx, hm, ht, ho, h3⟩ | ⟨z, c, b, M1, M2, hcd, hc0, hx, hm, ht, h3⟩
  · exact ⟨gn, M2, Nat.le_refl _, Nat.le_succ _, h3, fun o hmo k9 => lc_11 hL hb hi (Nat.le_refl _) hmo (hl_L_price hx) hm ht (fun _ => ho) k9⟩
  · match z, hcd with
    | 0, hcd =>
      cases hcd
      exact ⟨gn + 1, M2, Nat.le_succ _, Nat.le_refl _, h3, fun o hmo k9 => lc_11 hL hb hi (Nat.le_succ _) hmo (hx_L_price_0 hx) hm ht (fun q => absurd q hc0) k9⟩
theorem ls_12 (h0 : ∀ i : Nat, k_o2 X K (fun v => .inl v) YX10_would YX11_would [.inl (k_xi X i 1), .inl (k_xi X i 2), .inl (k_xi X i 3), .inl (k_xi X i 4), .inl (k_xi X i 5), .inl (k_xi X i 6), .inl (k_xi X i 7), .inl (k_xi X i 8)] k_c1) (hL : X.2.2.2.2.2.1 ≤ 4608) (hb : X.2.2.2.2.1 < (e_H0 X).size) {i gn : Nat} {M : e_M} (hi : i + 9 ≤ X.2.2.2.2.2.1) (hK : K M) : ∃ (g1 : Nat) (M2 : e_M), gn ≤ g1 ∧ g1 ≤ gn + 1 ∧ K M2 ∧ ∀ o : e_O, e_mn (557, g1, e_RF, M2) o.2 → e_G X 401 YL_law_ 2729 [some (.inr (.inr 999999)), some (.inr (.inr 1)), some (.inr (.inr 64)), some (.inr (.inr 557)), some (.inl (i : Int)), none, none, none] [] (557, g1, e_RF, M2) o → e_G X 401 YL_law_ 875 [some (.inr (.inr 999999)), some (.inr (.inr 1)), some (.inr (.inr 64)), some (.inr (.inr 557)), some (.inl (i : Int)), none, none, none] [] (557, gn, e_RF, M) o := by
  rcases h0 i gn M hK with ⟨v, M1, M2, hx, hm, ht, ho, h3⟩ | ⟨z, c, b, M1, M2, hcd, hc0, hx, hm, ht, h3⟩
  · exact ⟨gn, M2, Nat.le_refl _, Nat.le_succ _, h3, fun o hmo k9 => lc_12 hL hb hi (Nat.le_refl _) hmo (hl_L_would hx) hm ht (fun _ => ho) k9⟩
  · match z, hcd with
    | 1, hcd =>
      cases hcd
      exact ⟨gn + 1, M2, Nat.le_succ _, Nat.le_refl _, h3, fun o hmo k9 => lc_12 hL hb hi (Nat.le_succ _) hmo (hx_L_would_1 hx) hm ht (fun q => absurd q hc0) k9⟩
theorem ls_13 (h0 : ∀ i : Nat, k_oz X K YX10_can YX11_can [.inl (k_xi X i 1)] k_c0) (hL : X.2.2.2.2.2.1 ≤ 4608) (hb : X.2.2.2.2.1 < (e_H0 X).size) {i gn : Nat} {M : e_M} (hi : i + 9 ≤ X.2.2.2.2.2.1) (hK : K M) : ∃ (g1 : Nat) (M2 : e_M), gn ≤ g1 ∧ g1 ≤ gn + 1 ∧ K M2 ∧ ∀ o : e_O, e_mn (557, g1, e_RF, M2) o.2 → e_G X 401 YL_law_ 2729 [some (.inr (.inr 999999)), some (.inr (.inr 1)), some (.inr (.inr 64)), some (.inr (.inr 557)), some (.inl (i : Int)), none, none, none] [] (557, g1, e_RF, M2) o → e_G X 401 YL_law_ 1021 [some (.inr (.inr 999999)), some (.inr (.inr 1)), some (.inr (.inr 64)), some (.inr (.inr 557)), some (.inl (i : Int)), none, none, none] [] (557, gn, e_RF, M) o := by
  rcases h0 i gn M hK with ⟨v, M1, M2, hv01, hx, hm, ht, ho, h3⟩ | ⟨z, c, b, M1, M2, hb01, hcd, hc0, hx, hm, ht, h3⟩
  · exact ⟨gn, M2, Nat.le_refl _, Nat.le_succ _, h3, fun o hmo k9 => lc_13 hL hb hi (Nat.le_refl _) hmo (hl_L_can hv01 hx) hm hv01 ht (fun _ => ho) k9⟩
  · match z, hcd with
    | 0, hcd =>
      cases hcd
      exact ⟨gn + 1, M2, Nat.le_succ _, Nat.le_refl _, h3, fun o hmo k9 => lc_13 hL hb hi (Nat.le_succ _) hmo (hx_L_can_0 hx) hm hb01 ht (fun q => absurd q hc0) k9⟩
theorem ls_14 (h0 : ∀ i : Nat, k_o2 X K (fun v => .inl v) YX10_ahead YX11_ahead [.inl (k_xi X i 1), .inl (k_xi X i 2)] k_c1) (hL : X.2.2.2.2.2.1 ≤ 4608) (hb : X.2.2.2.2.1 < (e_H0 X).size) {i gn : Nat} {M : e_M} (hi : i + 9 ≤ X.2.2.2.2.2.1) (hK : K M) : ∃ (g1 : Nat) (M2 : e_M), gn ≤ g1 ∧ g1 ≤ gn + 1 ∧ K M2 ∧ ∀ o : e_O, e_mn (557, g1, e_RF, M2) o.2 → e_G X 401 YL_law_ 2729 [some (.inr (.inr 999999)), some (.inr (.inr 1)), some (.inr (.inr 64)), some (.inr (.inr 557)), some (.inl (i : Int)), none, none, none] [] (557, g1, e_RF, M2) o → e_G X 401 YL_law_ 1084 [some (.inr (.inr 999999)), some (.inr (.inr 1)), some (.inr (.inr 64)), some (.inr (.inr 557)), some (.inl (i : Int)), none, none, none] [] (557, gn, e_RF, M) o := by
  rcases h0 i gn M hK with ⟨v, M1, M2, hx, hm, ht, ho, h3⟩ | ⟨z, c, b, M1, M2, hcd, hc0, hx, hm, ht, h3⟩
  · exact ⟨gn, M2, Nat.le_refl _, Nat.le_succ _, h3, fun o hmo k9 => lc_14 hL hb hi (Nat.le_refl _) hmo (hl_L_ahead hx) hm ht (fun _ => ho) k9⟩
  · match z, hcd with
    | 1, hcd =>
      cases hcd
      exact ⟨gn + 1, M2, Nat.le_succ _, Nat.le_refl _, h3, fun o hmo k9 => lc_14 hL hb hi (Nat.le_succ _) hmo (hx_L_ahead_1 hx) hm ht (fun q => absurd q hc0) k9⟩
theorem ls_15 (h0 : ∀ i : Nat, k_o1 X K YX10_left YX11_left []) (hL : X.2.2.2.2.2.1 ≤ 4608) (hb : X.2.2.2.2.1 < (e_H0 X).size) {i gn : Nat} {M : e_M} (hi : i + 9 ≤ X.2.2.2.2.2.1) (hK : K M) : ∃ (g1 : Nat) (M2 : e_M), gn ≤ g1 ∧ g1 ≤ gn + 1 ∧ K M2 ∧ ∀ o : e_O, e_mn (557, g1, e_RF, M2) o.2 → e_G X 401 YL_law_ 2729 [some (.inr (.inr 999999)), some (.inr (.inr 1)), some (.inr (.inr 64)), some (.inr (.inr 557)), some (.inl (i : Int)), none, none, none] [] (557, g1, e_RF, M2) o → e_G X 401 YL_law_ 1152 [some (.inr (.inr 999999)), some (.inr (.inr 1)), some (.inr (.inr 64)), some (.inr (.inr 557)), some (.inl (i : Int)), none, none, none] [] (557, gn, e_RF, M) o := by
  obtain ⟨v, M1, M2, hx, hm, h2⟩ := h0 i gn M hK
  exact ⟨gn, M2, Nat.le_refl _, Nat.le_succ _, h2, fun o hmo k9 => lc_15 hL hb hi (Nat.le_refl _) hmo hx hm k9⟩
theorem ls_16 (h0 : ∀ i : Nat, k_o2 X K (fun v => .inl v) YX10_stay YX11_stay [.inl (k_xi X i 1)] k_c1) (hL : X.2.2.2.2.2.1 ≤ 4608) (hb : X.2.2.2.2.1 < (e_H0 X).size) {i gn : Nat} {M : e_M} (hi : i + 9 ≤ X.2.2.2.2.2.1) (hK : K M) : ∃ (g1 : Nat) (M2 : e_M), gn ≤ g1 ∧ g1 ≤ gn + 1 ∧ K M2 ∧ ∀ o : e_O, e_mn (557, g1, e_RF, M2) o.2 → e_G X 401 YL_law_ 2729 [some (.inr (.inr 999999)), some (.inr (.inr 1)), some (.inr (.inr 64)), some (.inr (.inr 557)), some (.inl (i : Int)), none, none, none] [] (557, g1, e_RF, M2) o → e_G X 401 YL_law_ 1165 [some (.inr (.inr 999999)), some (.inr (.inr 1)), some (.inr (.inr 64)), some (.inr (.inr 557)), some (.inl (i : Int)), none, none, none] [] (557, gn, e_RF, M) o := by
  rcases h0 i gn M hK with ⟨v, M1, M2, hx, hm, ht, ho, h3⟩ | ⟨z, c, b, M1, M2, hcd, hc0, hx, hm, ht, h3⟩
  · exact ⟨gn, M2, Nat.le_refl _, Nat.le_succ _, h3, fun o hmo k9 => lc_16 hL hb hi (Nat.le_refl _) hmo (hl_L_stay hx) hm ht (fun _ => ho) k9⟩
  · match z, hcd with
    | 1, hcd =>
      cases hcd
      exact ⟨gn + 1, M2, Nat.le_succ _, Nat.le_refl _, h3, fun o hmo k9 => lc_16 hL hb hi (Nat.le_succ _) hmo (hx_L_stay_1 hx) hm ht (fun q => absurd q hc0) k9⟩
theorem ls_17 (h0 : ∀ i : Nat, k_o1 X K YX10_given YX11_given []) (hL : X.2.2.2.2.2.1 ≤ 4608) (hb : X.2.2.2.2.1 < (e_H0 X).size) {i gn : Nat} {M : e_M} (hi : i + 9 ≤ X.2.2.2.2.2.1) (hK : K M) : ∃ (g1 : Nat) (M2 : e_M), gn ≤ g1 ∧ g1 ≤ gn + 1 ∧ K M2 ∧ ∀ o : e_O, e_mn (557, g1, e_RF, M2) o.2 → e_G X 401 YL_law_ 2729 [some (.inr (.inr 999999)), some (.inr (.inr 1)), some (.inr (.inr 64)), some (.inr (.inr 557)), some (.inl (i : Int)), none, none, none] [] (557, g1, e_RF, M2) o → e_G X 401 YL_law_ 1221 [some (.inr (.inr 999999)), some (.inr (.inr 1)), some (.inr (.inr 64)), some (.inr (.inr 557)), some (.inl (i : Int)), none, none, none] [] (557, gn, e_RF, M) o := by
  obtain ⟨v, M1, M2, hx, hm, h2⟩ := h0 i gn M hK
  exact ⟨gn, M2, Nat.le_refl _, Nat.le_succ _, h2, fun o hmo k9 => lc_17 hL hb hi (Nat.le_refl _) hmo hx hm k9⟩
theorem ls_18 (h0 : ∀ i : Nat, k_o2 X K (fun v => .inl v) YX10_giver YX11_giver [.inl (k_xi X i 1)] k_c0) (hL : X.2.2.2.2.2.1 ≤ 4608) (hb : X.2.2.2.2.1 < (e_H0 X).size) {i gn : Nat} {M : e_M} (hi : i + 9 ≤ X.2.2.2.2.2.1) (hK : K M) : ∃ (g1 : Nat) (M2 : e_M), gn ≤ g1 ∧ g1 ≤ gn + 1 ∧ K M2 ∧ ∀ o : e_O, e_mn (557, g1, e_RF, M2) o.2 → e_G X 401 YL_law_ 2729 [some (.inr (.inr 999999)), some (.inr (.inr 1)), some (.inr (.inr 64)), some (.inr (.inr 557)), some (.inl (i : Int)), none, none, none] [] (557, g1, e_RF, M2) o → e_G X 401 YL_law_ 1234 [some (.inr (.inr 999999)), some (.inr (.inr 1)), some (.inr (.inr 64)), some (.inr (.inr 557)), some (.inl (i : Int)), none, none, none] [] (557, gn, e_RF, M) o := by
  rcases h0 i gn M hK with ⟨v, M1, M2, hx, hm, ht, ho, h3⟩ | ⟨z, c, b, M1, M2, hcd, hc0, hx, hm, ht, h3⟩
  · exact ⟨gn, M2, Nat.le_refl _, Nat.le_succ _, h3, fun o hmo k9 => lc_18 hL hb hi (Nat.le_refl _) hmo (hl_L_giver hx) hm ht (fun _ => ho) k9⟩
  · match z, hcd with
    | 0, hcd =>
      cases hcd
      exact ⟨gn + 1, M2, Nat.le_succ _, Nat.le_refl _, h3, fun o hmo k9 => lc_18 hL hb hi (Nat.le_succ _) hmo (hx_L_giver_0 hx) hm ht (fun q => absurd q hc0) k9⟩
theorem ls_19 (h0 : ∀ i : Nat, k_o2 X K (fun v => .inl v) YX10_skips YX11_skips [.inl (k_xi X i 1), .inl (k_xi X i 2), .inl (k_xi X i 3)] k_c2) (hL : X.2.2.2.2.2.1 ≤ 4608) (hb : X.2.2.2.2.1 < (e_H0 X).size) {i gn : Nat} {M : e_M} (hi : i + 9 ≤ X.2.2.2.2.2.1) (hK : K M) : ∃ (g1 : Nat) (M2 : e_M), gn ≤ g1 ∧ g1 ≤ gn + 1 ∧ K M2 ∧ ∀ o : e_O, e_mn (557, g1, e_RF, M2) o.2 → e_G X 401 YL_law_ 2729 [some (.inr (.inr 999999)), some (.inr (.inr 1)), some (.inr (.inr 64)), some (.inr (.inr 557)), some (.inl (i : Int)), none, none, none] [] (557, g1, e_RF, M2) o → e_G X 401 YL_law_ 1290 [some (.inr (.inr 999999)), some (.inr (.inr 1)), some (.inr (.inr 64)), some (.inr (.inr 557)), some (.inl (i : Int)), none, none, none] [] (557, gn, e_RF, M) o := by
  rcases h0 i gn M hK with ⟨v, M1, M2, hx, hm, ht, ho, h3⟩ | ⟨z, c, b, M1, M2, hcd, hc0, hx, hm, ht, h3⟩
  · exact ⟨gn, M2, Nat.le_refl _, Nat.le_succ _, h3, fun o hmo k9 => lc_19 hL hb hi (Nat.le_refl _) hmo (hl_L_skips hx) hm ht (fun _ => ho) k9⟩
  · match z, hcd with
    | 0, hcd =>
      cases hcd
      exact ⟨gn + 1, M2, Nat.le_succ _, Nat.le_refl _, h3, fun o hmo k9 => lc_19 hL hb hi (Nat.le_succ _) hmo (hx_L_skips_0 hx) hm ht (fun q => absurd q hc0) k9⟩
    | 1, hcd =>
      cases hcd
      exact ⟨gn + 1, M2, Nat.le_succ _, Nat.le_refl _, h3, fun o hmo k9 => lc_19 hL hb hi (Nat.le_succ _) hmo (hx_L_skips_1 hx) hm ht (fun q => absurd q hc0) k9⟩
theorem ls_20 (h0 : ∀ i : Nat, k_o2 X K (fun v => .inl v) YX10_apart YX11_apart [.inl (k_xi X i 1), .inl (k_xi X i 2), .inl (k_xi X i 3)] k_c2) (hL : X.2.2.2.2.2.1 ≤ 4608) (hb : X.2.2.2.2.1 < (e_H0 X).size) {i gn : Nat} {M : e_M} (hi : i + 9 ≤ X.2.2.2.2.2.1) (hK : K M) : ∃ (g1 : Nat) (M2 : e_M), gn ≤ g1 ∧ g1 ≤ gn + 1 ∧ K M2 ∧ ∀ o : e_O, e_mn (557, g1, e_RF, M2) o.2 → e_G X 401 YL_law_ 2729 [some (.inr (.inr 999999)), some (.inr (.inr 1)), some (.inr (.inr 64)), some (.inr (.inr 557)), some (.inl (i : Int)), none, none, none] [] (557, g1, e_RF, M2) o → e_G X 401 YL_law_ 1370 [some (.inr (.inr 999999)), some (.inr (.inr 1)), some (.inr (.inr 64)), some (.inr (.inr 557)), some (.inl (i : Int)), none, none, none] [] (557, gn, e_RF, M) o := by
  rcases h0 i gn M hK with ⟨v, M1, M2, hx, hm, ht, ho, h3⟩ | ⟨z, c, b, M1, M2, hcd, hc0, hx, hm, ht, h3⟩
  · exact ⟨gn, M2, Nat.le_refl _, Nat.le_succ _, h3, fun o hmo k9 => lc_20 hL hb hi (Nat.le_refl _) hmo (hl_L_apart hx) hm ht (fun _ => ho) k9⟩
  · match z, hcd with
    | 0, hcd =>
      cases hcd
      exact ⟨gn + 1, M2, Nat.le_succ _, Nat.le_refl _, h3, fun o hmo k9 => lc_20 hL hb hi (Nat.le_succ _) hmo (hx_L_apart_0 hx) hm ht (fun q => absurd q hc0) k9⟩
    | 1, hcd =>
      cases hcd
      exact ⟨gn + 1, M2, Nat.le_succ _, Nat.le_refl _, h3, fun o hmo k9 => lc_20 hL hb hi (Nat.le_succ _) hmo (hx_L_apart_1 hx) hm ht (fun q => absurd q hc0) k9⟩
theorem ls_21 (h0 : ∀ i : Nat, k_o2 X K (fun v => .inl v) YX10_together YX11_together [.inl (k_xi X i 1), .inl (k_xi X i 2), .inl (k_xi X i 3)] k_c2) (hL : X.2.2.2.2.2.1 ≤ 4608) (hb : X.2.2.2.2.1 < (e_H0 X).size) {i gn : Nat} {M : e_M} (hi : i + 9 ≤ X.2.2.2.2.2.1) (hK : K M) : ∃ (g1 : Nat) (M2 : e_M), gn ≤ g1 ∧ g1 ≤ gn + 1 ∧ K M2 ∧ ∀ o : e_O, e_mn (557, g1, e_RF, M2) o.2 → e_G X 401 YL_law_ 2729 [some (.inr (.inr 999999)), some (.inr (.inr 1)), some (.inr (.inr 64)), some (.inr (.inr 557)), some (.inl (i : Int)), none, none, none] [] (557, g1, e_RF, M2) o → e_G X 401 YL_law_ 1450 [some (.inr (.inr 999999)), some (.inr (.inr 1)), some (.inr (.inr 64)), some (.inr (.inr 557)), some (.inl (i : Int)), none, none, none] [] (557, gn, e_RF, M) o := by
  rcases h0 i gn M hK with ⟨v, M1, M2, hx, hm, ht, ho, h3⟩ | ⟨z, c, b, M1, M2, hcd, hc0, hx, hm, ht, h3⟩
  · exact ⟨gn, M2, Nat.le_refl _, Nat.le_succ _, h3, fun o hmo k9 => lc_21 hL hb hi (Nat.le_refl _) hmo (hl_L_together hx) hm ht (fun _ => ho) k9⟩
  · match z, hcd with
    | 0, hcd =>
      cases hcd
      exact ⟨gn + 1, M2, Nat.le_succ _, Nat.le_refl _, h3, fun o hmo k9 => lc_21 hL hb hi (Nat.le_succ _) hmo (hx_L_together_0 hx) hm ht (fun q => absurd q hc0) k9⟩
    | 1, hcd =>
      cases hcd
      exact ⟨gn + 1, M2, Nat.le_succ _, Nat.le_refl _, h3, fun o hmo k9 => lc_21 hL hb hi (Nat.le_succ _) hmo (hx_L_together_1 hx) hm ht (fun q => absurd q hc0) k9⟩
theorem ls_22 (h0 : ∀ i : Nat, k_o2 X K (fun v => .inr (.inl v)) YX10_met YX11_met [.inl (k_xi X i 1), .inl (k_xi X i 2), .inl (k_xi X i 3)] k_c1) (hL : X.2.2.2.2.2.1 ≤ 4608) (hb : X.2.2.2.2.1 < (e_H0 X).size) {i gn : Nat} {M : e_M} (hi : i + 9 ≤ X.2.2.2.2.2.1) (hK : K M) : ∃ (g1 : Nat) (M2 : e_M), gn ≤ g1 ∧ g1 ≤ gn + 1 ∧ K M2 ∧ ∀ o : e_O, e_mn (557, g1, e_RF, M2) o.2 → e_G X 401 YL_law_ 2729 [some (.inr (.inr 999999)), some (.inr (.inr 1)), some (.inr (.inr 64)), some (.inr (.inr 557)), some (.inl (i : Int)), none, none, none] [] (557, g1, e_RF, M2) o → e_G X 401 YL_law_ 1530 [some (.inr (.inr 999999)), some (.inr (.inr 1)), some (.inr (.inr 64)), some (.inr (.inr 557)), some (.inl (i : Int)), none, none, none] [] (557, gn, e_RF, M) o := by
  rcases h0 i gn M hK with ⟨v, M1, M2, hx, hm, ht, ho, h3⟩ | ⟨z, c, b, M1, M2, hcd, hc0, hx, hm, ht, h3⟩
  · exact ⟨gn, M2, Nat.le_refl _, Nat.le_succ _, h3, fun o hmo k9 => lc_22 hL hb hi (Nat.le_refl _) hmo (hl_L_met hx) hm ht (fun _ => ho) k9⟩
  · match z, hcd with
    | 1, hcd =>
      cases hcd
      exact ⟨gn + 1, M2, Nat.le_succ _, Nat.le_refl _, h3, fun o hmo k9 => lc_22 hL hb hi (Nat.le_succ _) hmo (hx_L_met_1 hx) hm ht (fun q => absurd q hc0) k9⟩
theorem ls_23 (h0 : ∀ i : Nat, k_o2 X K (fun v => .inl v) YX10_open YX11_open [.inl (k_xi X i 1), .inl (k_xi X i 2), .inl (k_xi X i 3)] k_c1) (hL : X.2.2.2.2.2.1 ≤ 4608) (hb : X.2.2.2.2.1 < (e_H0 X).size) {i gn : Nat} {M : e_M} (hi : i + 9 ≤ X.2.2.2.2.2.1) (hK : K M) : ∃ (g1 : Nat) (M2 : e_M), gn ≤ g1 ∧ g1 ≤ gn + 1 ∧ K M2 ∧ ∀ o : e_O, e_mn (557, g1, e_RF, M2) o.2 → e_G X 401 YL_law_ 2729 [some (.inr (.inr 999999)), some (.inr (.inr 1)), some (.inr (.inr 64)), some (.inr (.inr 557)), some (.inl (i : Int)), none, none, none] [] (557, g1, e_RF, M2) o → e_G X 401 YL_law_ 1609 [some (.inr (.inr 999999)), some (.inr (.inr 1)), some (.inr (.inr 64)), some (.inr (.inr 557)), some (.inl (i : Int)), none, none, none] [] (557, gn, e_RF, M) o := by
  rcases h0 i gn M hK with ⟨v, M1, M2, hx, hm, ht, ho, h3⟩ | ⟨z, c, b, M1, M2, hcd, hc0, hx, hm, ht, h3⟩
  · exact ⟨gn, M2, Nat.le_refl _, Nat.le_succ _, h3, fun o hmo k9 => lc_23 hL hb hi (Nat.le_refl _) hmo (hl_L_open hx) hm ht (fun _ => ho) k9⟩
  · match z, hcd with
    | 1, hcd =>
      cases hcd
      exact ⟨gn + 1, M2, Nat.le_succ _, Nat.le_refl _, h3, fun o hmo k9 => lc_23 hL hb hi (Nat.le_succ _) hmo (hx_L_open_1 hx) hm ht (fun q => absurd q hc0) k9⟩
theorem ls_24 (h0 : ∀ i : Nat, k_o2 X K (fun v => .inl v) YX10_share YX11_share [.inl (k_xi X i 1), .inl (k_xi X i 2), .inl (k_xi X i 3)] k_c2) (hL : X.2.2.2.2.2.1 ≤ 4608) (hb : X.2.2.2.2.1 < (e_H0 X).size) {i gn : Nat} {M : e_M} (hi : i + 9 ≤ X.2.2.2.2.2.1) (hK : K M) : ∃ (g1 : Nat) (M2 : e_M), gn ≤ g1 ∧ g1 ≤ gn + 1 ∧ K M2 ∧ ∀ o : e_O, e_mn (557, g1, e_RF, M2) o.2 → e_G X 401 YL_law_ 2729 [some (.inr (.inr 999999)), some (.inr (.inr 1)), some (.inr (.inr 64)), some (.inr (.inr 557)), some (.inl (i : Int)), none, none, none] [] (557, g1, e_RF, M2) o → e_G X 401 YL_law_ 1689 [some (.inr (.inr 999999)), some (.inr (.inr 1)), some (.inr (.inr 64)), some (.inr (.inr 557)), some (.inl (i : Int)), none, none, none] [] (557, gn, e_RF, M) o := by
  rcases h0 i gn M hK with ⟨v, M1, M2, hx, hm, ht, ho, h3⟩ | ⟨z, c, b, M1, M2, hcd, hc0, hx, hm, ht, h3⟩
  · exact ⟨gn, M2, Nat.le_refl _, Nat.le_succ _, h3, fun o hmo k9 => lc_24 hL hb hi (Nat.le_refl _) hmo (hl_L_share hx) hm ht (fun _ => ho) k9⟩
  · match z, hcd with
    | 0, hcd =>
      cases hcd
      exact ⟨gn + 1, M2, Nat.le_succ _, Nat.le_refl _, h3, fun o hmo k9 => lc_24 hL hb hi (Nat.le_succ _) hmo (hx_L_share_0 hx) hm ht (fun q => absurd q hc0) k9⟩
    | 1, hcd =>
      cases hcd
      exact ⟨gn + 1, M2, Nat.le_succ _, Nat.le_refl _, h3, fun o hmo k9 => lc_24 hL hb hi (Nat.le_succ _) hmo (hx_L_share_1 hx) hm ht (fun q => absurd q hc0) k9⟩
theorem ls_25 (h0 : ∀ i : Nat, k_o2 X K (fun v => .inl v) YX10_youngest YX11_youngest [.inl (k_xi X i 1)] k_c1) (hL : X.2.2.2.2.2.1 ≤ 4608) (hb : X.2.2.2.2.1 < (e_H0 X).size) {i gn : Nat} {M : e_M} (hi : i + 9 ≤ X.2.2.2.2.2.1) (hK : K M) : ∃ (g1 : Nat) (M2 : e_M), gn ≤ g1 ∧ g1 ≤ gn + 1 ∧ K M2 ∧ ∀ o : e_O, e_mn (557, g1, e_RF, M2) o.2 → e_G X 401 YL_law_ 2729 [some (.inr (.inr 999999)), some (.inr (.inr 1)), some (.inr (.inr 64)), some (.inr (.inr 557)), some (.inl (i : Int)), none, none, none] [] (557, g1, e_RF, M2) o → e_G X 401 YL_law_ 1769 [some (.inr (.inr 999999)), some (.inr (.inr 1)), some (.inr (.inr 64)), some (.inr (.inr 557)), some (.inl (i : Int)), none, none, none] [] (557, gn, e_RF, M) o := by
  rcases h0 i gn M hK with ⟨v, M1, M2, hx, hm, ht, ho, h3⟩ | ⟨z, c, b, M1, M2, hcd, hc0, hx, hm, ht, h3⟩
  · exact ⟨gn, M2, Nat.le_refl _, Nat.le_succ _, h3, fun o hmo k9 => lc_25 hL hb hi (Nat.le_refl _) hmo (hl_L_youngest hx) hm ht (fun _ => ho) k9⟩
  · match z, hcd with
    | 1, hcd =>
      cases hcd
      exact ⟨gn + 1, M2, Nat.le_succ _, Nat.le_refl _, h3, fun o hmo k9 => lc_25 hL hb hi (Nat.le_succ _) hmo (hx_L_youngest_1 hx) hm ht (fun q => absurd q hc0) k9⟩
theorem ls_26 (h0 : ∀ i : Nat, k_o2 X K (fun v => .inl v) YX10_next YX11_next [.inl (k_xi X i 1), .inl (k_xi X i 2)] k_c2) (hL : X.2.2.2.2.2.1 ≤ 4608) (hb : X.2.2.2.2.1 < (e_H0 X).size) {i gn : Nat} {M : e_M} (hi : i + 9 ≤ X.2.2.2.2.2.1) (hK : K M) : ∃ (g1 : Nat) (M2 : e_M), gn ≤ g1 ∧ g1 ≤ gn + 1 ∧ K M2 ∧ ∀ o : e_O, e_mn (557, g1, e_RF, M2) o.2 → e_G X 401 YL_law_ 2729 [some (.inr (.inr 999999)), some (.inr (.inr 1)), some (.inr (.inr 64)), some (.inr (.inr 557)), some (.inl (i : Int)), none, none, none] [] (557, g1, e_RF, M2) o → e_G X 401 YL_law_ 1825 [some (.inr (.inr 999999)), some (.inr (.inr 1)), some (.inr (.inr 64)), some (.inr (.inr 557)), some (.inl (i : Int)), none, none, none] [] (557, gn, e_RF, M) o := by
  rcases h0 i gn M hK with ⟨v, M1, M2, hx, hm, ht, ho, h3⟩ | ⟨z, c, b, M1, M2, hcd, hc0, hx, hm, ht, h3⟩
  · exact ⟨gn, M2, Nat.le_refl _, Nat.le_succ _, h3, fun o hmo k9 => lc_26 hL hb hi (Nat.le_refl _) hmo (hl_L_next hx) hm ht (fun _ => ho) k9⟩
  · match z, hcd with
    | 0, hcd =>
      cases hcd
      exact ⟨gn + 1, M2, Nat.le_succ _, Nat.le_refl _, h3, fun o hmo k9 => lc_26 hL hb hi (Nat.le_succ _) hmo (hx_L_next_0 hx) hm ht (fun q => absurd q hc0) k9⟩
    | 1, hcd =>
      cases hcd
      exact ⟨gn + 1, M2, Nat.le_succ _, Nat.le_refl _, h3, fun o hmo k9 => lc_26 hL hb hi (Nat.le_succ _) hmo (hx_L_next_1 hx) hm ht (fun q => absurd q hc0) k9⟩
theorem ls_27 (h0 : ∀ i : Nat, k_o1 X K YX10_missed YX11_missed []) (hL : X.2.2.2.2.2.1 ≤ 4608) (hb : X.2.2.2.2.1 < (e_H0 X).size) {i gn : Nat} {M : e_M} (hi : i + 9 ≤ X.2.2.2.2.2.1) (hK : K M) : ∃ (g1 : Nat) (M2 : e_M), gn ≤ g1 ∧ g1 ≤ gn + 1 ∧ K M2 ∧ ∀ o : e_O, e_mn (557, g1, e_RF, M2) o.2 → e_G X 401 YL_law_ 2729 [some (.inr (.inr 999999)), some (.inr (.inr 1)), some (.inr (.inr 64)), some (.inr (.inr 557)), some (.inl (i : Int)), none, none, none] [] (557, g1, e_RF, M2) o → e_G X 401 YL_law_ 1893 [some (.inr (.inr 999999)), some (.inr (.inr 1)), some (.inr (.inr 64)), some (.inr (.inr 557)), some (.inl (i : Int)), none, none, none] [] (557, gn, e_RF, M) o := by
  obtain ⟨v, M1, M2, hx, hm, h2⟩ := h0 i gn M hK
  exact ⟨gn, M2, Nat.le_refl _, Nat.le_succ _, h2, fun o hmo k9 => lc_27 hL hb hi (Nat.le_refl _) hmo hx hm k9⟩
theorem ls_28 (h0 : ∀ i : Nat, k_o1 X K YX10_due YX11_due []) (hL : X.2.2.2.2.2.1 ≤ 4608) (hb : X.2.2.2.2.1 < (e_H0 X).size) {i gn : Nat} {M : e_M} (hi : i + 9 ≤ X.2.2.2.2.2.1) (hK : K M) : ∃ (g1 : Nat) (M2 : e_M), gn ≤ g1 ∧ g1 ≤ gn + 1 ∧ K M2 ∧ ∀ o : e_O, e_mn (557, g1, e_RF, M2) o.2 → e_G X 401 YL_law_ 2729 [some (.inr (.inr 999999)), some (.inr (.inr 1)), some (.inr (.inr 64)), some (.inr (.inr 557)), some (.inl (i : Int)), none, none, none] [] (557, g1, e_RF, M2) o → e_G X 401 YL_law_ 1906 [some (.inr (.inr 999999)), some (.inr (.inr 1)), some (.inr (.inr 64)), some (.inr (.inr 557)), some (.inl (i : Int)), none, none, none] [] (557, gn, e_RF, M) o := by
  obtain ⟨v, M1, M2, hx, hm, h2⟩ := h0 i gn M hK
  exact ⟨gn, M2, Nat.le_refl _, Nat.le_succ _, h2, fun o hmo k9 => lc_28 hL hb hi (Nat.le_refl _) hmo hx hm k9⟩
theorem ls_29 (h0 : ∀ i : Nat, k_o1 X K YX10_lone YX11_lone []) (hL : X.2.2.2.2.2.1 ≤ 4608) (hb : X.2.2.2.2.1 < (e_H0 X).size) {i gn : Nat} {M : e_M} (hi : i + 9 ≤ X.2.2.2.2.2.1) (hK : K M) : ∃ (g1 : Nat) (M2 : e_M), gn ≤ g1 ∧ g1 ≤ gn + 1 ∧ K M2 ∧ ∀ o : e_O, e_mn (557, g1, e_RF, M2) o.2 → e_G X 401 YL_law_ 2729 [some (.inr (.inr 999999)), some (.inr (.inr 1)), some (.inr (.inr 64)), some (.inr (.inr 557)), some (.inl (i : Int)), none, none, none] [] (557, g1, e_RF, M2) o → e_G X 401 YL_law_ 1919 [some (.inr (.inr 999999)), some (.inr (.inr 1)), some (.inr (.inr 64)), some (.inr (.inr 557)), some (.inl (i : Int)), none, none, none] [] (557, gn, e_RF, M) o := by
  obtain ⟨v, M1, M2, hx, hm, h2⟩ := h0 i gn M hK
  exact ⟨gn, M2, Nat.le_refl _, Nat.le_succ _, h2, fun o hmo k9 => lc_29 hL hb hi (Nat.le_refl _) hmo hx hm k9⟩
theorem ls_30 (h0 : ∀ i : Nat, k_o2 X K (fun v => .inl v) YX10_debt YX11_debt [.inl (k_xi X i 1)] k_c0) (hL : X.2.2.2.2.2.1 ≤ 4608) (hb : X.2.2.2.2.1 < (e_H0 X).size) {i gn : Nat} {M : e_M} (hi : i + 9 ≤ X.2.2.2.2.2.1) (hK : K M) : ∃ (g1 : Nat) (M2 : e_M), gn ≤ g1 ∧ g1 ≤ gn + 1 ∧ K M2 ∧ ∀ o : e_O, e_mn (557, g1, e_RF, M2) o.2 → e_G X 401 YL_law_ 2729 [some (.inr (.inr 999999)), some (.inr (.inr 1)), some (.inr (.inr 64)), some (.inr (.inr 557)), some (.inl (i : Int)), none, none, none] [] (557, g1, e_RF, M2) o → e_G X 401 YL_law_ 1932 [some (.inr (.inr 999999)), some (.inr (.inr 1)), some (.inr (.inr 64)), some (.inr (.inr 557)), some (.inl (i : Int)), none, none, none] [] (557, gn, e_RF, M) o := by
  rcases h0 i gn M hK with ⟨v, M1, M2, hx, hm, ht, ho, h3⟩ | ⟨z, c, b, M1, M2, hcd, hc0, hx, hm, ht, h3⟩
  · exact ⟨gn, M2, Nat.le_refl _, Nat.le_succ _, h3, fun o hmo k9 => lc_30 hL hb hi (Nat.le_refl _) hmo (hl_L_debt hx) hm ht (fun _ => ho) k9⟩
  · match z, hcd with
    | 0, hcd =>
      cases hcd
      exact ⟨gn + 1, M2, Nat.le_succ _, Nat.le_refl _, h3, fun o hmo k9 => lc_30 hL hb hi (Nat.le_succ _) hmo (hx_L_debt_0 hx) hm ht (fun q => absurd q hc0) k9⟩
theorem ls_31 (h0 : ∀ i : Nat, k_o2 X K (fun v => .inl v) YX10_spare YX11_spare [.inl (k_xi X i 1), .inl (k_xi X i 2)] k_c2) (hL : X.2.2.2.2.2.1 ≤ 4608) (hb : X.2.2.2.2.1 < (e_H0 X).size) {i gn : Nat} {M : e_M} (hi : i + 9 ≤ X.2.2.2.2.2.1) (hK : K M) : ∃ (g1 : Nat) (M2 : e_M), gn ≤ g1 ∧ g1 ≤ gn + 1 ∧ K M2 ∧ ∀ o : e_O, e_mn (557, g1, e_RF, M2) o.2 → e_G X 401 YL_law_ 2729 [some (.inr (.inr 999999)), some (.inr (.inr 1)), some (.inr (.inr 64)), some (.inr (.inr 557)), some (.inl (i : Int)), none, none, none] [] (557, g1, e_RF, M2) o → e_G X 401 YL_law_ 1988 [some (.inr (.inr 999999)), some (.inr (.inr 1)), some (.inr (.inr 64)), some (.inr (.inr 557)), some (.inl (i : Int)), none, none, none] [] (557, gn, e_RF, M) o := by
  rcases h0 i gn M hK with ⟨v, M1, M2, hx, hm, ht, ho, h3⟩ | ⟨z, c, b, M1, M2, hcd, hc0, hx, hm, ht, h3⟩
  · exact ⟨gn, M2, Nat.le_refl _, Nat.le_succ _, h3, fun o hmo k9 => lc_31 hL hb hi (Nat.le_refl _) hmo (hl_L_spare hx) hm ht (fun _ => ho) k9⟩
  · match z, hcd with
    | 0, hcd =>
      cases hcd
      exact ⟨gn + 1, M2, Nat.le_succ _, Nat.le_refl _, h3, fun o hmo k9 => lc_31 hL hb hi (Nat.le_succ _) hmo (hx_L_spare_0 hx) hm ht (fun q => absurd q hc0) k9⟩
    | 1, hcd =>
      cases hcd
      exact ⟨gn + 1, M2, Nat.le_succ _, Nat.le_refl _, h3, fun o hmo k9 => lc_31 hL hb hi (Nat.le_succ _) hmo (hx_L_spare_1 hx) hm ht (fun q => absurd q hc0) k9⟩
theorem ls_32 (h0 : ∀ i : Nat, k_o2 X K (fun v => .inl v) YX10_cheapest YX11_cheapest [.inl (k_xi X i 1)] k_c1) (hL : X.2.2.2.2.2.1 ≤ 4608) (hb : X.2.2.2.2.1 < (e_H0 X).size) {i gn : Nat} {M : e_M} (hi : i + 9 ≤ X.2.2.2.2.2.1) (hK : K M) : ∃ (g1 : Nat) (M2 : e_M), gn ≤ g1 ∧ g1 ≤ gn + 1 ∧ K M2 ∧ ∀ o : e_O, e_mn (557, g1, e_RF, M2) o.2 → e_G X 401 YL_law_ 2729 [some (.inr (.inr 999999)), some (.inr (.inr 1)), some (.inr (.inr 64)), some (.inr (.inr 557)), some (.inl (i : Int)), none, none, none] [] (557, g1, e_RF, M2) o → e_G X 401 YL_law_ 2056 [some (.inr (.inr 999999)), some (.inr (.inr 1)), some (.inr (.inr 64)), some (.inr (.inr 557)), some (.inl (i : Int)), none, none, none] [] (557, gn, e_RF, M) o := by
  rcases h0 i gn M hK with ⟨v, M1, M2, hx, hm, ht, ho, h3⟩ | ⟨z, c, b, M1, M2, hcd, hc0, hx, hm, ht, h3⟩
  · exact ⟨gn, M2, Nat.le_refl _, Nat.le_succ _, h3, fun o hmo k9 => lc_32 hL hb hi (Nat.le_refl _) hmo (hl_L_cheapest hx) hm ht (fun _ => ho) k9⟩
  · match z, hcd with
    | 1, hcd =>
      cases hcd
      exact ⟨gn + 1, M2, Nat.le_succ _, Nat.le_refl _, h3, fun o hmo k9 => lc_32 hL hb hi (Nat.le_succ _) hmo (hx_L_cheapest_1 hx) hm ht (fun q => absurd q hc0) k9⟩
theorem ls_33 (h0 : ∀ i : Nat, k_o2 X K (fun v => .inl v) YX10_crowd YX11_crowd [.inl (k_xi X i 1)] k_c1) (hL : X.2.2.2.2.2.1 ≤ 4608) (hb : X.2.2.2.2.1 < (e_H0 X).size) {i gn : Nat} {M : e_M} (hi : i + 9 ≤ X.2.2.2.2.2.1) (hK : K M) : ∃ (g1 : Nat) (M2 : e_M), gn ≤ g1 ∧ g1 ≤ gn + 1 ∧ K M2 ∧ ∀ o : e_O, e_mn (557, g1, e_RF, M2) o.2 → e_G X 401 YL_law_ 2729 [some (.inr (.inr 999999)), some (.inr (.inr 1)), some (.inr (.inr 64)), some (.inr (.inr 557)), some (.inl (i : Int)), none, none, none] [] (557, g1, e_RF, M2) o → e_G X 401 YL_law_ 2112 [some (.inr (.inr 999999)), some (.inr (.inr 1)), some (.inr (.inr 64)), some (.inr (.inr 557)), some (.inl (i : Int)), none, none, none] [] (557, gn, e_RF, M) o := by
  rcases h0 i gn M hK with ⟨v, M1, M2, hx, hm, ht, ho, h3⟩ | ⟨z, c, b, M1, M2, hcd, hc0, hx, hm, ht, h3⟩
  · exact ⟨gn, M2, Nat.le_refl _, Nat.le_succ _, h3, fun o hmo k9 => lc_33 hL hb hi (Nat.le_refl _) hmo (hl_L_crowd hx) hm ht (fun _ => ho) k9⟩
  · match z, hcd with
    | 1, hcd =>
      cases hcd
      exact ⟨gn + 1, M2, Nat.le_succ _, Nat.le_refl _, h3, fun o hmo k9 => lc_33 hL hb hi (Nat.le_succ _) hmo (hx_L_crowd_1 hx) hm ht (fun q => absurd q hc0) k9⟩
theorem ls_34 (h0 : ∀ i : Nat, k_o1 X K YX10_rush YX11_rush []) (hL : X.2.2.2.2.2.1 ≤ 4608) (hb : X.2.2.2.2.1 < (e_H0 X).size) {i gn : Nat} {M : e_M} (hi : i + 9 ≤ X.2.2.2.2.2.1) (hK : K M) : ∃ (g1 : Nat) (M2 : e_M), gn ≤ g1 ∧ g1 ≤ gn + 1 ∧ K M2 ∧ ∀ o : e_O, e_mn (557, g1, e_RF, M2) o.2 → e_G X 401 YL_law_ 2729 [some (.inr (.inr 999999)), some (.inr (.inr 1)), some (.inr (.inr 64)), some (.inr (.inr 557)), some (.inl (i : Int)), none, none, none] [] (557, g1, e_RF, M2) o → e_G X 401 YL_law_ 2168 [some (.inr (.inr 999999)), some (.inr (.inr 1)), some (.inr (.inr 64)), some (.inr (.inr 557)), some (.inl (i : Int)), none, none, none] [] (557, gn, e_RF, M) o := by
  obtain ⟨v, M1, M2, hx, hm, h2⟩ := h0 i gn M hK
  exact ⟨gn, M2, Nat.le_refl _, Nat.le_succ _, h2, fun o hmo k9 => lc_34 hL hb hi (Nat.le_refl _) hmo hx hm k9⟩
theorem ls_35 (h0 : ∀ i : Nat, k_o2 X K (fun v => .inl v) YX10_clear YX11_clear [.inl (k_xi X i 1), .inl (k_xi X i 2)] k_c2) (hL : X.2.2.2.2.2.1 ≤ 4608) (hb : X.2.2.2.2.1 < (e_H0 X).size) {i gn : Nat} {M : e_M} (hi : i + 9 ≤ X.2.2.2.2.2.1) (hK : K M) : ∃ (g1 : Nat) (M2 : e_M), gn ≤ g1 ∧ g1 ≤ gn + 1 ∧ K M2 ∧ ∀ o : e_O, e_mn (557, g1, e_RF, M2) o.2 → e_G X 401 YL_law_ 2729 [some (.inr (.inr 999999)), some (.inr (.inr 1)), some (.inr (.inr 64)), some (.inr (.inr 557)), some (.inl (i : Int)), none, none, none] [] (557, g1, e_RF, M2) o → e_G X 401 YL_law_ 2181 [some (.inr (.inr 999999)), some (.inr (.inr 1)), some (.inr (.inr 64)), some (.inr (.inr 557)), some (.inl (i : Int)), none, none, none] [] (557, gn, e_RF, M) o := by
  rcases h0 i gn M hK with ⟨v, M1, M2, hx, hm, ht, ho, h3⟩ | ⟨z, c, b, M1, M2, hcd, hc0, hx, hm, ht, h3⟩
  · exact ⟨gn, M2, Nat.le_refl _, Nat.le_succ _, h3, fun o hmo k9 => lc_35 hL hb hi (Nat.le_refl _) hmo (hl_L_clear hx) hm ht (fun _ => ho) k9⟩
  · match z, hcd with
    | 0, hcd =>
      cases hcd
      exact ⟨gn + 1, M2, Nat.le_succ _, Nat.le_refl _, h3, fun o hmo k9 => lc_35 hL hb hi (Nat.le_succ _) hmo (hx_L_clear_0 hx) hm ht (fun q => absurd q hc0) k9⟩
    | 1, hcd =>
      cases hcd
      exact ⟨gn + 1, M2, Nat.le_succ _, Nat.le_refl _, h3, fun o hmo k9 => lc_35 hL hb hi (Nat.le_succ _) hmo (hx_L_clear_1 hx) hm ht (fun q => absurd q hc0) k9⟩
theorem ls_36 (h0 : ∀ i : Nat, k_o2 X K (fun v => .inl v) YX10_richest YX11_richest [.inl (k_xi X i 1)] k_c1) (hL : X.2.2.2.2.2.1 ≤ 4608) (hb : X.2.2.2.2.1 < (e_H0 X).size) {i gn : Nat} {M : e_M} (hi : i + 9 ≤ X.2.2.2.2.2.1) (hK : K M) : ∃ (g1 : Nat) (M2 : e_M), gn ≤ g1 ∧ g1 ≤ gn + 1 ∧ K M2 ∧ ∀ o : e_O, e_mn (557, g1, e_RF, M2) o.2 → e_G X 401 YL_law_ 2729 [some (.inr (.inr 999999)), some (.inr (.inr 1)), some (.inr (.inr 64)), some (.inr (.inr 557)), some (.inl (i : Int)), none, none, none] [] (557, g1, e_RF, M2) o → e_G X 401 YL_law_ 2249 [some (.inr (.inr 999999)), some (.inr (.inr 1)), some (.inr (.inr 64)), some (.inr (.inr 557)), some (.inl (i : Int)), none, none, none] [] (557, gn, e_RF, M) o := by
  rcases h0 i gn M hK with ⟨v, M1, M2, hx, hm, ht, ho, h3⟩ | ⟨z, c, b, M1, M2, hcd, hc0, hx, hm, ht, h3⟩
  · exact ⟨gn, M2, Nat.le_refl _, Nat.le_succ _, h3, fun o hmo k9 => lc_36 hL hb hi (Nat.le_refl _) hmo (hl_L_richest hx) hm ht (fun _ => ho) k9⟩
  · match z, hcd with
    | 1, hcd =>
      cases hcd
      exact ⟨gn + 1, M2, Nat.le_succ _, Nat.le_refl _, h3, fun o hmo k9 => lc_36 hL hb hi (Nat.le_succ _) hmo (hx_L_richest_1 hx) hm ht (fun q => absurd q hc0) k9⟩
theorem ls_37 (h0 : ∀ i : Nat, k_o2 X K (fun v => .inl v) YX10_back YX11_back [.inl (k_xi X i 1)] k_c0) (hL : X.2.2.2.2.2.1 ≤ 4608) (hb : X.2.2.2.2.1 < (e_H0 X).size) {i gn : Nat} {M : e_M} (hi : i + 9 ≤ X.2.2.2.2.2.1) (hK : K M) : ∃ (g1 : Nat) (M2 : e_M), gn ≤ g1 ∧ g1 ≤ gn + 1 ∧ K M2 ∧ ∀ o : e_O, e_mn (557, g1, e_RF, M2) o.2 → e_G X 401 YL_law_ 2729 [some (.inr (.inr 999999)), some (.inr (.inr 1)), some (.inr (.inr 64)), some (.inr (.inr 557)), some (.inl (i : Int)), none, none, none] [] (557, g1, e_RF, M2) o → e_G X 401 YL_law_ 2305 [some (.inr (.inr 999999)), some (.inr (.inr 1)), some (.inr (.inr 64)), some (.inr (.inr 557)), some (.inl (i : Int)), none, none, none] [] (557, gn, e_RF, M) o := by
  rcases h0 i gn M hK with ⟨v, M1, M2, hx, hm, ht, ho, h3⟩ | ⟨z, c, b, M1, M2, hcd, hc0, hx, hm, ht, h3⟩
  · exact ⟨gn, M2, Nat.le_refl _, Nat.le_succ _, h3, fun o hmo k9 => lc_37 hL hb hi (Nat.le_refl _) hmo (hl_L_back hx) hm ht (fun _ => ho) k9⟩
  · match z, hcd with
    | 0, hcd =>
      cases hcd
      exact ⟨gn + 1, M2, Nat.le_succ _, Nat.le_refl _, h3, fun o hmo k9 => lc_37 hL hb hi (Nat.le_succ _) hmo (hx_L_back_0 hx) hm ht (fun q => absurd q hc0) k9⟩
theorem ls_38 (h0 : ∀ i : Nat, k_o2 X K (fun v => .inl v) YX10_loses YX11_loses [.inl (k_xi X i 1)] k_c1) (hL : X.2.2.2.2.2.1 ≤ 4608) (hb : X.2.2.2.2.1 < (e_H0 X).size) {i gn : Nat} {M : e_M} (hi : i + 9 ≤ X.2.2.2.2.2.1) (hK : K M) : ∃ (g1 : Nat) (M2 : e_M), gn ≤ g1 ∧ g1 ≤ gn + 1 ∧ K M2 ∧ ∀ o : e_O, e_mn (557, g1, e_RF, M2) o.2 → e_G X 401 YL_law_ 2729 [some (.inr (.inr 999999)), some (.inr (.inr 1)), some (.inr (.inr 64)), some (.inr (.inr 557)), some (.inl (i : Int)), none, none, none] [] (557, g1, e_RF, M2) o → e_G X 401 YL_law_ 2361 [some (.inr (.inr 999999)), some (.inr (.inr 1)), some (.inr (.inr 64)), some (.inr (.inr 557)), some (.inl (i : Int)), none, none, none] [] (557, gn, e_RF, M) o := by
  rcases h0 i gn M hK with ⟨v, M1, M2, hx, hm, ht, ho, h3⟩ | ⟨z, c, b, M1, M2, hcd, hc0, hx, hm, ht, h3⟩
  · exact ⟨gn, M2, Nat.le_refl _, Nat.le_succ _, h3, fun o hmo k9 => lc_38 hL hb hi (Nat.le_refl _) hmo (hl_L_loses hx) hm ht (fun _ => ho) k9⟩
  · match z, hcd with
    | 1, hcd =>
      cases hcd
      exact ⟨gn + 1, M2, Nat.le_succ _, Nat.le_refl _, h3, fun o hmo k9 => lc_38 hL hb hi (Nat.le_succ _) hmo (hx_L_loses_1 hx) hm ht (fun q => absurd q hc0) k9⟩
theorem ls_39 (h0 : ∀ i : Nat, k_o2 X K (fun v => .inl v) YX10_year YX11_year [.inl (k_xi X i 1), .inl (k_xi X i 2), .inl (k_xi X i 3), .inl (k_xi X i 4), .inl (k_xi X i 5)] k_c1) (hL : X.2.2.2.2.2.1 ≤ 4608) (hb : X.2.2.2.2.1 < (e_H0 X).size) {i gn : Nat} {M : e_M} (hi : i + 9 ≤ X.2.2.2.2.2.1) (hK : K M) : ∃ (g1 : Nat) (M2 : e_M), gn ≤ g1 ∧ g1 ≤ gn + 1 ∧ K M2 ∧ ∀ o : e_O, e_mn (557, g1, e_RF, M2) o.2 → e_G X 401 YL_law_ 2729 [some (.inr (.inr 999999)), some (.inr (.inr 1)), some (.inr (.inr 64)), some (.inr (.inr 557)), some (.inl (i : Int)), none, none, none] [] (557, g1, e_RF, M2) o → e_G X 401 YL_law_ 2417 [some (.inr (.inr 999999)), some (.inr (.inr 1)), some (.inr (.inr 64)), some (.inr (.inr 557)), some (.inl (i : Int)), none, none, none] [] (557, gn, e_RF, M) o := by
  rcases h0 i gn M hK with ⟨v, M1, M2, hx, hm, ht, ho, h3⟩ | ⟨z, c, b, M1, M2, hcd, hc0, hx, hm, ht, h3⟩
  · exact ⟨gn, M2, Nat.le_refl _, Nat.le_succ _, h3, fun o hmo k9 => lc_39 hL hb hi (Nat.le_refl _) hmo (hl_L_year hx) hm ht (fun _ => ho) k9⟩
  · match z, hcd with
    | 1, hcd =>
      cases hcd
      exact ⟨gn + 1, M2, Nat.le_succ _, Nat.le_refl _, h3, fun o hmo k9 => lc_39 hL hb hi (Nat.le_succ _) hmo (hx_L_year_1 hx) hm ht (fun q => absurd q hc0) k9⟩
theorem ls_40 (h0 : ∀ i : Nat, k_o2 X K (fun v => .inl v) YX10_span YX11_span [.inl (k_xi X i 1), .inl (k_xi X i 2), .inl (k_xi X i 3), .inl (k_xi X i 4), .inl (k_xi X i 5), .inl (k_xi X i 6), .inl (k_xi X i 7)] k_c1) (hL : X.2.2.2.2.2.1 ≤ 4608) (hb : X.2.2.2.2.1 < (e_H0 X).size) {i gn : Nat} {M : e_M} (hi : i + 9 ≤ X.2.2.2.2.2.1) (hK : K M) : ∃ (g1 : Nat) (M2 : e_M), gn ≤ g1 ∧ g1 ≤ gn + 1 ∧ K M2 ∧ ∀ o : e_O, e_mn (557, g1, e_RF, M2) o.2 → e_G X 401 YL_law_ 2729 [some (.inr (.inr 999999)), some (.inr (.inr 1)), some (.inr (.inr 64)), some (.inr (.inr 557)), some (.inl (i : Int)), none, none, none] [] (557, g1, e_RF, M2) o → e_G X 401 YL_law_ 2521 [some (.inr (.inr 999999)), some (.inr (.inr 1)), some (.inr (.inr 64)), some (.inr (.inr 557)), some (.inl (i : Int)), none, none, none] [] (557, gn, e_RF, M) o := by
  rcases h0 i gn M hK with ⟨v, M1, M2, hx, hm, ht, ho, h3⟩ | ⟨z, c, b, M1, M2, hcd, hc0, hx, hm, ht, h3⟩
  · exact ⟨gn, M2, Nat.le_refl _, Nat.le_succ _, h3, fun o hmo k9 => lc_40 hL hb hi (Nat.le_refl _) hmo (hl_L_span hx) hm ht (fun _ => ho) k9⟩
  · match z, hcd with
    | 1, hcd =>
      cases hcd
      exact ⟨gn + 1, M2, Nat.le_succ _, Nat.le_refl _, h3, fun o hmo k9 => lc_40 hL hb hi (Nat.le_succ _) hmo (hx_L_span_1 hx) hm ht (fun q => absurd q hc0) k9⟩
theorem ls_41 (h0 : ∀ i : Nat, k_o1 X K YX10_image YX11_image []) (hL : X.2.2.2.2.2.1 ≤ 4608) (hb : X.2.2.2.2.1 < (e_H0 X).size) {i gn : Nat} {M : e_M} (hi : i + 9 ≤ X.2.2.2.2.2.1) (hK : K M) : ∃ (g1 : Nat) (M2 : e_M), gn ≤ g1 ∧ g1 ≤ gn + 1 ∧ K M2 ∧ ∀ o : e_O, e_mn (557, g1, e_RF, M2) o.2 → e_G X 401 YL_law_ 2729 [some (.inr (.inr 999999)), some (.inr (.inr 1)), some (.inr (.inr 64)), some (.inr (.inr 557)), some (.inl (i : Int)), none, none, none] [] (557, g1, e_RF, M2) o → e_G X 401 YL_law_ 2653 [some (.inr (.inr 999999)), some (.inr (.inr 1)), some (.inr (.inr 64)), some (.inr (.inr 557)), some (.inl (i : Int)), none, none, none] [] (557, gn, e_RF, M) o := by
  obtain ⟨v, M1, M2, hx, hm, h2⟩ := h0 i gn M hK
  exact ⟨gn, M2, Nat.le_refl _, Nat.le_succ _, h2, fun o hmo k9 => lc_41 hL hb hi (Nat.le_refl _) hmo hx hm k9⟩
theorem ls_42 (h0 : ∀ i : Nat, k_o1 X K YX10_restore YX11_restore []) (hL : X.2.2.2.2.2.1 ≤ 4608) (hb : X.2.2.2.2.1 < (e_H0 X).size) {i gn : Nat} {M : e_M} (hi : i + 9 ≤ X.2.2.2.2.2.1) (hK : K M) : ∃ (g1 : Nat) (M2 : e_M), gn ≤ g1 ∧ g1 ≤ gn + 1 ∧ K M2 ∧ ∀ o : e_O, e_mn (557, g1, e_RF, M2) o.2 → e_G X 401 YL_law_ 2729 [some (.inr (.inr 999999)), some (.inr (.inr 1)), some (.inr (.inr 64)), some (.inr (.inr 557)), some (.inl (i : Int)), none, none, none] [] (557, g1, e_RF, M2) o → e_G X 401 YL_law_ 2666 [some (.inr (.inr 999999)), some (.inr (.inr 1)), some (.inr (.inr 64)), some (.inr (.inr 557)), some (.inl (i : Int)), none, none, none] [] (557, gn, e_RF, M) o := by
  obtain ⟨v, M1, M2, hx, hm, h2⟩ := h0 i gn M hK
  exact ⟨gn, M2, Nat.le_refl _, Nat.le_succ _, h2, fun o hmo k9 => lc_42 hL hb hi (Nat.le_refl _) hmo hx hm k9⟩
theorem ls_43 (h0 : ∀ i : Nat, k_o1 X K YX10_status YX11_status [.inl (k_xi X i 1)]) (hL : X.2.2.2.2.2.1 ≤ 4608) (hb : X.2.2.2.2.1 < (e_H0 X).size) {i gn : Nat} {M : e_M} (hi : i + 9 ≤ X.2.2.2.2.2.1) (hK : K M) : ∃ (g1 : Nat) (M2 : e_M), gn ≤ g1 ∧ g1 ≤ gn + 1 ∧ K M2 ∧ ∀ o : e_O, e_mn (557, g1, e_RF, M2) o.2 → e_G X 401 YL_law_ 2729 [some (.inr (.inr 999999)), some (.inr (.inr 1)), some (.inr (.inr 64)), some (.inr (.inr 557)), some (.inl (i : Int)), none, none, none] [] (557, g1, e_RF, M2) o → e_G X 401 YL_law_ 2679 [some (.inr (.inr 999999)), some (.inr (.inr 1)), some (.inr (.inr 64)), some (.inr (.inr 557)), some (.inl (i : Int)), none, none, none] [] (557, gn, e_RF, M) o := by
  obtain ⟨v, M1, M2, hx, hm, h2⟩ := h0 i gn M hK
  exact ⟨gn, M2, Nat.le_refl _, Nat.le_succ _, h2, fun o hmo k9 => lc_43 hL hb hi (Nat.le_refl _) hmo hx hm k9⟩
theorem ls_44 (h0 : ∀ i : Nat, k_o1 X K YX10_count YX11_count [.inl (k_xi X i 1)]) (hL : X.2.2.2.2.2.1 ≤ 4608) (hb : X.2.2.2.2.1 < (e_H0 X).size) {i gn : Nat} {M : e_M} (hi : i + 9 ≤ X.2.2.2.2.2.1) (hK : K M) : ∃ (g1 : Nat) (M2 : e_M), gn ≤ g1 ∧ g1 ≤ gn + 1 ∧ K M2 ∧ ∀ o : e_O, e_mn (557, g1, e_RF, M2) o.2 → e_G X 401 YL_law_ 2729 [some (.inr (.inr 999999)), some (.inr (.inr 1)), some (.inr (.inr 64)), some (.inr (.inr 557)), some (.inl (i : Int)), none, none, none] [] (557, g1, e_RF, M2) o → e_G X 401 YL_law_ 2704 [some (.inr (.inr 999999)), some (.inr (.inr 1)), some (.inr (.inr 64)), some (.inr (.inr 557)), some (.inl (i : Int)), none, none, none] [] (557, gn, e_RF, M) o := by
  obtain ⟨v, M1, M2, hx, hm, h2⟩ := h0 i gn M hK
  exact ⟨gn, M2, Nat.le_refl _, Nat.le_succ _, h2, fun o hmo k9 => lc_44 hL hb hi (Nat.le_refl _) hmo hx hm k9⟩
end LL
