/-- locals that are not asked for any more -/
def e_mask : List Bool → List (Option e_V) → List (Option e_V)
  | true :: m, v :: l => v :: e_mask m l
  | false :: m, _ :: l => none :: e_mask m l
  | _, l => l
theorem e_mask_nth : ∀ (m : List Bool) (l : List (Option e_V)) (i : Nat) (v : e_V), e_nth (e_mask m l) i = some v → e_nth l i = some v
  | [], l, i, v, h => by simpa [e_mask] using h
  | b :: m, [], i, v, h => by cases b <;> simp [e_mask, e_nth] at h
  | true :: m, x :: l, 0, v, h => by simpa [e_mask, e_nth] using h
  | true :: m, x :: l, i + 1, v, h => e_mask_nth m l i v h
  | false :: m, x :: l, 0, v, h => by simp [e_mask, e_nth] at h
  | false :: m, x :: l, i + 1, v, h => e_mask_nth m l i v h
theorem e_mask_len : ∀ (m : List Bool) (l : List (Option e_V)), (e_mask m l).length = l.length
  | [], l => by simp [e_mask]
  | b :: m, [] => by cases b <;> rfl
  | true :: m, x :: l => by simp [e_mask, e_mask_len m l]
  | false :: m, x :: l => by simp [e_mask, e_mask_len m l]
theorem e_forget {X : e_X} {d : Nat} {Y : e_Y} {pc : Nat} {loc loc' : List (Option e_V)} {st : List e_V} {S : e_S} {o : e_O} {m : List Bool} (h : e_G X d Y pc loc' st S o) (hm : e_mask m loc = loc') : e_G X d Y pc loc st S o := by
  subst hm
  intro p e R s m9 args below meth c ls H locs cells slots ad ad0 k0 c0 s0 C P Z L hs hA hk hc hn hR1 hR2
  exact h p e R s m9 args below meth c ls H locs cells slots ad ad0 k0 c0 s0 C P Z ⟨by rw [e_mask_len]; exact L.1, L.2.1, L.2.2.1, fun i v hv => L.2.2.2.1 i v (e_mask_nth _ _ _ _ hv), fun i v hv => L.2.2.2.2 i v (e_mask_nth _ _ _ _ hv)⟩ hs hA hk hc hn hR1 hR2
theorem lk_RX3_52 : Cond.methodLink RX3 52 arraycopyName ∈ e_gw := e_in_2 104 rfl rfl
theorem cst_RJ6_265 : Cond.constant RJ6 265 (Int32.ofInt 1431655765) ∈ e_gw := by
  rw [show Int32.ofInt 1431655765 = (1431655765 : Int32) by decide]
  exact e_in_2 224 rfl rfl
theorem cst_RJ6_266 : Cond.constant RJ6 266 (Int32.ofInt 858993459) ∈ e_gw := by
  rw [show Int32.ofInt 858993459 = (858993459 : Int32) by decide]
  exact e_in_2 225 rfl rfl
theorem cst_RJ6_267 : Cond.constant RJ6 267 (Int32.ofInt 252645135) ∈ e_gw := by
  rw [show Int32.ofInt 252645135 = (252645135 : Int32) by decide]
  exact e_in_2 226 rfl rfl
theorem lk_RX2_103 : Cond.methodLink RX2 103 Lib.Math.min.name ∈ e_gw := e_in_3 10 rfl rfl
theorem lk_RX2_108 : Cond.methodLink RX2 108 Lib.Math.max.name ∈ e_gw := e_in_3 13 rfl rfl
theorem lk_RX1_46 : Cond.methodLink RX1 46 Lib.Math.max.name ∈ e_gw := e_in_3 46 rfl rfl
theorem lk_RX3_87 : Cond.methodLink RX3 87 Lib.Math.min.name ∈ e_gw := e_in_3 78 rfl rfl
theorem lk_RX5_28 : Cond.methodLink RX5 28 arraycopyName ∈ e_gw := e_in_3 87 rfl rfl
theorem lk_RX10_295 : Cond.methodLink RX10 295 Lib.Math.min.name ∈ e_gw := e_in_3 120 rfl rfl
theorem cst_RX7_53 : Cond.constant RX7 53 (Int32.ofInt 1000000) ∈ e_gw := by
  rw [show Int32.ofInt 1000000 = (1000000 : Int32) by decide]
  exact e_in_4 56 rfl rfl
theorem lk_RX7_54 : Cond.methodLink RX7 54 Lib.Math.min.name ∈ e_gw := e_in_4 57 rfl rfl
theorem lk_RX8_43 : Cond.methodLink RX8 43 arraycopyName ∈ e_gw := e_in_4 83 rfl rfl
theorem lk_RX2_25 : Cond.methodLink RX2 25 arraycopyName ∈ e_gw := e_in_4 156 rfl rfl
theorem lk_RX0_22 : Cond.methodLink RX0 22 arraycopyName ∈ e_gw := e_in_5 13 rfl rfl
theorem lk_RX3_82 : Cond.methodLink RX3 82 Lib.Math.max.name ∈ e_gw := e_in_5 33 rfl rfl
theorem lk_RX6_41 : Cond.methodLink RX6 41 Lib.Math.min.name ∈ e_gw := e_in_5 158 rfl rfl
theorem lk_RX10_321 : Cond.methodLink RX10 321 Lib.Math.max.name ∈ e_gw := e_in_5 204 rfl rfl
theorem cst_RX10_376 : Cond.constantLong RX10 376 (Int64.ofInt 256) ∈ e_gw := by
  rw [show Int64.ofInt 256 = (256 : Int64) by decide]
  exact e_in_5 212 rfl rfl
theorem cst_RX10_378 : Cond.constantLong RX10 378 (Int64.ofInt 2) ∈ e_gw := by
  rw [show Int64.ofInt 2 = (2 : Int64) by decide]
  exact e_in_5 213 rfl rfl
theorem cst_RX9_53 : Cond.constant RX9 53 (Int32.ofInt 1103515245) ∈ e_gw := by
  rw [show Int32.ofInt 1103515245 = (1103515245 : Int32) by decide]
  exact e_in_6 93 rfl rfl
theorem cst_RX11_130 : Cond.constant RX11 130 (Int32.ofInt 100000) ∈ e_gw := by
  rw [show Int32.ofInt 100000 = (100000 : Int32) by decide]
  exact e_in_7 96 rfl rfl
theorem cst_RX11_361 : Cond.constant RX11 361 (Int32.ofInt 1103515245) ∈ e_gw := by
  rw [show Int32.ofInt 1103515245 = (1103515245 : Int32) by decide]
  exact e_in_8 185 rfl rfl
theorem nl_RX10_9 : Cond.methodLinkNest RX10 9 yX7_init "BoughtMondays" ∈ e_nw := by decide +kernel
theorem nl_RX10_18 : Cond.methodLinkNest RX10 18 yX8_init "BoughtMondays" ∈ e_nw := by decide +kernel
theorem nl_RX10_28 : Cond.methodLinkNest RX10 28 yX2_init "BoughtMondays" ∈ e_nw := by decide +kernel
theorem nl_RX10_38 : Cond.methodLinkNest RX10 38 yX0_init "BoughtMondays" ∈ e_nw := by decide +kernel
theorem nl_RX10_48 : Cond.methodLinkNest RX10 48 yX4_init "BoughtMondays" ∈ e_nw := by decide +kernel
theorem nf_RX9_26 : Cond.fieldLinkNest RX9 26 "BoughtMondays$Life" "town" "LBoughtMondays$Town;" "BoughtMondays" ∈ e_nw := by decide +kernel
theorem nl_RX10_92 : Cond.methodLinkNest RX10 92 yX5_init "BoughtMondays" ∈ e_nw := by decide +kernel
theorem nl_RX3_61 : Cond.methodLinkNest RX3 61 yX10_bitsBelow "BoughtMondays" ∈ e_nw := by decide +kernel
theorem nl_RX1_38 : Cond.methodLinkNest RX1 38 yX10_bitsBelow "BoughtMondays" ∈ e_nw := by decide +kernel
theorem nl_RX6_61 : Cond.methodLinkNest RX6 61 yX10_bitsBelow "BoughtMondays" ∈ e_nw := by decide +kernel
theorem sq_57 {i : Int} (h0 : 0 ≤ i) (h1 : i < 3) : e_SH (58 + 2 * i.toNat) = (5, 2) ∧ 58 + 2 * i.toNat ≤ 557 ∧ 58 + 2 * i.toNat ≠ 0 := by
  have h : ∀ j, j < 3 → e_SH (58 + 2 * j) = (5, 2) ∧ 58 + 2 * j ≤ 557 ∧ 58 + 2 * j ≠ 0 := by decide +kernel
  exact h i.toNat (by omega)
theorem sh_73 {i : Int} (h0 : 0 ≤ i) (h1 : i < 6) : e_SH (74 + i.toNat) = (20, 2) ∧ 74 + i.toNat ≤ 557 ∧ 74 + i.toNat ≠ 0 := by
  have h : ∀ j, j < 6 → e_SH (74 + j) = (20, 2) ∧ 74 + j ≤ 557 ∧ 74 + j ≠ 0 := by decide +kernel
  exact h i.toNat (by omega)
theorem sh_80 {i : Int} (h0 : 0 ≤ i) (h1 : i < 6) : e_SH (81 + i.toNat) = (20, 2) ∧ 81 + i.toNat ≤ 557 ∧ 81 + i.toNat ≠ 0 := by
  have h : ∀ j, j < 6 → e_SH (81 + j) = (20, 2) ∧ 81 + j ≤ 557 ∧ 81 + j ≠ 0 := by decide +kernel
  exact h i.toNat (by omega)
theorem sh_87 {i : Int} (h0 : 0 ≤ i) (h1 : i < 12) : e_SH (88 + i.toNat) = (20, 3) ∧ 88 + i.toNat ≤ 557 ∧ 88 + i.toNat ≠ 0 := by
  have h : ∀ j, j < 12 → e_SH (88 + j) = (20, 3) ∧ 88 + j ≤ 557 ∧ 88 + j ≠ 0 := by decide +kernel
  exact h i.toNat (by omega)
theorem sh_100 {i : Int} (h0 : 0 ≤ i) (h1 : i < 12) : e_SH (101 + i.toNat) = (20, 3) ∧ 101 + i.toNat ≤ 557 ∧ 101 + i.toNat ≠ 0 := by
  have h : ∀ j, j < 12 → e_SH (101 + j) = (20, 3) ∧ 101 + j ≤ 557 ∧ 101 + j ≠ 0 := by decide +kernel
  exact h i.toNat (by omega)
theorem sh_113 {i : Int} (h0 : 0 ≤ i) (h1 : i < 160) : e_SH (114 + i.toNat) = (20, 2) ∧ 114 + i.toNat ≤ 557 ∧ 114 + i.toNat ≠ 0 := by
  have h : ∀ j, j < 160 → e_SH (114 + j) = (20, 2) ∧ 114 + j ≤ 557 ∧ 114 + j ≠ 0 := by decide +kernel
  exact h i.toNat (by omega)
theorem sh_274 {i : Int} (h0 : 0 ≤ i) (h1 : i < 160) : e_SH (275 + i.toNat) = (20, 2) ∧ 275 + i.toNat ≤ 557 ∧ 275 + i.toNat ≠ 0 := by
  have h : ∀ j, j < 160 → e_SH (275 + j) = (20, 2) ∧ 275 + j ≤ 557 ∧ 275 + j ≠ 0 := by decide +kernel
  exact h i.toNat (by omega)
theorem sh_435 {i : Int} (h0 : 0 ≤ i) (h1 : i < 6) : e_SH (436 + i.toNat) = (20, 2) ∧ 436 + i.toNat ≤ 557 ∧ 436 + i.toNat ≠ 0 := by
  have h : ∀ j, j < 6 → e_SH (436 + j) = (20, 2) ∧ 436 + j ≤ 557 ∧ 436 + j ≠ 0 := by decide +kernel
  exact h i.toNat (by omega)
theorem sh_442 {i : Int} (h0 : 0 ≤ i) (h1 : i < 6) : e_SH (443 + i.toNat) = (20, 2) ∧ 443 + i.toNat ≤ 557 ∧ 443 + i.toNat ≠ 0 := by
  have h : ∀ j, j < 6 → e_SH (443 + j) = (20, 2) ∧ 443 + j ≤ 557 ∧ 443 + j ≠ 0 := by decide +kernel
  exact h i.toNat (by omega)
theorem sh_451 {i : Int} (h0 : 0 ≤ i) (h1 : i < 80) : e_SH (452 + i.toNat) = (20, 4) ∧ 452 + i.toNat ≤ 557 ∧ 452 + i.toNat ≠ 0 := by
  have h : ∀ j, j < 80 → e_SH (452 + j) = (20, 4) ∧ 452 + j ≤ 557 ∧ 452 + j ≠ 0 := by decide +kernel
  exact h i.toNat (by omega)
theorem sh_534 {i : Int} (h0 : 0 ≤ i) (h1 : i < 16) : e_SH (535 + i.toNat) = (20, 56) ∧ 535 + i.toNat ≤ 557 ∧ 535 + i.toNat ≠ 0 := by
  have h : ∀ j, j < 16 → e_SH (535 + j) = (20, 56) ∧ 535 + j ≤ 557 ∧ 535 + j ≠ 0 := by decide +kernel
  exact h i.toNat (by omega)
theorem sh_551 {i : Int} (h0 : 0 ≤ i) (h1 : i < 3) : e_SH (552 + i.toNat) = (20, 953) ∧ 552 + i.toNat ≤ 557 ∧ 552 + i.toNat ≠ 0 := by
  have h : ∀ j, j < 3 → e_SH (552 + j) = (20, 953) ∧ 552 + j ≤ 557 ∧ 552 + j ≠ 0 := by decide +kernel
  exact h i.toNat (by omega)
