/-! THE ENGINE, 6: Math.min, Math.max, System.arraycopy -/
theorem w_min1 : Cond.static Lib.Math.min.name ∈ e_gw := by decide +kernel
theorem w_min2 : Cond.code Lib.Math.min.name Lib.Math.min.code 2 (some .int) ∈ e_gw := by decide +kernel
theorem w_max1 : Cond.static Lib.Math.max.name ∈ e_gw := by decide +kernel
theorem w_max2 : Cond.code Lib.Math.max.name Lib.Math.max.code 2 (some .int) ∈ e_gw := by decide +kernel
theorem w_math : Cond.initialized "java/lang/Math" ∈ e_gw := by decide +kernel
theorem w_sys : Cond.initialized "java/lang/System" ∈ e_gw := by decide +kernel
theorem w_cp1 : Cond.static arraycopyName ∈ e_gw := by decide +kernel
theorem w_cp2 : Cond.native arraycopyName ∈ e_gw := by decide +kernel
section EP
variable {X : e_X} {d : Nat} {Y : e_Y} {pc pc' : Nat} {loc : List (Option e_V)} {st : List e_V} {o : e_O} {S : e_S} {cn gn : Nat} {R : e_R} {M : e_M}
theorem e_r_min {a b : Int} {idx : Nat} (hw : Cond.methodLink Y.2.2.2.2.1 idx Lib.Math.min.name ∈ e_gw) (hst : Nat.ble (st.map e_cat).sum 8 = true) (hd : decode Y.2.1 pc = .ok (.invokestatic idx, 3)) (hp : pc + 3 = pc') (k : e_G X (d + 1) Y pc' loc (.inl (min a b) :: st) S o) : e_G X (d + 1) Y pc loc (.inl b :: .inl a :: st) S o := by
  subst hp
  intro p e R s m args below meth c ls H locs cells slots ad ad0 k0 c0 s0 C P Z L hs hA hk hc hn hR1 hR2
  have ha : e_i32 a := e_hd (e_tl hs)
  have hb : e_i32 b := e_hd hs
  have h1 := C.2.2.2.2.2.2.2.2.2.2.1
  have h2 := C.2.2.2.2.2.2.2.2.2.2.2.1
  have hts := C.2.2.2.2.2.1
  have hst' := Nat.le_of_ble_eq_true hst
  have hr : e_i32 (min a b) := by unfold e_i32 at *; omega
  have w := k p e R s m args below meth c ls H locs cells slots ad ad0 k0 c0 s0 C P Z L (e_cs (v := .inl _) hr (e_tl (e_tl hs))) hA hk hc hn hR1 hR2
  refine va_mmin C.1 C.2.1 (C.2.2.2.1.trans L.2.1.symm) C.2.2.2.2.1 (hts _ hw) (hts _ w_min1) (hts _ w_math) (hts _ w_min2) (by omega) (by rw [e_catsum]; omega) hR1.2 hR2.2 hd ?_
  have e1 : (if Int32.ofInt b < Int32.ofInt a then Int32.ofInt b else Int32.ofInt a) = Int32.ofInt (min a b) := by
    by_cases h : b < a
    · rw [if_pos ((e_lt hb ha).mpr h), Int.min_eq_right (by omega)]
    · rw [if_neg (fun q => h ((e_lt hb ha).mp q)), Int.min_eq_left (by omega)]
  rw [e1]
  exact w
theorem e_r_max {a b : Int} {idx : Nat} (hw : Cond.methodLink Y.2.2.2.2.1 idx Lib.Math.max.name ∈ e_gw) (hst : Nat.ble (st.map e_cat).sum 8 = true) (hd : decode Y.2.1 pc = .ok (.invokestatic idx, 3)) (hp : pc + 3 = pc') (k : e_G X (d + 1) Y pc' loc (.inl (max a b) :: st) S o) : e_G X (d + 1) Y pc loc (.inl b :: .inl a :: st) S o := by
  subst hp
  intro p e R s m args below meth c ls H locs cells slots ad ad0 k0 c0 s0 C P Z L hs hA hk hc hn hR1 hR2
  have ha : e_i32 a := e_hd (e_tl hs)
  have hb : e_i32 b := e_hd hs
  have h1 := C.2.2.2.2.2.2.2.2.2.2.1
  have h2 := C.2.2.2.2.2.2.2.2.2.2.2.1
  have hts := C.2.2.2.2.2.1
  have hst' := Nat.le_of_ble_eq_true hst
  have hr : e_i32 (max a b) := by unfold e_i32 at *; omega
  have w := k p e R s m args below meth c ls H locs cells slots ad ad0 k0 c0 s0 C P Z L (e_cs (v := .inl _) hr (e_tl (e_tl hs))) hA hk hc hn hR1 hR2
  refine va_mmax C.1 C.2.1 (C.2.2.2.1.trans L.2.1.symm) C.2.2.2.2.1 (hts _ hw) (hts _ w_max1) (hts _ w_math) (hts _ w_max2) (by omega) (by rw [e_catsum]; omega) hR1.2 hR2.2 hd ?_
  have e1 : (if Int32.ofInt a < Int32.ofInt b then Int32.ofInt b else Int32.ofInt a) = Int32.ofInt (max a b) := by
    by_cases h : a < b
    · rw [if_pos ((e_lt ha hb).mpr h), Int.max_eq_right (by omega)]
    · rw [if_neg (fun q => h ((e_lt ha hb).mp q)), Int.max_eq_left (by omega)]
  rw [e1]
  exact w
theorem e_rM_cp {M : e_M} {b sp a dp n : Nat} (h : e_rM M) (h1 : (e_SH a).1 ≠ 22) (h2 : (e_SH b).1 ≠ 22) : e_rM (e_cp M b sp a dp n) := by
  intro c j
  have hc := h c j
  unfold e_cp
  by_cases hca : c = a
  · subst hca
    rw [if_neg h1] at hc ⊢
    rw [if_pos rfl]
    split
    · have := h b (sp + (j - dp))
      rw [if_neg h2] at this
      exact this
    · exact hc
  · rw [if_neg hca]; exact hc
set_option maxHeartbeats 1000000 in
/-- System.arraycopy from the row b to the row a -/
theorem e_r_copy {a b na nb idx : Nat} {sp dp n : Int} (hsb : e_SH b = (20, nb)) (hsa : e_SH a = (20, na)) (hb9 : b ≤ cn) (ha9 : a ≤ cn) (h1 : 0 ≤ sp) (h2 : 0 ≤ dp) (h3 : 0 ≤ n) (h4 : sp + n ≤ (nb : Int)) (h5 : dp + n ≤ (na : Int)) (hw : Cond.methodLink Y.2.2.2.2.1 idx arraycopyName ∈ e_gw) (hst : Nat.ble (st.map e_cat).sum 8 = true) (hd : decode Y.2.1 pc = .ok (.invokestatic idx, 3)) (hp : pc + 3 = pc')
    (k : e_G X (d + 1) Y pc' loc st (cn, gn, R, e_cp M b sp.toNat a dp.toNat n.toNat) o) : e_G X (d + 1) Y pc loc (.inl n :: .inl dp :: .inr (.inr a) :: .inl sp :: .inr (.inr b) :: st) (cn, gn, R, M) o := by
  subst hp
  intro p e Rm s m args below meth c ls H locs cells slots ad ad0 k0 c0 s0 C P Z L hs hA hk hc hn hR1 hR2
  have hrn : e_i32 n := e_hd hs
  have hrd : e_i32 dp := e_hd (e_tl hs)
  have hrs : e_i32 sp := e_hd (e_tl (e_tl (e_tl hs)))
  have f1 := C.2.2.2.2.2.2.2.2.2.2.1
  have f2 := C.2.2.2.2.2.2.2.2.2.2.2.1
  have hts := C.2.2.2.2.2.1
  have hst' := Nat.le_of_ble_eq_true hst
  have ha0 := e_SH_pos hsa (by omega)
  have hb0 := e_SH_pos hsb (by omega)
  have hat := e_ws_at (ca := X.2.2.1) (ad := ad) (S := (cn, gn, R, M)) ha0 ha9
  rw [e_en_i hsa] at hat
  have hbt := e_ws_at (ca := X.2.2.1) (ad := ad) (S := (cn, gn, R, M)) hb0 hb9
  rw [e_en_i hsb] at hbt
  have hnw : nativeFrameWords "java/lang/System" "arraycopy" 5 ≤ 20 := by decide +kernel
  rw [List.map_cons, List.map_cons, List.map_cons, List.map_cons, List.map_cons, e_ref ha0, e_ref hb0]
  have g0 : ∀ z : Int, e_i32 z → 0 ≤ z → ¬ Int32.ofInt z < 0 := fun z hz h0 q => by
    rw [e_0, e_lt hz e_00] at q
    omega
  refine va_copyi C.1 C.2.1 (C.2.2.2.1.trans L.2.1.symm) C.2.2.2.2.1 (hts _ hw) (hts _ w_cp2) (hts _ w_cp1) (hts _ w_sys) C.2.2.2.2.2.2.2.1.1 P.1 P.2.1 Z (b - 1) (a - 1) 0 0 hbt hat (ty := .int) rfl rfl rfl (g0 sp hrs h1) (g0 dp hrd h2) (g0 n hrn h3) ?_ ?_ (fun _ _ => rfl) (by omega) (by rw [e_catsum]; omega) hd (fun H1 locs1 hP1 hD1 hS1 => ?_)
  · rw [e_clamp hrs, e_clamp hrn]; omega
  · rw [e_clamp hrd, e_clamp hrn]; omega
  · have e1 : va_cpy (fun j => Int32.ofInt (M b j)) (fun j => Int32.ofInt (M a j)) (Int32.ofInt sp).toNatClampNeg (Int32.ofInt dp).toNatClampNeg (Int32.ofInt n).toNatClampNeg = fun j => Int32.ofInt (e_cp M b sp.toNat a dp.toNat n.toNat a j) := by
      funext j
      rw [e_clamp hrs, e_clamp hrd, e_clamp hrn]
      unfold e_cp
      rw [if_pos rfl]
      by_cases hj : dp.toNat ≤ j ∧ j < dp.toNat + n.toNat
      · rw [pk_cpy_in hj.1 hj.2, if_pos hj]
      · rw [pk_cpy_out (by omega), if_neg hj]
    rw [e1, ← e_en_i hsa (ca := X.2.2.1) (ad := ad) (R := R), e_ws_set ha0 (fun _ _ _ => rfl) (fun b hb j => by unfold e_cp; rw [if_neg hb])] at hP1 hD1
    exact k p e Rm s m args below meth c ls H1 locs1 cells slots ad ad0 k0 c0 s0 C ⟨hP1, hD1, e_rM_cp P.2.2.1 (by rw [hsa]; show 20 ≠ 22; decide) (by rw [hsb]; show 20 ≠ 22; decide), P.2.2.2⟩ hS1 L (e_tl (e_tl (e_tl (e_tl (e_tl hs))))) hA hk hc hn hR1 hR2
end EP
