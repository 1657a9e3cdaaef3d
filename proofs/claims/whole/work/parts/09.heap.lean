/-! THE ENGINE, 4: cells -/
def e_up (M : e_M) (a k : Nat) (v : Int) : e_M := fun b j => if b = a then (if j = k then v else M b j) else M b j
def e_uR (R : e_R) (a k : Nat) (v : Nat) : e_R := fun b j => if b = a then (if j = k then v else R b j) else R b j
/-- n numbers of the row b from sp on come to the row a from dp on -/
def e_cp (M : e_M) (b sp a dp n : Nat) : e_M := fun c j => if c = a then (if dp ≤ j ∧ j < dp + n then M b (sp + (j - dp)) else M c j) else M c j
theorem e_en_congr {ca : Nat → ClassId} {ad : Nat → Nat} {R R' : e_R} {M M' : e_M} {a : Nat} (h1 : ∀ j, R a j = R' a j) (h2 : ∀ j, M a j = M' a j) : e_en ca ad R M a = e_en ca ad R' M' a := by
  unfold e_en e_fv
  simp only [h1, h2]
theorem e_ws_len {ca : Nat → ClassId} {ad : Nat → Nat} {S : e_S} : (e_ws ca ad S).length = S.1 := by simp [e_ws]
theorem e_ws_at {ca : Nat → ClassId} {ad : Nat → Nat} {S : e_S} {a : Nat} (h0 : 0 < a) (h : a ≤ S.1) : (e_ws ca ad S)[a - 1]? = some (ad a, e_en ca ad S.2.2.1 S.2.2.2 a) := by
  unfold e_ws
  rw [List.getElem?_map, List.getElem?_range (by omega)]
  show some (ad (a - 1 + 1), e_en ca ad S.2.2.1 S.2.2.2 (a - 1 + 1)) = _
  rw [show a - 1 + 1 = a by omega]
theorem e_ws_set {ca : Nat → ClassId} {ad : Nat → Nat} {n g : Nat} {R R' : e_R} {M M' : e_M} {a : Nat} (h0 : 0 < a) (h1 : ∀ b, b ≠ a → ∀ j, R b j = R' b j) (h2 : ∀ b, b ≠ a → ∀ j, M b j = M' b j) : (e_ws ca ad (n, g, R, M)).set (a - 1) (ad a, e_en ca ad R' M' a) = e_ws ca ad (n, g, R', M') := by
  apply List.ext_getElem?
  intro k
  by_cases hk : k < n
  · rw [List.getElem?_set]
    have e1 : (e_ws ca ad (n, g, R', M'))[k]? = some (ad (k + 1), e_en ca ad R' M' (k + 1)) := e_ws_at (a := k + 1) (by omega) hk
    have e2 : (e_ws ca ad (n, g, R, M))[k]? = some (ad (k + 1), e_en ca ad R M (k + 1)) := e_ws_at (a := k + 1) (by omega) hk
    by_cases hka : a - 1 = k
    · rw [if_pos hka, if_pos (by rw [e_ws_len]; exact (by omega : a - 1 < n)), e1]
      rw [show a = k + 1 by omega]
    · rw [if_neg hka, e1, e2, e_en_congr (h1 (k + 1) (by omega)) (h2 (k + 1) (by omega))]
  · rw [List.getElem?_eq_none (by rw [List.length_set, e_ws_len]; exact Nat.not_lt.mp hk), List.getElem?_eq_none (by rw [e_ws_len]; exact Nat.not_lt.mp hk)]
theorem e_en_o {ca : Nat → ClassId} {ad : Nat → Nat} {R : e_R} {M : e_M} {a ci n : Nat} (h : e_SH a = (ci, n)) (hc : ci < 20) : e_en ca ad R M a = .inr (ci, (List.range n).map (fun k => e_fv ad R M a ci k)) := by
  unfold e_en
  rw [h]
  have h1 : ¬ ci = 20 := by omega
  have h2 : ¬ ci = 21 := by omega
  have h3 : ¬ ci = 22 := by omega
  have h4 : ¬ ci = 23 := by omega
  have h5 : ¬ ci = 24 := by omega
  simp [h1, h2, h3, h4, h5]
theorem e_en_i {ca : Nat → ClassId} {ad : Nat → Nat} {R : e_R} {M : e_M} {a n : Nat} (h : e_SH a = (20, n)) : e_en ca ad R M a = .inl (ca 0, n, .inl (fun j => Int32.ofInt (M a j))) := by
  unfold e_en
  rw [h]; rfl
theorem e_en_b {ca : Nat → ClassId} {ad : Nat → Nat} {R : e_R} {M : e_M} {a n : Nat} (h : e_SH a = (21, n)) : e_en ca ad R M a = .inl (ca 1, n, .inl (fun j => Int32.ofInt (M a j))) := by
  unfold e_en
  rw [h]; rfl
theorem e_en_l {ca : Nat → ClassId} {ad : Nat → Nat} {R : e_R} {M : e_M} {a n : Nat} (h : e_SH a = (22, n)) : e_en ca ad R M a = .inl (ca 2, n, .inr (.inl (fun j => Int64.ofInt (M a j)))) := by
  unfold e_en
  rw [h]; rfl
theorem e_en_q {ca : Nat → ClassId} {ad : Nat → Nat} {R : e_R} {M : e_M} {a n : Nat} (h : e_SH a = (23, n)) : e_en ca ad R M a = .inl (ca 3, n, .inr (.inr (.inr (.inr (fun j => e_ad ad (R a j)))))) := by
  unfold e_en
  rw [h]; rfl
theorem e_en_r {ca : Nat → ClassId} {ad : Nat → Nat} {R : e_R} {M : e_M} {a n : Nat} (h : e_SH a = (24, n)) : e_en ca ad R M a = .inl (ca 4, n, .inr (.inr (.inr (.inr (fun j => e_ad ad (R a j)))))) := by
  unfold e_en
  rw [h]; rfl
theorem e_SH_pos {a ci n : Nat} (h : e_SH a = (ci, n)) (hc : ci < 99) : 0 < a := by
  rcases Nat.eq_zero_or_pos a with h0 | h0
  · subst h0
    have : (99, 0) = (ci, n) := h
    cases this
    omega
  · exact h0
theorem e_ref {ad : Nat → Nat} {a : Nat} (h : 0 < a) : e_cv ad (.inr (.inr a)) = .ref (ad a) := by
  show va_rf (e_ad ad a) = _
  unfold e_ad
  rw [if_neg (by omega)]; rfl
/-- a class of vwCl: its table -/
def e_cl (ci : Nat) (C : String) (T : u_T) (n : Nat) (ty : Nat → FieldType) : Prop := vwCl[ci]? = some (C, T, n) ∧ (∀ w ∈ u_ws C T n, w ∈ e_gw) ∧ (∀ k, k < n → parseFieldDescriptor (T k).2.2.1 = some (ty k)) ∧ (∀ a, a < n → ∀ b, b < n → a ≠ b → (T a).2.1 ≠ (T b).2.1) ∧ ci < 20
theorem e_rM_up {M : e_M} {a k : Nat} {v : Int} (h : e_rM M) (hs : (e_SH a).1 ≠ 22) (hv : e_i32 v) : e_rM (e_up M a k v) := by
  intro b j
  have hb := h b j
  unfold e_up
  by_cases h1 : b = a
  · subst h1
    rw [if_neg hs] at hb ⊢
    rw [if_pos rfl]
    split
    · exact hv
    · exact hb
  · rw [if_neg h1]; exact hb
theorem e_rM_upL {M : e_M} {a k : Nat} {v : Int} (h : e_rM M) (hs : (e_SH a).1 = 22) (hv : e_i64 v) : e_rM (e_up M a k v) := by
  intro b j
  have hb := h b j
  unfold e_up
  by_cases h1 : b = a
  · subst h1
    rw [if_pos hs] at hb ⊢
    rw [if_pos rfl]
    split
    · exact hv
    · exact hb
  · rw [if_neg h1]; exact hb
theorem e_up_ne {M : e_M} {a k b : Nat} {v : Int} (h : b ≠ a) (j : Nat) : M b j = e_up M a k v b j := by unfold e_up; rw [if_neg h]
theorem e_up_sm {M : e_M} {a k : Nat} {v : Int} (j : Nat) : e_up M a k v a j = if j = k then v else M a j := by unfold e_up; rw [if_pos rfl]
theorem e_uR_ne {R : e_R} {a k b v : Nat} (h : b ≠ a) (j : Nat) : R b j = e_uR R a k v b j := by unfold e_uR; rw [if_neg h]
theorem e_uR_sm {R : e_R} {a k v : Nat} (j : Nat) : e_uR R a k v a j = if j = k then v else R a j := by unfold e_uR; rw [if_pos rfl]
section EH
variable {X : e_X} {d : Nat} {Y : e_Y} {pc pc' : Nat} {loc : List (Option e_V)} {st : List e_V} {o : e_O} {cn gn : Nat} {R : e_R} {M : e_M}
/-- a field of whole numbers is read -/
theorem e_r_geti {a ci n k idx : Nat} {C : String} {T : u_T} {ty : Nat → FieldType} (hc : e_cl ci C T n ty) (hs : e_SH a = (ci, n)) (ha : a ≤ cn) (hk : Nat.ble (k + 1) n = true) (hI : e_isI ci k = true) (hw : Cond.fieldLink Y.2.2.2.2.1 idx (T k).1 (T k).2.1 (T k).2.2.1 ∈ e_gw) (hd : decode Y.2.1 pc = .ok (.getfield idx, 3)) (hp : pc + 3 = pc')
    (k9 : e_G X d Y pc' loc (.inl (M a k) :: st) (cn, gn, R, M) o) : e_G X d Y pc loc (.inr (.inr a) :: st) (cn, gn, R, M) o := by
  subst hp
  intro p e Rm s m args below meth c ls H locs cells slots ad ad0 k0 c0 s0 Cx P Z L hs0 hA hk0 hcc hn hR1 hR2
  have h0 := e_SH_pos hs (by have := hc.2.2.2.2; omega)
  have hkn : k < n := Nat.le_of_ble_eq_true hk
  have hat := e_ws_at (ca := X.2.2.1) (ad := ad) (S := (cn, gn, R, M)) h0 ha
  rw [e_en_o hs hc.2.2.2.2] at hat
  have hr : e_i32 (M a k) := by
    have := P.2.2.1 a k
    rw [hs, if_neg (by have := hc.2.2.2.2; show ¬ ci = 22; omega)] at this
    exact this
  have w := k9 p e Rm s m args below meth c ls H locs cells slots ad ad0 k0 c0 s0 Cx P Z L (e_cs (v := .inl _) hr (e_tl hs0)) hA hk0 hcc hn hR1 hR2
  rw [List.map_cons, e_ref h0]
  refine va_get (v := .int (Int32.ofInt (M a k))) Cx.1 Cx.2.1 Cx.2.2.2.2.2.1 hc.2.1 Cx.2.2.2.2.1 Cx.2.2.2.2.2.2.2.1.1 P.1 (a - 1) hat hc.1 k hkn (Cx.2.2.2.2.2.1 _ hw) (fun _ h9 => h9) ?_ hd w
  rw [List.getElem?_map, List.getElem?_range hkn]
  show some (e_fv ad R M a ci k) = _
  unfold e_fv
  rw [if_pos hI]
/-- a reference field is read -/
theorem e_r_getr {a ci n k idx q : Nat} {C : String} {T : u_T} {ty : Nat → FieldType} (hc : e_cl ci C T n ty) (hs : e_SH a = (ci, n)) (ha : a ≤ cn) (hk : Nat.ble (k + 1) n = true) (hI : e_isI ci k = false) (hw : Cond.fieldLink Y.2.2.2.2.1 idx (T k).1 (T k).2.1 (T k).2.2.1 ∈ e_gw) (hq : R a k = q) (hv9 : q ≤ cn) (hd : decode Y.2.1 pc = .ok (.getfield idx, 3)) (hp : pc + 3 = pc')
    (k9 : e_G X d Y pc' loc (.inr (.inr q) :: st) (cn, gn, R, M) o) : e_G X d Y pc loc (.inr (.inr a) :: st) (cn, gn, R, M) o := by
  subst hp
  subst hq
  intro p e Rm s m args below meth c ls H locs cells slots ad ad0 k0 c0 s0 Cx P Z L hs0 hA hk0 hcc hn hR1 hR2
  have h0 := e_SH_pos hs (by have := hc.2.2.2.2; omega)
  have hkn : k < n := Nat.le_of_ble_eq_true hk
  have hat := e_ws_at (ca := X.2.2.1) (ad := ad) (S := (cn, gn, R, M)) h0 ha
  rw [e_en_o hs hc.2.2.2.2] at hat
  have w := k9 p e Rm s m args below meth c ls H locs cells slots ad ad0 k0 c0 s0 Cx P Z L (e_cs (v := .inr (.inr _)) (Or.inl hv9) (e_tl hs0)) hA hk0 hcc hn hR1 hR2
  rw [List.map_cons, e_ref h0]
  refine va_get (v := va_rf (e_ad ad (R a k))) Cx.1 Cx.2.1 Cx.2.2.2.2.2.1 hc.2.1 Cx.2.2.2.2.1 Cx.2.2.2.2.2.2.2.1.1 P.1 (a - 1) hat hc.1 k hkn (Cx.2.2.2.2.2.1 _ hw) (fun _ h9 => h9) ?_ hd w
  rw [List.getElem?_map, List.getElem?_range hkn]
  show some (e_fv ad R M a ci k) = _
  unfold e_fv
  rw [if_neg (by rw [hI]; decide)]
theorem e_fs_set {ad : Nat → Nat} {a ci n k : Nat} {v : Int} (hk : k < n) (hI : e_isI ci k = true) : ((List.range n).map (fun j => e_fv ad R M a ci j)).set k (.int (Int32.ofInt v)) = (List.range n).map (fun j => e_fv ad R (e_up M a k v) a ci j) := by
  apply List.ext_getElem?
  intro j
  rw [List.getElem?_set]
  by_cases hj : j < n
  · by_cases hkj : k = j
    · subst hkj
      rw [if_pos rfl, if_pos (by simp; exact hj), List.getElem?_map, List.getElem?_range hj]
      show _ = some (e_fv ad R (e_up M a k v) a ci k)
      unfold e_fv
      rw [if_pos hI, e_up_sm, if_pos rfl]
    · rw [if_neg hkj, List.getElem?_map, List.getElem?_map, List.getElem?_range hj]
      show some (e_fv ad R M a ci j) = some (e_fv ad R (e_up M a k v) a ci j)
      unfold e_fv
      rw [e_up_sm, if_neg (show ¬ j = k from fun e => hkj e.symm)]
  · rw [if_neg (by omega), List.getElem?_eq_none (by simp; omega), List.getElem?_eq_none (by simp; omega)]
/-- a field of whole numbers is written -/
theorem e_r_puti {a ci n k idx : Nat} {v : Int} {C : String} {T : u_T} {ty : Nat → FieldType} (hc : e_cl ci C T n ty) (hs : e_SH a = (ci, n)) (ha : a ≤ cn) (hk : Nat.ble (k + 1) n = true) (hI : e_isI ci k = true) (hw : Cond.fieldLink Y.2.2.2.2.1 idx (T k).1 (T k).2.1 (T k).2.2.1 ∈ e_gw) (hf : (T k).2.2.2 = false) (hty : parseFieldDescriptor (T k).2.2.1 = some .int) (hd : decode Y.2.1 pc = .ok (.putfield idx, 3)) (hp : pc + 3 = pc')
    (k9 : e_G X d Y pc' loc st (cn, gn, R, e_up M a k v) o) : e_G X d Y pc loc (.inl v :: .inr (.inr a) :: st) (cn, gn, R, M) o := by
  subst hp
  intro p e Rm s m args below meth c ls H locs cells slots ad ad0 k0 c0 s0 Cx P Z L hs0 hA hk0 hcc hn hR1 hR2
  have h0 := e_SH_pos hs (by have := hc.2.2.2.2; omega)
  have hkn : k < n := Nat.le_of_ble_eq_true hk
  have hat := e_ws_at (ca := X.2.2.1) (ad := ad) (S := (cn, gn, R, M)) h0 ha
  rw [e_en_o hs hc.2.2.2.2] at hat
  rw [List.map_cons, List.map_cons, e_ref h0]
  refine va_put (v := .int (Int32.ofInt v)) (ty := .int) Cx.1 Cx.2.1 Cx.2.2.2.2.2.1 hc.2.1 ty hc.2.2.1 hc.2.2.2.1 Cx.2.2.2.2.1 Cx.2.2.2.2.2.2.2.1.1 P.1 P.2.1 Z (a - 1) hat hc.1 k hkn (Cx.2.2.2.2.2.1 _ hw) (fun _ h9 => h9) hf hty rfl rfl (by simp; exact hkn) hd (fun H1 locs1 hP1 hD1 hS1 => ?_)
  rw [e_fs_set hkn hI, ← e_en_o hs hc.2.2.2.2, e_ws_set h0 (fun _ _ _ => rfl) (fun b hb j => e_up_ne hb j)] at hP1 hD1
  exact k9 p e Rm s m args below meth c ls H1 locs1 cells slots ad ad0 k0 c0 s0 Cx ⟨hP1, hD1, e_rM_up P.2.2.1 (by rw [hs]; have := hc.2.2.2.2; show ci ≠ 22; omega) (e_hd hs0), P.2.2.2⟩ hS1 L (e_tl (e_tl hs0)) hA hk0 hcc hn hR1 hR2
/-- whole numbers of an array of int -/
theorem e_r_iald {a n j9 : Nat} {i : Int} (hs : e_SH a = (20, n)) (ha : a ≤ cn) (h0i : 0 ≤ i) (hi : i < (n : Int)) (hj9 : i.toNat = j9) (hd : decode Y.2.1 pc = .ok (.iaload, 1)) (hp : pc + 1 = pc')
    (k9 : e_G X d Y pc' loc (.inl (M a j9) :: st) (cn, gn, R, M) o) : e_G X d Y pc loc (.inl i :: .inr (.inr a) :: st) (cn, gn, R, M) o := by
  subst hj9
  subst hp
  intro p e Rm s m args below meth c ls H locs cells slots ad ad0 k0 c0 s0 Cx P Z L hs0 hA hk0 hcc hn hR1 hR2
  have h0 := e_SH_pos hs (by omega)
  have hat := e_ws_at (ca := X.2.2.1) (ad := ad) (S := (cn, gn, R, M)) h0 ha
  rw [e_en_i hs] at hat
  have hri : e_i32 i := e_hd hs0
  have hr : e_i32 (M a i.toNat) := by
    have := P.2.2.1 a i.toNat
    rw [hs] at this
    exact this
  have w := k9 p e Rm s m args below meth c ls H locs cells slots ad ad0 k0 c0 s0 Cx P Z L (e_cs (v := .inl _) hr (e_tl (e_tl hs0))) hA hk0 hcc hn hR1 hR2
  rw [List.map_cons, List.map_cons, e_ref h0]
  refine va_iald Cx.1 Cx.2.1 Cx.2.2.2.2.2.2.2.1.1 P.1 (a - 1) 0 hat rfl (e_in hri h0i hi) hd ?_
  rw [e_clamp hri]
  exact w
theorem e_r_bald {a n j9 : Nat} {i : Int} (hs : e_SH a = (21, n)) (ha : a ≤ cn) (h0i : 0 ≤ i) (hi : i < (n : Int)) (hj9 : i.toNat = j9) (hd : decode Y.2.1 pc = .ok (.baload, 1)) (hp : pc + 1 = pc')
    (k9 : e_G X d Y pc' loc (.inl (M a j9) :: st) (cn, gn, R, M) o) : e_G X d Y pc loc (.inl i :: .inr (.inr a) :: st) (cn, gn, R, M) o := by
  subst hj9
  subst hp
  intro p e Rm s m args below meth c ls H locs cells slots ad ad0 k0 c0 s0 Cx P Z L hs0 hA hk0 hcc hn hR1 hR2
  have h0 := e_SH_pos hs (by omega)
  have hat := e_ws_at (ca := X.2.2.1) (ad := ad) (S := (cn, gn, R, M)) h0 ha
  rw [e_en_b hs] at hat
  have hri : e_i32 i := e_hd hs0
  have hr : e_i32 (M a i.toNat) := by
    have := P.2.2.1 a i.toNat
    rw [hs] at this
    exact this
  have w := k9 p e Rm s m args below meth c ls H locs cells slots ad ad0 k0 c0 s0 Cx P Z L (e_cs (v := .inl _) hr (e_tl (e_tl hs0))) hA hk0 hcc hn hR1 hR2
  rw [List.map_cons, List.map_cons, e_ref h0]
  refine va_bald Cx.1 Cx.2.1 Cx.2.2.2.2.2.2.2.1.1 P.1 (a - 1) 1 hat rfl (e_in hri h0i hi) hd ?_
  rw [e_clamp hri]
  exact w
theorem e_r_lald {a n j9 : Nat} {i : Int} (hs : e_SH a = (22, n)) (ha : a ≤ cn) (h0i : 0 ≤ i) (hi : i < (n : Int)) (hj9 : i.toNat = j9) (hd : decode Y.2.1 pc = .ok (.laload, 1)) (hp : pc + 1 = pc')
    (k9 : e_G X d Y pc' loc (.inr (.inl (M a j9)) :: st) (cn, gn, R, M) o) : e_G X d Y pc loc (.inl i :: .inr (.inr a) :: st) (cn, gn, R, M) o := by
  subst hj9
  subst hp
  intro p e Rm s m args below meth c ls H locs cells slots ad ad0 k0 c0 s0 Cx P Z L hs0 hA hk0 hcc hn hR1 hR2
  have h0 := e_SH_pos hs (by omega)
  have hat := e_ws_at (ca := X.2.2.1) (ad := ad) (S := (cn, gn, R, M)) h0 ha
  rw [e_en_l hs] at hat
  have hri : e_i32 i := e_hd hs0
  have hr : e_i64 (M a i.toNat) := by
    have := P.2.2.1 a i.toNat
    rw [hs] at this
    exact this
  have w := k9 p e Rm s m args below meth c ls H locs cells slots ad ad0 k0 c0 s0 Cx P Z L (e_cs (v := .inr (.inl _)) hr (e_tl (e_tl hs0))) hA hk0 hcc hn hR1 hR2
  rw [List.map_cons, List.map_cons, e_ref h0]
  refine va_lald Cx.1 Cx.2.1 Cx.2.2.2.2.2.2.2.1.1 P.1 (a - 1) 2 hat rfl (e_in hri h0i hi) hd ?_
  rw [e_clamp hri]
  exact w
theorem e_r_iast {a n j9 : Nat} {i v : Int} (hs : e_SH a = (20, n)) (ha : a ≤ cn) (h0i : 0 ≤ i) (hi : i < (n : Int)) (hj9 : i.toNat = j9) (hd : decode Y.2.1 pc = .ok (.iastore, 1)) (hp : pc + 1 = pc')
    (k9 : e_G X d Y pc' loc st (cn, gn, R, e_up M a j9 v) o) : e_G X d Y pc loc (.inl v :: .inl i :: .inr (.inr a) :: st) (cn, gn, R, M) o := by
  subst hj9
  subst hp
  intro p e Rm s m args below meth c ls H locs cells slots ad ad0 k0 c0 s0 Cx P Z L hs0 hA hk0 hcc hn hR1 hR2
  have h0 := e_SH_pos hs (by omega)
  have hat := e_ws_at (ca := X.2.2.1) (ad := ad) (S := (cn, gn, R, M)) h0 ha
  rw [e_en_i hs] at hat
  have hri : e_i32 i := e_hd (e_tl hs0)
  rw [List.map_cons, List.map_cons, List.map_cons, e_ref h0]
  refine va_iast Cx.1 Cx.2.1 Cx.2.2.2.2.2.2.2.1.1 P.1 P.2.1 Z (a - 1) 0 hat rfl (e_in hri h0i hi) hd (fun H1 locs1 hP1 hD1 hS1 => ?_)
  have e1 : upd (fun j => Int32.ofInt (M a j)) (Int32.ofInt i).toNatClampNeg (Int32.ofInt v) = fun j => Int32.ofInt (e_up M a i.toNat v a j) := by
    funext j
    rw [e_clamp hri, e_up_sm]
    unfold upd
    split <;> rfl
  rw [e1, ← e_en_i hs (ca := X.2.2.1) (ad := ad) (R := R), e_ws_set h0 (fun _ _ _ => rfl) (fun b hb j => e_up_ne hb j)] at hP1 hD1
  exact k9 p e Rm s m args below meth c ls H1 locs1 cells slots ad ad0 k0 c0 s0 Cx ⟨hP1, hD1, e_rM_up P.2.2.1 (by rw [hs]; show 20 ≠ 22; decide) (e_hd hs0), P.2.2.2⟩ hS1 L (e_tl (e_tl (e_tl hs0))) hA hk0 hcc hn hR1 hR2
theorem e_r_bast {a n j9 : Nat} {i v : Int} (hs : e_SH a = (21, n)) (ha : a ≤ cn) (h0i : 0 ≤ i) (hi : i < (n : Int)) (hj9 : i.toNat = j9) (hd : decode Y.2.1 pc = .ok (.bastore, 1)) (hp : pc + 1 = pc')
    (k9 : e_G X d Y pc' loc st (cn, gn, R, e_up M a j9 (e_i2b v)) o) : e_G X d Y pc loc (.inl v :: .inl i :: .inr (.inr a) :: st) (cn, gn, R, M) o := by
  subst hj9
  subst hp
  intro p e Rm s m args below meth c ls H locs cells slots ad ad0 k0 c0 s0 Cx P Z L hs0 hA hk0 hcc hn hR1 hR2
  have h0 := e_SH_pos hs (by omega)
  have hat := e_ws_at (ca := X.2.2.1) (ad := ad) (S := (cn, gn, R, M)) h0 ha
  rw [e_en_b hs] at hat
  have hri : e_i32 i := e_hd (e_tl hs0)
  rw [List.map_cons, List.map_cons, List.map_cons, e_ref h0]
  refine va_bast Cx.1 Cx.2.1 Cx.2.2.2.2.2.2.2.1.1 P.1 P.2.1 Z (a - 1) 1 hat rfl (e_in hri h0i hi) hd (fun H1 locs1 hP1 hD1 hS1 => ?_)
  have e1 : upd (fun j => Int32.ofInt (M a j)) (Int32.ofInt i).toNatClampNeg (vp_nar .byte (Int32.ofInt v)) = fun j => Int32.ofInt (e_up M a i.toNat (e_i2b v) a j) := by
    funext j
    rw [e_clamp hri, e_up_sm, vp_nar_byte]
    unfold upd e_i2b
    split
    · rw [e_ofI]
    · rfl
  rw [e1, ← e_en_b hs (ca := X.2.2.1) (ad := ad) (R := R), e_ws_set h0 (fun _ _ _ => rfl) (fun b hb j => e_up_ne hb j)] at hP1 hD1
  exact k9 p e Rm s m args below meth c ls H1 locs1 cells slots ad ad0 k0 c0 s0 Cx ⟨hP1, hD1, e_rM_up P.2.2.1 (by rw [hs]; show 21 ≠ 22; decide) (e_r32 _), P.2.2.2⟩ hS1 L (e_tl (e_tl (e_tl hs0))) hA hk0 hcc hn hR1 hR2
theorem e_r_last {a n j9 : Nat} {i v : Int} (hs : e_SH a = (22, n)) (ha : a ≤ cn) (h0i : 0 ≤ i) (hi : i < (n : Int)) (hj9 : i.toNat = j9) (hd : decode Y.2.1 pc = .ok (.lastore, 1)) (hp : pc + 1 = pc')
    (k9 : e_G X d Y pc' loc st (cn, gn, R, e_up M a j9 v) o) : e_G X d Y pc loc (.inr (.inl v) :: .inl i :: .inr (.inr a) :: st) (cn, gn, R, M) o := by
  subst hj9
  subst hp
  intro p e Rm s m args below meth c ls H locs cells slots ad ad0 k0 c0 s0 Cx P Z L hs0 hA hk0 hcc hn hR1 hR2
  have h0 := e_SH_pos hs (by omega)
  have hat := e_ws_at (ca := X.2.2.1) (ad := ad) (S := (cn, gn, R, M)) h0 ha
  rw [e_en_l hs] at hat
  have hri : e_i32 i := e_hd (e_tl hs0)
  rw [List.map_cons, List.map_cons, List.map_cons, e_ref h0]
  refine va_last Cx.1 Cx.2.1 Cx.2.2.2.2.2.2.2.1.1 P.1 P.2.1 Z (a - 1) 2 hat rfl (e_in hri h0i hi) hd (fun H1 locs1 hP1 hD1 hS1 => ?_)
  have e1 : vp_updL (fun j => Int64.ofInt (M a j)) (Int32.ofInt i).toNatClampNeg (Int64.ofInt v) = fun j => Int64.ofInt (e_up M a i.toNat v a j) := by
    funext j
    rw [e_clamp hri, e_up_sm]
    unfold vp_updL
    split <;> rfl
  rw [e1, ← e_en_l hs (ca := X.2.2.1) (ad := ad) (R := R), e_ws_set h0 (fun _ _ _ => rfl) (fun b hb j => e_up_ne hb j)] at hP1 hD1
  exact k9 p e Rm s m args below meth c ls H1 locs1 cells slots ad ad0 k0 c0 s0 Cx ⟨hP1, hD1, e_rM_upL P.2.2.1 (by rw [hs]) (e_hd hs0), P.2.2.2⟩ hS1 L (e_tl (e_tl (e_tl hs0))) hA hk0 hcc hn hR1 hR2
/-- a reference out of an array of Shelf -/
theorem e_r_aldq {a n q : Nat} {i : Int} (hs : e_SH a = (23, n)) (ha : a ≤ cn) (h0i : 0 ≤ i) (hi : i < (n : Int)) (hq : R a i.toNat = q) (hv9 : q ≤ cn) (hd : decode Y.2.1 pc = .ok (.aaload, 1)) (hp : pc + 1 = pc')
    (k9 : e_G X d Y pc' loc (.inr (.inr q) :: st) (cn, gn, R, M) o) : e_G X d Y pc loc (.inl i :: .inr (.inr a) :: st) (cn, gn, R, M) o := by
  subst hp
  subst hq
  intro p e Rm s m args below meth c ls H locs cells slots ad ad0 k0 c0 s0 Cx P Z L hs0 hA hk0 hcc hn hR1 hR2
  have h0 := e_SH_pos hs (by omega)
  have hat := e_ws_at (ca := X.2.2.1) (ad := ad) (S := (cn, gn, R, M)) h0 ha
  rw [e_en_q hs] at hat
  have hri : e_i32 i := e_hd hs0
  have w := k9 p e Rm s m args below meth c ls H locs cells slots ad ad0 k0 c0 s0 Cx P Z L (e_cs (v := .inr (.inr _)) (Or.inl hv9) (e_tl (e_tl hs0))) hA hk0 hcc hn hR1 hR2
  rw [List.map_cons, List.map_cons, e_ref h0]
  refine va_aldq (C := "BoughtMondays$Shelf") Cx.1 Cx.2.1 Cx.2.2.2.2.2.2.2.1.1 P.1 (a - 1) 3 hat rfl (e_in hri h0i hi) hd ?_
  rw [e_clamp hri]
  exact w
/-- a row out of an array of rows -/
theorem e_r_aldr {a n q : Nat} {i : Int} (hs : e_SH a = (24, n)) (ha : a ≤ cn) (h0i : 0 ≤ i) (hi : i < (n : Int)) (hq : R a i.toNat = q) (hv9 : q ≤ cn) (hd : decode Y.2.1 pc = .ok (.aaload, 1)) (hp : pc + 1 = pc')
    (k9 : e_G X d Y pc' loc (.inr (.inr q) :: st) (cn, gn, R, M) o) : e_G X d Y pc loc (.inl i :: .inr (.inr a) :: st) (cn, gn, R, M) o := by
  subst hp
  subst hq
  intro p e Rm s m args below meth c ls H locs cells slots ad ad0 k0 c0 s0 Cx P Z L hs0 hA hk0 hcc hn hR1 hR2
  have h0 := e_SH_pos hs (by omega)
  have hat := e_ws_at (ca := X.2.2.1) (ad := ad) (S := (cn, gn, R, M)) h0 ha
  rw [e_en_r hs] at hat
  have hri : e_i32 i := e_hd hs0
  have w := k9 p e Rm s m args below meth c ls H locs cells slots ad ad0 k0 c0 s0 Cx P Z L (e_cs (v := .inr (.inr _)) (Or.inl hv9) (e_tl (e_tl hs0))) hA hk0 hcc hn hR1 hR2
  rw [List.map_cons, List.map_cons, e_ref h0]
  have hin := e_in hri h0i hi
  have hlt : (Int32.ofInt i).toNatClampNeg < n := Nat.not_le.mp fun q => hin (Or.inr q)
  refine W.aald (v := va_rf (e_ad ad (R a (Int32.ofInt i).toNatClampNeg))) (ty := .array .int) Cx.1 Cx.2.1 (P.1 (a - 1) _ hat) ((Cx.2.2.2.2.2.2.2.1.1.2 4 (X.2.2.1 4, .array .int) rfl).1 n (fun j => va_rf (e_ad ad (R a j)))) rfl (fun q => by cases q) (by show ¬ (_ ∨ (arrV _ _ _).slots.size ≤ _); rw [arrV_size]; exact hin) (by show (arrV _ _ _).slots[_]? = _; rw [arrV_read _ _ hlt]) rfl rfl hd ?_
  rw [e_clamp hri]
  exact w
/-- an array's length -/
theorem e_r_alen {a n : Nat} (hs : e_SH a = (20, n)) (ha : a ≤ cn) (hn9 : n < 2147483648) (hd : decode Y.2.1 pc = .ok (.arraylength, 1)) (hp : pc + 1 = pc')
    (k9 : e_G X d Y pc' loc (.inl (n : Int) :: st) (cn, gn, R, M) o) : e_G X d Y pc loc (.inr (.inr a) :: st) (cn, gn, R, M) o := by
  subst hp
  intro p e Rm s m args below meth c ls H locs cells slots ad ad0 k0 c0 s0 Cx P Z L hs0 hA hk0 hcc hn hR1 hR2
  have h0 := e_SH_pos hs (by omega)
  have hat := e_ws_at (ca := X.2.2.1) (ad := ad) (S := (cn, gn, R, M)) h0 ha
  rw [e_en_i hs] at hat
  have w := k9 p e Rm s m args below meth c ls H locs cells slots ad ad0 k0 c0 s0 Cx P Z L (e_cs (v := .inl _) (by show e_i32 _; unfold e_i32; omega) (e_tl hs0)) hA hk0 hcc hn hR1 hR2
  rw [List.map_cons, e_ref h0]
  exact va_alen Cx.1 Cx.2.1 Cx.2.2.2.2.2.2.2.1.1 P.1 (a - 1) 0 hat (ty := .int) rfl rfl hd w
/-- the script -/
theorem e_r_sld {i : Int} (h0i : 0 ≤ i) (hi : i < (X.2.2.2.2.2.1 : Int)) (hb9 : X.2.2.2.2.1 < (e_H0 X).size) (hd : decode Y.2.1 pc = .ok (.iaload, 1)) (hp : pc + 1 = pc')
    (k9 : e_G X d Y pc' loc (.inl (X.2.2.2.2.2.2.1 i.toNat).toInt :: st) (cn, gn, R, M) o) : e_G X d Y pc loc (.inl i :: .inr (.inr 999999) :: st) (cn, gn, R, M) o := by
  subst hp
  intro p e Rm s m args below meth c ls H locs cells slots ad ad0 k0 c0 s0 Cx P Z L hs0 hA hk0 hcc hn hR1 hR2
  have hri : e_i32 i := e_hd hs0
  have w := k9 p e Rm s m args below meth c ls H locs cells slots ad ad0 k0 c0 s0 Cx P Z L (e_cs (v := .inl _) (e_r32 _) (e_tl (e_tl hs0))) hA hk0 hcc hn hR1 hR2
  rw [List.map_cons, List.map_cons, e_ref (by omega : 0 < 999999), P.2.2.2.1]
  refine va_sld Cx.1 Cx.2.1 Cx.2.2.2.2.2.2.2.1.2.2.2.2.1 hb9 (Nat.not_le.mpr hb9) Z (e_in hri h0i hi) hd ?_
  rw [e_clamp hri, ← e_ofI (X.2.2.2.2.2.2.1 i.toNat)]
  exact w
theorem e_r_slen (hb9 : X.2.2.2.2.1 < (e_H0 X).size) (hL : X.2.2.2.2.2.1 < 2147483648) (hd : decode Y.2.1 pc = .ok (.arraylength, 1)) (hp : pc + 1 = pc')
    (k9 : e_G X d Y pc' loc (.inl (X.2.2.2.2.2.1 : Int) :: st) (cn, gn, R, M) o) : e_G X d Y pc loc (.inr (.inr 999999) :: st) (cn, gn, R, M) o := by
  subst hp
  intro p e Rm s m args below meth c ls H locs cells slots ad ad0 k0 c0 s0 Cx P Z L hs0 hA hk0 hcc hn hR1 hR2
  have w := k9 p e Rm s m args below meth c ls H locs cells slots ad ad0 k0 c0 s0 Cx P Z L (e_cs (v := .inl _) (by show e_i32 _; unfold e_i32; omega) (e_tl hs0)) hA hk0 hcc hn hR1 hR2
  rw [List.map_cons, e_ref (by omega : 0 < 999999), P.2.2.2.1]
  exact va_slen Cx.1 Cx.2.1 Cx.2.2.2.2.2.2.2.1.2.2.2.2.1 hb9 (Nat.not_le.mpr hb9) Z hd w
/-- ends -/
theorem e_end {S : e_S} {v : Option e_V} {s : State} {H : Heap} {locs : List Loc} {ad ad0 : Nat → Nat} {k0 : Nat} (P : e_Hp X ad S H) (Z : va_S (e_A X) (e_H0 X) H locs) (hA : ∀ a, a ≤ k0 ∨ 999999 ≤ a → ad a = ad0 a) (hv : ∀ x, v = some x → e_rg S.1 x) (args : Array Value) (t : State) (ht : t.heap = H) : e_Qc X ad0 k0 (.inl v, S) args s (.returned (v.map (e_cv ad))) t :=
  ⟨v, ad, rfl, rfl, hv, hA, by rw [ht]; exact P, by rw [ht]; exact ⟨Z.1, Z.2.1, fun _ h => by cases h⟩⟩
theorem e_r_iret {S : e_S} {v : Int} {ty : FieldType} (hr : Y.2.2.2.1 = some ty) (hn9 : e_i32 v → narrow ty (.int (Int32.ofInt v)) = .int (Int32.ofInt v)) (hd : decode Y.2.1 pc = .ok (.ireturn, 1)) (ho : o = (.inl (some (.inl v)), S)) : e_G X d Y pc loc [.inl v] S o := by
  subst ho
  intro p e Rm s m args below meth c ls H locs cells slots ad ad0 k0 c0 s0 Cx P Z L hs0 hA hk0 hcc hn hR1 hR2
  have hlocks : meth.locks = false := Cx.2.2.2.2.2.2.1
  rw [show e_cn S - c0 = cells by omega, show e_sn S - s0 = slots by omega]
  refine vx_ret (W.zret (ty := ty) Cx.1 Cx.2.1 (Cx.2.2.1.trans hr) (hn9 (e_hd hs0)) (fun t ht _ => ?_) Z.2.2 hd)
  exact e_end (v := some (.inl v)) P Z hA (fun x hx => by cases hx; exact e_hd hs0) args t ht
theorem e_r_lret {S : e_S} {v : Int} (hr : Y.2.2.2.1 = some .long) (hd : decode Y.2.1 pc = .ok (.lreturn, 1)) (ho : o = (.inl (some (.inr (.inl v))), S)) : e_G X d Y pc loc [.inr (.inl v)] S o := by
  subst ho
  intro p e Rm s m args below meth c ls H locs cells slots ad ad0 k0 c0 s0 Cx P Z L hs0 hA hk0 hcc hn hR1 hR2
  have hlocks : meth.locks = false := Cx.2.2.2.2.2.2.1
  rw [show e_cn S - c0 = cells by omega, show e_sn S - s0 = slots by omega]
  refine vx_ret (W.lret Cx.1 Cx.2.1 (Cx.2.2.1.trans hr) (fun t ht _ => ?_) Z.2.2 hd)
  exact e_end (v := some (.inr (.inl v))) P Z hA (fun x hx => by cases hx; exact e_hd hs0) args t ht
theorem e_r_vret {S : e_S} (hr : Y.2.2.2.1 = none) (hd : decode Y.2.1 pc = .ok (.return_, 1)) (ho : o = (.inl none, S)) : e_G X d Y pc loc [] S o := by
  subst ho
  intro p e Rm s m args below meth c ls H locs cells slots ad ad0 k0 c0 s0 Cx P Z L hs0 hA hk0 hcc hn hR1 hR2
  have hlocks : meth.locks = false := Cx.2.2.2.2.2.2.1
  rw [show e_cn S - c0 = cells by omega, show e_sn S - s0 = slots by omega]
  refine vx_ret (W.vret Cx.1 Cx.2.1 (Cx.2.2.1.trans hr) (fun t ht _ => ?_) Z.2.2 hd)
  exact e_end (v := none) P Z hA (fun x hx => by cases hx) args t ht
theorem e_nI (x : Int) (_ : e_i32 x) : narrow .int (.int (Int32.ofInt x)) = .int (Int32.ofInt x) := rfl
theorem e_nZ {x : Int} (h : x = 0 ∨ x = 1) (_ : e_i32 x) : narrow .boolean (.int (Int32.ofInt x)) = .int (Int32.ofInt x) := by
  rcases h with h | h <;> subst h <;> decide
end EH
