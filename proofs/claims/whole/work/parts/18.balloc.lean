/-! THE ENGINE, 11: arrays are made; final fields; an array of references is written -/
section EB
variable {X : e_X} {d : Nat} {Y : e_Y} {pc pc' : Nat} {loc : List (Option e_V)} {st : List e_V} {o : e_O} {cn gn : Nat} {R : e_R} {M : e_M}
theorem e_caEq {s : State} {t0 : Nat} {c0 cA : ClassId} {ty : FieldType} {D : va_G} {tys : List (ClassId × FieldType)} (hty : ∀ C, ty ≠ .object C) (hK : va_K D vwCl tys s) (h0 : tys[t0]? = some (c0, ty)) (hK1 : va_K D vwCl (tys ++ [(cA, ty)]) s) : cA = c0 := by
  have h1 := (hK.2 t0 _ h0).2
  have h2 := (hK1.2 tys.length (cA, ty) (by simp)).2
  cases ty with
  | object C => exact absurd rfl (hty C)
  | _ => exact Option.some.inj (h2.symm.trans h1)
set_option maxHeartbeats 1000000 in
theorem e_r_newI {n : Nat} {i : Int} (hs : e_SH (cn + 1) = (20, n)) (hi : i = (n : Int)) (hR : ∀ a j, R a j ≤ cn) (hcn : cn < 999000) (hnb : n * 8 ≤ 536870912) (hw : Cond.arrayClass .int ∈ e_gw) (hd : decode Y.2.1 pc = .ok (.newarray .int, 2)) (hp : pc + 2 = pc') (hm : e_mn (cn + 1, gn, R, M) o.2)
    (k9 : e_G X d Y pc' loc (.inr (.inr (cn + 1)) :: st) (cn + 1, gn, e_zR R (cn + 1), e_z M (cn + 1)) o) : e_G X d Y pc loc (.inl i :: st) (cn, gn, R, M) o := by
  subst hp
  intro p e Rm s m args below meth c ls H locs cells slots ad ad0 k0 c0 s0 Cx P Z L hs0 hA hk0 hcc hn hR1 hR2
  have hts := Cx.2.2.2.2.2.1
  have hm1 := hm.cn
  have hm2 := hm.sn
  have es := e_slc1 hs
  have hcc' : cells + c0 = cn + gn := hcc
  have hn' : slots + s0 = e_slc cn + 6 * gn := hn
  have hm1' : cn + 1 + gn ≤ e_cn o.2 := hm1
  have hm2' : e_slc (cn + 1) + 6 * gn ≤ e_sn o.2 := hm2
  have hri : e_i32 i := e_hd hs0
  have hK := Cx.2.2.2.2.2.2.2.1.1
  refine va_newa (atype := .int) (ty := .int) (a0 := (n, .inl (fun _ => (0 : Int32)))) Cx.1 Cx.2.1 (hts _ hw) rfl hK P.1 P.2.1 Z (fun q h => h) (N' := n) (fun cA => rfl) (fun q => ?_) ?_ (by show n * _ ≤ _; first | (show n * 4 ≤ _; omega) | (show n * 1 ≤ _; omega) | (show n * 8 ≤ _; omega)) (by have := hR1.1; omega) (by have := hR2.1; omega) hd (fun q cA H1 hK1 hP1 hD1 hS1 => ?_)
  · rw [e_0, e_lt hri e_00] at q
    omega
  · rw [e_clamp hri]; omega
  · have hca := e_caEq (t0 := 0) (fun C h => by cases h) hK rfl hK1
    subst hca
    have e1 : e_en X.2.2.1 (e_ext ad (cn + 1) q) (e_zR R (cn + 1)) (e_z M (cn + 1)) (cn + 1) = .inl (X.2.2.1 0, n, .inl (fun _ => (0 : Int32))) := by
      rw [e_en_i hs]
      unfold e_z
      simp only [if_true]
      rfl
    rw [← e1] at hP1 hD1
    have P1 := e_Hp_ext P hR (fun b hb j => e_zR_lo hb j) (fun b hb j => e_z_lo hb j) hcn (e_rM_z P.2.2.1) hP1 hD1
    have hag : ∀ a, a ≤ cn ∨ 999999 ≤ a → e_ext ad (cn + 1) q a = ad a := fun a ha => e_ext_ne (by omega)
    have hs1 : ∀ x ∈ st, e_rg cn x := e_tl hs0
    have w := k9 p e Rm s m args below meth c ls H1 locs (cells + 1) (slots + n) (e_ext ad (cn + 1) q) ad0 k0 c0 s0 Cx P1 hS1 (L.moved (Nat.le_succ _) hag) (e_cs (v := .inr (.inr _)) (Or.inl (Nat.le_refl _)) (fun x hx => e_rg_mono (Nat.le_succ _) (hs1 x hx))) (fun a ha => by rw [hag a (ha.elim (fun h => Or.inl (Nat.le_trans h hk0)) Or.inr)]; exact hA a ha) (Nat.le_succ_of_le hk0) (by show _ = cn + 1 + gn; omega) (by show _ = e_slc (cn + 1) + 6 * gn; omega) ⟨hR1.1, by have := hR1.1; omega⟩ ⟨hR2.1, by have := hR2.1; omega⟩
    rw [List.map_cons, e_ref (by omega), e_ext_s, e_map_eq hag hs1] at w
    exact w
set_option maxHeartbeats 1000000 in
theorem e_r_newB {n : Nat} {i : Int} (hs : e_SH (cn + 1) = (21, n)) (hi : i = (n : Int)) (hR : ∀ a j, R a j ≤ cn) (hcn : cn < 999000) (hnb : n * 8 ≤ 536870912) (hw : Cond.arrayClass .byte ∈ e_gw) (hd : decode Y.2.1 pc = .ok (.newarray .byte, 2)) (hp : pc + 2 = pc') (hm : e_mn (cn + 1, gn, R, M) o.2)
    (k9 : e_G X d Y pc' loc (.inr (.inr (cn + 1)) :: st) (cn + 1, gn, e_zR R (cn + 1), e_z M (cn + 1)) o) : e_G X d Y pc loc (.inl i :: st) (cn, gn, R, M) o := by
  subst hp
  intro p e Rm s m args below meth c ls H locs cells slots ad ad0 k0 c0 s0 Cx P Z L hs0 hA hk0 hcc hn hR1 hR2
  have hts := Cx.2.2.2.2.2.1
  have hm1 := hm.cn
  have hm2 := hm.sn
  have es := e_slc1 hs
  have hcc' : cells + c0 = cn + gn := hcc
  have hn' : slots + s0 = e_slc cn + 6 * gn := hn
  have hm1' : cn + 1 + gn ≤ e_cn o.2 := hm1
  have hm2' : e_slc (cn + 1) + 6 * gn ≤ e_sn o.2 := hm2
  have hri : e_i32 i := e_hd hs0
  have hK := Cx.2.2.2.2.2.2.2.1.1
  refine va_newa (atype := .byte) (ty := .byte) (a0 := (n, .inl (fun _ => (0 : Int32)))) Cx.1 Cx.2.1 (hts _ hw) rfl hK P.1 P.2.1 Z (fun q h => h) (N' := n) (fun cA => rfl) (fun q => ?_) ?_ (by show n * _ ≤ _; first | (show n * 4 ≤ _; omega) | (show n * 1 ≤ _; omega) | (show n * 8 ≤ _; omega)) (by have := hR1.1; omega) (by have := hR2.1; omega) hd (fun q cA H1 hK1 hP1 hD1 hS1 => ?_)
  · rw [e_0, e_lt hri e_00] at q
    omega
  · rw [e_clamp hri]; omega
  · have hca := e_caEq (t0 := 1) (fun C h => by cases h) hK rfl hK1
    subst hca
    have e1 : e_en X.2.2.1 (e_ext ad (cn + 1) q) (e_zR R (cn + 1)) (e_z M (cn + 1)) (cn + 1) = .inl (X.2.2.1 1, n, .inl (fun _ => (0 : Int32))) := by
      rw [e_en_b hs]
      unfold e_z
      simp only [if_true]
      rfl
    rw [← e1] at hP1 hD1
    have P1 := e_Hp_ext P hR (fun b hb j => e_zR_lo hb j) (fun b hb j => e_z_lo hb j) hcn (e_rM_z P.2.2.1) hP1 hD1
    have hag : ∀ a, a ≤ cn ∨ 999999 ≤ a → e_ext ad (cn + 1) q a = ad a := fun a ha => e_ext_ne (by omega)
    have hs1 : ∀ x ∈ st, e_rg cn x := e_tl hs0
    have w := k9 p e Rm s m args below meth c ls H1 locs (cells + 1) (slots + n) (e_ext ad (cn + 1) q) ad0 k0 c0 s0 Cx P1 hS1 (L.moved (Nat.le_succ _) hag) (e_cs (v := .inr (.inr _)) (Or.inl (Nat.le_refl _)) (fun x hx => e_rg_mono (Nat.le_succ _) (hs1 x hx))) (fun a ha => by rw [hag a (ha.elim (fun h => Or.inl (Nat.le_trans h hk0)) Or.inr)]; exact hA a ha) (Nat.le_succ_of_le hk0) (by show _ = cn + 1 + gn; omega) (by show _ = e_slc (cn + 1) + 6 * gn; omega) ⟨hR1.1, by have := hR1.1; omega⟩ ⟨hR2.1, by have := hR2.1; omega⟩
    rw [List.map_cons, e_ref (by omega), e_ext_s, e_map_eq hag hs1] at w
    exact w
set_option maxHeartbeats 1000000 in
theorem e_r_newL {n : Nat} {i : Int} (hs : e_SH (cn + 1) = (22, n)) (hi : i = (n : Int)) (hR : ∀ a j, R a j ≤ cn) (hcn : cn < 999000) (hnb : n * 8 ≤ 536870912) (hw : Cond.arrayClass .long ∈ e_gw) (hd : decode Y.2.1 pc = .ok (.newarray .long, 2)) (hp : pc + 2 = pc') (hm : e_mn (cn + 1, gn, R, M) o.2)
    (k9 : e_G X d Y pc' loc (.inr (.inr (cn + 1)) :: st) (cn + 1, gn, e_zR R (cn + 1), e_z M (cn + 1)) o) : e_G X d Y pc loc (.inl i :: st) (cn, gn, R, M) o := by
  subst hp
  intro p e Rm s m args below meth c ls H locs cells slots ad ad0 k0 c0 s0 Cx P Z L hs0 hA hk0 hcc hn hR1 hR2
  have hts := Cx.2.2.2.2.2.1
  have hm1 := hm.cn
  have hm2 := hm.sn
  have es := e_slc1 hs
  have hcc' : cells + c0 = cn + gn := hcc
  have hn' : slots + s0 = e_slc cn + 6 * gn := hn
  have hm1' : cn + 1 + gn ≤ e_cn o.2 := hm1
  have hm2' : e_slc (cn + 1) + 6 * gn ≤ e_sn o.2 := hm2
  have hri : e_i32 i := e_hd hs0
  have hK := Cx.2.2.2.2.2.2.2.1.1
  refine va_newa (atype := .long) (ty := .long) (a0 := (n, .inr (.inl (fun _ => (0 : Int64))))) Cx.1 Cx.2.1 (hts _ hw) rfl hK P.1 P.2.1 Z (fun q h => h) (N' := n) (fun cA => rfl) (fun q => ?_) ?_ (by show n * _ ≤ _; first | (show n * 4 ≤ _; omega) | (show n * 1 ≤ _; omega) | (show n * 8 ≤ _; omega)) (by have := hR1.1; omega) (by have := hR2.1; omega) hd (fun q cA H1 hK1 hP1 hD1 hS1 => ?_)
  · rw [e_0, e_lt hri e_00] at q
    omega
  · rw [e_clamp hri]; omega
  · have hca := e_caEq (t0 := 2) (fun C h => by cases h) hK rfl hK1
    subst hca
    have e1 : e_en X.2.2.1 (e_ext ad (cn + 1) q) (e_zR R (cn + 1)) (e_z M (cn + 1)) (cn + 1) = .inl (X.2.2.1 2, n, .inr (.inl (fun _ => (0 : Int64)))) := by
      rw [e_en_l hs]
      unfold e_z
      simp only [if_true]
      rfl
    rw [← e1] at hP1 hD1
    have P1 := e_Hp_ext P hR (fun b hb j => e_zR_lo hb j) (fun b hb j => e_z_lo hb j) hcn (e_rM_z P.2.2.1) hP1 hD1
    have hag : ∀ a, a ≤ cn ∨ 999999 ≤ a → e_ext ad (cn + 1) q a = ad a := fun a ha => e_ext_ne (by omega)
    have hs1 : ∀ x ∈ st, e_rg cn x := e_tl hs0
    have w := k9 p e Rm s m args below meth c ls H1 locs (cells + 1) (slots + n) (e_ext ad (cn + 1) q) ad0 k0 c0 s0 Cx P1 hS1 (L.moved (Nat.le_succ _) hag) (e_cs (v := .inr (.inr _)) (Or.inl (Nat.le_refl _)) (fun x hx => e_rg_mono (Nat.le_succ _) (hs1 x hx))) (fun a ha => by rw [hag a (ha.elim (fun h => Or.inl (Nat.le_trans h hk0)) Or.inr)]; exact hA a ha) (Nat.le_succ_of_le hk0) (by show _ = cn + 1 + gn; omega) (by show _ = e_slc (cn + 1) + 6 * gn; omega) ⟨hR1.1, by have := hR1.1; omega⟩ ⟨hR2.1, by have := hR2.1; omega⟩
    rw [List.map_cons, e_ref (by omega), e_ext_s, e_map_eq hag hs1] at w
    exact w
set_option maxHeartbeats 1000000 in
/-- new Shelf[n] -/
theorem e_r_newQ {n idx : Nat} {i : Int} (hs : e_SH (cn + 1) = (23, n)) (hi : i = (n : Int)) (hR : ∀ a j, R a j ≤ cn) (hcn : cn < 999000) (hnb : n * 8 ≤ 536870912) (hlk : Cond.classLink Y.2.2.2.2.1 idx "BoughtMondays$Shelf" ∈ e_gw) (hd : decode Y.2.1 pc = .ok (.anewarray idx, 3)) (hp : pc + 3 = pc') (hm : e_mn (cn + 1, gn, R, M) o.2)
    (k9 : e_G X d Y pc' loc (.inr (.inr (cn + 1)) :: st) (cn + 1, gn, e_zR R (cn + 1), e_z M (cn + 1)) o) : e_G X d Y pc loc (.inl i :: st) (cn, gn, R, M) o := by
  subst hp
  intro p e Rm s m args below meth c ls H locs cells slots ad ad0 k0 c0 s0 Cx P Z L hs0 hA hk0 hcc hn hR1 hR2
  have hts := Cx.2.2.2.2.2.1
  have hm1 := hm.cn
  have hm2 := hm.sn
  have es := e_slc1 hs
  have hcc' : cells + c0 = cn + gn := hcc
  have hn' : slots + s0 = e_slc cn + 6 * gn := hn
  have hm1' : cn + 1 + gn ≤ e_cn o.2 := hm1
  have hm2' : e_slc (cn + 1) + 6 * gn ≤ e_sn o.2 := hm2
  have hri : e_i32 i := e_hd hs0
  have hK := Cx.2.2.2.2.2.2.2.1.1
  refine va_newq Cx.1 Cx.2.1 Cx.2.2.2.2.1 (hts _ hlk) Cx.2.2.2.2.2.2.2.1.2.2.1 hK P.1 P.2.1 Z (fun q h => h) (N' := n) (fun q => ?_) ?_ (by omega) (by have := hR1.1; omega) (by have := hR2.1; omega) hd (fun q cA H1 hK1 hP1 hD1 hS1 => ?_)
  · rw [e_0, e_lt hri e_00] at q
    omega
  · rw [e_clamp hri]; omega
  · have hca : cA = X.2.2.1 3 := by
      obtain ⟨k1, c1, a1, a2, a3, a4⟩ := (hK.2 3 (X.2.2.1 3, .object "BoughtMondays$Shelf") rfl).2
      obtain ⟨k2, c2, b1, b2, b3, b4⟩ := (hK1.2 5 (cA, .object "BoughtMondays$Shelf") rfl).2
      exact Option.some.inj (b4.symm.trans a4)
    subst hca
    have e1 : e_en X.2.2.1 (e_ext ad (cn + 1) q) (e_zR R (cn + 1)) (e_z M (cn + 1)) (cn + 1) = .inl (X.2.2.1 3, n, .inr (.inr (.inr (.inr (fun _ => none))))) := by
      rw [e_en_q hs]
      unfold e_zR e_ad
      simp only [if_true]
    rw [← e1] at hP1 hD1
    have P1 := e_Hp_ext P hR (fun b hb j => e_zR_lo hb j) (fun b hb j => e_z_lo hb j) hcn (e_rM_z P.2.2.1) hP1 hD1
    have hag : ∀ a, a ≤ cn ∨ 999999 ≤ a → e_ext ad (cn + 1) q a = ad a := fun a ha => e_ext_ne (by omega)
    have hs1 : ∀ x ∈ st, e_rg cn x := e_tl hs0
    have w := k9 p e Rm s m args below meth c ls H1 locs (cells + 1) (slots + n) (e_ext ad (cn + 1) q) ad0 k0 c0 s0 Cx P1 hS1 (L.moved (Nat.le_succ _) hag) (e_cs (v := .inr (.inr _)) (Or.inl (Nat.le_refl _)) (fun x hx => e_rg_mono (Nat.le_succ _) (hs1 x hx))) (fun a ha => by rw [hag a (ha.elim (fun h => Or.inl (Nat.le_trans h hk0)) Or.inr)]; exact hA a ha) (Nat.le_succ_of_le hk0) (by show _ = cn + 1 + gn; omega) (by show _ = e_slc (cn + 1) + 6 * gn; omega) ⟨hR1.1, by have := hR1.1; omega⟩ ⟨hR2.1, by have := hR2.1; omega⟩
    rw [List.map_cons, e_ref (by omega), e_ext_s, e_map_eq hag hs1] at w
    exact w
theorem e_fs_setR {ad : Nat → Nat} {a ci n k q : Nat} (hk : k < n) (hI : e_isI ci k = false) : ((List.range n).map (fun j => e_fv ad R M a ci j)).set k (va_rf (e_ad ad q)) = (List.range n).map (fun j => e_fv ad (e_uR R a k q) M a ci j) := by
  apply List.ext_getElem?
  intro j
  rw [List.getElem?_set]
  by_cases hj : j < n
  · by_cases hkj : k = j
    · subst hkj
      rw [if_pos rfl, if_pos (by simp; exact hj), List.getElem?_map, List.getElem?_range hj]
      show _ = some (e_fv ad (e_uR R a k q) M a ci k)
      unfold e_fv
      rw [if_neg (by rw [hI]; decide), e_uR_sm, if_pos rfl]
    · rw [if_neg hkj, List.getElem?_map, List.getElem?_map, List.getElem?_range hj]
      show some (e_fv ad R M a ci j) = some (e_fv ad (e_uR R a k q) M a ci j)
      unfold e_fv
      rw [e_uR_sm, if_neg (show ¬ j = k from fun e => hkj e.symm)]
  · rw [if_neg (by omega), List.getElem?_eq_none (by simp; omega), List.getElem?_eq_none (by simp; omega)]
/-- a final reference field, in the constructor -/
theorem e_r_putr {a ci n k idx q : Nat} {C : String} {T : u_T} {ty : Nat → FieldType} {fty : FieldType} (hc : e_cl ci C T n ty) (hs : e_SH a = (ci, n)) (ha : a ≤ cn) (hk : Nat.ble (k + 1) n = true) (hI : e_isI ci k = false) (hw : Cond.fieldLink Y.2.2.2.2.1 idx (T k).1 (T k).2.1 (T k).2.2.1 ∈ e_gw) (hf : (T k).2.2.2 = true) (hin : Y.1.name = "<init>") (hdecl : (T k).1 = Y.2.2.2.2.1) (hty : parseFieldDescriptor (T k).2.2.1 = some fty) (hr1 : ∀ q9 : Nat, narrow fty (.ref q9) = .ref q9) (hr2 : ∀ q9 : Nat, fits fty (.ref q9) = true) (hq0 : 0 < q) (hd : decode Y.2.1 pc = .ok (.putfield idx, 3)) (hp : pc + 3 = pc')
    (k9 : e_G X d Y pc' loc st (cn, gn, e_uR R a k q, M) o) : e_G X d Y pc loc (.inr (.inr q) :: .inr (.inr a) :: st) (cn, gn, R, M) o := by
  subst hp
  intro p e Rm s m args below meth c ls H locs cells slots ad ad0 k0 c0 s0 Cx P Z L hs0 hA hk0 hcc hn hR1 hR2
  have h0 := e_SH_pos hs (by have := hc.2.2.2.2; omega)
  have hkn : k < n := Nat.le_of_ble_eq_true hk
  have hat := e_ws_at (ca := X.2.2.1) (ad := ad) (S := (cn, gn, R, M)) h0 ha
  rw [e_en_o hs hc.2.2.2.2] at hat
  have hv : va_rf (e_ad ad q) = .ref (ad q) := e_ref (ad := ad) hq0
  rw [List.map_cons, List.map_cons, e_ref h0, e_ref hq0]
  refine va_putF (v := .ref (ad q)) (ty := fty) Cx.1 Cx.2.1 Cx.2.2.2.2.2.1 hc.2.1 ty hc.2.2.1 hc.2.2.2.1 Cx.2.2.2.2.1 Cx.2.2.2.2.2.2.2.1.1 P.1 P.2.1 Z (a - 1) hat hc.1 k hkn (Cx.2.2.2.2.2.1 _ hw) (fun _ h9 => h9) hf (Cx.2.2.2.2.2.2.2.2.2.1.trans hin) hdecl hty (hr1 _) (hr2 _) (by simp; exact hkn) hd (fun H1 locs1 hP1 hD1 hS1 => ?_)
  rw [← hv, e_fs_setR hkn hI, ← e_en_o hs hc.2.2.2.2, e_ws_set h0 (fun b hb j => e_uR_ne hb j) (fun _ _ _ => rfl)] at hP1 hD1
  exact k9 p e Rm s m args below meth c ls H1 locs1 cells slots ad ad0 k0 c0 s0 Cx ⟨hP1, hD1, P.2.2.1, P.2.2.2⟩ hS1 L (e_tl (e_tl hs0)) hA hk0 hcc hn hR1 hR2
/-- a final field of whole numbers, in the constructor -/
theorem e_r_putiF {a ci n k idx : Nat} {v : Int} {C : String} {T : u_T} {ty : Nat → FieldType} (hc : e_cl ci C T n ty) (hs : e_SH a = (ci, n)) (ha : a ≤ cn) (hk : Nat.ble (k + 1) n = true) (hI : e_isI ci k = true) (hw : Cond.fieldLink Y.2.2.2.2.1 idx (T k).1 (T k).2.1 (T k).2.2.1 ∈ e_gw) (hf : (T k).2.2.2 = true) (hin : Y.1.name = "<init>") (hdecl : (T k).1 = Y.2.2.2.2.1) (hty : parseFieldDescriptor (T k).2.2.1 = some .int) (hd : decode Y.2.1 pc = .ok (.putfield idx, 3)) (hp : pc + 3 = pc')
    (k9 : e_G X d Y pc' loc st (cn, gn, R, e_up M a k v) o) : e_G X d Y pc loc (.inl v :: .inr (.inr a) :: st) (cn, gn, R, M) o := by
  subst hp
  intro p e Rm s m args below meth c ls H locs cells slots ad ad0 k0 c0 s0 Cx P Z L hs0 hA hk0 hcc hn hR1 hR2
  have h0 := e_SH_pos hs (by have := hc.2.2.2.2; omega)
  have hkn : k < n := Nat.le_of_ble_eq_true hk
  have hat := e_ws_at (ca := X.2.2.1) (ad := ad) (S := (cn, gn, R, M)) h0 ha
  rw [e_en_o hs hc.2.2.2.2] at hat
  rw [List.map_cons, List.map_cons, e_ref h0]
  refine va_putF (v := .int (Int32.ofInt v)) (ty := .int) Cx.1 Cx.2.1 Cx.2.2.2.2.2.1 hc.2.1 ty hc.2.2.1 hc.2.2.2.1 Cx.2.2.2.2.1 Cx.2.2.2.2.2.2.2.1.1 P.1 P.2.1 Z (a - 1) hat hc.1 k hkn (Cx.2.2.2.2.2.1 _ hw) (fun _ h9 => h9) hf (Cx.2.2.2.2.2.2.2.2.2.1.trans hin) hdecl hty rfl rfl (by simp; exact hkn) hd (fun H1 locs1 hP1 hD1 hS1 => ?_)
  rw [e_fs_set hkn hI, ← e_en_o hs hc.2.2.2.2, e_ws_set h0 (fun _ _ _ => rfl) (fun b hb j => e_up_ne hb j)] at hP1 hD1
  exact k9 p e Rm s m args below meth c ls H1 locs1 cells slots ad ad0 k0 c0 s0 Cx ⟨hP1, hD1, e_rM_up P.2.2.1 (by rw [hs]; have := hc.2.2.2.2; show ci ≠ 22; omega) (e_hd hs0), P.2.2.2⟩ hS1 L (e_tl (e_tl hs0)) hA hk0 hcc hn hR1 hR2
/-- a Shelf into an array of Shelf -/
theorem e_r_astq {a n q : Nat} {i : Int} {j9 : Nat} (hs : e_SH a = (23, n)) (ha : a ≤ cn) (hsq : e_SH q = (5, 2)) (hqc : q ≤ cn) (h0i : 0 ≤ i) (hi : i < (n : Int)) (hj9 : i.toNat = j9) (hcl : vwCl[5]? = some (RX5, TX5, 2)) (hd : decode Y.2.1 pc = .ok (.aastore, 1)) (hp : pc + 1 = pc')
    (k9 : e_G X d Y pc' loc st (cn, gn, e_uR R a j9 q, M) o) : e_G X d Y pc loc (.inr (.inr q) :: .inl i :: .inr (.inr a) :: st) (cn, gn, R, M) o := by
  subst hp
  subst hj9
  intro p e Rm s m args below meth c ls H locs cells slots ad ad0 k0 c0 s0 Cx P Z L hs0 hA hk0 hcc hn hR1 hR2
  have h0 := e_SH_pos hs (by omega)
  have hq0 := e_SH_pos hsq (by omega)
  have hat := e_ws_at (ca := X.2.2.1) (ad := ad) (S := (cn, gn, R, M)) h0 ha
  rw [e_en_q hs] at hat
  have hqt := e_ws_at (ca := X.2.2.1) (ad := ad) (S := (cn, gn, R, M)) hq0 hqc
  rw [e_en_o hsq (by omega)] at hqt
  have hri : e_i32 i := e_hd (e_tl hs0)
  rw [List.map_cons, List.map_cons, List.map_cons, e_ref h0, e_ref hq0]
  refine va_astq (r := (RX5, TX5, 2)) Cx.1 Cx.2.1 Cx.2.2.2.2.2.2.2.1.1 P.1 P.2.1 Z (a - 1) 3 (q - 1) 5 hat rfl hqt hcl (e_in hri h0i hi) hd (fun H1 locs1 hP1 hD1 hS1 => ?_)
  have e1 : va_up (fun j => e_ad ad (R a j)) (Int32.ofInt i).toNatClampNeg (some (ad q)) = fun j => e_ad ad (e_uR R a i.toNat q a j) := by
    funext j
    rw [e_clamp hri, e_uR_sm]
    unfold va_up
    split
    · unfold e_ad
      rw [if_neg (by omega)]
    · rfl
  rw [e1, ← e_en_q hs (ca := X.2.2.1) (ad := ad) (R := e_uR R a i.toNat q) (M := M), e_ws_set h0 (fun b hb j => e_uR_ne hb j) (fun _ _ _ => rfl)] at hP1 hD1
  exact k9 p e Rm s m args below meth c ls H1 locs1 cells slots ad ad0 k0 c0 s0 Cx ⟨hP1, hD1, P.2.2.1, P.2.2.2⟩ hS1 L (e_tl (e_tl (e_tl hs0))) hA hk0 hcc hn hR1 hR2
/-- the same cells, told by other functions -/
theorem e_swap {R' : e_R} {M' : e_M} (h : ∀ (ca : Nat → ClassId) (ad : Nat → Nat) (a : Nat), 0 < a → a ≤ cn → e_en ca ad R M a = e_en ca ad R' M' a) (hM : e_rM M') (k9 : e_G X d Y pc loc st (cn, gn, R', M') o) : e_G X d Y pc loc st (cn, gn, R, M) o := by
  intro p e Rm s m args below meth c ls H locs cells slots ad ad0 k0 c0 s0 Cx P Z L hs0 hA hk0 hcc hn hR1 hR2
  have e1 : e_ws X.2.2.1 ad (cn, gn, R, M) = e_ws X.2.2.1 ad (cn, gn, R', M') := by
    refine List.map_congr_left (fun k hk => ?_)
    have hk' : k < cn := List.mem_range.mp hk
    show (ad (k + 1), e_en X.2.2.1 ad R M (k + 1)) = (ad (k + 1), e_en X.2.2.1 ad R' M' (k + 1))
    rw [h _ _ _ (by omega) (by omega)]
  exact k9 p e Rm s m args below meth c ls H locs cells slots ad ad0 k0 c0 s0 Cx ⟨by rw [← e1]; exact P.1, by rw [← e1]; exact P.2.1, hM, P.2.2.2⟩ Z L hs0 hA hk0 hcc hn hR1 hR2
end EB
