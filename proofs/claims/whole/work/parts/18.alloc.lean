/-! THE ENGINE, 10: cells are made (constructors) -/
def e_z (M : e_M) (a : Nat) : e_M := fun b j => if b = a then 0 else M b j
def e_zR (R : e_R) (a : Nat) : e_R := fun b j => if b = a then 0 else R b j
def e_ext (ad : Nat → Nat) (a q : Nat) : Nat → Nat := fun b => if b = a then q else ad b
theorem e_ext_ne {ad : Nat → Nat} {a q b : Nat} (h : b ≠ a) : e_ext ad a q b = ad b := by unfold e_ext; rw [if_neg h]
theorem e_ext_s {ad : Nat → Nat} {a q : Nat} : e_ext ad a q a = q := by unfold e_ext; rw [if_pos rfl]
theorem e_en_congr2 {ca : Nat → ClassId} {ad ad' : Nat → Nat} {R R' : e_R} {M M' : e_M} {a : Nat} (h1 : ∀ j, e_ad ad' (R' a j) = e_ad ad (R a j)) (h2 : ∀ j, M' a j = M a j) : e_en ca ad' R' M' a = e_en ca ad R M a := by
  unfold e_en e_fv
  simp only [h1, h2]
theorem e_ad_ext {ad : Nat → Nat} {n q r : Nat} (h : r ≤ n) : e_ad (e_ext ad (n + 1) q) r = e_ad ad r := by
  unfold e_ad
  rw [e_ext_ne (by omega)]
theorem e_ws_push {ca : Nat → ClassId} {ad : Nat → Nat} {cn gn q : Nat} {R R' : e_R} {M M' : e_M} (hR : ∀ a j, R a j ≤ cn) (h1 : ∀ b, b ≤ cn → ∀ j, R' b j = R b j) (h2 : ∀ b, b ≤ cn → ∀ j, M' b j = M b j) :
    e_ws ca (e_ext ad (cn + 1) q) (cn + 1, gn, R', M') = e_ws ca ad (cn, gn, R, M) ++ [(q, e_en ca (e_ext ad (cn + 1) q) R' M' (cn + 1))] := by
  show (List.range (cn + 1)).map _ = (List.range cn).map _ ++ _
  rw [List.range_succ, List.map_append]
  congr 1
  · refine List.map_congr_left (fun k hk => ?_)
    have hk := List.mem_range.mp hk
    show (e_ext ad (cn + 1) q (k + 1), e_en ca (e_ext ad (cn + 1) q) R' M' (k + 1)) = (ad (k + 1), e_en ca ad R M (k + 1))
    rw [e_ext_ne (by omega), e_en_congr2 (ad := ad) (R := R) (M := M) (fun j => by rw [h1 _ (by omega), e_ad_ext (hR _ _)]) (h2 _ (by omega))]
  · show [(e_ext ad (cn + 1) q (cn + 1), _)] = _
    rw [e_ext_s]
theorem e_rM_z {M : e_M} {a : Nat} (h : e_rM M) : e_rM (e_z M a) := by
  intro b j
  have hb := h b j
  unfold e_z
  by_cases h1 : b = a
  · rw [if_pos h1]
    split
    · unfold e_i64; omega
    · unfold e_i32; omega
  · rw [if_neg h1]; exact hb
/-- the fields of a class are whole numbers or references -/
def e_cf (ci n : Nat) (ty : Nat → FieldType) : Prop := ∀ k, k < n → defaultValue (ty k) = if e_isI ci k = true then .int 0 else .null
section EA
variable {X : e_X} {d : Nat} {Y : e_Y} {pc pc' : Nat} {loc : List (Option e_V)} {st : List e_V} {o : e_O} {cn gn : Nat} {R : e_R} {M : e_M}
theorem e_slc1 {n k l : Nat} (h : e_SH (n + 1) = (k, l)) : e_slc (n + 1) = e_slc n + l := by
  show e_slc n + (e_SH (n + 1)).2 = _
  rw [h]
theorem e_Hp_ext {ad : Nat → Nat} {H H1 : Heap} {q : Nat} {R' : e_R} {M' : e_M} (P : e_Hp X ad (cn, gn, R, M) H) (hR : ∀ a j, R a j ≤ cn) (h1 : ∀ b, b ≤ cn → ∀ j, R' b j = R b j) (h2 : ∀ b, b ≤ cn → ∀ j, M' b j = M b j) (hcn : cn < 999000) (hrM : e_rM M')
    (hP1 : va_P X.2.1 vwCl (e_ws X.2.2.1 ad (cn, gn, R, M) ++ [(q, e_en X.2.2.1 (e_ext ad (cn + 1) q) R' M' (cn + 1))]) H1) (hD1 : va_D (e_A X) (e_ws X.2.2.1 ad (cn, gn, R, M) ++ [(q, e_en X.2.2.1 (e_ext ad (cn + 1) q) R' M' (cn + 1))])) : e_Hp X (e_ext ad (cn + 1) q) (cn + 1, gn, R', M') H1 := by
  refine ⟨?_, ?_, hrM, ?_, fun j => ?_⟩
  · rw [e_ws_push hR h1 h2]; exact hP1
  · rw [e_ws_push hR h1 h2]; exact hD1
  · rw [e_ext_ne (by omega)]; exact P.2.2.2.1
  · rw [e_ext_ne (by omega)]; exact P.2.2.2.2 j
theorem e_z_lo {M : e_M} {n b : Nat} (h : b ≤ n) (j : Nat) : e_z M (n + 1) b j = M b j := by unfold e_z; rw [if_neg (by omega)]
theorem e_zR_lo {R : e_R} {n b : Nat} (h : b ≤ n) (j : Nat) : e_zR R (n + 1) b j = R b j := by unfold e_zR; rw [if_neg (by omega)]
set_option maxHeartbeats 1000000 in
/-- a new object -/
theorem e_r_new {ci n idx : Nat} {C : String} {T : u_T} {ty : Nat → FieldType} (hc : e_cl ci C T n ty) (hcf : e_cf ci n ty) (hs : e_SH (cn + 1) = (ci, n)) (hR : ∀ a j, R a j ≤ cn) (hcn : cn < 999000) (hlk : Cond.classLink Y.2.2.2.2.1 idx C ∈ e_gw) (hins : Cond.instantiable C n ∈ e_gw) (hini : Cond.initialized C ∈ e_gw) (hd : decode Y.2.1 pc = .ok (.new idx, 3)) (hp : pc + 3 = pc') (hm : e_mn (cn + 1, gn, R, M) o.2)
    (k9 : e_G X d Y pc' loc (.inr (.inr (cn + 1)) :: st) (cn + 1, gn, e_zR R (cn + 1), e_z M (cn + 1)) o) : e_G X d Y pc loc st (cn, gn, R, M) o := by
  subst hp
  intro p e Rm s m args below meth c ls H locs cells slots ad ad0 k0 c0 s0 Cx P Z L hs0 hA hk0 hcc hn hR1 hR2
  have hts := Cx.2.2.2.2.2.1
  have hm1 := hm.cn
  have hm2 := hm.sn
  have es := e_slc1 hs
  have hcc' : cells + c0 = cn + gn := hcc
  have hn' : slots + s0 = e_slc cn + 6 * gn := hn
  have hm1' : cn + 1 + gn ≤ e_cn o.2 := hm1
  have hm2' : e_slc (cn + 1) + 6 * gn ≤ e_sn o.2 := hm2
  refine va_new (ci := ci) (fs := (List.range n).map (fun k => e_fv (e_ext ad (cn + 1) 0) (e_zR R (cn + 1)) (e_z M (cn + 1)) (cn + 1) ci k)) Cx.1 Cx.2.1 hts hc.2.1 ty hc.2.2.1 Cx.2.2.2.2.1 (hts _ hlk) (hts _ hins) (hts _ hini) Cx.2.2.2.2.2.2.2.1.1 P.1 P.2.1 Z (fun q h => h) hc.1 (fun j hj => ?_) (by have := hR1.1; omega) (by have := hR2.1; omega) hd (fun q H1 hP1 hD1 hS1 => ?_)
  · rw [hcf j hj]
    show _ = ((List.range n).map _).getD j Value.null
    rw [List.getD_eq_getElem?_getD, List.getElem?_map, List.getElem?_range hj]
    show _ = e_fv _ _ _ _ _ _
    unfold e_fv e_z e_zR e_ad
    simp only [if_true]
    split <;> rfl
  · have e1 : e_en X.2.2.1 (e_ext ad (cn + 1) q) (e_zR R (cn + 1)) (e_z M (cn + 1)) (cn + 1) = .inr (ci, (List.range n).map (fun k => e_fv (e_ext ad (cn + 1) 0) (e_zR R (cn + 1)) (e_z M (cn + 1)) (cn + 1) ci k)) := by
      rw [e_en_o hs hc.2.2.2.2]
      congr 2
      refine List.map_congr_left (fun k _ => ?_)
      unfold e_fv e_zR e_ad
      simp only [if_true]
    rw [← e1] at hP1 hD1
    have P1 := e_Hp_ext P hR (fun b hb j => e_zR_lo hb j) (fun b hb j => e_z_lo hb j) hcn (e_rM_z P.2.2.1) hP1 hD1
    have hag : ∀ a, a ≤ cn ∨ 999999 ≤ a → e_ext ad (cn + 1) q a = ad a := fun a ha => e_ext_ne (by omega)
    have w := k9 p e Rm s m args below meth c ls H1 locs (cells + 1) (slots + n) (e_ext ad (cn + 1) q) ad0 k0 c0 s0 Cx P1 hS1 (L.moved (Nat.le_succ _) hag) (e_cs (v := .inr (.inr _)) (Or.inl (Nat.le_refl _)) (fun x hx => e_rg_mono (Nat.le_succ _) (hs0 x hx))) (fun a ha => by rw [hag a (ha.elim (fun h => Or.inl (Nat.le_trans h hk0)) Or.inr)]; exact hA a ha) (Nat.le_succ_of_le hk0) (by show _ = cn + 1 + gn; omega) (by show _ = e_slc (cn + 1) + 6 * gn; omega) ⟨hR1.1, by have := hR1.1; omega⟩ ⟨hR2.1, by have := hR2.1; omega⟩
    rw [List.map_cons, e_ref (by omega), e_ext_s, e_map_eq hag hs0] at w
    exact w
/-- Object's own constructor -/
theorem e_r_obj {a idx : Nat} (hlk : Cond.methodLink Y.2.2.2.2.1 idx Lib.objectInit ∈ e_gw) (hi : Cond.instanceMethod Lib.objectInit ∈ e_gw) (hco : Cond.code Lib.objectInit ⟨#[0xb1]⟩ 1 none ∈ e_gw) (h0 : 0 < a) (hst : Nat.ble (st.map e_cat).sum 8 = true) (hd : decode Y.2.1 pc = .ok (.invokespecial idx, 3)) (hp : pc + 3 = pc') {S : e_S}
    (k9 : e_G X (d + 1) Y pc' loc st S o) : e_G X (d + 1) Y pc loc (.inr (.inr a) :: st) S o := by
  subst hp
  refine e_step (fun hs _ => e_tl hs) (fun p e Rm s m args below meth c ls H locs cells slots ad Q C P Z L hs w => ?_) k9
  have hts := C.2.2.2.2.2.1
  have h1 := C.2.2.2.2.2.2.2.2.2.2.1
  have h2 := C.2.2.2.2.2.2.2.2.2.2.2.1
  have hst' := Nat.le_of_ble_eq_true hst
  rw [List.map_cons, e_ref h0]
  refine W.objInit C.1 C.2.1 C.2.2.2.2.1 (hts _ hlk) (hts _ hi) (hts _ hco) rfl (L.2.1.trans C.2.2.2.1.symm) rfl hd (by omega) ?_ w
  have := lv_room (m := m) (pc := pc) (ls := ls) (rest := .ref (ad a) :: st.map (e_cv ad)) (st := st.map (e_cv ad)) (by rw [e_catsum]; exact hst')
  omega
end EA
