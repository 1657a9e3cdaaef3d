/-! THE ENGINE, 8: links inside the nest -/
theorem e_met1 {X : e_X} {d n : Nat} {Y : e_Y} {av : List e_V} {S S1 : e_S} {v : Option e_V} (hst : X.1.stackTraces = false) (hY : e_mo Y n) (hav : ∀ v ∈ av, e_cat v = 1) (hr : ∀ v ∈ av, e_rg S.1 v) (hl : av.length ≤ Y.2.2.1) (h : e_E X d Y av S (.inl v, S1)) (ad : Nat → Nat) :
    Met X.1 Y.1 (e_ks Y) (e_rm d S S1) (e_Pc X ad S av) (e_Qc X ad S.1 (.inl v, S1)) (e_cn S1 - e_cn S) (e_sn S1 - e_sn S) (e_A X) := by
  have hM := e_met hst hY hav hr hl h ad
  intro p e ha hc hk s m args below hf happ hP hK
  obtain ⟨n, o, h1, h2, h3, hq⟩ := hM p e ha hc hk s m args below hf happ hP trivial
  rcases hq with hq | ⟨q, _, E, ce, L, ⟨z, ad', hz, _⟩, _⟩
  · exact ⟨n, o, h1, h2, h3, hq⟩
  · cases hz
section EN
variable {X : e_X} {d : Nat} {Y : e_Y} {pc pc' : Nat} {loc : List (Option e_V)} {st : List e_V} {S S1 : e_S} {o : e_O} {cn gn : Nat} {R : e_R} {M : e_M}
set_option maxHeartbeats 1000000 in
theorem e_r_callSN {Y1 : e_Y} {n idx : Nat} {host : String} {av : List e_V} {v : Option e_V} (hY1 : e_ms Y1 n) (hlk : Cond.methodLinkNest Y.2.2.2.2.1 idx Y1.1 host ∈ e_nw) (hav : ∀ v ∈ av, e_cat v = 1) (hn9 : av.length = n) (hl : Nat.ble n Y1.2.2.1 = true) (hst : Nat.ble (st.map e_cat).sum 8 = true) (hd : decode Y.2.1 pc = .ok (.invokestatic idx, 3)) (hp : pc + 3 = pc')
    (hE : e_E X d Y1 av S (.inl v, S1)) (hm : e_mn S S1) (hm2 : e_mn S1 o.2) (k : e_G X (d + 1) Y pc' loc (v.toList ++ st) S1 o) : e_G X (d + 1) Y pc loc (av.reverse ++ st) S o := by
  subst hp
  intro p e Rm s m args below meth c ls H locs cells slots ad ad0 k0 c0 s0 C P Z L hs0 hA hk hc hn hR1 hR2
  have hm3 := hm.cn
  have hm4 := hm.sn
  have hm5 := hm2.cn
  have hm6 := hm2.sn
  have hr1 : ∀ x ∈ av, e_rg S.1 x := fun x hx => hs0 x (List.mem_append_left _ (List.mem_reverse.mpr hx))
  have hr2 : ∀ x ∈ st, e_rg S.1 x := fun x hx => hs0 x (List.mem_append_right _ hx)
  have hl9 := Nat.le_of_ble_eq_true hl
  have hM := e_met1 (d := d) C.2.2.2.2.2.2.2.2.2.2.2.2.1 hY1.1 (av := av) hav hr1 (by omega) hE ad
  have hts := C.2.2.2.2.2.1
  have hrun := va_runSN (e := e) (below := below) (meth := meth) (H := H) (locs := locs) (cells := cells) (slots := slots) (g := F0 m pc ls ((av.reverse ++ st).map (e_cv ad))) (rest := st.map (e_cv ad)) (As := av.map (e_cv ad)) (n := n) (S := ⟨C.1, C.2.1, C.2.2.2.1, C.2.2.2.2.1, hts⟩) hM
    ⟨va_cnB (ws' := e_gw) n hts (e_goodIn hY1.1.1) rfl rfl rfl (C.2.2.2.2.2.2.2.1.2.1 _ hlk) (hts _ hY1.1.2.1) hY1.1.2.2.2.2.1 (e_rmOK hY1.1 C.2.2.2.2.2.2.2.2.2.2.1 C.2.2.2.2.2.2.2.2.2.2.2.1), hts _ hY1.2, trivial⟩
    ⟨e_Pc_blind, fun U hU hW => ⟨rfl, by rw [hU]; exact P, by rw [hU]; exact ⟨Z.1, Z.2.1, fun _ h => by cases h⟩, e_F.moved hW C.2.2.2.2.2.2.2.1⟩⟩ rfl (by simp; exact hn9) L.2.1 (by show List.map (e_cv ad) _ = _; rw [List.map_append, List.map_reverse]) (lv_room (by rw [e_catsum]; exact Nat.le_of_ble_eq_true hst)) hd ⟨by omega, by omega⟩
  exact e_back (fun T hT Xs => Or.inl (hrun T hT Xs)) hm hm2 k C Z L hr2 hA hk hc hn hR1 hR2
/-- a reference field of a mate is read -/
theorem e_r_getrN {a ci n k idx q : Nat} {C : String} {T : u_T} {ty : Nat → FieldType} {host : String} (hc : e_cl ci C T n ty) (hs : e_SH a = (ci, n)) (ha : a ≤ cn) (hk : Nat.ble (k + 1) n = true) (hI : e_isI ci k = false) (hw : Cond.fieldLinkNest Y.2.2.2.2.1 idx (T k).1 (T k).2.1 (T k).2.2.1 host ∈ e_nw) (hq : R a k = q) (hv9 : q ≤ cn) (hd : decode Y.2.1 pc = .ok (.getfield idx, 3)) (hp : pc + 3 = pc')
    (k9 : e_G X d Y pc' loc (.inr (.inr q) :: st) (cn, gn, R, M) o) : e_G X d Y pc loc (.inr (.inr a) :: st) (cn, gn, R, M) o := by
  subst hp
  subst hq
  intro p e Rm s m args below meth c ls H locs cells slots ad ad0 k0 c0 s0 Cx P Z L hs0 hA hk0 hcc hn hR1 hR2
  have h0 := e_SH_pos hs (by have := hc.2.2.2.2; omega)
  have hkn : k < n := Nat.le_of_ble_eq_true hk
  have hat := e_ws_at (ca := X.2.2.1) (ad := ad) (S := (cn, gn, R, M)) h0 ha
  rw [e_en_o hs hc.2.2.2.2] at hat
  have w := k9 p e Rm s m args below meth c ls H locs cells slots ad ad0 k0 c0 s0 Cx P Z L (e_cs (v := .inr (.inr _)) (Or.inl hv9) (e_tl hs0)) hA hk0 hcc hn hR1 hR2
  rw [List.map_cons, e_ref h0]
  refine va_getN (v := va_rf (e_ad ad (R a k))) Cx.1 Cx.2.1 Cx.2.2.2.2.2.1 hc.2.1 Cx.2.2.2.2.1 Cx.2.2.2.2.2.2.2.1.1 P.1 (a - 1) hat hc.1 k hkn (va_Nw.use rfl (Cx.2.2.2.2.2.2.2.1.2.1 _ hw)) (fun _ h9 => h9) ?_ hd w
  rw [List.getElem?_map, List.getElem?_range hkn]
  show some (e_fv ad R M a ci k) = _
  unfold e_fv
  rw [if_neg (by rw [hI]; decide)]
end EN
