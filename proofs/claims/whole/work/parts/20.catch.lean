/-! THE ENGINE, 14: handlers: a method with a table; a call that throws and is caught -/
def e_kh (Y : e_Y) : List Cond := .codeWith Y.1 Y.2.1 Y.2.2.1 Y.2.2.2.1 Y.2.2.2.2.2 :: e_gw
def e_mh (Y : e_Y) (n : Nat) : Prop := Cond.codeWith Y.1 Y.2.1 Y.2.2.1 Y.2.2.2.1 Y.2.2.2.2.2 ∈ e_gw ∧ Cond.initialized Y.1.cls ∈ e_gw ∧ plainName Y.1.cls = true ∧ Y.1.cls = Y.2.2.2.2.1 ∧ (Y.1.cls ≠ "java/lang/invoke/MethodHandle" ∧ Y.1.cls ≠ "java/lang/invoke/VarHandle" ∧ (parseMethodDescriptor Y.1.desc).map (fun d => d.parameters.length) = some n) ∧ Y.2.2.1 ≤ 29 ∧ Cond.static Y.1 ∈ e_gw
set_option maxHeartbeats 1000000 in
theorem e_metH {X : e_X} {d n : Nat} {Y : e_Y} {av : List e_V} {S S1 : e_S} {v : Option e_V} (hst : X.1.stackTraces = false) (hY : e_mh Y n) (hav : ∀ v ∈ av, e_cat v = 1) (hr : ∀ v ∈ av, e_rg S.1 v) (hl : av.length ≤ Y.2.2.1) (h : e_E X d Y av S (.inl v, S1)) (ad : Nat → Nat) :
    Met X.1 Y.1 (e_kh Y) (e_rm d S S1) (e_Pc X ad S av) (e_Qc X ad S.1 (.inl v, S1)) (e_cn S1 - e_cn S) (e_sn S1 - e_sn S) (e_A X) := by
  have hM : vx_Met X.1 Y.1 (e_kh Y) (e_rm d S S1) (e_Pc X ad S av) (e_Qc X ad S.1 (.inl v, S1)) (e_XC X ad S.1 (.inl v, S1)) (e_cn S1 - e_cn S) (e_sn S1 - e_sn S) (e_A X) := by
    refine vx_ofWH (cc := Y.2.1) (maxL := Y.2.2.1) (ret := Y.2.2.2.1) (hh := Y.2.2.2.2.2) hY.2.2.1 rfl ?_
    intro p e s m args below meth c s₁ B hml hv
    obtain ⟨rfl, hP, hS, hF⟩ := hv
    have hts := atoms_spec (ws := e_kh Y) B.pre
    have hown : s.vm.findClass Y.2.2.2.2.1 = some m.cls := by
      have := findClass_of_methodNamed B.named
      rw [hY.2.2.2.1] at this
      exact this
    rw [lg_entry_eq]
    refine h p e _ s m _ below meth c _ s.heap [] 0 0 ad ad S.1 (e_cn S) (e_sn S) ⟨B.exec, B.bytes, B.returns, hml, hown, fun w hw => hts w (List.mem_cons_of_mem _ hw), B.notSynchronized, hF, vx_table (x := Y.1) B (hts _ List.mem_cons_self), (name_of_methodNamed B.named B.method).1, Nat.le_refl _, Nat.le_refl _, hst, hS⟩ hP hS (e_L0 ad av hav hr hl) (fun v hv => by cases hv) (fun _ _ => rfl) (Nat.le_refl _) (by omega) (by omega) ⟨?_, Nat.zero_le _⟩ ⟨?_, Nat.zero_le _⟩
    · show e_cn S1 ≤ e_cn S1 - e_cn S + e_cn S
      omega
    · show e_sn S1 ≤ e_sn S1 - e_sn S + e_sn S
      omega
  intro p e ha hc hk s m args below hf happ hP hK
  obtain ⟨n, o, h1, h2, h3, hq⟩ := hM p e ha hc hk s m args below hf happ hP trivial
  rcases hq with hq | ⟨q, _, E, ce, L, ⟨z, ad', hz, _⟩, _⟩
  · exact ⟨n, o, h1, h2, h3, hq⟩
  · cases hz
theorem e_goodInH {Y : e_Y} (h : Cond.codeWith Y.1 Y.2.1 Y.2.2.1 Y.2.2.2.1 Y.2.2.2.2.2 ∈ e_gw) : ∀ w ∈ e_kh Y, w ∈ e_gw := by
  intro w hw
  rcases List.mem_cons.mp hw with e | e
  · rw [e]; exact h
  · exact e
section EX
variable {X : e_X} {d : Nat} {Y : e_Y} {pc pc' : Nat} {loc : List (Option e_V)} {st : List e_V} {S S1 : e_S} {o : e_O}
set_option maxHeartbeats 1000000 in
/-- a static call of a method with handlers -/
theorem e_r_callSH {Y1 : e_Y} {n idx : Nat} {av : List e_V} {v : Option e_V} (hY1 : e_mh Y1 n) (hlk : Cond.methodLink Y.2.2.2.2.1 idx Y1.1 ∈ e_gw) (hav : ∀ v ∈ av, e_cat v = 1) (hn9 : av.length = n) (hl : Nat.ble n Y1.2.2.1 = true) (hst : Nat.ble (st.map e_cat).sum 8 = true) (hd : decode Y.2.1 pc = .ok (.invokestatic idx, 3)) (hp : pc + 3 = pc')
    (hE : e_E X d Y1 av S (.inl v, S1)) (hm : e_mn S S1) (hm2 : e_mn S1 o.2) (k : e_G X (d + 1) Y pc' loc (v.toList ++ st) S1 o) : e_G X (d + 1) Y pc loc (av.reverse ++ st) S o := by
  subst hp
  intro p e Rm s m args below meth c ls H locs cells slots ad ad0 k0 c0 s0 C P Z L hs0 hA hk hc hn hR1 hR2
  have hm3 := hm.cn
  have hm4 := hm.sn
  have hm5 := hm2.cn
  have hm6 := hm2.sn
  have hr1 : ∀ x ∈ av, e_rg S.1 x := fun x hx => hs0 x (List.mem_append_left _ (List.mem_reverse.mpr hx))
  have hr2 : ∀ x ∈ st, e_rg S.1 x := fun x hx => hs0 x (List.mem_append_right _ hx)
  have hl9 := Nat.le_of_ble_eq_true hl
  have hM := e_metH (d := d) C.2.2.2.2.2.2.2.2.2.2.2.2.1 hY1 (av := av) hav hr1 (by omega) hE ad
  have hts := C.2.2.2.2.2.1
  have f1 := C.2.2.2.2.2.2.2.2.2.2.1
  have f2 := C.2.2.2.2.2.2.2.2.2.2.2.1
  have hmx := hY1.2.2.2.2.2.1
  have cw : vx_CSW Rm s args Y.2.2.2.2.1 idx Y1.1 Y1.2.1 Y1.2.2.1 Y1.2.2.2.1 Y1.2.2.2.2.2 (e_kh Y1) (e_rm d S S1) (e_cn S1 - e_cn S) (e_sn S1 - e_sn S) n :=
    ⟨⟨rfl, rfl, by show d + 1 ≤ Rm.frames; omega, by show 8 + (Y1.2.2.1 + 11) + 48 * d ≤ Rm.locals; omega, fun w hw a' U hW => word_at hW (good_of_word (e_gw_good w (e_goodInH hY1.1 w hw))) (hts w (e_goodInH hY1.1 w hw)), List.mem_cons_self⟩, hts _ hY1.1, hts _ hY1.2.1, ⟨hY1.2.2.2.2.1.1, hY1.2.2.2.2.1.2.1⟩, fun sig h => by
      have h2 := hY1.2.2.2.2.1.2.2
      rw [h] at h2
      exact (Option.some.inj h2).symm, hts _ hlk, hts _ hY1.2.2.2.2.2.2⟩
  have hrun := vx_runSW (e := e) (below := below) (meth := meth) (H := H) (locs := locs) (cells := cells) (slots := slots) (g := F0 m pc ls ((av.reverse ++ st).map (e_cv ad))) (rest := st.map (e_cv ad)) (As := av.map (e_cv ad)) (n := n) (S := ⟨C.1, C.2.1, C.2.2.2.1, C.2.2.2.2.1, hts⟩) hM cw
    ⟨e_Pc_blind, fun U hU hW => ⟨rfl, by rw [hU]; exact P, by rw [hU]; exact ⟨Z.1, Z.2.1, fun _ h => by cases h⟩, e_F.moved hW C.2.2.2.2.2.2.2.1⟩⟩ rfl (by simp; exact hn9) L.2.1 (by show List.map (e_cv ad) _ = _; rw [List.map_append, List.map_reverse]) (lv_room (by rw [e_catsum]; exact Nat.le_of_ble_eq_true hst)) hd ⟨by omega, by omega⟩
  exact e_back (fun T hT Xs => Or.inl (hrun T hT Xs)) hm hm2 k C Z L hr2 hA hk hc hn hR1 hR2
theorem e_L.drop {cn : Nat} {ad : Nat → Nat} {ls ls' : Array Slot} {n i : Nat} {loc : List (Option e_V)} {q : Value} (h : e_L cn ad ls n loc) (hk : e_okS loc i = true)
    (h' : lv_has ls' n ((i, q) :: (e_prs ad loc).filter (fun q => !(q.1 == i) && !(q.1 + 1 == i && q.2.category == 2)))) : e_L cn ad ls' n (e_set loc i none) := by
  refine ⟨by rw [e_set_len]; exact h.1, h'.1, h'.2.1, fun j w hw => ?_, fun j w hw => ?_⟩
  · rw [e_nth_set] at hw
    by_cases hj : j = i ∧ i < loc.length
    · rw [if_pos hj] at hw
      cases hw
    · rw [if_neg hj] at hw
      refine h'.2.2 (j, e_cv ad w) (List.mem_cons_of_mem _ (List.mem_filter.mpr ⟨e_prs_mem hw, ?_⟩))
      have hji : j ≠ i := fun e => hj ⟨e, by rw [← e]; exact e_nth_lt hw⟩
      have h1 : (j == i) = false := by simp [hji]
      by_cases hs : j + 1 = i
      · have := e_okS_cat hk hs hw
        simp [h1, e_cat_cv, this]
      · have h2 : (j + 1 == i) = false := by simp [hs]
        simp [h1, h2]
  · rw [e_nth_set] at hw
    split at hw
    · cases hw
    · exact h.2.2.2.2 j w hw
set_option maxHeartbeats 1000000 in
/-- a call by an object that throws, caught by the row x of the table: the exception is stored into the local i -/
theorem e_r_callVc {Y1 : e_Y} {n idx a ci nn z : Nat} {T9 : u_T} {ty : Nat → FieldType} {av : List e_V} (hY1 : e_mv Y1 n) (hlk : Cond.methodLink Y.2.2.2.2.1 idx Y1.1 ∈ e_gw) (hcl : e_cl ci Y1.2.2.2.2.1 T9 nn ty) (hs : e_SH a = (ci, nn)) (ha : a ≤ S.1) (hav : ∀ v ∈ av, e_cat v = 1) (hn9 : av.length = n) (hl : Nat.ble (n + 1) Y1.2.2.1 = true) (hst : Nat.ble (st.map e_cat).sum 8 = true) (hd : decode Y.2.1 pc = .ok (.invokevirtual idx, 3))
    {pre suf : List (Nat × Nat × Nat × Nat)} {x : Nat × Nat × Nat × Nat} {name : String} (htb : Y.2.2.2.2.2 = pre ++ x :: suf) (hpre : ∀ y ∈ pre, y.2.2.2 ≠ 0 ∧ ∃ nm : String, Cond.classLink Y.2.2.2.2.1 y.2.2.2 nm ∈ e_gw ∧ e_xn z = "java/lang/IllegalArgumentException" ∧ nm = "java/util/NoSuchElementException")
    (hx1 : x.1 ≤ pc ∧ pc < x.2.1) (hx2 : x.2.2.2 ≠ 0) (hkl : Cond.classLink Y.2.2.2.2.1 x.2.2.2 name ∈ e_gw) (hcast : Cond.castable (e_xn z) name ∈ e_nw) {i : Nat} {loc' : List (Option e_V)} (hdh : decode Y.2.1 x.2.2.1 = .ok (.astore i, 2) ∧ x.2.2.1 + 2 = pc' ∨ ∃ f : Fin 4, decode Y.2.1 x.2.2.1 = .ok (.astore_n f, 1) ∧ (f : Nat) = i ∧ x.2.2.1 + 1 = pc') (hok : e_okS loc i = true) (hi9 : Nat.ble (i + 1) Y.2.2.1 = true) (hl' : e_set loc i none = loc')
    (hE : e_E X d Y1 (.inr (.inr a) :: av) S (.inr z, S1)) (hm : e_mn S S1) (hm2 : e_mn S1 o.2) (k : e_G X (d + 1) Y pc' loc' [] S1 o) : e_G X (d + 1) Y pc loc (av.reverse ++ .inr (.inr a) :: st) S o := by
  subst hl'
  intro p e Rm s m args below meth c ls H locs cells slots ad ad0 k0 c0 s0 C P Z L hs0 hA hk hc hn hR1 hR2
  have hm3 := hm.cn
  have hm4 := hm.sn
  have hm5 := hm2.cn
  have hm6 := hm2.sn
  have hr1 : ∀ x ∈ av, e_rg S.1 x := fun x hx => hs0 x (List.mem_append_left _ (List.mem_reverse.mpr hx))
  have hts := C.2.2.2.2.2.1
  have hrun := e_runV (e := e) (below := below) (locs := locs) (cells := cells) (slots := slots) hY1 hlk hcl hs ha hav hn9 (Nat.le_of_ble_eq_true hl) (Nat.le_of_ble_eq_true hst) hd hE C P Z L hr1 ⟨by show cells + (e_cn S1 - e_cn S) ≤ _; omega, by show slots + (e_sn S1 - e_sn S) ≤ _; omega⟩
  intro T hT Xs
  rcases hrun T hT Xs with ⟨v', st₀, t, T', Lx, h0, X', hL, e1, e2, hq, -⟩ | ⟨q, st₀, t, T', Lx, E, ce, h0, X', hL, e1, e2, hq, hce, hcv, hcl9, stp⟩
  · obtain ⟨v2, ad', hv2, -⟩ := hq
    cases hv2
  · obtain ⟨z', ad', hz, hE9, hB1, hB2, hB3⟩ := hq
    cases hz
    subst hE9
    have w : vx_W p X.1 e Rm s m args below meth c T'.heap (locs ++ Lx) (cells + (e_cn S1 - e_cn S)) (slots + (e_sn S1 - e_sn S)) (vx_MQ below (e_Qc X ad0 k0 o) (e_XC X ad0 k0 o) args s (e_cn o.2 - c0) (e_sn o.2 - s0) (e_A X)) (F0 m pc ls (st.map (e_cv ad))) q := by
      refine vx_catch (own := Y.2.2.2.2.1) (name := name) (ce := ce) C.2.2.2.2.1 (tableOf pre) ⟨x.1, x.2.1, x.2.2.1, x.2.2.2⟩ (tableOf suf) ?_ (fun y hy => ?_) ?_ hx2 (hts _ hkl) (va_Nw.use rfl (C.2.2.2.2.2.2.2.1.2.1 _ hcast)) (by rw [e1]; exact hce) hcv hcl9 ?_
      · rw [C.2.2.2.2.2.2.2.2.1, htb]
        simp [tableOf]
      · obtain ⟨y0, hy0, rfl⟩ := List.mem_map.mp hy
        obtain ⟨g1, nm, g2, g3, g4⟩ := hpre y0 hy0
        refine Or.inr ⟨g1, nm, hts _ g2, ?_⟩
        rw [g3, g4]
        exact C.2.2.2.2.2.2.2.1.2.2.2.2.2.2.2.2.2.2.1
      · unfold covers
        rw [decide_eq_true hx1.1, decide_eq_true hx1.2]
        rfl
      · have L1 := L.moved hm.1 hB1
        have kk : ∀ ls9, lv_has ls9 Y.2.2.1 ((i, Value.ref q) :: (e_prs ad' loc).filter (fun q => !(q.1 == i) && !(q.1 + 1 == i && q.2.category == 2))) → W p X.1 e Rm s m args below meth c T'.heap (locs ++ Lx) (cells + (e_cn S1 - e_cn S)) (slots + (e_sn S1 - e_sn S)) (vx_MQ below (e_Qc X ad0 k0 o) (e_XC X ad0 k0 o) args s (e_cn o.2 - c0) (e_sn o.2 - s0) (e_A X)) (F0 m pc' ls9 []) := fun ls9 hl9 =>
          k p e Rm s m args below meth c ls9 T'.heap (locs ++ Lx) (cells + (e_cn S1 - e_cn S)) (slots + (e_sn S1 - e_sn S)) ad' ad0 k0 c0 s0 C (by rw [e1]; exact hB2)
            ⟨by rw [e1]; exact hB3.1, by rw [e1]; exact hB3.2.1, fun y hy => by
              rcases List.mem_append.mp hy with h | h
              · exact Z.2.2 y h
              · exact hL y h⟩ (L1.drop hok hl9) (fun v hv => by cases hv) (fun b hb => by
              rw [hB1 b (hb.elim (fun h => Or.inl (Nat.le_trans h hk)) (fun h => Or.inr h))]
              exact hA b hb) (Nat.le_trans hk hm.1) (by omega) (by omega) ⟨hR1.1, by omega⟩ ⟨hR2.1, by omega⟩
        rcases hdh with ⟨hdd, hpp⟩ | ⟨f, hdd, hf, hpp⟩
        · subst hpp
          exact lv_astore C.1 C.2.1 hdd L1.has (Nat.le_of_ble_eq_true hi9) rfl kk
        · subst hpp
          exact lv_astore_n C.1 C.2.1 hdd hf L1.has (Nat.le_of_ble_eq_true hi9) rfl kk
    obtain ⟨t2, a1, b1⟩ := w T' rfl X'
    exact ⟨t2, stp.trans a1, b1⟩
end EX
