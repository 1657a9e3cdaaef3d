/-! THE ENGINE, 13: constructors are called; what they need -/
theorem h_z {R : e_R} {n c1 : Nat} (h1 : n + 1 = c1) (h : ∀ a j, R a j ≤ n) : ∀ a j, e_zR R c1 a j ≤ c1 := by
  intro a j
  unfold e_zR
  split
  · omega
  · have := h a j; omega
theorem h_u {R : e_R} {n a0 k q : Nat} (h : ∀ a j, R a j ≤ n) (hq : q ≤ n) : ∀ a j, e_uR R a0 k q a j ≤ n := by
  intro a j
  unfold e_uR
  split
  · split
    · exact hq
    · exact h a j
  · exact h a j
theorem h_m {R : e_R} {n N c2 : Nat} (h1 : n + 1 + N = c2) (h : ∀ a j, R a j ≤ n) : ∀ a j, e_mR R n N a j ≤ c2 := by
  intro a j
  unfold e_mR
  split
  · split <;> omega
  · split
    · have := h a j; omega
    · omega
section EI
variable {X : e_X} {d : Nat} {Y : e_Y} {pc pc' : Nat} {loc : List (Option e_V)} {st : List e_V} {S S1 : e_S} {o : e_O} {cn gn c1 : Nat} {R : e_R} {M : e_M}
/-- what a constructor's call needs of it -/
def e_mc (Y : e_Y) (n : Nat) : Prop := e_mo Y n ∧ Cond.instanceMethod Y.1 ∈ e_gw ∧ Y.1.name = "<init>" ∧ Y.2.2.2.1 = none
set_option maxHeartbeats 1000000 in
theorem e_r_callI {Y1 : e_Y} {n idx a : Nat} {av : List e_V} (hY1 : e_mc Y1 n) (hlk : Cond.methodLink Y.2.2.2.2.1 idx Y1.1 ∈ e_gw) (h0 : 0 < a) (hav : ∀ v ∈ av, e_cat v = 1) (hn9 : av.length = n) (hl : Nat.ble (n + 1) Y1.2.2.1 = true) (hst : Nat.ble (st.map e_cat).sum 8 = true) (hd : decode Y.2.1 pc = .ok (.invokespecial idx, 3)) (hp : pc + 3 = pc')
    (hE : e_E X d Y1 (.inr (.inr a) :: av) S (.inl none, S1)) (hm : e_mn S S1) (hm2 : e_mn S1 o.2) (k : e_G X (d + 1) Y pc' loc st S1 o) : e_G X (d + 1) Y pc loc (av.reverse ++ .inr (.inr a) :: st) S o := by
  subst hp
  intro p e Rm s m args below meth c ls H locs cells slots ad ad0 k0 c0 s0 C P Z L hs0 hA hk hc hn hR1 hR2
  have hm3 := hm.cn
  have hm4 := hm.sn
  have hm5 := hm2.cn
  have hm6 := hm2.sn
  have hr1 : ∀ x ∈ (.inr (.inr a) :: av : List e_V), e_rg S.1 x := fun x hx => by
    rcases List.mem_cons.mp hx with e | e
    · rw [e]; exact hs0 _ (List.mem_append_right _ List.mem_cons_self)
    · exact hs0 x (List.mem_append_left _ (List.mem_reverse.mpr e))
  have hr2 : ∀ x ∈ st, e_rg S.1 x := fun x hx => hs0 x (List.mem_append_right _ (List.mem_cons_of_mem _ hx))
  have hl9 := Nat.le_of_ble_eq_true hl
  have hM := e_met1 (d := d) C.2.2.2.2.2.2.2.2.2.2.2.2.1 hY1.1 (av := .inr (.inr a) :: av) (fun v hv => by
    rcases List.mem_cons.mp hv with e | e
    · rw [e]; rfl
    · exact hav v e) hr1 (by simp; omega) hE ad
  have hts := C.2.2.2.2.2.1
  have hret := hY1.2.2.2
  have hcb := callB_of (R := Rm) (ws := e_ks Y1) (rm := e_rm d S S1) (bytes := Y1.2.1) (maxL := Y1.2.2.1) (ret := Y1.2.2.2.1) (ws' := e_gw) n hts (e_goodIn hY1.1.1) rfl rfl rfl (hts _ hY1.1.2.1) (hts _ hlk) hY1.1.2.2.2.2.1 (e_rmOK hY1.1 C.2.2.2.2.2.2.2.2.2.2.1 C.2.2.2.2.2.2.2.2.2.2.2.1)
  rw [hret] at hcb
  have hrun := va_runI (e := e) (below := below) (meth := meth) (H := H) (locs := locs) (cells := cells) (slots := slots) (g := F0 m pc ls ((av.reverse ++ .inr (.inr a) :: st).map (e_cv ad))) (rest := st.map (e_cv ad)) (As := av.map (e_cv ad)) (b := ad a) (n := n) (S := ⟨C.1, C.2.1, C.2.2.2.1, C.2.2.2.2.1, hts⟩) hM
    ⟨hcb, hY1.2.2.1, hts _ hY1.2.1⟩
    ⟨e_Pc_blind, fun U hU hW => ⟨by rw [List.map_cons, e_ref h0], by rw [hU]; exact P, by rw [hU]; exact ⟨Z.1, Z.2.1, fun _ h => by cases h⟩, e_F.moved hW C.2.2.2.2.2.2.2.1⟩⟩ rfl (by simp; exact hn9) L.2.1 (by show List.map (e_cv ad) _ = _; rw [List.map_append, List.map_reverse, List.map_cons, e_ref h0]) (lv_room (by rw [e_catsum]; exact Nat.le_of_ble_eq_true hst)) hd ⟨by omega, by omega⟩
  exact e_back (v := none) (fun T hT Xs => Or.inl (hrun T hT Xs)) hm hm2 k C Z L hr2 hA hk hc hn hR1 hR2
set_option maxHeartbeats 1000000 in
theorem e_r_callIN {Y1 : e_Y} {n idx a : Nat} {host : String} {av : List e_V} (hY1 : e_mc Y1 n) (hlk : Cond.methodLinkNest Y.2.2.2.2.1 idx Y1.1 host ∈ e_nw) (h0 : 0 < a) (hav : ∀ v ∈ av, e_cat v = 1) (hn9 : av.length = n) (hl : Nat.ble (n + 1) Y1.2.2.1 = true) (hst : Nat.ble (st.map e_cat).sum 8 = true) (hd : decode Y.2.1 pc = .ok (.invokespecial idx, 3)) (hp : pc + 3 = pc')
    (hE : e_E X d Y1 (.inr (.inr a) :: av) S (.inl none, S1)) (hm : e_mn S S1) (hm2 : e_mn S1 o.2) (k : e_G X (d + 1) Y pc' loc st S1 o) : e_G X (d + 1) Y pc loc (av.reverse ++ .inr (.inr a) :: st) S o := by
  subst hp
  intro p e Rm s m args below meth c ls H locs cells slots ad ad0 k0 c0 s0 C P Z L hs0 hA hk hc hn hR1 hR2
  have hm3 := hm.cn
  have hm4 := hm.sn
  have hm5 := hm2.cn
  have hm6 := hm2.sn
  have hr1 : ∀ x ∈ (.inr (.inr a) :: av : List e_V), e_rg S.1 x := fun x hx => by
    rcases List.mem_cons.mp hx with e | e
    · rw [e]; exact hs0 _ (List.mem_append_right _ List.mem_cons_self)
    · exact hs0 x (List.mem_append_left _ (List.mem_reverse.mpr e))
  have hr2 : ∀ x ∈ st, e_rg S.1 x := fun x hx => hs0 x (List.mem_append_right _ (List.mem_cons_of_mem _ hx))
  have hl9 := Nat.le_of_ble_eq_true hl
  have hM := e_met1 (d := d) C.2.2.2.2.2.2.2.2.2.2.2.2.1 hY1.1 (av := .inr (.inr a) :: av) (fun v hv => by
    rcases List.mem_cons.mp hv with e | e
    · rw [e]; rfl
    · exact hav v e) hr1 (by simp; omega) hE ad
  have hts := C.2.2.2.2.2.1
  have hret := hY1.2.2.2
  have hcb := va_cnB (R := Rm) (ws := e_ks Y1) (rm := e_rm d S S1) (bytes := Y1.2.1) (maxL := Y1.2.2.1) (ret := Y1.2.2.2.1) (ws' := e_gw) n hts (e_goodIn hY1.1.1) rfl rfl rfl (C.2.2.2.2.2.2.2.1.2.1 _ hlk) (hts _ hY1.1.2.1) hY1.1.2.2.2.2.1 (e_rmOK hY1.1 C.2.2.2.2.2.2.2.2.2.2.1 C.2.2.2.2.2.2.2.2.2.2.2.1)
  rw [hret] at hcb
  have hrun := va_runIN (e := e) (below := below) (meth := meth) (H := H) (locs := locs) (cells := cells) (slots := slots) (g := F0 m pc ls ((av.reverse ++ .inr (.inr a) :: st).map (e_cv ad))) (rest := st.map (e_cv ad)) (As := av.map (e_cv ad)) (b := ad a) (n := n) (S := ⟨C.1, C.2.1, C.2.2.2.1, C.2.2.2.2.1, hts⟩) hM
    ⟨hcb, hY1.2.2.1, hts _ hY1.2.1⟩
    ⟨e_Pc_blind, fun U hU hW => ⟨by rw [List.map_cons, e_ref h0], by rw [hU]; exact P, by rw [hU]; exact ⟨Z.1, Z.2.1, fun _ h => by cases h⟩, e_F.moved hW C.2.2.2.2.2.2.2.1⟩⟩ rfl (by simp; exact hn9) L.2.1 (by show List.map (e_cv ad) _ = _; rw [List.map_append, List.map_reverse, List.map_cons, e_ref h0]) (lv_room (by rw [e_catsum]; exact Nat.le_of_ble_eq_true hst)) hd ⟨by omega, by omega⟩
  exact e_back (v := none) (fun T hT Xs => Or.inl (hrun T hT Xs)) hm hm2 k C Z L hr2 hA hk hc hn hR1 hR2
theorem e_q_new {ci n idx : Nat} {C : String} {T : u_T} {ty : Nat → FieldType} (hc : e_cl ci C T n ty) (hcf : e_cf ci n ty) (hs : e_SH (cn + 1) = (ci, n)) (hR : ∀ a j, R a j ≤ cn) (hcn : cn < 999000) (hlk : Cond.classLink Y.2.2.2.2.1 idx C ∈ e_gw) (hins : Cond.instantiable C n ∈ e_gw) (hini : Cond.initialized C ∈ e_gw) (hd : decode Y.2.1 pc = .ok (.new idx, 3)) (hp : pc + 3 = pc') (hm : e_mn (cn + 1, gn, R, M) o.2)
    (hc1 : cn + 1 = c1) (k9 : e_G X d Y pc' loc (.inr (.inr c1) :: st) (c1, gn, e_zR R c1, e_z M c1) o) : e_G X d Y pc loc st (cn, gn, R, M) o := by
  subst hc1
  exact e_r_new hc hcf hs hR hcn hlk hins hini hd hp hm k9
theorem e_q_newI {n : Nat} {i : Int} (hs : e_SH (cn + 1) = (20, n)) (hi : i = (n : Int)) (hR : ∀ a j, R a j ≤ cn) (hcn : cn < 999000) (hnb : n * 8 ≤ 536870912) (hw : Cond.arrayClass .int ∈ e_gw) (hd : decode Y.2.1 pc = .ok (.newarray .int, 2)) (hp : pc + 2 = pc') (hm : e_mn (cn + 1, gn, R, M) o.2)
    (hc1 : cn + 1 = c1) (k9 : e_G X d Y pc' loc (.inr (.inr c1) :: st) (c1, gn, e_zR R c1, e_z M c1) o) : e_G X d Y pc loc (.inl i :: st) (cn, gn, R, M) o := by
  subst hc1
  exact e_r_newI hs hi hR hcn hnb hw hd hp hm k9
theorem e_q_newB {n : Nat} {i : Int} (hs : e_SH (cn + 1) = (21, n)) (hi : i = (n : Int)) (hR : ∀ a j, R a j ≤ cn) (hcn : cn < 999000) (hnb : n * 8 ≤ 536870912) (hw : Cond.arrayClass .byte ∈ e_gw) (hd : decode Y.2.1 pc = .ok (.newarray .byte, 2)) (hp : pc + 2 = pc') (hm : e_mn (cn + 1, gn, R, M) o.2)
    (hc1 : cn + 1 = c1) (k9 : e_G X d Y pc' loc (.inr (.inr c1) :: st) (c1, gn, e_zR R c1, e_z M c1) o) : e_G X d Y pc loc (.inl i :: st) (cn, gn, R, M) o := by
  subst hc1
  exact e_r_newB hs hi hR hcn hnb hw hd hp hm k9
theorem e_q_newL {n : Nat} {i : Int} (hs : e_SH (cn + 1) = (22, n)) (hi : i = (n : Int)) (hR : ∀ a j, R a j ≤ cn) (hcn : cn < 999000) (hnb : n * 8 ≤ 536870912) (hw : Cond.arrayClass .long ∈ e_gw) (hd : decode Y.2.1 pc = .ok (.newarray .long, 2)) (hp : pc + 2 = pc') (hm : e_mn (cn + 1, gn, R, M) o.2)
    (hc1 : cn + 1 = c1) (k9 : e_G X d Y pc' loc (.inr (.inr c1) :: st) (c1, gn, e_zR R c1, e_z M c1) o) : e_G X d Y pc loc (.inl i :: st) (cn, gn, R, M) o := by
  subst hc1
  exact e_r_newL hs hi hR hcn hnb hw hd hp hm k9
theorem e_q_newQ {n idx : Nat} {i : Int} (hs : e_SH (cn + 1) = (23, n)) (hi : i = (n : Int)) (hR : ∀ a j, R a j ≤ cn) (hcn : cn < 999000) (hnb : n * 8 ≤ 536870912) (hlk : Cond.classLink Y.2.2.2.2.1 idx "BoughtMondays$Shelf" ∈ e_gw) (hd : decode Y.2.1 pc = .ok (.anewarray idx, 3)) (hp : pc + 3 = pc') (hm : e_mn (cn + 1, gn, R, M) o.2)
    (hc1 : cn + 1 = c1) (k9 : e_G X d Y pc' loc (.inr (.inr c1) :: st) (c1, gn, e_zR R c1, e_z M c1) o) : e_G X d Y pc loc (.inl i :: st) (cn, gn, R, M) o := by
  subst hc1
  exact e_r_newQ hs hi hR hcn hnb hlk hd hp hm k9
theorem e_q_newM {N K idx : Nat} {i k : Int} (hs : e_SH (cn + 1) = (24, N)) (hrw : ∀ j, j < N → e_SH (cn + 2 + j) = (20, K)) (hi : i = (N : Int)) (hk : k = (K : Int)) (hR : ∀ a j, R a j ≤ cn) (hcn : cn + N < 999000) (hnb : N * 4 ≤ 536870912) (hkb : K * 4 ≤ 536870912) (hslc : e_slc (cn + 1 + N) = e_slc cn + N + N * K)
    (hlk : Cond.classLink Y.2.2.2.2.1 idx "[[I" ∈ e_gw) (harr : Cond.arrayClass .int ∈ e_gw) (hd : decode Y.2.1 pc = .ok (.multianewarray idx 2, 4)) (hp : pc + 4 = pc') (hm : e_mn (cn + 1 + N, gn, R, M) o.2)
    (hc1 : cn + 1 = c1) {c2 : Nat} (hc2 : cn + 1 + N = c2) (k9 : e_G X d Y pc' loc (.inr (.inr c1) :: st) (c2, gn, e_mR R cn N, e_mM M cn) o) : e_G X d Y pc loc (.inl k :: .inl i :: st) (cn, gn, R, M) o := by
  subst hc1; subst hc2
  exact e_r_newM hs hrw hi hk hR hcn hnb hkb hslc hlk harr hd hp hm k9
end EI
theorem cf_0 : e_cf 0 3 tyX0 := by unfold e_cf; decide +kernel
theorem ins_0 : Cond.instantiable RX0 3 ∈ e_gw := e_in_1 157 rfl rfl
theorem ini_0 : Cond.initialized RX0 ∈ e_gw := e_in_1 5 rfl rfl
theorem cf_1 : e_cf 1 3 tyX1 := by unfold e_cf; decide +kernel
theorem ins_1 : Cond.instantiable RX1 3 ∈ e_gw := e_in_2 16 rfl rfl
theorem ini_1 : Cond.initialized RX1 ∈ e_gw := e_in_1 8 rfl rfl
theorem cf_2 : e_cf 2 4 tyX2 := by unfold e_cf; decide +kernel
theorem ins_2 : Cond.instantiable RX2 4 ∈ e_gw := e_in_1 135 rfl rfl
theorem ini_2 : Cond.initialized RX2 ∈ e_gw := e_in_1 4 rfl rfl
theorem cf_3 : e_cf 3 11 tyX3 := by unfold e_cf; decide +kernel
theorem ins_3 : Cond.instantiable RX3 11 ∈ e_gw := e_in_1 203 rfl rfl
theorem ini_3 : Cond.initialized RX3 ∈ e_gw := e_in_1 7 rfl rfl
theorem cf_4 : e_cf 4 7 tyX4 := by unfold e_cf; decide +kernel
theorem ins_4 : Cond.instantiable RX4 7 ∈ e_gw := e_in_1 174 rfl rfl
theorem ini_4 : Cond.initialized RX4 ∈ e_gw := e_in_1 6 rfl rfl
theorem cf_5 : e_cf 5 2 tyX5 := by unfold e_cf; decide +kernel
theorem ins_5 : Cond.instantiable RX5 2 ∈ e_gw := e_in_2 86 rfl rfl
theorem ini_5 : Cond.initialized RX5 ∈ e_gw := e_in_1 11 rfl rfl
theorem cf_6 : e_cf 6 9 tyX6 := by unfold e_cf; decide +kernel
theorem ins_6 : Cond.instantiable RX6 9 ∈ e_gw := e_in_2 33 rfl rfl
theorem ini_6 : Cond.initialized RX6 ∈ e_gw := e_in_1 9 rfl rfl
theorem cf_7 : e_cf 7 7 tyX7 := by unfold e_cf; decide +kernel
theorem ins_7 : Cond.instantiable RX7 7 ∈ e_gw := e_in_1 34 rfl rfl
theorem ini_7 : Cond.initialized RX7 ∈ e_gw := e_in_1 2 rfl rfl
theorem cf_8 : e_cf 8 10 tyX8 := by unfold e_cf; decide +kernel
theorem ins_8 : Cond.instantiable RX8 10 ∈ e_gw := e_in_1 69 rfl rfl
theorem ini_8 : Cond.initialized RX8 ∈ e_gw := e_in_1 3 rfl rfl
theorem cf_9 : e_cf 9 3 tyX9 := by unfold e_cf; decide +kernel
theorem ins_9 : Cond.instantiable RX9 3 ∈ e_gw := e_in_2 69 rfl rfl
theorem ini_9 : Cond.initialized RX9 ∈ e_gw := e_in_1 10 rfl rfl
theorem cf_10 : e_cf 10 18 tyX10 := by unfold e_cf; decide +kernel
theorem ins_10 : Cond.instantiable RX10 18 ∈ e_gw := e_in_1 26 rfl rfl
theorem ini_10 : Cond.initialized RX10 ∈ e_gw := e_in_1 1 rfl rfl
theorem cf_11 : e_cf 11 47 tyX11 := by unfold e_cf; decide +kernel
theorem ins_11 : Cond.instantiable RX11 47 ∈ e_gw := e_in_6 105 rfl rfl
theorem ini_11 : Cond.initialized RX11 ∈ e_gw := e_in_1 13 rfl rfl
theorem kl_RL_8 : Cond.classLink RL 8 RX10 ∈ e_gw := e_in_1 25 rfl rfl
theorem ob_RX10_1 : Cond.methodLink RX10 1 Lib.objectInit ∈ e_gw := e_in_1 30 rfl rfl
theorem kl_RX10_7 : Cond.classLink RX10 7 RX7 ∈ e_gw := e_in_1 33 rfl rfl
theorem ob_RX7_3 : Cond.methodLink RX7 3 Lib.objectInit ∈ e_gw := e_in_1 38 rfl rfl
theorem ac_byte : Cond.arrayClass .byte ∈ e_gw := e_in_1 67 rfl rfl
theorem kl_RX10_16 : Cond.classLink RX10 16 RX8 ∈ e_gw := e_in_1 68 rfl rfl
theorem ob_RX8_3 : Cond.methodLink RX8 3 Lib.objectInit ∈ e_gw := e_in_1 73 rfl rfl
theorem ac_int : Cond.arrayClass .int ∈ e_gw := e_in_1 133 rfl rfl
theorem kl_RX10_26 : Cond.classLink RX10 26 RX2 ∈ e_gw := e_in_1 134 rfl rfl
theorem ob_RX2_3 : Cond.methodLink RX2 3 Lib.objectInit ∈ e_gw := e_in_1 139 rfl rfl
theorem kl_RX10_36 : Cond.classLink RX10 36 RX0 ∈ e_gw := e_in_1 156 rfl rfl
theorem ob_RX0_3 : Cond.methodLink RX0 3 Lib.objectInit ∈ e_gw := e_in_1 161 rfl rfl
theorem kl_RX10_46 : Cond.classLink RX10 46 RX4 ∈ e_gw := e_in_1 173 rfl rfl
theorem ob_RX4_3 : Cond.methodLink RX4 3 Lib.objectInit ∈ e_gw := e_in_1 178 rfl rfl
theorem kl_RX10_53 : Cond.classLink RX10 53 RX3 ∈ e_gw := e_in_1 202 rfl rfl
theorem ob_RX3_3 : Cond.methodLink RX3 3 Lib.objectInit ∈ e_gw := e_in_1 207 rfl rfl
theorem kl_RX10_65 : Cond.classLink RX10 65 RX1 ∈ e_gw := e_in_2 15 rfl rfl
theorem ob_RX1_3 : Cond.methodLink RX1 3 Lib.objectInit ∈ e_gw := e_in_2 20 rfl rfl
theorem kl_RX10_74 : Cond.classLink RX10 74 RX6 ∈ e_gw := e_in_2 32 rfl rfl
theorem ob_RX6_3 : Cond.methodLink RX6 3 Lib.objectInit ∈ e_gw := e_in_2 37 rfl rfl
theorem kl_RX10_81 : Cond.classLink RX10 81 RX9 ∈ e_gw := e_in_2 68 rfl rfl
theorem ob_RX9_1 : Cond.methodLink RX9 1 Lib.objectInit ∈ e_gw := e_in_2 73 rfl rfl
theorem kl_RX10_90 : Cond.classLink RX10 90 RX5 ∈ e_gw := e_in_2 85 rfl rfl
theorem ob_RX5_3 : Cond.methodLink RX5 3 Lib.objectInit ∈ e_gw := e_in_2 90 rfl rfl
theorem kl_RL_13 : Cond.classLink RL 13 "java/lang/IllegalArgumentException" ∈ e_gw := e_in_3 111 rfl rfl
theorem kl_RX10_400 : Cond.classLink RX10 400 "java/lang/IllegalArgumentException" ∈ e_gw := e_in_3 129 rfl rfl
theorem kl_RL_31 : Cond.classLink RL 31 "java/util/NoSuchElementException" ∈ e_gw := e_in_5 41 rfl rfl
theorem kl_RX10_393 : Cond.classLink RX10 393 "java/util/NoSuchElementException" ∈ e_gw := e_in_5 54 rfl rfl
theorem kl_RL_118 : Cond.classLink RL 118 RX11 ∈ e_gw := e_in_6 104 rfl rfl
theorem ob_RX11_1 : Cond.methodLink RX11 1 Lib.objectInit ∈ e_gw := e_in_6 109 rfl rfl
theorem kl_RX11_38 : Cond.classLink RX11 38 "[[I" ∈ e_gw := e_in_6 110 rfl rfl
theorem ac_long : Cond.arrayClass .long ∈ e_gw := e_in_8 214 rfl rfl
theorem ob_i : Cond.instanceMethod Lib.objectInit ∈ e_gw := by decide +kernel
theorem ob_c : Cond.code Lib.objectInit ⟨#[0xb1]⟩ 1 none ∈ e_gw := by decide +kernel
theorem mcYX0_init : e_mc YX0_init 0 := ⟨moYX0_init, e_in_1 159 rfl rfl, rfl, rfl⟩
theorem mcYX1_init : e_mc YX1_init 1 := ⟨moYX1_init, e_in_2 18 rfl rfl, rfl, rfl⟩
theorem mcYX2_init : e_mc YX2_init 0 := ⟨moYX2_init, e_in_1 137 rfl rfl, rfl, rfl⟩
theorem mcYX3_init : e_mc YX3_init 2 := ⟨moYX3_init, e_in_1 205 rfl rfl, rfl, rfl⟩
theorem mcYX4_init : e_mc YX4_init 0 := ⟨moYX4_init, e_in_1 176 rfl rfl, rfl, rfl⟩
theorem mcYX5_init : e_mc YX5_init 0 := ⟨moYX5_init, e_in_2 88 rfl rfl, rfl, rfl⟩
theorem mcYX6_init : e_mc YX6_init 2 := ⟨moYX6_init, e_in_2 35 rfl rfl, rfl, rfl⟩
theorem mcYX7_init : e_mc YX7_init 0 := ⟨moYX7_init, e_in_1 36 rfl rfl, rfl, rfl⟩
theorem mcYX8_init : e_mc YX8_init 0 := ⟨moYX8_init, e_in_1 71 rfl rfl, rfl, rfl⟩
theorem mcYX9_init : e_mc YX9_init 1 := ⟨moYX9_init, e_in_2 71 rfl rfl, rfl, rfl⟩
theorem mcYX10_init : e_mc YX10_init 0 := ⟨moYX10_init, e_in_1 28 rfl rfl, rfl, rfl⟩
theorem mcYX11_init : e_mc YX11_init 0 := ⟨moYX11_init, e_in_6 107 rfl rfl, rfl, rfl⟩
