/-! THE ENGINE, 10: String constants are read: length, charAt; then indexAmong, readWord -/
def RJ1 : String := "java/lang/StringLatin1"
abbrev cJ1_charAt_3b067 : ByteArray := prog_23_method_2_code
def yJ1_charAt_3b067 : MethodName := ⟨RJ1, "charAt", "([BI)C"⟩
def YJ1_charAt_3b067 : e_Y := (yJ1_charAt_3b067, cJ1_charAt_3b067, 2, (some .char), RJ1, [])
def RJ3 : String := "jdk/internal/util/Preconditions"
abbrev cJ3_checkIndex_8e157 : ByteArray := prog_30_method_11_code
def yJ3_checkIndex_8e157 : MethodName := ⟨RJ3, "checkIndex", "(IILjava/util/function/BiFunction;)I"⟩
def YJ3_checkIndex_8e157 : e_Y := (yJ3_checkIndex_8e157, cJ3_checkIndex_8e157, 3, (some .int), RJ3, [])
theorem mqYJ1_charAt_3b067 : e_ms YJ1_charAt_3b067 2 := ⟨⟨by decide +kernel, by decide +kernel, by decide +kernel, rfl, ⟨by decide +kernel, by decide +kernel, by decide +kernel⟩, rfl, by decide⟩, by decide +kernel⟩
theorem mqYJ3_checkIndex_8e157 : e_ms YJ3_checkIndex_8e157 3 := ⟨⟨by decide +kernel, by decide +kernel, by decide +kernel, rfl, ⟨by decide +kernel, by decide +kernel, by decide +kernel⟩, rfl, by decide⟩, by decide +kernel⟩
theorem ml_RJ0_495 : Cond.methodLink RJ0 495 yJ1_charAt_3b067 ∈ e_gw := by decide +kernel
theorem ml_RJ1_9 : Cond.methodLink RJ1 9 yJ0_checkIndex_df160 ∈ e_gw := by decide +kernel
theorem ml_RJ0_1059 : Cond.methodLink RJ0 1059 yJ3_checkIndex_8e157 ∈ e_gw := by decide +kernel
theorem dJ0_length_0 : decode cJ0_length_8abf5 0 = .ok (.aload_n 0, 1) := by decide +kernel
theorem dJ0_length_1 : decode cJ0_length_8abf5 1 = .ok (.getfield 9, 3) := by decide +kernel
theorem dJ0_length_4 : decode cJ0_length_8abf5 4 = .ok (.arraylength, 1) := by decide +kernel
theorem dJ0_length_5 : decode cJ0_length_8abf5 5 = .ok (.aload_n 0, 1) := by decide +kernel
theorem dJ0_length_6 : decode cJ0_length_8abf5 6 = .ok (.invokevirtual 335, 3) := by decide +kernel
theorem dJ0_length_9 : decode cJ0_length_8abf5 9 = .ok (.ishr, 1) := by decide +kernel
theorem dJ0_length_10 : decode cJ0_length_8abf5 10 = .ok (.ireturn, 1) := by decide +kernel
theorem dJ0_coder_0 : decode cJ0_coder_7d493 0 = .ok (.getstatic 38, 3) := by decide +kernel
theorem dJ0_coder_3 : decode cJ0_coder_7d493 3 = .ok (.ifCond .eq 10, 3) := by decide +kernel
theorem dJ0_coder_6 : decode cJ0_coder_7d493 6 = .ok (.aload_n 0, 1) := by decide +kernel
theorem dJ0_coder_7 : decode cJ0_coder_7d493 7 = .ok (.getfield 15, 3) := by decide +kernel
theorem dJ0_coder_10 : decode cJ0_coder_7d493 10 = .ok (.goto 4, 3) := by decide +kernel
theorem dJ0_coder_14 : decode cJ0_coder_7d493 14 = .ok (.ireturn, 1) := by decide +kernel
theorem dJ0_isLatin1_0 : decode cJ0_isLatin1_aae02 0 = .ok (.getstatic 38, 3) := by decide +kernel
theorem dJ0_isLatin1_3 : decode cJ0_isLatin1_aae02 3 = .ok (.ifCond .eq 14, 3) := by decide +kernel
theorem dJ0_isLatin1_6 : decode cJ0_isLatin1_aae02 6 = .ok (.aload_n 0, 1) := by decide +kernel
theorem dJ0_isLatin1_7 : decode cJ0_isLatin1_aae02 7 = .ok (.getfield 15, 3) := by decide +kernel
theorem dJ0_isLatin1_10 : decode cJ0_isLatin1_aae02 10 = .ok (.ifCond .ne 7, 3) := by decide +kernel
theorem dJ0_isLatin1_13 : decode cJ0_isLatin1_aae02 13 = .ok (.iconst 1, 1) := by decide +kernel
theorem dJ0_isLatin1_14 : decode cJ0_isLatin1_aae02 14 = .ok (.goto 4, 3) := by decide +kernel
theorem dJ0_isLatin1_18 : decode cJ0_isLatin1_aae02 18 = .ok (.ireturn, 1) := by decide +kernel
theorem dJ0_charAt_0 : decode cJ0_charAt_5068e 0 = .ok (.aload_n 0, 1) := by decide +kernel
theorem dJ0_charAt_1 : decode cJ0_charAt_5068e 1 = .ok (.invokevirtual 492, 3) := by decide +kernel
theorem dJ0_charAt_4 : decode cJ0_charAt_5068e 4 = .ok (.ifCond .eq 12, 3) := by decide +kernel
theorem dJ0_charAt_7 : decode cJ0_charAt_5068e 7 = .ok (.aload_n 0, 1) := by decide +kernel
theorem dJ0_charAt_8 : decode cJ0_charAt_5068e 8 = .ok (.getfield 9, 3) := by decide +kernel
theorem dJ0_charAt_11 : decode cJ0_charAt_5068e 11 = .ok (.iload_n 1, 1) := by decide +kernel
theorem dJ0_charAt_12 : decode cJ0_charAt_5068e 12 = .ok (.invokestatic 495, 3) := by decide +kernel
theorem dJ0_charAt_15 : decode cJ0_charAt_5068e 15 = .ok (.ireturn, 1) := by decide +kernel
theorem dJ1_charAt_0 : decode cJ1_charAt_3b067 0 = .ok (.iload_n 1, 1) := by decide +kernel
theorem dJ1_charAt_1 : decode cJ1_charAt_3b067 1 = .ok (.aload_n 0, 1) := by decide +kernel
theorem dJ1_charAt_2 : decode cJ1_charAt_3b067 2 = .ok (.arraylength, 1) := by decide +kernel
theorem dJ1_charAt_3 : decode cJ1_charAt_3b067 3 = .ok (.invokestatic 9, 3) := by decide +kernel
theorem dJ1_charAt_6 : decode cJ1_charAt_3b067 6 = .ok (.aload_n 0, 1) := by decide +kernel
theorem dJ1_charAt_7 : decode cJ1_charAt_3b067 7 = .ok (.iload_n 1, 1) := by decide +kernel
theorem dJ1_charAt_8 : decode cJ1_charAt_3b067 8 = .ok (.baload, 1) := by decide +kernel
theorem dJ1_charAt_9 : decode cJ1_charAt_3b067 9 = .ok (.sipush 255, 3) := by decide +kernel
theorem dJ1_charAt_12 : decode cJ1_charAt_3b067 12 = .ok (.iand, 1) := by decide +kernel
theorem dJ1_charAt_13 : decode cJ1_charAt_3b067 13 = .ok (.i2c, 1) := by decide +kernel
theorem dJ1_charAt_14 : decode cJ1_charAt_3b067 14 = .ok (.ireturn, 1) := by decide +kernel
theorem dJ0_checkIndex_0 : decode cJ0_checkIndex_df160 0 = .ok (.iload_n 0, 1) := by decide +kernel
theorem dJ0_checkIndex_1 : decode cJ0_checkIndex_df160 1 = .ok (.iload_n 1, 1) := by decide +kernel
theorem dJ0_checkIndex_2 : decode cJ0_checkIndex_df160 2 = .ok (.getstatic 1053, 3) := by decide +kernel
theorem dJ0_checkIndex_5 : decode cJ0_checkIndex_df160 5 = .ok (.invokestatic 1059, 3) := by decide +kernel
theorem dJ0_checkIndex_8 : decode cJ0_checkIndex_df160 8 = .ok (.pop, 1) := by decide +kernel
theorem dJ0_checkIndex_9 : decode cJ0_checkIndex_df160 9 = .ok (.return_, 1) := by decide +kernel
theorem dJ3_checkIndex_0 : decode cJ3_checkIndex_8e157 0 = .ok (.iload_n 0, 1) := by decide +kernel
theorem dJ3_checkIndex_1 : decode cJ3_checkIndex_8e157 1 = .ok (.ifCond .lt 8, 3) := by decide +kernel
theorem dJ3_checkIndex_4 : decode cJ3_checkIndex_8e157 4 = .ok (.iload_n 0, 1) := by decide +kernel
theorem dJ3_checkIndex_5 : decode cJ3_checkIndex_8e157 5 = .ok (.iload_n 1, 1) := by decide +kernel
theorem dJ3_checkIndex_6 : decode cJ3_checkIndex_8e157 6 = .ok (.if_icmp .lt 10, 3) := by decide +kernel
theorem dJ3_checkIndex_16 : decode cJ3_checkIndex_8e157 16 = .ok (.iload_n 0, 1) := by decide +kernel
theorem dJ3_checkIndex_17 : decode cJ3_checkIndex_8e157 17 = .ok (.ireturn, 1) := by decide +kernel
section ST
variable {X : e_X} {d : Nat} {Y : e_Y} {pc pc' : Nat} {loc : List (Option e_V)} {st : List e_V} {S S1 : e_S} {o : e_O}
/-- the coder of a String constant -/
theorem e_r_gcod {j idx : Nat} (hj : j < 5) (hw : Cond.fieldLink Y.2.2.2.2.1 idx "java/lang/String" "coder" "B" ∈ e_gw) (hd : decode Y.2.1 pc = .ok (.getfield idx, 3)) (hp : pc + 3 = pc') (k : e_G X d Y pc' loc (.inl 0 :: st) S o) : e_G X d Y pc loc (.inr (.inr (1000000 + j)) :: st) S o := by
  subst hp
  refine e_step (fun hs _ => e_cs (v := .inl _) e_00 (e_tl hs)) (fun p e R s m args below meth c ls H locs cells slots ad Q C P Z L hs w => ?_) k
  rw [List.map_cons, e_ref (by omega), P.2.2.2.2 j]
  obtain ⟨cf, k, fi, f, cell, h1, h2, h3, h4, h5, h6⟩ := (C.2.2.2.2.2.2.2.1.2.2.2.2.2.2.2.2.1.1 j hj).2.1.kept Z.2.1
  exact W.getf C.1 C.2.1 C.2.2.2.2.1 (C.2.2.2.2.2.1 _ hw) h1 h2 h3 h4 (v := .int 0) h5 rfl rfl hd w
/-- its bytes -/
theorem e_r_gval {j idx : Nat} (hj : j < 5) (hw : Cond.fieldLink Y.2.2.2.2.1 idx "java/lang/String" "value" "[B" ∈ e_gw) (hd : decode Y.2.1 pc = .ok (.getfield idx, 3)) (hp : pc + 3 = pc') (k : e_G X d Y pc' loc (.inr (.inr (2000000 + j)) :: st) S o) : e_G X d Y pc loc (.inr (.inr (1000000 + j)) :: st) S o := by
  subst hp
  refine e_step (fun hs _ => e_cs (v := .inr (.inr _)) (Or.inr (by omega)) (e_tl hs)) (fun p e R s m args below meth c ls H locs cells slots ad Q C P Z L hs w => ?_) k
  rw [List.map_cons, e_ref (by omega), P.2.2.2.2 j]
  rw [List.map_cons, e_ref (by omega), show 2000000 + j = 1000000 + (1000000 + j) by omega, P.2.2.2.2 (1000000 + j)] at w
  obtain ⟨cf, k, fi, f, cell, h1, h2, h3, h4, h5, h6⟩ := (C.2.2.2.2.2.2.2.1.2.2.2.2.2.2.2.2.1.1 j hj).2.2.1.kept Z.2.1
  exact W.getf C.1 C.2.1 C.2.2.2.2.1 (C.2.2.2.2.2.1 _ hw) h1 h2 h3 h4 (v := .ref (X.2.2.2.2.2.2.2 (1000000 + j))) h5 rfl rfl hd w
theorem e_slnb : ∀ j, j < 5 → e_sln.getD j 0 < 100 := by decide +kernel
theorem e_r_slenS {j : Nat} (hj : j < 5) (hd : decode Y.2.1 pc = .ok (.arraylength, 1)) (hp : pc + 1 = pc') (k : e_G X d Y pc' loc (.inl ((e_sln.getD j 0 : Nat) : Int) :: st) S o) : e_G X d Y pc loc (.inr (.inr (2000000 + j)) :: st) S o := by
  subst hp
  have hb := e_slnb j hj
  refine e_step (fun hs _ => e_cs (v := .inl _) (by show e_i32 _; unfold e_i32; omega) (e_tl hs)) (fun p e R s m args below meth c ls H locs cells slots ad Q C P Z L hs w => ?_) k
  rw [List.map_cons, e_ref (by omega), show 2000000 + j = 1000000 + (1000000 + j) by omega, P.2.2.2.2 (1000000 + j)]
  obtain ⟨cell, h1, h2, h3, h4, h5, h6, h7⟩ := (C.2.2.2.2.2.2.2.1.2.2.2.2.2.2.2.2.1.1 j hj).2.2.2
  refine W.alen (n := Int32.ofNat (e_sln.getD j 0)) C.1 C.2.1 (by rw [Z.2.1 _ (Array.getElem?_eq_some_iff.mp h1).1 h7]; exact h1) h2 h5 rfl rfl hd ?_
  rw [show Int32.ofNat (e_sln.getD j 0) = Int32.ofInt ((e_sln.getD j 0 : Nat) : Int) from (b_of _).symm]
  exact w
def e_chI (j i : Nat) : Int := ((e_sby.getD j []).getD i 0).toInt
theorem e_r_sldS {j i : Nat} (hj : j < 5) (hi : i < e_sln.getD j 0) (hd : decode Y.2.1 pc = .ok (.baload, 1)) (hp : pc + 1 = pc') (k : e_G X d Y pc' loc (.inl (e_chI j i) :: st) S o) : e_G X d Y pc loc (.inl (i : Int) :: .inr (.inr (2000000 + j)) :: st) S o := by
  subst hp
  have hb := e_slnb j hj
  refine e_step (fun hs _ => e_cs (v := .inl _) (e_r32 _) (e_tl (e_tl hs))) (fun p e R s m args below meth c ls H locs cells slots ad Q C P Z L hs w => ?_) k
  have hri : e_i32 (i : Int) := e_hd hs
  rw [List.map_cons, List.map_cons, e_ref (by omega), show 2000000 + j = 1000000 + (1000000 + j) by omega, P.2.2.2.2 (1000000 + j)]
  obtain ⟨cell, h1, h2, h3, h4, h5, h6, h7⟩ := (C.2.2.2.2.2.2.2.1.2.2.2.2.2.2.2.2.1.1 j hj).2.2.2
  have hcl : (Int32.ofInt (i : Int)).toNatClampNeg = i := by rw [e_clamp hri]; omega
  have hin : ¬ (Int32.ofInt (i : Int) < 0 ∨ cell.slots.size ≤ (Int32.ofInt (i : Int)).toNatClampNeg) := by
    rw [hcl]
    rintro (q | q)
    · rw [e_0, e_lt hri e_00] at q; omega
    · omega
  refine W.bald (v := .int ((e_sby.getD j []).getD i 0)) C.1 C.2.1 (by rw [Z.2.1 _ (Array.getElem?_eq_some_iff.mp h1).1 h7]; exact h1) h2 h3 hin (by rw [hcl, h6 _ hi]) rfl rfl hd ?_
  rw [← e_ofI ((e_sby.getD j []).getD i 0)]
  exact w
/-- static fields of the JDK -/
theorem e_r_gcmp {idx : Nat} (hw : Cond.fieldLink Y.2.2.2.2.1 idx "java/lang/String" "COMPACT_STRINGS" "Z" ∈ e_gw) (hd : decode Y.2.1 pc = .ok (.getstatic idx, 3)) (hp : pc + 3 = pc') (k : e_G X d Y pc' loc (.inl 1 :: st) S o) : e_G X d Y pc loc st S o := by
  subst hp
  refine e_step (fun hs _ => e_cs (v := .inl _) (by show e_i32 1; unfold e_i32; omega) hs) (fun p e R s m args below meth c ls H locs cells slots ad Q C P Z L hs w => ?_) k
  obtain ⟨cf, kf, fi, f, a, cell, h1, h2, h3, h4, h5, h6, h7, h8⟩ := C.2.2.2.2.2.2.2.1.2.2.2.2.2.2.2.2.2.1
  exact W.gets C.1 C.2.1 C.2.2.2.2.1 (C.2.2.2.2.2.1 _ hw) h1 h2 h3 h4 (by rw [Z.2.1 a (Array.getElem?_eq_some_iff.mp h5).1 h8]; exact h5) (fun e => by rw [e] at h6; cases h6) h7 rfl hd w
theorem e_r_gsio {idx : Nat} (hw : Cond.fieldLink Y.2.2.2.2.1 idx "jdk/internal/util/Preconditions" "SIOOBE_FORMATTER" "Ljava/util/function/BiFunction;" ∈ e_gw) (hd : decode Y.2.1 pc = .ok (.getstatic idx, 3)) (hp : pc + 3 = pc') (k0 : e_G X d Y pc' loc (.inr (.inr 0) :: st) S o) (k : e_G X d Y pc' loc (.inr (.inr 3000000) :: st) S o) : e_G X d Y pc loc st S o := by
  subst hp
  intro p e R s m args below meth c ls H locs cells slots ad ad0 q0 c0 s0 C P Z L hs hA hk hc hn hR1 hR2
  rcases C.2.2.2.2.2.2.2.1.2.2.2.2.2.2.2.2.2.2.2 with hz | hz
  · obtain ⟨cf, kf, fi, f, a, cell, h1, h2, h3, h4, h5, h6, h7, h8⟩ := hz
    have w := k0 p e R s m args below meth c ls H locs cells slots ad ad0 q0 c0 s0 C P Z L (e_cs (v := .inr (.inr 0)) (Or.inl (Nat.zero_le _)) hs) hA hk hc hn hR1 hR2
    exact W.gets C.1 C.2.1 C.2.2.2.2.1 (C.2.2.2.2.2.1 _ hw) h1 h2 h3 h4 (by rw [Z.2.1 a (Array.getElem?_eq_some_iff.mp h5).1 h8]; exact h5) (fun e => by rw [e] at h6; cases h6) h7 rfl hd w
  · obtain ⟨cf, kf, fi, f, a, cell, h1, h2, h3, h4, h5, h6, h7, h8⟩ := hz
    have w := k p e R s m args below meth c ls H locs cells slots ad ad0 q0 c0 s0 C P Z L (e_cs (v := .inr (.inr 3000000)) (Or.inr (by omega)) hs) hA hk hc hn hR1 hR2
    rw [List.map_cons, e_ref (by omega), show 3000000 = 1000000 + 2000000 by omega, P.2.2.2.2 2000000] at w
    exact W.gets C.1 C.2.1 C.2.2.2.2.1 (C.2.2.2.2.2.1 _ hw) h1 h2 h3 h4 (by rw [Z.2.1 a (Array.getElem?_eq_some_iff.mp h5).1 h8]; exact h5) (fun e => by rw [e] at h6; cases h6) h7 rfl hd w
theorem e_r_i2c {a : Int} (ha : 0 ≤ a) (ha2 : a < 65536) (hd : decode Y.2.1 pc = .ok (.i2c, 1)) (hp : pc + 1 = pc') (k : e_G X d Y pc' loc (.inl a :: st) S o) : e_G X d Y pc loc (.inl a :: st) S o := by
  subst hp
  refine e_step (fun hs _ => hs) (fun p e R s m args below meth c ls H locs cells slots ad Q C P Z L hs w => ?_) k
  refine lv_i2c C.1 C.2.1 hd (v := Int32.ofInt a) ?_ w
  obtain ⟨z, hz⟩ : ∃ z : Nat, a = (z : Int) := ⟨a.toNat, by omega⟩
  rw [hz]
  rw [b_of]
  apply Int32.toBitVec_inj.mp
  apply BitVec.eq_of_toNat_eq
  have h1 : z % 4294967296 = z := Nat.mod_eq_of_lt (by omega)
  have h2 : z % 65536 = z := Nat.mod_eq_of_lt (by omega)
  simp [nI, h1, h2]
set_option maxHeartbeats 1000000 in
theorem e_runVS {Y1 : e_Y} {n idx j : Nat} {av : List e_V} {o1 : e_O} (hY1 : e_mv Y1 n) (hRJ : Y1.2.2.2.2.1 = "java/lang/String") (hj : j < 5) (hlk : Cond.methodLink Y.2.2.2.2.1 idx Y1.1 ∈ e_gw) (hav : ∀ v ∈ av, e_cat v = 1) (hn9 : av.length = n) (hl : n + 1 ≤ Y1.2.2.1) (hst : (st.map e_cat).sum ≤ 8) (hd : decode Y.2.1 pc = .ok (.invokevirtual idx, 3))
    (hE : e_E X d Y1 (.inr (.inr (1000000 + j)) :: av) S o1) {p : Program} {e : Env} {Rm : Room} {s : State} {m : MethodId} {args : Array Value} {below : List Frame} {meth : Method} {c : Code} {ls : Array Slot} {H : Heap} {locs : List Loc} {cells slots : Nat} {ad : Nat → Nat}
    (C : e_C X Y (d + 1) p Rm s m args meth c) (P : e_Hp X ad S H) (Z : va_S (e_A X) (e_H0 X) H locs) (L : e_L S.1 ad ls Y.2.2.1 loc) (hr : ∀ v ∈ av, e_rg S.1 v) (hf : cells + (e_cn o1.2 - e_cn S) ≤ Rm.cells ∧ slots + (e_sn o1.2 - e_sn S) ≤ Rm.slots) :
    vx_Run p X.1 e Rm s m args below meth c H locs cells slots (e_cn o1.2 - e_cn S) (e_sn o1.2 - e_sn S) (F0 m pc ls ((av.reverse ++ .inr (.inr (1000000 + j)) :: st).map (e_cv ad))) (st.map (e_cv ad)) (e_Qc X ad S.1 o1 (Value.ref (ad (1000000 + j)) :: av.map (e_cv ad)).toArray) (e_XC X ad S.1 o1) (e_A X) := by
  have h0 : 0 < 1000000 + j := by omega
  have hM := e_met (d := d) C.2.2.2.2.2.2.2.2.2.2.2.2.1 hY1.1 (av := .inr (.inr (1000000 + j)) :: av) (fun v hv => by
    rcases List.mem_cons.mp hv with e | e
    · rw [e]; rfl
    · exact hav v e) (fun v hv => by
    rcases List.mem_cons.mp hv with e | e
    · rw [e]; exact Or.inr (by omega)
    · exact hr v e) (by simp; omega) hE ad
  have hts := C.2.2.2.2.2.1
  have hrec : ∃ cell : Cell, H[ad (1000000 + j)]? = some cell ∧ cell.vm.isStatics = false ∧ s.vm.findClass Y1.2.2.2.2.1 = some cell.cls := by
    obtain ⟨cell, h1, h2, h3, -⟩ := (C.2.2.2.2.2.2.2.1.2.2.2.2.2.2.2.2.1.1 j hj).1.kept Z.2.1
    rw [hRJ, P.2.2.2.2 j]
    exact ⟨cell, h1, h2, h3⟩
  refine vx_runV (As := av.map (e_cv ad)) (n := n) ⟨C.1, C.2.1, C.2.2.2.1, C.2.2.2.2.1, hts⟩ hM ⟨callB_of (ws' := e_gw) n hts (e_goodIn hY1.1.1) rfl rfl rfl (hts _ hY1.1.2.1) (hts _ hlk) hY1.1.2.2.2.2.1 (e_rmOK hY1.1 C.2.2.2.2.2.2.2.2.2.2.1 C.2.2.2.2.2.2.2.2.2.2.2.1), hts _ hY1.2.1, hts _ hY1.2.2⟩
    ⟨e_Pc_blind, hrec, fun U hU hW => ⟨?_, by rw [hU]; exact P, by rw [hU]; exact ⟨Z.1, Z.2.1, fun _ h => by cases h⟩, e_F.moved hW C.2.2.2.2.2.2.2.1⟩⟩ rfl (by simp; exact hn9) L.2.1 ?_ (lv_room (by rw [e_catsum]; exact hst)) hd hf
  · rw [List.map_cons, e_ref h0]
  · show List.map (e_cv ad) _ = _
    rw [List.map_append, List.map_reverse, List.map_cons, e_ref h0]
/-- a call by a String constant: it comes back -/
theorem e_r_callVS {Y1 : e_Y} {n idx j : Nat} {av : List e_V} {v : Option e_V} (hY1 : e_mv Y1 n) (hRJ : Y1.2.2.2.2.1 = "java/lang/String") (hj : j < 5) (hlk : Cond.methodLink Y.2.2.2.2.1 idx Y1.1 ∈ e_gw) (hav : ∀ v ∈ av, e_cat v = 1) (hn9 : av.length = n) (hl : Nat.ble (n + 1) Y1.2.2.1 = true) (hst : Nat.ble (st.map e_cat).sum 8 = true) (hd : decode Y.2.1 pc = .ok (.invokevirtual idx, 3)) (hp : pc + 3 = pc')
    (hE : e_E X d Y1 (.inr (.inr (1000000 + j)) :: av) S (.inl v, S1)) (hm : e_mn S S1) (hm2 : e_mn S1 o.2) (k : e_G X (d + 1) Y pc' loc (v.toList ++ st) S1 o) : e_G X (d + 1) Y pc loc (av.reverse ++ .inr (.inr (1000000 + j)) :: st) S o := by
  subst hp
  intro p e Rm s m args below meth c ls H locs cells slots ad ad0 k0 c0 s0 C P Z L hs0 hA hk hc hn hR1 hR2
  have hm3 := hm.cn
  have hm4 := hm.sn
  have hm5 := hm2.cn
  have hm6 := hm2.sn
  have hr1 : ∀ x ∈ av, e_rg S.1 x := fun x hx => hs0 x (List.mem_append_left _ (List.mem_reverse.mpr hx))
  have hr2 : ∀ x ∈ st, e_rg S.1 x := fun x hx => hs0 x (List.mem_append_right _ (List.mem_cons_of_mem _ hx))
  exact e_back (e_runVS hY1 hRJ hj hlk hav hn9 (Nat.le_of_ble_eq_true hl) (Nat.le_of_ble_eq_true hst) hd hE C P Z L hr1 ⟨by show cells + (e_cn S1 - e_cn S) ≤ _; omega, by show slots + (e_sn S1 - e_sn S) ≤ _; omega⟩) hm hm2 k C Z L hr2 hA hk hc hn hR1 hR2
end ST
section SU
variable {X : e_X} {d gn : Nat} {M : e_M} {j i : Nat}
theorem c_coder (hj : j < 5) : e_E X d YJ0_coder_7d493 [.inr (.inr (1000000 + j))] (557, gn, e_RF, M) (.inl (some (.inl 0)), (557, gn, e_RF, M)) := by
  show e_G X d YJ0_coder_7d493 0 [some (.inr (.inr (1000000 + j)))] [] (557, gn, e_RF, M) _
  refine e_r_gcmp (pc' := 3) fl_RJ0_38 dJ0_coder_0 rfl ?_
  refine e_r_if_eq (tgt := 13) (pc' := 6) dJ0_coder_3 rfl rfl (fun c => absurd c (by decide)) (fun _ => ?_)
  refine e_r_aload_n (pc' := 7) (by omega) dJ0_coder_6 rfl rfl rfl ?_
  refine e_r_gcod (pc' := 10) hj fl_RJ0_15 dJ0_coder_7 rfl ?_
  refine e_r_goto (pc' := 14) dJ0_coder_10 rfl ?_
  exact e_r_iret (ty := .byte) rfl (fun _ => by decide) dJ0_coder_14 rfl
theorem c_isLatin1 (hj : j < 5) : e_E X d YJ0_isLatin1_aae02 [.inr (.inr (1000000 + j))] (557, gn, e_RF, M) (.inl (some (.inl 1)), (557, gn, e_RF, M)) := by
  show e_G X d YJ0_isLatin1_aae02 0 [some (.inr (.inr (1000000 + j)))] [] (557, gn, e_RF, M) _
  refine e_r_gcmp (pc' := 3) fl_RJ0_38 dJ0_isLatin1_0 rfl ?_
  refine e_r_if_eq (tgt := 17) (pc' := 6) dJ0_isLatin1_3 rfl rfl (fun c => absurd c (by decide)) (fun _ => ?_)
  refine e_r_aload_n (pc' := 7) (by omega) dJ0_isLatin1_6 rfl rfl rfl ?_
  refine e_r_gcod (pc' := 10) hj fl_RJ0_15 dJ0_isLatin1_7 rfl ?_
  refine e_r_if_ne (tgt := 17) (pc' := 13) dJ0_isLatin1_10 rfl rfl (fun c => absurd rfl c) (fun _ => ?_)
  refine e_r_iconst (pc' := 14) dJ0_isLatin1_13 rfl (by decide) ?_
  refine e_r_goto (pc' := 18) dJ0_isLatin1_14 rfl ?_
  exact e_r_iret (ty := .boolean) rfl (e_nZ (Or.inr rfl)) dJ0_isLatin1_18 rfl
theorem c_slen (hj : j < 5) : e_E X (d + 1) YJ0_length_8abf5 [.inr (.inr (1000000 + j))] (557, gn, e_RF, M) (.inl (some (.inl ((e_sln.getD j 0 : Nat) : Int))), (557, gn, e_RF, M)) := by
  show e_G X (d + 1) YJ0_length_8abf5 0 [some (.inr (.inr (1000000 + j)))] [] (557, gn, e_RF, M) _
  have hb := e_slnb j hj
  refine e_r_aload_n (pc' := 1) (by omega) dJ0_length_0 rfl rfl rfl ?_
  refine e_r_gval (pc' := 4) hj fl_RJ0_9 dJ0_length_1 rfl ?_
  refine e_r_slenS (pc' := 5) hj dJ0_length_4 rfl ?_
  refine e_r_aload_n (pc' := 6) (by omega) dJ0_length_5 rfl rfl rfl ?_
  refine e_r_callVS (av := []) (st := [.inl ((e_sln.getD j 0 : Nat) : Int)]) mqYJ0_coder_7d493 rfl hj ml_RJ0_335 (by simp) rfl rfl rfl dJ0_length_6 (pc' := 9) rfl (c_coder hj) ⟨Nat.le_refl _, Nat.le_refl _⟩ ⟨Nat.le_refl _, Nat.le_refl _⟩ ?_
  refine e_r_ishr (pc' := 10) dJ0_length_9 rfl ?_
  refine e_r_iret (ty := .int) rfl (e_nI _) dJ0_length_10 ?_
  have e1 : e_shr ((e_sln.getD j 0 : Nat) : Int) 0 = ((e_sln.getD j 0 : Nat) : Int) := by
    have := b_shr (a := e_sln.getD j 0) (k := 0) (by omega) (by omega)
    simpa using this
  rw [e1]
theorem c_pchk {l : Int} {r : Nat} (h0 : (i : Int) < l) : e_E X d YJ3_checkIndex_8e157 [.inl (i : Int), .inl l, .inr (.inr r)] (557, gn, e_RF, M) (.inl (some (.inl (i : Int))), (557, gn, e_RF, M)) := by
  show e_G X d YJ3_checkIndex_8e157 0 [some (.inl (i : Int)), some (.inl l), some (.inr (.inr r))] [] (557, gn, e_RF, M) _
  refine e_r_iload_n (pc' := 1) dJ3_checkIndex_0 rfl rfl rfl ?_
  refine e_r_if_lt (tgt := 9) (pc' := 4) dJ3_checkIndex_1 rfl rfl (fun c => absurd c (by omega)) (fun _ => ?_)
  refine e_r_iload_n (pc' := 5) dJ3_checkIndex_4 rfl rfl rfl ?_
  refine e_r_iload_n (pc' := 6) dJ3_checkIndex_5 rfl rfl rfl ?_
  refine e_r_icmp_lt (tgt := 16) (pc' := 9) dJ3_checkIndex_6 rfl rfl (fun _ => ?_) (fun c => absurd h0 c)
  refine e_r_iload_n (pc' := 17) dJ3_checkIndex_16 rfl rfl rfl ?_
  exact e_r_iret (ty := .int) rfl (e_nI _) dJ3_checkIndex_17 rfl
theorem c_schk {l : Int} (h0 : (i : Int) < l) : e_E X (d + 1) YJ0_checkIndex_df160 [.inl (i : Int), .inl l] (557, gn, e_RF, M) (.inl none, (557, gn, e_RF, M)) := by
  show e_G X (d + 1) YJ0_checkIndex_df160 0 [some (.inl (i : Int)), some (.inl l)] [] (557, gn, e_RF, M) _
  refine e_r_iload_n (pc' := 1) dJ0_checkIndex_0 rfl rfl rfl ?_
  refine e_r_iload_n (pc' := 2) dJ0_checkIndex_1 rfl rfl rfl ?_
  refine e_r_gsio (pc' := 5) fl_RJ0_1053 dJ0_checkIndex_2 rfl ?_ ?_
  all_goals
    refine e_r_callS (av := [.inl (i : Int), .inl l, .inr (.inr _)]) (st := []) mqYJ3_checkIndex_8e157 ml_RJ0_1059 (by simp [e_cat]) rfl rfl rfl dJ0_checkIndex_5 (pc' := 8) rfl (c_pchk h0) ⟨Nat.le_refl _, Nat.le_refl _⟩ ⟨Nat.le_refl _, Nat.le_refl _⟩ ?_
    refine e_r_pop (pc' := 9) rfl dJ0_checkIndex_8 rfl ?_
    exact e_r_vret rfl dJ0_checkIndex_9 rfl
theorem e_chb : ∀ j, j < 5 → ∀ i, i < e_sln.getD j 0 → 0 ≤ e_chI j i ∧ e_chI j i < 128 ∧ e_and (e_chI j i) 255 = e_chI j i := by decide +kernel
theorem e_nC {x : Int} (h0 : 0 ≤ x) (h1 : x < 128) (_ : e_i32 x) : narrow .char (.int (Int32.ofInt x)) = .int (Int32.ofInt x) := by
  obtain ⟨k, rfl⟩ : ∃ k : Nat, x = (k : Int) := ⟨x.toNat, by omega⟩
  have h : ∀ k : Nat, k < 128 → narrow .char (.int (Int32.ofInt (k : Int))) = .int (Int32.ofInt (k : Int)) := by decide +kernel
  exact h k (by omega)
theorem c_lch (hj : j < 5) (hi : i < e_sln.getD j 0) : e_E X (d + 2) YJ1_charAt_3b067 [.inr (.inr (2000000 + j)), .inl (i : Int)] (557, gn, e_RF, M) (.inl (some (.inl (e_chI j i))), (557, gn, e_RF, M)) := by
  show e_G X (d + 2) YJ1_charAt_3b067 0 [some (.inr (.inr (2000000 + j))), some (.inl (i : Int))] [] (557, gn, e_RF, M) _
  obtain ⟨b1, b2, b3⟩ := e_chb j hj i hi
  refine e_r_iload_n (pc' := 1) dJ1_charAt_0 rfl rfl rfl ?_
  refine e_r_aload_n (pc' := 2) (by omega) dJ1_charAt_1 rfl rfl rfl ?_
  refine e_r_slenS (pc' := 3) hj dJ1_charAt_2 rfl ?_
  refine e_r_callS (av := [.inl (i : Int), .inl ((e_sln.getD j 0 : Nat) : Int)]) (st := []) mqYJ0_checkIndex_df160 ml_RJ1_9 (by simp [e_cat]) rfl rfl rfl dJ1_charAt_3 (pc' := 6) rfl (c_schk (by omega)) ⟨Nat.le_refl _, Nat.le_refl _⟩ ⟨Nat.le_refl _, Nat.le_refl _⟩ ?_
  refine e_r_aload_n (pc' := 7) (by omega) dJ1_charAt_6 rfl rfl rfl ?_
  refine e_r_iload_n (pc' := 8) dJ1_charAt_7 rfl rfl rfl ?_
  refine e_r_sldS (pc' := 9) hj hi dJ1_charAt_8 rfl ?_
  refine e_r_sipush (pc' := 12) dJ1_charAt_9 rfl (by decide) ?_
  refine e_r_iand (pc' := 13) dJ1_charAt_12 rfl ?_
  rw [b3]
  refine e_r_i2c (pc' := 14) b1 (by omega) dJ1_charAt_13 rfl ?_
  exact e_r_iret (ty := .char) rfl (e_nC b1 b2) dJ1_charAt_14 rfl
theorem c_sch (hj : j < 5) (hi : i < e_sln.getD j 0) : e_E X (d + 3) YJ0_charAt_5068e [.inr (.inr (1000000 + j)), .inl (i : Int)] (557, gn, e_RF, M) (.inl (some (.inl (e_chI j i))), (557, gn, e_RF, M)) := by
  show e_G X (d + 3) YJ0_charAt_5068e 0 [some (.inr (.inr (1000000 + j))), some (.inl (i : Int))] [] (557, gn, e_RF, M) _
  obtain ⟨b1, b2, b3⟩ := e_chb j hj i hi
  refine e_r_aload_n (pc' := 1) (by omega) dJ0_charAt_0 rfl rfl rfl ?_
  refine e_r_callVS (av := []) (st := []) mqYJ0_isLatin1_aae02 rfl hj ml_RJ0_492 (by simp) rfl rfl rfl dJ0_charAt_1 (pc' := 4) rfl (c_isLatin1 hj) ⟨Nat.le_refl _, Nat.le_refl _⟩ ⟨Nat.le_refl _, Nat.le_refl _⟩ ?_
  refine e_r_if_eq (tgt := 16) (pc' := 7) dJ0_charAt_4 rfl rfl (fun c => absurd c (by decide)) (fun _ => ?_)
  refine e_r_aload_n (pc' := 8) (by omega) dJ0_charAt_7 rfl rfl rfl ?_
  refine e_r_gval (pc' := 11) hj fl_RJ0_9 dJ0_charAt_8 rfl ?_
  refine e_r_iload_n (pc' := 12) dJ0_charAt_11 rfl rfl rfl ?_
  refine e_r_callS (av := [.inr (.inr (2000000 + j)), .inl (i : Int)]) (st := []) mqYJ1_charAt_3b067 ml_RJ0_495 (by simp [e_cat]) rfl rfl rfl dJ0_charAt_12 (pc' := 15) rfl (c_lch hj hi) ⟨Nat.le_refl _, Nat.le_refl _⟩ ⟨Nat.le_refl _, Nat.le_refl _⟩ ?_
  exact e_r_iret (ty := .char) rfl (e_nC b1 b2) dJ0_charAt_15 rfl
end SU
