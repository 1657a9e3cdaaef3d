/-! THE ENGINE, 5: contracts and calls -/
theorem e_AOA.moved {u U : State} (hvm : u.vm.Alike U.vm) (h : e_AOA u) : e_AOA U := by
  obtain ⟨comp, c, k, h1, h2, h3, h4, h5⟩ := arrayOverA_spec h
  obtain ⟨k', hk', he⟩ := hvm.2.2 _ _ h3
  have hi : (U.vm.classes.findIdx? fun (x : Class) => match x.kind with | .array component _ => component == comp | _ => false) = some c := by
    have h9 := va_idx_bare U.vm comp
    have h8 := va_idx_bare u.vm comp
    refine h9.symm.trans ?_
    first | rw [hvm.bare_eq] | rw [← hvm.bare_eq]
    exact h8.trans h2
  have hkind : k'.kind = .array comp (.array .int) := by rw [he]; exact h4
  have f1 : U.vm.findClass (FieldType.array .int).toString = some comp := by rw [hvm.findClass]; exact h1
  have f2 : U.vm.findClass ("[" ++ (FieldType.array .int).toString) = some c := by rw [hvm.findClass]; exact h5
  unfold e_AOA Cond.before Cond.holds
  simp only [Cond.value]
  rw [f1, Option.bind_some]
  refine (congrArg (fun o : Option Nat => (o.bind (fun c => (U.vm.classes[c]?).map fun (k : Class) => match k.kind with | .array _ ty => decide (ty = FieldType.array .int) && decide (U.vm.findClass ("[" ++ (FieldType.array .int).toString) = some c) | _ => false) == some true)) hi).trans ?_
  simp [hk', hkind, f2]
theorem e_nw_warm {s U : State} (hW : s.WarmedH U.vm) {w : Cond} (hw : w ∈ e_nw) (h : va_Nw w s) : va_Nw w U := by
  have h1 := (List.mem_filter.mp hw).2
  cases w <;> first | exact va_Nw.warmF hW h | exact va_Nw.warmM hW h | exact va_Nw.warmD hW h | exact va_Nw.warmC hW h | (simp at h1)
theorem e_F.moved {X : e_X} {s U : State} (hW : s.WarmedH U.vm) (h : e_F X s) : e_F X U :=
  ⟨va_K.moved hW.alike h.1, fun w hw => e_nw_warm hW hw (h.2.1 w hw), va_AO.moved hW.alike h.2.2.1, e_AOA.moved hW.alike h.2.2.2.1, va_X.moved hW.alike h.2.2.2.2.1, fun j q hq => vk_R.warm hW (h.2.2.2.2.2.1 j q hq), vx_Zq.moved hW.alike h.2.2.2.2.2.2.1, vx_Zq.moved hW.alike h.2.2.2.2.2.2.2.1, vk_S.moved hW.alike h.2.2.2.2.2.2.2.2.1, va_Z.moved hW.alike h.2.2.2.2.2.2.2.2.2.1, va_Nc.moved hW.alike h.2.2.2.2.2.2.2.2.2.2.1, h.2.2.2.2.2.2.2.2.2.2.2.imp (va_Z.moved hW.alike) (va_Z.moved hW.alike)⟩
theorem e_gw_good : ∀ w ∈ e_gw, goodWord w = true := fun _ h => (List.mem_filter.mp h).2
/-- the words of a method -/
def e_ks (Y : e_Y) : List Cond := .code Y.1 Y.2.1 Y.2.2.1 Y.2.2.2.1 :: e_gw
/-- what the tables say of a method without handlers -/
def e_mo (Y : e_Y) (n : Nat) : Prop := Cond.code Y.1 Y.2.1 Y.2.2.1 Y.2.2.2.1 ∈ e_gw ∧ Cond.initialized Y.1.cls ∈ e_gw ∧ plainName Y.1.cls = true ∧ Y.1.cls = Y.2.2.2.2.1 ∧ (Y.1.cls ≠ "java/lang/invoke/MethodHandle" ∧ Y.1.cls ≠ "java/lang/invoke/VarHandle" ∧ (parseMethodDescriptor Y.1.desc).map (fun d => d.parameters.length) = some n) ∧ Y.2.2.2.2.2 = [] ∧ Y.2.2.1 ≤ 29
theorem e_goodIn {Y : e_Y} (h : Cond.code Y.1 Y.2.1 Y.2.2.1 Y.2.2.2.1 ∈ e_gw) : GoodIn e_gw (e_ks Y) := by
  intro w hw
  have hm : w ∈ e_gw := by
    rcases List.mem_cons.mp hw with e | e
    · rw [e]; exact h
    · exact e
  exact ⟨hm, good_of_word (e_gw_good w hm)⟩
def e_Pc (X : e_X) (ad : Nat → Nat) (S : e_S) (av : List e_V) : Array Value → State → Prop := va_Pc (av.map (e_cv ad)) (fun U => e_Hp X ad S U.heap ∧ va_S (e_A X) (e_H0 X) U.heap [] ∧ e_F X U)
theorem e_Pc_blind {X : e_X} {ad : Nat → Nat} {S : e_S} {av : List e_V} : FrameBlind (e_Pc X ad S av) := fun a U g mk h => ⟨h.1, h.2.1, h.2.2.1, e_F.moved (s := U) (State.WarmedH.refl U) h.2.2.2⟩
/-- the locals at the entry -/
def e_l0 (n : Nat) (av : List e_V) : List (Option e_V) := av.map some ++ List.replicate (n - av.length) none
/-- a method's contract -/
def e_E (X : e_X) (d : Nat) (Y : e_Y) (av : List e_V) (S : e_S) (o : e_O) : Prop := e_G X d Y 0 (e_l0 Y.2.2.1 av) [] S o
def e_rm (d : Nat) (S S' : e_S) : Room := { frames := d, cells := e_cn S' - e_cn S, slots := e_sn S' - e_sn S, locals := 48 * d }
theorem e_sl_len : ∀ (ad : Nat → Nat) (av : List e_V), (∀ v ∈ av, e_cat v = 1) → lg_sl (av.map (e_cv ad)) = (av.map (e_cv ad)).map Slot.val
  | _, [], _ => rfl
  | ad, v :: t, h => by
    have h1 := h v List.mem_cons_self
    have h2 := e_sl_len ad t (fun x hx => h x (List.mem_cons_of_mem _ hx))
    simp only [lg_sl, List.map_cons, List.flatMap_cons] at h2 ⊢
    rw [h2, e_cat_cv, h1]
    rfl
theorem e_nth_l0 : ∀ {av : List e_V} {n i : Nat} {v : e_V}, e_nth (av.map some ++ List.replicate n none) i = some v → av[i]? = some v
  | [], n, i, v, h => by
    exfalso
    rw [List.map_nil, List.nil_append] at h
    induction n generalizing i with
    | zero => simp [e_nth] at h
    | succ n ih =>
      rw [List.replicate_succ] at h
      cases i with
      | zero => simp [e_nth] at h
      | succ i => exact ih i h
  | x :: t, n, 0, v, h => h
  | x :: t, n, i + 1, v, h => e_nth_l0 (av := t) (n := n) (i := i) h
theorem e_wf1 (ls : List Slot) (h : ∀ x ∈ ls, (∃ v, x = Slot.val v ∧ v.category = 1) ∨ x = Slot.unset) : lv_wf ls.toArray := by
  constructor
  · intro i v hi hc
    rw [List.getElem?_toArray] at hi
    rcases h _ (List.mem_of_getElem? hi) with ⟨w, hw, h1⟩ | hw
    · cases hw; omega
    · cases hw
  · intro i hi
    rw [List.getElem?_toArray] at hi
    rcases h _ (List.mem_of_getElem? hi) with ⟨w, hw, h1⟩ | hw
    · cases hw
    · cases hw
theorem e_L0 {cn n : Nat} (ad : Nat → Nat) (av : List e_V) (hc : ∀ v ∈ av, e_cat v = 1) (hr : ∀ v ∈ av, e_rg cn v) (hn : av.length ≤ n) :
    e_L cn ad ((lg_sl (av.map (e_cv ad)) ++ List.replicate (n - (lg_sl (av.map (e_cv ad))).length) Slot.unset).toArray) n (e_l0 n av) := by
  rw [e_sl_len ad av hc]
  have hlen : ((av.map (e_cv ad)).map Slot.val).length = av.length := by simp
  rw [hlen]
  refine ⟨by simp [e_l0]; omega, by simp; omega, e_wf1 _ ?_, ?_, ?_⟩
  · intro x hx
    rcases List.mem_append.mp hx with h | h
    · obtain ⟨w, hw, rfl⟩ := List.mem_map.mp h
      obtain ⟨v, hv, rfl⟩ := List.mem_map.mp hw
      exact Or.inl ⟨_, rfl, by rw [e_cat_cv]; exact hc v hv⟩
    · exact Or.inr (List.eq_of_mem_replicate h)
  · intro i v hi
    have h1 := e_nth_l0 hi
    have h2 : i < av.length := (List.getElem?_eq_some_iff.mp h1).1
    rw [List.getElem?_toArray, List.getElem?_append_left (by simp; exact h2), List.getElem?_map, List.getElem?_map, h1]
    rfl
  · intro i v hi
    exact hr v (List.mem_of_getElem? (e_nth_l0 hi))
set_option maxHeartbeats 1000000 in
theorem e_met {X : e_X} {d n : Nat} {Y : e_Y} {av : List e_V} {S : e_S} {o : e_O} (hst : X.1.stackTraces = false) (hY : e_mo Y n) (hav : ∀ v ∈ av, e_cat v = 1) (hr : ∀ v ∈ av, e_rg S.1 v) (hl : av.length ≤ Y.2.2.1) (h : e_E X d Y av S o) (ad : Nat → Nat) :
    vx_Met X.1 Y.1 (e_ks Y) (e_rm d S o.2) (e_Pc X ad S av) (e_Qc X ad S.1 o) (e_XC X ad S.1 o) (e_cn o.2 - e_cn S) (e_sn o.2 - e_sn S) (e_A X) := by
  refine vx_ofW (cc := Y.2.1) (maxL := Y.2.2.1) (ret := Y.2.2.2.1) hY.2.2.1 rfl ?_
  intro p e s m args below meth c s₁ B hml hex hv
  obtain ⟨rfl, hP, hS, hF⟩ := hv
  have hts := atoms_spec (ws := e_ks Y) B.pre
  have hown : s.vm.findClass Y.2.2.2.2.1 = some m.cls := by
    have := findClass_of_methodNamed B.named
    rw [hY.2.2.2.1] at this
    exact this
  rw [lg_entry_eq]
  refine h p e _ s m _ below meth c _ s.heap [] 0 0 ad ad S.1 (e_cn S) (e_sn S) ⟨B.exec, B.bytes, B.returns, hml, hown, fun w hw => hts w (List.mem_cons_of_mem _ hw), B.notSynchronized, hF, ?_, (name_of_methodNamed B.named B.method).1, Nat.le_refl _, Nat.le_refl _, hst, hS⟩ hP hS (e_L0 ad av hav hr hl) (fun v hv => by cases hv) (fun _ _ => rfl) (Nat.le_refl _) (by omega) (by omega) ⟨?_, Nat.zero_le _⟩ ⟨?_, Nat.zero_le _⟩
  · rw [hY.2.2.2.2.2.1]
    cases hh : c.exceptionTable.toList with
    | nil => rfl
    | cons x t => exact (hex x (by rw [hh]; exact List.mem_cons_self)).elim
  · show e_cn o.2 ≤ e_cn o.2 - e_cn S + e_cn S
    omega
  · show e_sn o.2 ≤ e_sn o.2 - e_sn S + e_sn S
    omega
theorem e_cv_eq {ad ad' : Nat → Nat} {n : Nat} (h : ∀ a, a ≤ n ∨ 999999 ≤ a → ad' a = ad a) {v : e_V} (hv : e_rg n v) : e_cv ad' v = e_cv ad v := by
  rcases v with x | x | r
  · rfl
  · rfl
  · show va_rf (e_ad ad' r) = va_rf (e_ad ad r)
    unfold e_ad
    rw [h r hv]
theorem e_map_eq {ad ad' : Nat → Nat} {n : Nat} (h : ∀ a, a ≤ n ∨ 999999 ≤ a → ad' a = ad a) {st : List e_V} (hv : ∀ v ∈ st, e_rg n v) : st.map (e_cv ad') = st.map (e_cv ad) := List.map_congr_left (fun v hs => e_cv_eq h (hv v hs))
theorem e_rg_mono {n n' : Nat} (h : n ≤ n') {v : e_V} (hv : e_rg n v) : e_rg n' v := by
  rcases v with x | x | r
  · exact hv
  · exact hv
  · rcases hv with h1 | h1
    · exact Or.inl (Nat.le_trans h1 h)
    · exact Or.inr h1
theorem e_L.moved {cn cn' : Nat} {ad ad' : Nat → Nat} {ls : Array Slot} {n : Nat} {loc : List (Option e_V)} (hc : cn ≤ cn') (h : ∀ a, a ≤ cn ∨ 999999 ≤ a → ad' a = ad a) (L : e_L cn ad ls n loc) : e_L cn' ad' ls n loc :=
  ⟨L.1, L.2.1, L.2.2.1, fun i v hv => by rw [e_cv_eq h (L.2.2.2.2 i v hv)]; exact L.2.2.2.1 i v hv, fun i v hv => e_rg_mono hc (L.2.2.2.2 i v hv)⟩
theorem e_catsum (ad : Nat → Nat) (st : List e_V) : ((st.map (e_cv ad)).map fun v => v.category).sum = (st.map e_cat).sum := by
  congr 1
  rw [List.map_map]
  exact List.map_congr_left (fun v _ => e_cat_cv ad v)
/-- the state has not shrunk -/
def e_mn (S S' : e_S) : Prop := S.1 ≤ S'.1 ∧ S.2.1 ≤ S'.2.1
theorem e_slc_mono {a b : Nat} (h : a ≤ b) : e_slc a ≤ e_slc b := by
  induction h with
  | refl => exact Nat.le_refl _
  | step _ ih => exact Nat.le_trans ih (Nat.le_add_right _ _)
theorem e_mn.cn {S S' : e_S} (h : e_mn S S') : e_cn S ≤ e_cn S' := Nat.add_le_add h.1 h.2
theorem e_mn.sn {S S' : e_S} (h : e_mn S S') : e_sn S ≤ e_sn S' := Nat.add_le_add (e_slc_mono h.1) (Nat.mul_le_mul_left 6 h.2)
section EC
variable {X : e_X} {d : Nat} {Y : e_Y} {pc pc' : Nat} {loc : List (Option e_V)} {st : List e_V} {S S1 : e_S} {o : e_O}
set_option maxHeartbeats 1000000 in
/-- behind a call that came back -/
theorem e_back {v : Option e_V} {p : Program} {e : Env} {Rm : Room} {s : State} {m : MethodId} {args : Array Value} {below : List Frame} {meth : Method} {c : Code} {ls : Array Slot} {H : Heap} {locs : List Loc} {cells slots : Nat} {ad ad0 : Nat → Nat} {k0 c0 s0 : Nat} {a9 : Array Value} {st9 : List Value}
    (hr : vx_Run p X.1 e Rm s m args below meth c H locs cells slots (e_cn S1 - e_cn S) (e_sn S1 - e_sn S) (F0 m pc ls st9) (st.map (e_cv ad)) (e_Qc X ad S.1 (.inl v, S1) a9) (e_XC X ad S.1 (.inl v, S1)) (e_A X))
    (hm : e_mn S S1) (hm2 : e_mn S1 o.2) (k : e_G X (d + 1) Y (pc + 3) loc (v.toList ++ st) S1 o)
    (C : e_C X Y (d + 1) p Rm s m args meth c) (Z : va_S (e_A X) (e_H0 X) H locs) (L : e_L S.1 ad ls Y.2.2.1 loc) (hs : ∀ v ∈ st, e_rg S.1 v) (hA : ∀ a, a ≤ k0 ∨ 999999 ≤ a → ad a = ad0 a) (hk : k0 ≤ S.1)
    (hc : cells + c0 = e_cn S) (hn : slots + s0 = e_sn S) (hR1 : e_cn o.2 ≤ Rm.cells + c0 ∧ cells ≤ Rm.cells) (hR2 : e_sn o.2 ≤ Rm.slots + s0 ∧ slots ≤ Rm.slots) :
    W p X.1 e Rm s m args below meth c H locs cells slots (vx_MQ below (e_Qc X ad0 k0 o) (e_XC X ad0 k0 o) args s (e_cn o.2 - c0) (e_sn o.2 - s0) (e_A X)) (F0 m pc ls st9) := by
  intro T hT Xs
  have hm3 := hm.cn
  have hm4 := hm.sn
  have hm5 := hm2.cn
  have hm6 := hm2.sn
  rcases hr T hT Xs with ⟨v', st₀, t, T', Lx, h0, X', hL, e1, e2, hq, stp⟩ | ⟨q, st₀, t, T', Lx, E, ce, h0, X', hL, e1, e2, hq, -⟩
  · obtain ⟨v2, ad', hv2, hoc, hrg, hB1, hB2, hB3⟩ := hq
    cases hv2
    cases hoc
    have hs' : ∀ x ∈ v.toList ++ st, e_rg S1.1 x := by
      intro x hx
      rcases List.mem_append.mp hx with h | h
      · exact hrg x (Option.mem_toList.mp h)
      · exact e_rg_mono hm.1 (hs x h)
    have w := k p e Rm s m args below meth c ls T'.heap (locs ++ Lx) (cells + (e_cn S1 - e_cn S)) (slots + (e_sn S1 - e_sn S)) ad' ad0 k0 c0 s0 C (by rw [e1]; exact hB2)
      ⟨by rw [e1]; exact hB3.1, by rw [e1]; exact hB3.2.1, fun q hq => by
        rcases List.mem_append.mp hq with h | h
        · exact Z.2.2 q h
        · exact hL q h⟩ (L.moved hm.1 hB1) hs' (fun a ha => by
        rw [hB1 a (ha.elim (fun h => Or.inl (Nat.le_trans h hk)) (fun h => Or.inr h))]
        exact hA a ha) (Nat.le_trans hk hm.1) (by omega) (by omega) ⟨hR1.1, by omega⟩ ⟨hR2.1, by omega⟩
    rw [List.map_append, e_map_eq hB1 hs] at w
    obtain ⟨t2, a1, b1⟩ := w T' rfl X'
    refine ⟨t2, stp t2 ?_, b1⟩
    cases v with
    | none => exact a1
    | some x => exact a1
  · obtain ⟨z, ad', hz, -⟩ := hq
    cases hz
set_option maxHeartbeats 1000000 in
/-- behind a call that threw, not caught here -/
theorem e_thru {z : Nat} {p : Program} {e : Env} {Rm : Room} {s : State} {m : MethodId} {args : Array Value} {below : List Frame} {meth : Method} {c : Code} {ls : Array Slot} {H : Heap} {locs : List Loc} {cells slots : Nat} {ad ad0 : Nat → Nat} {k0 c0 s0 : Nat} {a9 : Array Value} {st9 : List Value}
    (hr : vx_Run p X.1 e Rm s m args below meth c H locs cells slots (e_cn S1 - e_cn S) (e_sn S1 - e_sn S) (F0 m pc ls st9) (st.map (e_cv ad)) (e_Qc X ad S.1 (.inr z, S1) a9) (e_XC X ad S.1 (.inr z, S1)) (e_A X))
    (hm : e_mn S S1) (htb : Y.2.2.2.2.2 = [])
    (C : e_C X Y (d + 1) p Rm s m args meth c) (Z : va_S (e_A X) (e_H0 X) H locs) (hA : ∀ a, a ≤ k0 ∨ 999999 ≤ a → ad a = ad0 a) (hk : k0 ≤ S.1)
    (hc : cells + c0 = e_cn S) (hn : slots + s0 = e_sn S) (hR1 : e_cn S1 ≤ Rm.cells + c0 ∧ cells ≤ Rm.cells) (hR2 : e_sn S1 ≤ Rm.slots + s0 ∧ slots ≤ Rm.slots) :
    W p X.1 e Rm s m args below meth c H locs cells slots (vx_MQ below (e_Qc X ad0 k0 (.inr z, S1)) (e_XC X ad0 k0 (.inr z, S1)) args s (e_cn S1 - c0) (e_sn S1 - s0) (e_A X)) (F0 m pc ls st9) := by
  intro T hT Xs
  have hm3 := hm.cn
  have hm4 := hm.sn
  rcases hr T hT Xs with ⟨v', st₀, t, T', Lx, h0, X', hL, e1, e2, hq, -⟩ | ⟨q, st₀, t, T', Lx, E, ce, h0, X', hL, e1, e2, hq, hce, hcv, hcl, stp⟩
  · obtain ⟨v2, ad', hv2, -⟩ := hq
    cases hv2
  · obtain ⟨z', ad', hz, hE, hB1, hB2, hB3⟩ := hq
    have w : vx_W p X.1 e Rm s m args below meth c T'.heap (locs ++ Lx) (cells + (e_cn S1 - e_cn S)) (slots + (e_sn S1 - e_sn S)) (vx_MQ below (e_Qc X ad0 k0 (.inr z, S1)) (e_XC X ad0 k0 (.inr z, S1)) args s (e_cn S1 - c0) (e_sn S1 - s0) (e_A X)) (F0 m pc ls (st.map (e_cv ad))) q := by
      refine vx_out (E := E) (ce := ce) (fun x hx => ?_) C.2.2.2.2.2.2.1 (by rw [e1]; exact hce) hcv hcl (fun t9 ht9 _ => ⟨z', ad', hz, hE, fun a ha => ?_, by rw [ht9, e1]; exact hB2, by rw [ht9, e1]; exact hB3⟩) (fun y hy => ?_) (by omega) (by omega)
      · rw [C.2.2.2.2.2.2.2.2.1, htb] at hx
        cases hx
      · rw [hB1 a (ha.elim (fun h => Or.inl (Nat.le_trans h hk)) (fun h => Or.inr h))]
        exact hA a ha
      · rcases List.mem_append.mp hy with h | h
        · exact Z.2.2 y h
        · exact hL y h
    obtain ⟨t2, a1, b1⟩ := w T' rfl X'
    exact ⟨t2, stp.trans a1, b1⟩
/-- what a virtual call needs of the callee -/
def e_mv (Y : e_Y) (n : Nat) : Prop := e_mo Y n ∧ Cond.instanceMethod Y.1 ∈ e_gw ∧ Cond.selects Y.2.2.2.2.1 Y.1 Y.1 ∈ e_gw
def e_ms (Y : e_Y) (n : Nat) : Prop := e_mo Y n ∧ Cond.static Y.1 ∈ e_gw
theorem e_rmOK {Y1 : e_Y} {n : Nat} {Rm : Room} (hY : e_mo Y1 n) (h1 : d + 1 ≤ Rm.frames) (h2 : 48 * (d + 1) ≤ Rm.locals) : (e_rm d S S1).frames + 1 ≤ Rm.frames ∧ 8 + (Y1.2.2.1 + 11) + (e_rm d S S1).locals ≤ Rm.locals := by
  have := hY.2.2.2.2.2.2
  show d + 1 ≤ Rm.frames ∧ 8 + (Y1.2.2.1 + 11) + 48 * d ≤ Rm.locals
  omega
set_option maxHeartbeats 1000000 in
theorem e_runV {Y1 : e_Y} {n idx a ci nn : Nat} {T9 : u_T} {ty : Nat → FieldType} {av : List e_V} {o1 : e_O} (hY1 : e_mv Y1 n) (hlk : Cond.methodLink Y.2.2.2.2.1 idx Y1.1 ∈ e_gw) (hcl : e_cl ci Y1.2.2.2.2.1 T9 nn ty) (hs : e_SH a = (ci, nn)) (ha : a ≤ S.1) (hav : ∀ v ∈ av, e_cat v = 1) (hn9 : av.length = n) (hl : n + 1 ≤ Y1.2.2.1) (hst : (st.map e_cat).sum ≤ 8) (hd : decode Y.2.1 pc = .ok (.invokevirtual idx, 3))
    (hE : e_E X d Y1 (.inr (.inr a) :: av) S o1) {p : Program} {e : Env} {Rm : Room} {s : State} {m : MethodId} {args : Array Value} {below : List Frame} {meth : Method} {c : Code} {ls : Array Slot} {H : Heap} {locs : List Loc} {cells slots : Nat} {ad : Nat → Nat}
    (C : e_C X Y (d + 1) p Rm s m args meth c) (P : e_Hp X ad S H) (Z : va_S (e_A X) (e_H0 X) H locs) (L : e_L S.1 ad ls Y.2.2.1 loc) (hr : ∀ v ∈ av, e_rg S.1 v) (hf : cells + (e_cn o1.2 - e_cn S) ≤ Rm.cells ∧ slots + (e_sn o1.2 - e_sn S) ≤ Rm.slots) :
    vx_Run p X.1 e Rm s m args below meth c H locs cells slots (e_cn o1.2 - e_cn S) (e_sn o1.2 - e_sn S) (F0 m pc ls ((av.reverse ++ .inr (.inr a) :: st).map (e_cv ad))) (st.map (e_cv ad)) (e_Qc X ad S.1 o1 (Value.ref (ad a) :: av.map (e_cv ad)).toArray) (e_XC X ad S.1 o1) (e_A X) := by
  have h0 := e_SH_pos hs (by have := hcl.2.2.2.2; omega)
  have hM := e_met (d := d) C.2.2.2.2.2.2.2.2.2.2.2.2.1 hY1.1 (av := .inr (.inr a) :: av) (fun v hv => by
    rcases List.mem_cons.mp hv with e | e
    · rw [e]; rfl
    · exact hav v e) (fun v hv => by
    rcases List.mem_cons.mp hv with e | e
    · rw [e]; exact Or.inl ha
    · exact hr v e) (by simp; omega) hE ad
  have hat := e_ws_at (ca := X.2.2.1) (ad := ad) (S := S) h0 ha
  rw [e_en_o hs hcl.2.2.2.2] at hat
  have hts := C.2.2.2.2.2.1
  refine vx_runV (As := av.map (e_cv ad)) (n := n) ⟨C.1, C.2.1, C.2.2.2.1, C.2.2.2.2.1, hts⟩ hM ⟨callB_of (ws' := e_gw) n hts (e_goodIn hY1.1.1) rfl rfl rfl (hts _ hY1.1.2.1) (hts _ hlk) hY1.1.2.2.2.2.1 (e_rmOK hY1.1 C.2.2.2.2.2.2.2.2.2.2.1 C.2.2.2.2.2.2.2.2.2.2.2.1), hts _ hY1.2.1, hts _ hY1.2.2⟩
    ⟨e_Pc_blind, va_recv C.2.2.2.2.2.2.2.1.1 P.1 hcl.1 hat, fun U hU hW => ⟨?_, by rw [hU]; exact P, by rw [hU]; exact ⟨Z.1, Z.2.1, fun _ h => by cases h⟩, e_F.moved hW C.2.2.2.2.2.2.2.1⟩⟩ rfl (by simp; exact hn9) L.2.1 ?_ (lv_room (by rw [e_catsum]; exact hst)) hd hf
  · rw [List.map_cons, e_ref h0]
  · show List.map (e_cv ad) _ = _
    rw [List.map_append, List.map_reverse, List.map_cons, e_ref h0]
/-- a call by an object: it comes back -/
theorem e_r_callV {Y1 : e_Y} {n idx a ci nn : Nat} {T9 : u_T} {ty : Nat → FieldType} {av : List e_V} {v : Option e_V} (hY1 : e_mv Y1 n) (hlk : Cond.methodLink Y.2.2.2.2.1 idx Y1.1 ∈ e_gw) (hcl : e_cl ci Y1.2.2.2.2.1 T9 nn ty) (hs : e_SH a = (ci, nn)) (ha : a ≤ S.1) (hav : ∀ v ∈ av, e_cat v = 1) (hn9 : av.length = n) (hl : Nat.ble (n + 1) Y1.2.2.1 = true) (hst : Nat.ble (st.map e_cat).sum 8 = true) (hd : decode Y.2.1 pc = .ok (.invokevirtual idx, 3)) (hp : pc + 3 = pc')
    (hE : e_E X d Y1 (.inr (.inr a) :: av) S (.inl v, S1)) (hm : e_mn S S1) (hm2 : e_mn S1 o.2) (k : e_G X (d + 1) Y pc' loc (v.toList ++ st) S1 o) : e_G X (d + 1) Y pc loc (av.reverse ++ .inr (.inr a) :: st) S o := by
  subst hp
  intro p e Rm s m args below meth c ls H locs cells slots ad ad0 k0 c0 s0 C P Z L hs0 hA hk hc hn hR1 hR2
  have hm3 := hm.cn
  have hm4 := hm.sn
  have hm5 := hm2.cn
  have hm6 := hm2.sn
  have hr1 : ∀ x ∈ av, e_rg S.1 x := fun x hx => hs0 x (List.mem_append_left _ (List.mem_reverse.mpr hx))
  have hr2 : ∀ x ∈ st, e_rg S.1 x := fun x hx => hs0 x (List.mem_append_right _ (List.mem_cons_of_mem _ hx))
  exact e_back (e_runV hY1 hlk hcl hs ha hav hn9 (Nat.le_of_ble_eq_true hl) (Nat.le_of_ble_eq_true hst) hd hE C P Z L hr1 ⟨by show cells + (e_cn S1 - e_cn S) ≤ _; omega, by show slots + (e_sn S1 - e_sn S) ≤ _; omega⟩) hm hm2 k C Z L hr2 hA hk hc hn hR1 hR2
/-- a call by an object: it throws, and this method lets it pass -/
theorem e_r_callVx {Y1 : e_Y} {n idx a ci nn z : Nat} {T9 : u_T} {ty : Nat → FieldType} {av : List e_V} (hY1 : e_mv Y1 n) (hlk : Cond.methodLink Y.2.2.2.2.1 idx Y1.1 ∈ e_gw) (hcl : e_cl ci Y1.2.2.2.2.1 T9 nn ty) (hs : e_SH a = (ci, nn)) (ha : a ≤ S.1) (hav : ∀ v ∈ av, e_cat v = 1) (hn9 : av.length = n) (hl : Nat.ble (n + 1) Y1.2.2.1 = true) (hst : Nat.ble (st.map e_cat).sum 8 = true) (hd : decode Y.2.1 pc = .ok (.invokevirtual idx, 3)) (htb : Y.2.2.2.2.2 = [])
    (hE : e_E X d Y1 (.inr (.inr a) :: av) S (.inr z, S1)) (hm : e_mn S S1) (ho : o = (.inr z, S1)) : e_G X (d + 1) Y pc loc (av.reverse ++ .inr (.inr a) :: st) S o := by
  subst ho
  intro p e Rm s m args below meth c ls H locs cells slots ad ad0 k0 c0 s0 C P Z L hs0 hA hk hc hn hR1 hR2
  have hm3 := hm.cn
  have hm4 := hm.sn
  have hr1 : ∀ x ∈ av, e_rg S.1 x := fun x hx => hs0 x (List.mem_append_left _ (List.mem_reverse.mpr hx))
  have hR3 : e_cn S1 ≤ Rm.cells + c0 := hR1.1
  have hR4 : e_sn S1 ≤ Rm.slots + s0 := hR2.1
  exact e_thru (e_runV hY1 hlk hcl hs ha hav hn9 (Nat.le_of_ble_eq_true hl) (Nat.le_of_ble_eq_true hst) hd hE C P Z L hr1 ⟨by show cells + (e_cn S1 - e_cn S) ≤ _; omega, by show slots + (e_sn S1 - e_sn S) ≤ _; omega⟩) hm htb C Z hA hk hc hn hR1 hR2
set_option maxHeartbeats 1000000 in
theorem e_runS {Y1 : e_Y} {n idx : Nat} {av : List e_V} {o1 : e_O} (hY1 : e_ms Y1 n) (hlk : Cond.methodLink Y.2.2.2.2.1 idx Y1.1 ∈ e_gw) (hav : ∀ v ∈ av, e_cat v = 1) (hn9 : av.length = n) (hl : n ≤ Y1.2.2.1) (hst : (st.map e_cat).sum ≤ 8) (hd : decode Y.2.1 pc = .ok (.invokestatic idx, 3))
    (hE : e_E X d Y1 av S o1) {p : Program} {e : Env} {Rm : Room} {s : State} {m : MethodId} {args : Array Value} {below : List Frame} {meth : Method} {c : Code} {ls : Array Slot} {H : Heap} {locs : List Loc} {cells slots : Nat} {ad : Nat → Nat}
    (C : e_C X Y (d + 1) p Rm s m args meth c) (P : e_Hp X ad S H) (Z : va_S (e_A X) (e_H0 X) H locs) (L : e_L S.1 ad ls Y.2.2.1 loc) (hr : ∀ v ∈ av, e_rg S.1 v) (hf : cells + (e_cn o1.2 - e_cn S) ≤ Rm.cells ∧ slots + (e_sn o1.2 - e_sn S) ≤ Rm.slots) :
    vx_Run p X.1 e Rm s m args below meth c H locs cells slots (e_cn o1.2 - e_cn S) (e_sn o1.2 - e_sn S) (F0 m pc ls ((av.reverse ++ st).map (e_cv ad))) (st.map (e_cv ad)) (e_Qc X ad S.1 o1 (av.map (e_cv ad)).toArray) (e_XC X ad S.1 o1) (e_A X) := by
  have hM := e_met (d := d) C.2.2.2.2.2.2.2.2.2.2.2.2.1 hY1.1 (av := av) hav hr (by omega) hE ad
  have hts := C.2.2.2.2.2.1
  refine vx_runS (As := av.map (e_cv ad)) (n := n) ⟨C.1, C.2.1, C.2.2.2.1, C.2.2.2.2.1, hts⟩ hM ⟨callB_of (ws' := e_gw) n hts (e_goodIn hY1.1.1) rfl rfl rfl (hts _ hY1.1.2.1) (hts _ hlk) hY1.1.2.2.2.2.1 (e_rmOK hY1.1 C.2.2.2.2.2.2.2.2.2.2.1 C.2.2.2.2.2.2.2.2.2.2.2.1), hts _ hY1.2⟩
    ⟨e_Pc_blind, fun U hU hW => ⟨rfl, by rw [hU]; exact P, by rw [hU]; exact ⟨Z.1, Z.2.1, fun _ h => by cases h⟩, e_F.moved hW C.2.2.2.2.2.2.2.1⟩⟩ rfl (by simp; exact hn9) L.2.1 ?_ (lv_room (by rw [e_catsum]; exact hst)) hd hf
  show List.map (e_cv ad) _ = _
  rw [List.map_append, List.map_reverse]
theorem e_r_callS {Y1 : e_Y} {n idx : Nat} {av : List e_V} {v : Option e_V} (hY1 : e_ms Y1 n) (hlk : Cond.methodLink Y.2.2.2.2.1 idx Y1.1 ∈ e_gw) (hav : ∀ v ∈ av, e_cat v = 1) (hn9 : av.length = n) (hl : Nat.ble n Y1.2.2.1 = true) (hst : Nat.ble (st.map e_cat).sum 8 = true) (hd : decode Y.2.1 pc = .ok (.invokestatic idx, 3)) (hp : pc + 3 = pc')
    (hE : e_E X d Y1 av S (.inl v, S1)) (hm : e_mn S S1) (hm2 : e_mn S1 o.2) (k : e_G X (d + 1) Y pc' loc (v.toList ++ st) S1 o) : e_G X (d + 1) Y pc loc (av.reverse ++ st) S o := by
  subst hp
  intro p e Rm s m args below meth c ls H locs cells slots ad ad0 k0 c0 s0 C P Z L hs0 hA hk hc hn hR1 hR2
  have hm3 := hm.cn
  have hm4 := hm.sn
  have hm5 := hm2.cn
  have hm6 := hm2.sn
  have hr1 : ∀ x ∈ av, e_rg S.1 x := fun x hx => hs0 x (List.mem_append_left _ (List.mem_reverse.mpr hx))
  have hr2 : ∀ x ∈ st, e_rg S.1 x := fun x hx => hs0 x (List.mem_append_right _ hx)
  exact e_back (e_runS hY1 hlk hav hn9 (Nat.le_of_ble_eq_true hl) (Nat.le_of_ble_eq_true hst) hd hE C P Z L hr1 ⟨by show cells + (e_cn S1 - e_cn S) ≤ _; omega, by show slots + (e_sn S1 - e_sn S) ≤ _; omega⟩) hm hm2 k C Z L hr2 hA hk hc hn hR1 hR2
end EC
