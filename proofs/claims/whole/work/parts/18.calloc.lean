/-! THE ENGINE, 12: new int[N][K] -/
theorem e_outer (c : ClassId) (N h0 : Nat) : ∀ i : Nat, Jvm.Free.Multi.outerC c N h0 i = arrV c N (fun j => va_rf (if j < i then some (h0 + 1 + j) else none))
  | 0 => by
    show ({ cls := c, slots := Array.replicate N .null, vm := .none } : Cell) = _
    rw [arrV_new]
    refine congrArg (arrV c N) (funext fun j => ?_)
    simp [va_rf]
  | i + 1 => by
    show (Jvm.Free.Multi.outerC c N h0 i).setSlot i (.ref (h0 + 1 + i)) = _
    rw [e_outer c N h0 i, arrV_store]
    refine congrArg (arrV c N) (funext fun j => ?_)
    by_cases e : j = i
    · subst e
      simp [updV, va_rf]
    · by_cases h : j < i
      · simp [updV, e, h, Nat.lt_succ_of_lt h]
      · simp [updV, e, h, show ¬ j < i + 1 by omega]
def e_mR (R : e_R) (c N : Nat) : e_R := fun b j => if b = c + 1 then (if j < N then c + 2 + j else 0) else if b ≤ c then R b j else 0
def e_mM (M : e_M) (c : Nat) : e_M := fun b j => if b ≤ c then M b j else 0
def e_mad (ad : Nat → Nat) (c N h : Nat) : Nat → Nat := fun b => if c + 1 ≤ b ∧ b ≤ c + 1 + N then h + (b - (c + 1)) else ad b
theorem e_rM_mM {M : e_M} {c : Nat} (h : e_rM M) : e_rM (e_mM M c) := by
  intro b j
  have hb := h b j
  unfold e_mM
  by_cases g1 : b ≤ c
  · rw [if_pos g1]; exact hb
  · rw [if_neg g1]
    split
    · unfold e_i64; omega
    · unfold e_i32; omega
section EM
variable {X : e_X} {d : Nat} {Y : e_Y} {pc pc' : Nat} {loc : List (Option e_V)} {st : List e_V} {o : e_O} {cn gn : Nat} {R : e_R} {M : e_M}
set_option maxHeartbeats 4000000 in
theorem e_r_newM {N K idx : Nat} {i k : Int} (hs : e_SH (cn + 1) = (24, N)) (hrw : ∀ j, j < N → e_SH (cn + 2 + j) = (20, K)) (hi : i = (N : Int)) (hk : k = (K : Int)) (hR : ∀ a j, R a j ≤ cn) (hcn : cn + N < 999000) (hnb : N * 4 ≤ 536870912) (hkb : K * 4 ≤ 536870912) (hslc : e_slc (cn + 1 + N) = e_slc cn + N + N * K)
    (hlk : Cond.classLink Y.2.2.2.2.1 idx "[[I" ∈ e_gw) (harr : Cond.arrayClass .int ∈ e_gw) (hd : decode Y.2.1 pc = .ok (.multianewarray idx 2, 4)) (hp : pc + 4 = pc') (hm : e_mn (cn + 1 + N, gn, R, M) o.2)
    (k9 : e_G X d Y pc' loc (.inr (.inr (cn + 1)) :: st) (cn + 1 + N, gn, e_mR R cn N, e_mM M cn) o) : e_G X d Y pc loc (.inl k :: .inl i :: st) (cn, gn, R, M) o := by
  subst hp
  intro p e Rm s m args below meth c ls H locs cells slots ad ad0 k0 c0 s0 Cx P Z L hs0 hA hk0 hcc hn hR1 hR2
  intro T hT Xs
  have hts := Cx.2.2.2.2.2.1
  have hm1 : cn + 1 + N + gn ≤ e_cn o.2 := hm.cn
  have hm2 : e_slc (cn + 1 + N) + 6 * gn ≤ e_sn o.2 := hm.sn
  have hcc' : cells + c0 = cn + gn := hcc
  have hn' : slots + s0 = e_slc cn + 6 * gn := hn
  have hri : e_i32 i := e_hd (e_tl hs0)
  have hrk : e_i32 k := e_hd hs0
  have hK := Cx.2.2.2.2.2.2.2.1.1
  have eN : (Int32.ofInt i).toNatClampNeg = N := by rw [e_clamp hri]; omega
  have eK : (Int32.ofInt k).toNatClampNeg = K := by rw [e_clamp hrk]; omega
  have hR3 := hR1.1
  have hR4 := hR2.1
  obtain ⟨vm₁, cA, comp, -, fA, fC, -, -, X', step⟩ := Xs.multianewarray2F Cx.1 (ty := .int) Cx.2.2.2.2.1 (hts _ hlk) (show (Cond.arrayOver (.array .int)).before args s = true from Cx.2.2.2.2.2.2.2.1.2.2.2.1) (hts _ harr) (g := F0 m pc ls ((.inl k :: .inl i :: st).map (e_cv ad))) rfl (by rw [Cx.2.1]; exact hd) (n := Int32.ofInt i) (k := Int32.ofInt k) rfl
    (fun q => by rw [e_0, e_lt hri e_00] at q; omega) (fun q => by rw [e_0, e_lt hrk e_00] at q; omega) (by rw [eN]; exact hnb) (by rw [eK]; exact hkb) (by rw [eK]; omega) rfl rfl (by rw [eN]; omega) (by rw [eN, eK]; omega)
  rw [eN, eK] at X' step
  have ec : comp = X.2.2.1 0 := Option.some.inj (fC.symm.trans (show s.vm.findClass (FieldType.array .int).toString = some (X.2.2.1 0) from (hK.2 0 (X.2.2.1 0, .int) rfl).2))
  have eA : cA = X.2.2.1 4 := Option.some.inj (fA.symm.trans (show s.vm.findClass ("[" ++ (FieldType.array .int).toString) = some (X.2.2.1 4) from (hK.2 4 (X.2.2.1 4, .array .int) rfl).2))
  subst ec
  subst eA
  generalize hF : Jvm.Free.Multi.fill (T.setVm vm₁) (X.2.2.1 4) (X.2.2.1 0) N K (defaultValue .int) N = F at X' step
  have hTh : (T.setVm vm₁).heap = H := hT
  obtain ⟨f1, f2, -, -⟩ := Jvm.Free.Multi.fill_facts (T.setVm vm₁) (X.2.2.1 4) (X.2.2.1 0) N K (defaultValue .int) N
  rw [hF, hTh] at f1 f2
  have hold : ∀ x : Nat, x < H.size → F.heap[x]? = H[x]? := fun x hx => by
    have := Jvm.Free.Multi.fill_old (T.setVm vm₁) (X.2.2.1 4) (X.2.2.1 0) N K (defaultValue .int) (a := x) (by rw [hTh]; exact hx) N
    rw [hF, hTh] at this
    exact this
  have hrow : ∀ j : Nat, j < N → F.heap[H.size + 1 + j]? = some (Jvm.Free.Multi.innerC (X.2.2.1 0) K (defaultValue .int)) := fun j hj => by
    have := Jvm.Free.Multi.fill_inner (T.setVm vm₁) (X.2.2.1 4) (X.2.2.1 0) N K (defaultValue .int) N j hj
    rw [hF, hTh] at this
    exact this
  rw [e_outer] at f2
  have hag : ∀ a, a ≤ cn ∨ 999999 ≤ a → e_mad ad cn N H.size a = ad a := fun a ha => by unfold e_mad; rw [if_neg (by omega)]
  -- the entries of the new state
  have hent : ∀ b, 0 < b → b ≤ cn + 1 + N → va_at X.2.1 vwCl (e_mad ad cn N H.size b, e_en X.2.2.1 (e_mad ad cn N H.size) (e_mR R cn N) (e_mM M cn) b) F.heap := by
    intro b hb0 hb
    by_cases h1 : b ≤ cn
    · have e1 : e_en X.2.2.1 (e_mad ad cn N H.size) (e_mR R cn N) (e_mM M cn) b = e_en X.2.2.1 ad R M b := by
        refine e_en_congr2 (fun j => ?_) (fun j => ?_)
        · unfold e_mR
          rw [if_neg (by omega), if_pos h1]
          unfold e_ad
          rw [hag _ (Or.inl (hR b j))]
        · unfold e_mM
          rw [if_pos h1]
      rw [e1, hag b (Or.inl h1)]
      have h2 := P.1 (b - 1) _ (e_ws_at hb0 h1)
      exact h2.kept (hold _ h2.lt)
    · by_cases h2 : b = cn + 1
      · subst h2
        rw [e_en_r hs]
        have e1 : e_mad ad cn N H.size (cn + 1) = H.size := by unfold e_mad; rw [if_pos (by omega)]; omega
        rw [e1]
        show F.heap[H.size]? = some (vp_cell _ _)
        rw [f2, vp_cell_q]
        refine congrArg some (congrArg (arrV _ N) (funext fun j => ?_))
        unfold e_mR
        rw [if_pos rfl]
        by_cases hj : j < N
        · rw [if_pos hj, if_pos hj]
          unfold e_ad e_mad
          rw [if_neg (by omega), if_pos (by omega)]
          congr 2
          omega
        · rw [if_neg hj, if_neg hj]
          rfl
      · obtain ⟨j, rfl⟩ : ∃ j, b = cn + 2 + j := ⟨b - (cn + 2), by omega⟩
        have hj : j < N := by omega
        rw [e_en_i (hrw j hj)]
        have e1 : e_mad ad cn N H.size (cn + 2 + j) = H.size + 1 + j := by unfold e_mad; rw [if_pos (by omega)]; omega
        rw [e1]
        show F.heap[H.size + 1 + j]? = some (vp_cell _ _)
        rw [hrow j hj, vp_cell_i]
        have e2 : (fun j9 : Nat => Value.int (Int32.ofInt (e_mM M cn (cn + 2 + j) j9))) = fun _ => defaultValue .int := by
          funext j9
          unfold e_mM
          rw [if_neg (by omega)]
          rfl
        rw [e2]
        show some ({ cls := _, slots := Array.replicate K (defaultValue .int), vm := .none } : Cell) = _
        rw [arrV_new]
  have hinj : ∀ b b', 0 < b → b ≤ cn + 1 + N → 0 < b' → b' ≤ cn + 1 + N → e_mad ad cn N H.size b = e_mad ad cn N H.size b' → b = b' := by
    intro b b' h1 h2 h3 h4 he
    have hlo : ∀ z, 0 < z → z ≤ cn → ad z < H.size := fun z hz1 hz2 => (P.1 (z - 1) _ (e_ws_at hz1 hz2)).lt
    have hv : ∀ z, ¬ z ≤ cn → z ≤ cn + 1 + N → e_mad ad cn N H.size z = H.size + (z - (cn + 1)) := fun z hz1 hz2 => by unfold e_mad; rw [if_pos (by omega)]
    by_cases g1 : b ≤ cn
    · by_cases g2 : b' ≤ cn
      · rw [hag b (Or.inl g1), hag b' (Or.inl g2)] at he
        have := P.2.1.1 (b - 1) (b' - 1) _ _ (e_ws_at h1 g1) (e_ws_at h3 g2) he
        omega
      · rw [hag b (Or.inl g1), hv b' g2 h4] at he
        have := hlo b h1 g1
        omega
    · by_cases g2 : b' ≤ cn
      · rw [hag b' (Or.inl g2), hv b g1 h2] at he
        have := hlo b' h3 g2
        omega
      · rw [hv b g1 h2, hv b' g2 h4] at he
        omega
  have P1 : e_Hp X (e_mad ad cn N H.size) (cn + 1 + N, gn, e_mR R cn N, e_mM M cn) F.heap := by
    refine ⟨fun k8 q hq => ?_, ⟨fun i8 j8 x y hx hy hxy => ?_, fun k8 q hq => ?_⟩, fun b j => ?_, ?_, fun j => ?_⟩
    · have hl : k8 < cn + 1 + N := by have := (List.getElem?_eq_some_iff.mp hq).1; rw [e_ws_len] at this; exact this
      have h1 : (e_ws X.2.2.1 (e_mad ad cn N H.size) (cn + 1 + N, gn, e_mR R cn N, e_mM M cn))[k8]? = some _ := e_ws_at (a := k8 + 1) (by omega) hl
      cases Option.some.inj (hq.symm.trans h1)
      exact hent (k8 + 1) (by omega) (by omega)
    · have hl : i8 < cn + 1 + N := by have := (List.getElem?_eq_some_iff.mp hx).1; rw [e_ws_len] at this; exact this
      have hl2 : j8 < cn + 1 + N := by have := (List.getElem?_eq_some_iff.mp hy).1; rw [e_ws_len] at this; exact this
      have h1 : (e_ws X.2.2.1 (e_mad ad cn N H.size) (cn + 1 + N, gn, e_mR R cn N, e_mM M cn))[i8]? = some _ := e_ws_at (a := i8 + 1) (by omega) hl
      have h2 : (e_ws X.2.2.1 (e_mad ad cn N H.size) (cn + 1 + N, gn, e_mR R cn N, e_mM M cn))[j8]? = some _ := e_ws_at (a := j8 + 1) (by omega) hl2
      cases Option.some.inj (hx.symm.trans h1)
      cases Option.some.inj (hy.symm.trans h2)
      have := hinj (i8 + 1) (j8 + 1) (by omega) (by omega) (by omega) (by omega) hxy
      omega
    · have hl : k8 < cn + 1 + N := by have := (List.getElem?_eq_some_iff.mp hq).1; rw [e_ws_len] at this; exact this
      have h1 : (e_ws X.2.2.1 (e_mad ad cn N H.size) (cn + 1 + N, gn, e_mR R cn N, e_mM M cn))[k8]? = some _ := e_ws_at (a := k8 + 1) (by omega) hl
      cases Option.some.inj (hq.symm.trans h1)
      show e_A X (e_mad ad cn N H.size (k8 + 1))
      by_cases g1 : k8 + 1 ≤ cn
      · rw [hag _ (Or.inl g1)]
        exact P.2.1.2 k8 _ (e_ws_at (a := k8 + 1) (by omega) g1)
      · unfold e_mad
        rw [if_pos (by omega)]
        show (e_H0 X).size ≤ _
        have := Z.1
        omega
    · exact e_rM_mM P.2.2.1 b j
    · rw [hag _ (Or.inr (Nat.le_refl _))]; exact P.2.2.2.1
    · rw [hag _ (Or.inr (by omega))]; exact P.2.2.2.2 j
  have hs1 : ∀ x ∈ st, e_rg cn x := e_tl (e_tl hs0)
  have hF1 : H.size ≤ F.heap.size := by rw [f1]; omega
  have Z1 : va_S (e_A X) (e_H0 X) F.heap locs := ⟨Nat.le_trans Z.1 hF1, fun q h1 h2 => by rw [hold q (Nat.lt_of_lt_of_le h1 Z.1)]; exact Z.2.1 q h1 h2, Z.2.2⟩
  have w := k9 p e Rm s m args below meth c ls F.heap locs (cells + 1 + N) (slots + N + N * K) (e_mad ad cn N H.size) ad0 k0 c0 s0 Cx P1 Z1 (L.moved (show cn ≤ cn + 1 + N by omega) hag) (e_cs (v := .inr (.inr _)) (Or.inl (by show cn + 1 ≤ cn + 1 + N; omega)) (fun x hx => e_rg_mono (show cn ≤ cn + 1 + N by omega) (hs1 x hx))) (fun a ha => by rw [hag a (ha.elim (fun h => Or.inl (Nat.le_trans h hk0)) Or.inr)]; exact hA a ha) (show k0 ≤ cn + 1 + N from Nat.le_trans hk0 (by show cn ≤ cn + 1 + N; omega)) (by show _ = cn + 1 + N + gn; omega) (by show _ = e_slc (cn + 1 + N) + 6 * gn; omega) ⟨hR1.1, by omega⟩ ⟨hR2.1, by omega⟩
  have e5 : e_mad ad cn N H.size (cn + 1) = H.size := by unfold e_mad; rw [if_pos (by omega)]; omega
  rw [List.map_cons, e_ref (by omega), e5, e_map_eq hag hs1] at w
  obtain ⟨t2, a1, b1⟩ := w F rfl X'
  refine ⟨t2, step t2 ?_, b1⟩
  rw [hT]
  exact a1
end EM
