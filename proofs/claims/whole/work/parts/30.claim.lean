/-- what holds at the law's entry -/
def lw_At (p : Program) (s : State) (m : MethodId) (meth : Method) (c : Code) (b L : Nat) (xs : Nat → Int32) : Prop :=
  p.tables.exec = Jvm.exec ∧ c.code = code ∧ meth.sig.returnType = ret ∧ c.maxLocals = 8 ∧ s.vm.findClass RL = some m.cls ∧ (∀ w ∈ lw_tbl, w.before #[Value.ref b] s = true) ∧ va_X b L xs s s.heap ∧ b < s.heap.size ∧ meth.locks = false ∧ s_N.before #[Value.ref b] s = true ∧ c.exceptionTable.toList = [] ∧ meth.name = x.name
theorem s_end {s t : State} {below : List Frame} {X : e_X} {args : Array Value} {ad : Nat → Nat} {S : e_S} {mc ms : Nat} (hH : e_H0 X = s.heap) (h1 : mc ≤ 601024) (h2 : ms ≤ 7293034) (h : vx_MQ below (e_Qc X ad 0 (.inl (some (.inl 1)), S)) (e_XC X ad 0 (.inl (some (.inl 1)), S)) args s mc ms (e_A X) t) : lw_Z below args s t := by
  obtain ⟨o, hr, he, hq⟩ := h
  rcases hq with ⟨⟨v, ad', hv, ho, -, -⟩, Lc, hF, hfree⟩ | ⟨q, -, E, ce, Lc, hx, -⟩
  · have hv1 : v = some (.inl 1) := (Sum.inl.inj hv).symm
    subst hv1
    refine ⟨o, hr, he, ho, hF.1, hF.2.1, ?_⟩
    obtain ⟨a1, a2, a3, a4, a5, a6⟩ := hF.2.2
    refine ⟨a1, a2, Nat.le_trans a3 (by omega), a4, Nat.le_trans a5 h2, fun a c hc => ?_⟩
    obtain ⟨c', b1, b2, b3, b4⟩ := a6 a c hc
    refine ⟨c', b1, b2, b3, fun i _ => b4 i (fun hm => ?_)⟩
    have := hfree _ hm
    have h3 : (e_H0 X).size ≤ a := this
    rw [hH] at h3
    exact absurd (Array.getElem?_eq_some_iff.mp hc).1 (Nat.not_lt.mpr h3)
  · obtain ⟨z, ad', hz, -⟩ := hx
    cases hz
theorem s_slc : e_slc 557 + 6 * 513 ≤ 7293034 := by decide +kernel
theorem whole_start {K : e_M → Prop} (hK0 : K (n_c 6)) (hst : ∀ X : e_X, X.2.2.2.2.2.1 ≤ 4608 → X.2.2.2.2.1 < (e_H0 X).size → k_step X K) {p : Program} {e : Env} {s : State} {m : MethodId} {below : List Frame} {meth : Method} {c : Code} (l : Launch) (hlf : l.stackTraces = false) {b L : Nat} {xs : Nat → Int32} (hL : L ≤ 4608) (C0 : lw_At p s m meth c b L xs) : W p l e room_1 s m #[Value.ref b] below meth c s.heap [] 0 0 (lw_Z below #[Value.ref b] s) (entryFrame m ([Value.ref b] : List Value).toArray 8) := by
  obtain ⟨hx, hb, hr, hml, hown, hts, hX, hbl, hlocks, hgv, hex, hnm⟩ := C0
  obtain ⟨D, ca, sa, hF⟩ := s_F hts hgv hX l
  generalize hXe : ((l, D, ca, s.heap, b, L, xs, sa) : e_X) = X at hF
  have hX1 : X.1 = l := by rw [← hXe]
  have hX4 : e_H0 X = s.heap := by rw [← hXe]
  have hX5 : X.2.2.2.2.1 = b := by rw [← hXe]
  have hX6 : X.2.2.2.2.2.1 = L := by rw [← hXe]
  have hX8 : X.2.2.2.2.2.2.2 = sa := by rw [← hXe]
  obtain ⟨g', M', q1, q2, hG⟩ := law_loop (X := X) (K := K) (by rw [hX6]; exact hL) (by rw [hX4, hX5]; exact hbl) (hst X (by rw [hX6]; exact hL) (by rw [hX4, hX5]; exact hbl)) 512 0 0 (n_c 6) (by rw [hX6]; omega) (by omega) hK0
  have hE := n_law (X := X) (o := (.inl (some (.inl 1)), (557, g', e_RF, M'))) ⟨Nat.le_refl _, q1⟩ hG
  have hslc := s_slc
  have hS0 : va_S (e_A X) (e_H0 X) s.heap [] := by rw [hX4]; exact va_S.rf
  have hc : e_C X YL_law_ 401 p room_1 s m #[Value.ref b] meth c := ⟨hx, hb, hr, hml, hown, fun w hw => hts w (s_gw hw), hlocks, hF, by rw [hex]; rfl, hnm, by decide, by decide, by rw [hX1]; exact hlf, hS0⟩
  have hP : e_Hp X (fun a => if a = 999999 then b else if a < 1000000 then 0 else sa (a - 1000000)) (0, 0, n_R, n_M) s.heap := by
    refine ⟨(fun k q h => by simp [e_ws] at h), ⟨(fun i j p q h => by simp [e_ws] at h), (fun k q h => by simp [e_ws] at h)⟩, n_rM (M := n_M) (fun a j => by unfold n_M; omega), by rw [hX5]; rfl, fun j => ?_⟩
    rw [hX8]
    show (if 1000000 + j = 999999 then b else if 1000000 + j < 1000000 then 0 else sa (1000000 + j - 1000000)) = sa j
    rw [if_neg (by omega), if_neg (by omega), show 1000000 + j - 1000000 = j by omega]
  have hLo := e_L0 (cn := 0) (n := 8) (fun a => if a = 999999 then b else if a < 1000000 then 0 else sa (a - 1000000)) [.inr (.inr 999999)] (fun v hv => by rw [List.mem_singleton.mp hv]; rfl) (fun v hv => by rw [List.mem_singleton.mp hv]; exact Or.inr (Nat.le_refl _)) (by decide)
  have hW := hE p e room_1 s m #[Value.ref b] below meth c _ s.heap [] 0 0 _ (fun a => if a = 999999 then b else if a < 1000000 then 0 else sa (a - 1000000)) 0 0 0 hc hP hS0 hLo (fun v hv => by cases hv) (fun _ _ => rfl) (Nat.le_refl _) rfl rfl ⟨by show 557 + g' ≤ 601024 + 0; omega, Nat.zero_le _⟩ ⟨by show e_slc 557 + 6 * g' ≤ 7293034 + 0; omega, Nat.zero_le _⟩
  rw [lg_entry_eq]
  rw [hX1] at hW
  intro T hT XS
  obtain ⟨t, a1, a2⟩ := hW T hT XS
  exact ⟨t, a1, s_end hX4 (by show 557 + g' - 0 ≤ 601024; omega) (by show e_slc 557 + 6 * g' - 0 ≤ 7293034; omega) a2⟩

set_option maxHeartbeats 4000000 in
theorem lw_walk {K : e_M → Prop} (hK0 : K (n_c 6)) (hst : ∀ X : e_X, X.2.2.2.2.2.1 ≤ 4608 → X.2.2.2.2.1 < (e_H0 X).size → k_step X K) (l : Launch) (hlf : l.stackTraces = false) (b : Addr) (xs : List Int32) : MetFree l x (headSpec (Jvm.Cond.code x code maxLocals ret :: tables_1) room_1) (lw_P b xs) (fun _ _ _ _ _ => True) lw_Q := by
  refine MetFree.of_bodyS (code := code) (maxLocals := maxLocals) (ret := ret) (by decide) ?_ ?_
  · intro args s m h hn
    obtain ⟨meth, c, h1, h2, h3, h4, h5, h6, -, -⟩ := Cond.code_spec hn (atoms_spec (ws := Jvm.Cond.code x code maxLocals ret :: tables_1) h _ List.mem_cons_self)
    exact ⟨meth, c, h1, h2, h3, h4, h5, h6⟩
  · intro p e s m args below meth c s₁ B hml0 hP _
    obtain ⟨rfl, hx, hbd, hgv⟩ := hP
    obtain ⟨scr, harrAt, hlist, hof, hsmall⟩ := hx
    obtain ⟨hcb, hkn, -, -⟩ := State.arrayAt?_spec harrAt
    have hown : s.vm.findClass RL = some m.cls := findClass_of_methodNamed B.named
    have hts0 : ∀ c ∈ (Jvm.Cond.code x code maxLocals ret :: tables_1), c.before #[Value.ref b] s = true := atoms_spec (ws := Jvm.Cond.code x code maxLocals ret :: tables_1) B.pre
    have hts : ∀ w ∈ lw_tbl, w.before #[Value.ref b] s = true := k2_hts_sels lw_privs (fun w hw => hts0 w (List.mem_cons_of_mem _ hw)) lw_privs_ok
    have hml : c.maxLocals = 8 := B.maxLocals_eq (hts0 _ List.mem_cons_self)
    have X₀ : Stand p l e room_1 s m #[Value.ref b] below meth c s₁ [] 0 0 := Stand.of_body B
    have hh0 : s₁.heap = s.heap := by rw [B.state]; rfl
    have hsz : scr.slots.size = xs.length := by rw [← Array.length_toList, hlist, List.length_map]
    have hval : ∀ j : Nat, j < xs.length → scr.slots[j]? = some (.int (xs.getD j 0)) := fun j hj => by
      rw [← Array.getElem?_toList, hlist]
      simp [hj]
    have hbl : b < s.heap.size := (Array.getElem?_eq_some_iff.mp hcb).1
    have hX : va_X b xs.length (fun j => xs.getD j 0) s s.heap := ⟨scr, hcb, hof, hkn, hsz, hval⟩
    have K : W p l e room_1 s m #[Value.ref b] below meth c s₁.heap [] 0 0 (lw_Z below #[Value.ref b] s) (entryFrame m ([Value.ref b] : List Value).toArray 8) := by
      rw [hh0]
      obtain ⟨meth2, c2, z1, z2, -, -, -, -, z7, -⟩ := Cond.code_spec B.named (hts0 _ List.mem_cons_self)
      have zm : meth2 = meth := Option.some.inj (z1.symm.trans B.method)
      subst zm
      have zc : c2 = c := Option.some.inj (z2.symm.trans X₀.code)
      subst zc
      exact whole_start hK0 hst l hlf hbd ⟨B.exec, B.bytes, B.returns, hml, hown, hts, hX, hbl, B.notSynchronized, hgv, by rw [Array.isEmpty_iff.mp z7], (name_of_methodNamed B.named B.method).1⟩
    obtain ⟨t, a1, o, b1, b2, b3⟩ := K s₁ rfl X₀
    exact ⟨t, o, a1, b1, b2, b3⟩
theorem lw_pre_spec {args : Array Value} {s : State} (h : (Jvm.Cond.and given_1 narrow_1).before args s = true) (hr : rest_1_c.before args s = true) : ∃ (b : Addr) (xs : List Int32), lw_P b xs args s := by
  have hs := flat_of_before _ h
  have hq := flat_of_before _ hr
  have hc : (Cond.count 1).before args s = true := hs _ (by decide +kernel)
  have harr : (Cond.arrayOf (.arg 0) .int).before args s = true := hs _ (by decide +kernel)
  have hle : (Cond.le (.length (.arg 0)) (.int 4608)).before args s = true := hs _ (by decide +kernel)
  have hlen : (Cond.isInt (.length (.arg 0))).before args s = true := hq _ (by decide +kernel)
  have hall : (Cond.all (.arg 0) (.isInt (.elem (.arg 0) (.index 0)))).before args s = true := hq _ (by decide +kernel)
  obtain ⟨b, xs, hb, hx⟩ := State.ints_of_pre rfl harr hlen hall
  have hsm : xs.length < 2 ^ 31 := hx.choose_spec.2.2.2
  have hev : (Term.length (.arg 0)).eval args s none [] s = some (.int xs.length.toInt32) := hx.length_eval hb
  have hv := Cond.le_ints hev (show (Term.int 4608).eval args s none [] s = some (.int 4608) from rfl)
  have hd : xs.length.toInt32 ≤ 4608 := by
    simpa [Cond.before, Cond.holds, hv] using hle
  have hN : xs.length ≤ 4608 := (Int32.ofNat_le_ofNat hsm (by decide)).mp (show Int32.ofNat xs.length ≤ Int32.ofNat 4608 from hd)
  exact ⟨b, xs, Cond.one_arg hc (show args[0]? = some (.ref b) from hb), hx, hN, h⟩
theorem lw_comes {K : e_M → Prop} (hK0 : K (n_c 6)) (hst : ∀ X : e_X, X.2.2.2.2.2.1 ≤ 4608 → X.2.2.2.2.1 < (e_H0 X).size → k_step X K) (l : Launch) (hlf : l.stackTraces = false) : Comes l x (Jvm.Cond.code x code maxLocals ret :: tables_1) room_1 (fun tb e args s => Calls_1 tb e args s ∧ rest_1 tb e args s ∧ Pre_1 tb e args s)
    (fun _ _ args s o t => lw_Q args s o t) := by
  intro p e ha hc hk s m args below hf hfit hheap happ hpre
  obtain ⟨b, xs, hP⟩ := lw_pre_spec hpre.2.2 hpre.2.1
  obtain ⟨k, o, h1, h2, h3, hQ⟩ := lw_walk hK0 hst l hlf b xs p e ha hc hk s m args below hf ((Spec.applies_iff_loose hf).mp happ).1 hP trivial
  exact ⟨k, o, h1, h2, h3, hQ⟩
theorem lw_frame {s t : State} {o : Outcome} {args : Array Value} (h : Framed s o t [] 601024 7293034) :
    Framed s o t (fieldLocs frame_1_writes args s ++ arrayLocs frame_1_arrays args s ++ staticLocs frame_1_statics s) 601024 7293034 := h
theorem lw_limb {K : e_M → Prop} (hK0 : K (n_c 6)) (hst : ∀ X : e_X, X.2.2.2.2.2.1 ≤ 4608 → X.2.2.2.2.1 < (e_H0 X).size → k_step X K) (L : Cond) (hL : ∀ (args : Array Value) (s t : State), L.after args s (.returned (some (.int 1))) t = true) :
    ArmFor flags0 classFile x code maxLocals ret World_1 tables_1 room_1 Calls_1 rest_1 Pre_1
      (fun tb e a s o t => postC L tb e a s o t ∧ Framed s o t (fieldLocs frame_1_writes a s ++ arrayLocs frame_1_arrays a s ++ staticLocs frame_1_statics s) 601024 7293034) := by
  intro l hfl _ _ p e ha hc hk s m args below hf hfit hheap happ hpre
  obtain ⟨k, o, h1, h2, h3, rfl, hF⟩ := lw_comes hK0 hst l (by unfold Launch.stackTraces; rw [hfl]; decide) p e ha hc hk s m args below hf hfit hheap happ hpre
  exact ⟨k, _, h1, h2, h3, hL args s _, lw_frame hF⟩

theorem i_of {K : e_M → Prop} (hK0 : K (n_c 6)) (hst : ∀ X : e_X, X.2.2.2.2.2.1 ≤ 4608 → X.2.2.2.2.1 < (e_H0 X).size → k_step X K) : Claimed_1_1 ∧ Claimed_1_2 := ⟨lw_limb hK0 hst limb_1_1 (fun args s t => by simp [limb_1_1, Cond.after, Cond.holds, Cond.value]), lw_limb hK0 hst limb_1_2 (fun args s t => Cond.after_iff.mpr (by
  first | (rw [show limb_1_2 = Cond.eq .result (.int 1) from rfl, Cond.eq_ints (x := 1) (y := 1) rfl rfl]; simp; done) | (simp [limb_1_2, Cond.value, Term.eval]; done)))⟩
