/-! FROM THE LAW'S JUDGEMENT TO THE CLAIM'S OWN WALK -/
def lw_P (b : Addr) (xs : List Int32) (args : Array Value) (s : State) : Prop := args = #[.ref b] ∧ s.IntsAt b xs ∧ xs.length ≤ 4608 ∧ (Jvm.Cond.and given_1 narrow_1).before args s = true
def lw_Q (_ : Array Value) (s : State) (o : Outcome) (t : State) : Prop := o = .returned (some (.int 1)) ∧ Framed s o t [] 601024 7293034
def lw_Z (below : List Frame) (a : Array Value) (s : State) : State → Prop := fun t => ∃ o, t.status = .running ∧ Ended t below o ∧ lw_Q a s o t
theorem s_gw {w : Cond} (h : w ∈ e_gw) : w ∈ lw_tbl := (List.mem_filter.mp h).1
theorem s_nw {w : Cond} (h : w ∈ e_nw) : w ∈ lw_tbl ∧ w.onTables = true := by
  have h2 := List.mem_filter.mp h
  refine ⟨h2.1, ?_⟩
  have h3 := h2.2
  cases w <;> first | rfl | (simp at h3)
def s_N : Cond := Jvm.Cond.and given_1 narrow_1
def s_tm (i : Nat) : Term := match i with
  | 0 => .string "BoughtMondays" 402
  | 1 => .string "BoughtMondays$Town" 58
  | 2 => .string "BoughtMondays$Law" 86
  | 3 => .string "BoughtMondays$Plan" 58
  | _ => .string "BoughtMondays" 395
theorem s_hN : ∀ i : Nat, i < 5 → e_sln.getD i 0 < 2 ^ 31 := by decide +kernel
theorem s_hex : ∀ i : Nat, i < 5 → (Cond.exactly (s_tm i) "java/lang/String") ∈ flatC s_N := by decide +kernel
theorem s_hco : ∀ i : Nat, i < 5 → (Cond.eq (.field (s_tm i) "java/lang/String" "coder" "B") (.int 0)) ∈ flatC s_N := by decide +kernel
theorem s_har : ∀ i : Nat, i < 5 → (Cond.arrayOf (.field (s_tm i) "java/lang/String" "value" "[B") .byte) ∈ flatC s_N := by decide +kernel
theorem s_hle : ∀ i : Nat, i < 5 → (Cond.eq (.length (.field (s_tm i) "java/lang/String" "value" "[B")) (.int (Int32.ofNat (e_sln.getD i 0)))) ∈ flatC s_N := by decide +kernel
def s_c (i j : Nat) : Cond := Cond.eq (.elem (.field (s_tm i) "java/lang/String" "value" "[B") (.int (Int32.ofNat j))) (.int ((e_sby.getD i []).getD j 0))
theorem s_find (i n k : Nat) (h : ((flatC s_N).drop k).take n = (List.range n).map (s_c i)) : ∀ j, j < n → s_c i j ∈ flatC s_N := by
  intro j hj
  have h1 : s_c i j ∈ (List.range n).map (s_c i) := List.mem_map.mpr ⟨j, List.mem_range.mpr hj, rfl⟩
  rw [← h] at h1
  exact List.mem_of_mem_drop (List.mem_of_mem_take h1)
theorem s_e0 : ((flatC s_N).drop 41).take 31 = (List.range 31).map (s_c 0) := by decide +kernel
theorem s_e1 : ((flatC s_N).drop 76).take 20 = (List.range 20).map (s_c 1) := by decide +kernel
theorem s_e2 : ((flatC s_N).drop 101).take 59 = (List.range 59).map (s_c 2) := by decide +kernel
theorem s_e3 : ((flatC s_N).drop 166).take 25 = (List.range 25).map (s_c 3) := by decide +kernel
theorem s_e4 : ((flatC s_N).drop 198).take 28 = (List.range 28).map (s_c 4) := by decide +kernel
theorem s_hel : ∀ i : Nat, i < 5 → ∀ j : Nat, j < e_sln.getD i 0 → s_c i j ∈ flatC s_N := by
  intro i hi j hj
  match i, hi with
  | 0, _ => exact s_find 0 31 _ s_e0 j hj
  | 1, _ => exact s_find 1 20 _ s_e1 j hj
  | 2, _ => exact s_find 2 59 _ s_e2 j hj
  | 3, _ => exact s_find 3 25 _ s_e3 j hj
  | 4, _ => exact s_find 4 28 _ s_e4 j hj
theorem s_hne : ∀ i : Nat, i < 5 → ∀ j : Nat, j < 5 → i ≠ j → (Cond.not (Cond.eq (s_tm i) (s_tm j))) ∈ flatC s_N ∨ (Cond.not (Cond.eq (s_tm j) (s_tm i))) ∈ flatC s_N := by decide +kernel
theorem s_str : e_str = [("BoughtMondays", 402, "an argument is out of its range"), ("BoughtMondays$Town", 58, "person duty can task"), ("BoughtMondays$Law", 86, "week sold skipped coins wage needed tasks person least most"), ("BoughtMondays$Plan", 58, "buy sell later week again"), ("BoughtMondays", 395, "no such person, duty or task")] := by decide +kernel
theorem s_strw : ∀ q ∈ e_str, Cond.stringRef q.1 q.2.1 q.2.2 ∈ lw_tbl := by
  intro q hq
  unfold e_str at hq
  obtain ⟨w, hw, e⟩ := List.mem_filterMap.mp hq
  split at e
  · cases e; exact hw
  · cases e
theorem s_strt : ∀ j : Nat, j < 5 → ∀ q, e_str[j]? = some q → s_tm j = .string q.1 q.2.1 := by
  intro j hj q hq
  rw [s_str] at hq
  match j, hj with
  | 0, _ => cases hq; rfl
  | 1, _ => cases hq; rfl
  | 2, _ => cases hq; rfl
  | 3, _ => cases hq; rfl
  | 4, _ => cases hq; rfl
theorem s_strl {j : Nat} {q : String × Nat × String} (h : e_str[j]? = some q) : j < 5 := by
  have := (List.getElem?_eq_some_iff.mp h).1
  rw [s_str] at this
  exact this
section SF
variable {s : State} {args : Array Value}

theorem s_cls (hts : ∀ w ∈ lw_tbl, w.before args s = true) : ∃ D : va_G, ∀ (c : Nat) (q : vw_C), vwCl[c]? = some q → u_Kn s q.1 q.2.1 q.2.2 (D.1 c) (D.2 c) := by
  have h : ∀ c : Nat, ∃ z : ClassId × (Nat → Nat), ∀ q : vw_C, vwCl[c]? = some q → u_Kn s q.1 q.2.1 q.2.2 z.1 z.2 := by
    intro c
    match c with
    | 0 => obtain ⟨c0, i0, h0⟩ := u_known (C := RX0) (T := TX0) (N := 3) (n := 3) hts (fun w hw => s_gw (cl_0.2.1 w hw)) (hts _ (s_gw ins_0)); exact ⟨(c0, i0), fun q hq => by cases hq; exact h0⟩
    | 1 => obtain ⟨c0, i0, h0⟩ := u_known (C := RX1) (T := TX1) (N := 3) (n := 3) hts (fun w hw => s_gw (cl_1.2.1 w hw)) (hts _ (s_gw ins_1)); exact ⟨(c0, i0), fun q hq => by cases hq; exact h0⟩
    | 2 => obtain ⟨c0, i0, h0⟩ := u_known (C := RX2) (T := TX2) (N := 4) (n := 4) hts (fun w hw => s_gw (cl_2.2.1 w hw)) (hts _ (s_gw ins_2)); exact ⟨(c0, i0), fun q hq => by cases hq; exact h0⟩
    | 3 => obtain ⟨c0, i0, h0⟩ := u_known (C := RX3) (T := TX3) (N := 11) (n := 11) hts (fun w hw => s_gw (cl_3.2.1 w hw)) (hts _ (s_gw ins_3)); exact ⟨(c0, i0), fun q hq => by cases hq; exact h0⟩
    | 4 => obtain ⟨c0, i0, h0⟩ := u_known (C := RX4) (T := TX4) (N := 7) (n := 7) hts (fun w hw => s_gw (cl_4.2.1 w hw)) (hts _ (s_gw ins_4)); exact ⟨(c0, i0), fun q hq => by cases hq; exact h0⟩
    | 5 => obtain ⟨c0, i0, h0⟩ := u_known (C := RX5) (T := TX5) (N := 2) (n := 2) hts (fun w hw => s_gw (cl_5.2.1 w hw)) (hts _ (s_gw ins_5)); exact ⟨(c0, i0), fun q hq => by cases hq; exact h0⟩
    | 6 => obtain ⟨c0, i0, h0⟩ := u_known (C := RX6) (T := TX6) (N := 9) (n := 9) hts (fun w hw => s_gw (cl_6.2.1 w hw)) (hts _ (s_gw ins_6)); exact ⟨(c0, i0), fun q hq => by cases hq; exact h0⟩
    | 7 => obtain ⟨c0, i0, h0⟩ := u_known (C := RX7) (T := TX7) (N := 7) (n := 7) hts (fun w hw => s_gw (cl_7.2.1 w hw)) (hts _ (s_gw ins_7)); exact ⟨(c0, i0), fun q hq => by cases hq; exact h0⟩
    | 8 => obtain ⟨c0, i0, h0⟩ := u_known (C := RX8) (T := TX8) (N := 10) (n := 10) hts (fun w hw => s_gw (cl_8.2.1 w hw)) (hts _ (s_gw ins_8)); exact ⟨(c0, i0), fun q hq => by cases hq; exact h0⟩
    | 9 => obtain ⟨c0, i0, h0⟩ := u_known (C := RX9) (T := TX9) (N := 3) (n := 3) hts (fun w hw => s_gw (cl_9.2.1 w hw)) (hts _ (s_gw ins_9)); exact ⟨(c0, i0), fun q hq => by cases hq; exact h0⟩
    | 10 => obtain ⟨c0, i0, h0⟩ := u_known (C := RX10) (T := TX10) (N := 18) (n := 18) hts (fun w hw => s_gw (cl_10.2.1 w hw)) (hts _ (s_gw ins_10)); exact ⟨(c0, i0), fun q hq => by cases hq; exact h0⟩
    | 11 => obtain ⟨c0, i0, h0⟩ := u_known (C := RX11) (T := TX11) (N := 47) (n := 47) hts (fun w hw => s_gw (cl_11.2.1 w hw)) (hts _ (s_gw ins_11)); exact ⟨(c0, i0), fun q hq => by cases hq; exact h0⟩
    | k + 12 => exact ⟨(default, fun _ => 0), fun q hq => by simp [vwCl] at hq⟩
  obtain ⟨f, hf⟩ := Classical.axiomOfChoice h
  exact ⟨(fun c => (f c).1, fun c => (f c).2), fun c q hq => hf c q hq⟩
theorem s_prim {ty : FieldType} (hty : ∀ C, ty ≠ .object C) (h : (Cond.arrayClass ty).before args s = true) : ∃ c : ClassId, ArrOfT s c ty ∧ va_RA s c ty := by
  obtain ⟨c, k, comp, h1, h2, h3⟩ := Cond.arrayClass_spec h
  refine ⟨c, fun n z => ⟨fun k h => (by cases h), k, h2, comp, h3⟩, ?_⟩
  cases ty with
  | object C => exact absurd rfl (hty C)
  | _ => exact h1
theorem s_arr (hts : ∀ w ∈ lw_tbl, w.before args s = true) : ∃ ca : Nat → ClassId, ∀ (k : Nat) (q : ClassId × FieldType), ([(ca 0, .int), (ca 1, .byte), (ca 2, .long), (ca 3, .object "BoughtMondays$Shelf"), (ca 4, .array .int)] : List (ClassId × FieldType))[k]? = some q → ArrOfT s q.1 q.2 ∧ va_RA s q.1 q.2 := by
  obtain ⟨c0, h0⟩ := s_prim (ty := .int) (fun C h => by cases h) (hts _ (s_gw ac_int))
  obtain ⟨c1, h1⟩ := s_prim (ty := .byte) (fun C h => by cases h) (hts _ (s_gw ac_byte))
  obtain ⟨c2, h2⟩ := s_prim (ty := .long) (fun C h => by cases h) (hts _ (s_gw ac_long))
  obtain ⟨comp3, c3, k3, f1, f2, f3, f4, f5⟩ := Cond.arrayOver_spec (n := "BoughtMondays$Shelf") (hts (.arrayOver (.object "BoughtMondays$Shelf")) (by decide +kernel))
  obtain ⟨comp4, c4, k4, g1, g2, g3, g4, g5⟩ := arrayOverA_spec (hts (.arrayOver (.array .int)) (by decide +kernel))
  refine ⟨fun k => match k with | 0 => c0 | 1 => c1 | 2 => c2 | 3 => c3 | _ => c4, fun k q hq => ?_⟩
  match k with
  | 0 => cases hq; exact h0
  | 1 => cases hq; exact h1
  | 2 => cases hq; exact h2
  | 3 => cases hq; exact ⟨fun n z => ⟨fun k h => (by cases h), k3, f3, comp3, f4⟩, k3, comp3, f3, f4, f1, f5⟩
  | 4 => cases hq; exact ⟨fun n z => ⟨fun k h => (by cases h), k4, g3, comp4, g4⟩, g5⟩
  | k + 5 => simp at hq
theorem s_F (hts : ∀ w ∈ lw_tbl, w.before args s = true) (hgv : s_N.before args s = true) {b L : Nat} {xs : Nat → Int32} (hX : va_X b L xs s s.heap) (l : Launch) : ∃ (D : va_G) (ca sa : Nat → Nat), e_F (l, D, ca, s.heap, b, L, xs, sa) s := by
  have hA : ∀ a : Nat, a < s.heap.size → ¬ s.heap.size ≤ a := fun a h => Nat.not_le.mpr h
  have hfl := flat_of_before s_N hgv
  obtain ⟨D, hD⟩ := s_cls hts
  obtain ⟨ca, hca⟩ := s_arr hts
  obtain ⟨adK, adV, hS, hev⟩ := vk_Sof (N := 5) (tm := s_tm) (len := e_sln) (byt := e_sby) (A := fun a => s.heap.size ≤ a) s_hN (fun i hi => hfl _ (s_hex i hi)) (fun i hi => hfl _ (s_hco i hi)) (fun i hi => hfl _ (s_har i hi)) (fun i hi => hfl _ (s_hle i hi)) (fun i hi j hj => hfl _ (s_hel i hi j hj)) (fun i j hi hj hij => (s_hne i hi j hj hij).imp (hfl _) (hfl _)) hA
  have hz := va_Zqof (A := fun a => s.heap.size ≤ a) (C := "jdk/internal/util/Preconditions") (n := "SIOOBE_FORMATTER") (d := "Ljava/util/function/BiFunction;") (hts (.laysStatic "jdk/internal/util/Preconditions" "SIOOBE_FORMATTER" "Ljava/util/function/BiFunction;") (by decide +kernel)) (hts (.initialized "jdk/internal/util/Preconditions") (by decide +kernel)) (hfl _ (by decide +kernel)) hA
  obtain ⟨tf, htf⟩ : ∃ tf : Nat, va_Z "jdk/internal/util/Preconditions" "SIOOBE_FORMATTER" "Ljava/util/function/BiFunction;" .null (fun a => s.heap.size ≤ a) s s.heap ∨ va_Z "jdk/internal/util/Preconditions" "SIOOBE_FORMATTER" "Ljava/util/function/BiFunction;" (.ref tf) (fun a => s.heap.size ≤ a) s s.heap := by
    rcases hz with h | ⟨t, h⟩
    · exact ⟨0, Or.inl h⟩
    · exact ⟨t, Or.inr h⟩
  refine ⟨D, ca, fun j => if j < 1000000 then adK j else if j < 2000000 then adV (j - 1000000) else tf, ⟨hD, hca⟩, fun w hw => va_Nw.of (s_nw hw).2 (hts w (s_nw hw).1), va_AO.of (hts (.arrayOver (.object "BoughtMondays$Shelf")) (by decide +kernel)), hts (.arrayOver (.array .int)) (by decide +kernel), hX, ?_, ?_, ?_, ?_, ?_, ?_, ?_⟩
  · intro j q hq
    have hj := s_strl hq
    show vk_R q.1 q.2.1 q.2.2 (if j < 1000000 then adK j else if j < 2000000 then adV (j - 1000000) else tf) s
    rw [if_pos (by omega)]
    refine vk_R.of (hts _ (s_strw q (List.mem_of_getElem? hq))) ?_
    rw [← s_strt j hj q hq]
    exact hev j hj
  · exact vx_Zqof (hts (.laysStatic Bundle.tN "UNASSIGNED_STACK" Bundle.steD) (by decide +kernel)) (hts (.initialized Bundle.tN) (by decide +kernel)) (hfl _ (by decide +kernel)) hA
  · exact vx_Zqof (hts (.laysStatic Bundle.tN "SUPPRESSED_SENTINEL" Bundle.listD) (by decide +kernel)) (hts (.initialized Bundle.tN) (by decide +kernel)) (hfl _ (by decide +kernel)) hA
  · refine ⟨fun i hi => ?_, fun i j hi hj e => ?_⟩
    · have h := hS.1 i hi
      show va_O "java/lang/String" (if i < 1000000 then adK i else if i < 2000000 then adV (i - 1000000) else tf) _ s s.heap ∧ va_OF "java/lang/String" "coder" "B" (.int 0) (if i < 1000000 then adK i else if i < 2000000 then adV (i - 1000000) else tf) _ s s.heap ∧ va_OF "java/lang/String" "value" "[B" (.ref (if 1000000 + i < 1000000 then adK (1000000 + i) else if 1000000 + i < 2000000 then adV (1000000 + i - 1000000) else tf)) (if i < 1000000 then adK i else if i < 2000000 then adV (i - 1000000) else tf) _ s s.heap ∧ va_T .byte (if 1000000 + i < 1000000 then adK (1000000 + i) else if 1000000 + i < 2000000 then adV (1000000 + i - 1000000) else tf) (e_sln.getD i 0) (fun j => .int ((e_sby.getD i []).getD j 0)) _ s s.heap
      rw [if_pos (show i < 1000000 by omega), if_neg (show ¬ 1000000 + i < 1000000 by omega), if_pos (show 1000000 + i < 2000000 by omega), show 1000000 + i - 1000000 = i by omega]
      exact h
    · have e2 : (if i < 1000000 then adK i else if i < 2000000 then adV (i - 1000000) else tf) = (if j < 1000000 then adK j else if j < 2000000 then adV (j - 1000000) else tf) := e
      rw [if_pos (show i < 1000000 by omega), if_pos (show j < 1000000 by omega)] at e2
      exact hS.2 i j hi hj e2
  · exact va_Zof (hts (.laysStatic "java/lang/String" "COMPACT_STRINGS" "Z") (by decide +kernel)) (hts (.initialized "java/lang/String") (by decide +kernel)) (va_eqt (hfl _ (by decide +kernel))) hA
  · exact va_Nc.of (hfl _ (by decide +kernel))
  · exact htf
end SF
