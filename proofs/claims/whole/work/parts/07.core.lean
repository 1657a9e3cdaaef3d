/-! THE ENGINE, 2: values, cells, the picture of the heap, the judgement e_G -/
abbrev e_V : Type := Int ⊕ (Int ⊕ Nat)
abbrev e_R : Type := Nat → Nat → Nat
abbrev e_M : Type := Nat → Nat → Int
/-- cells made, exceptions made, references, numbers -/
abbrev e_S : Type := Nat × Nat × e_R × e_M
abbrev e_O : Type := (Option e_V ⊕ Nat) × e_S
/-- a method: name, bytes, locals, answer, class, table of handlers -/
abbrev e_Y : Type := MethodName × ByteArray × Nat × Option FieldType × String × List (Nat × Nat × Nat × Nat)
/-- what is fixed at the law's entry: the launch, the classes' numbers, those of the array classes, the heap, the script, the String constants -/
abbrev e_X : Type := Launch × va_G × (Nat → ClassId) × Heap × Nat × Nat × (Nat → Int32) × (Nat → Nat)
abbrev e_H0 (X : e_X) : Heap := X.2.2.2.1
def e_ad (ad : Nat → Nat) (r : Nat) : Option Nat := if r = 0 then none else some (ad r)
def e_cv (ad : Nat → Nat) : e_V → Value
  | .inl x => .int (Int32.ofInt x)
  | .inr (.inl x) => .long (Int64.ofInt x)
  | .inr (.inr r) => va_rf (e_ad ad r)
def e_rg (n : Nat) : e_V → Prop
  | .inl x => e_i32 x
  | .inr (.inl x) => e_i64 x
  | .inr (.inr r) => r ≤ n ∨ 999999 ≤ r
def e_cat : e_V → Nat
  | .inr (.inl _) => 2
  | _ => 1
theorem e_cat_cv (ad : Nat → Nat) (v : e_V) : (e_cv ad v).category = e_cat v := by
  rcases v with x | x | r
  · rfl
  · rfl
  · show (va_rf (e_ad ad r)).category = 1
    unfold e_ad
    split <;> rfl
def e_fv (ad : Nat → Nat) (R : e_R) (M : e_M) (a c k : Nat) : Value := if e_isI c k = true then .int (Int32.ofInt (M a k)) else va_rf (e_ad ad (R a k))
def e_en (ca : Nat → ClassId) (ad : Nat → Nat) (R : e_R) (M : e_M) (a : Nat) : va_E :=
  if (e_SH a).1 = 20 then .inl (ca 0, (e_SH a).2, .inl (fun j => Int32.ofInt (M a j)))
  else if (e_SH a).1 = 21 then .inl (ca 1, (e_SH a).2, .inl (fun j => Int32.ofInt (M a j)))
  else if (e_SH a).1 = 22 then .inl (ca 2, (e_SH a).2, .inr (.inl (fun j => Int64.ofInt (M a j))))
  else if (e_SH a).1 = 23 then .inl (ca 3, (e_SH a).2, .inr (.inr (.inr (.inr (fun j => e_ad ad (R a j))))))
  else if (e_SH a).1 = 24 then .inl (ca 4, (e_SH a).2, .inr (.inr (.inr (.inr (fun j => e_ad ad (R a j))))))
  else .inr ((e_SH a).1, (List.range (e_SH a).2).map (fun k => e_fv ad R M a (e_SH a).1 k))
def e_ws (ca : Nat → ClassId) (ad : Nat → Nat) (S : e_S) : va_W := (List.range S.1).map (fun k => (ad (k + 1), e_en ca ad S.2.2.1 S.2.2.2 (k + 1)))
def e_rM (M : e_M) : Prop := ∀ a j, if (e_SH a).1 = 22 then e_i64 (M a j) else e_i32 (M a j)
def e_A (X : e_X) : Nat → Prop := fun q => (e_H0 X).size ≤ q
/-- the heap holds the state -/
def e_Hp (X : e_X) (ad : Nat → Nat) (S : e_S) (H : Heap) : Prop :=
  va_P X.2.1 vwCl (e_ws X.2.2.1 ad S) H ∧ va_D (e_A X) (e_ws X.2.2.1 ad S) ∧ e_rM S.2.2.2 ∧ ad 999999 = X.2.2.2.2.1 ∧ ∀ j, ad (1000000 + j) = X.2.2.2.2.2.2.2 j
def e_tys (X : e_X) : List (ClassId × FieldType) := [(X.2.2.1 0, .int), (X.2.2.1 1, .byte), (X.2.2.1 2, .long), (X.2.2.1 3, .object "BoughtMondays$Shelf"), (X.2.2.1 4, .array .int)]
/-- the words of the tables that go along with a call -/
def e_gw : List Cond := lw_tbl.filter goodWord
/-- the links inside the nest -/
def e_nw : List Cond := lw_tbl.filter (fun w => match w with | .fieldLinkNest .. => true | .methodLinkNest .. => true | .declares _ => true | .castable .. => true | _ => false)
/-- the String constants: class, entry, text -/
def e_str : List (String × Nat × String) := lw_tbl.filterMap (fun w => match w with | .stringRef c k t => some (c, k, t) | _ => none)
/-- their lengths and bytes, in the order of e_str -/
def e_sln : List Nat := [31, 20, 59, 25, 28]
def e_sby : List (List Int32) := [[97, 110, 32, 97, 114, 103, 117, 109, 101, 110, 116, 32, 105, 115, 32, 111, 117, 116, 32, 111, 102, 32, 105, 116, 115, 32, 114, 97, 110, 103, 101], [112, 101, 114, 115, 111, 110, 32, 100, 117, 116, 121, 32, 99, 97, 110, 32, 116, 97, 115, 107], [119, 101, 101, 107, 32, 115, 111, 108, 100, 32, 115, 107, 105, 112, 112, 101, 100, 32, 99, 111, 105, 110, 115, 32, 119, 97, 103, 101, 32, 110, 101, 101, 100, 101, 100, 32, 116, 97, 115, 107, 115, 32, 112, 101, 114, 115, 111, 110, 32, 108, 101, 97, 115, 116, 32, 109, 111, 115, 116], [98, 117, 121, 32, 115, 101, 108, 108, 32, 108, 97, 116, 101, 114, 32, 119, 101, 101, 107, 32, 97, 103, 97, 105, 110], [110, 111, 32, 115, 117, 99, 104, 32, 112, 101, 114, 115, 111, 110, 44, 32, 100, 117, 116, 121, 32, 111, 114, 32, 116, 97, 115, 107]]
def e_AOA (U : State) : Prop := (Cond.arrayOver (.array .int)).before #[] U = true
/-- what the tables say, wherever we stand -/
def e_F (X : e_X) (s : State) : Prop :=
  va_K X.2.1 vwCl (e_tys X) s ∧ (∀ w ∈ e_nw, va_Nw w s) ∧ va_AO "BoughtMondays$Shelf" s ∧ e_AOA s ∧ va_X X.2.2.2.2.1 X.2.2.2.2.2.1 X.2.2.2.2.2.2.1 s (e_H0 X) ∧
  (∀ (j : Nat) (q : String × Nat × String), e_str[j]? = some q → vk_R q.1 q.2.1 q.2.2 (X.2.2.2.2.2.2.2 j) s) ∧
  vx_Zq Bundle.tN "UNASSIGNED_STACK" Bundle.steD (e_A X) s (e_H0 X) ∧ vx_Zq Bundle.tN "SUPPRESSED_SENTINEL" Bundle.listD (e_A X) s (e_H0 X) ∧
  vk_S 5 e_sln e_sby X.2.2.2.2.2.2.2 (fun j => X.2.2.2.2.2.2.2 (1000000 + j)) (e_A X) s (e_H0 X) ∧ va_Z "java/lang/String" "COMPACT_STRINGS" "Z" (.int 1) (e_A X) s (e_H0 X) ∧
  va_Nc "java/lang/IllegalArgumentException" "java/util/NoSuchElementException" s ∧
  (va_Z "jdk/internal/util/Preconditions" "SIOOBE_FORMATTER" "Ljava/util/function/BiFunction;" .null (e_A X) s (e_H0 X) ∨ va_Z "jdk/internal/util/Preconditions" "SIOOBE_FORMATTER" "Ljava/util/function/BiFunction;" (.ref (X.2.2.2.2.2.2.2 2000000)) (e_A X) s (e_H0 X))
def e_nth {α : Type} : List (Option α) → Nat → Option α
  | [], _ => none
  | o :: _, 0 => o
  | _ :: t, i + 1 => e_nth t i
def e_set {α : Type} : List (Option α) → Nat → Option α → List (Option α)
  | [], _, _ => []
  | _ :: t, 0, v => v :: t
  | o :: t, i + 1, v => o :: e_set t i v
/-- the locals -/
def e_L (cn : Nat) (ad : Nat → Nat) (ls : Array Slot) (n : Nat) (loc : List (Option e_V)) : Prop :=
  loc.length = n ∧ ls.size = n ∧ lv_wf ls ∧ (∀ i v, e_nth loc i = some v → ls[i]? = some (.val (e_cv ad v))) ∧ ∀ i v, e_nth loc i = some v → e_rg cn v
/-- cells and slots that a state counts -/
def e_cn (S : e_S) : Nat := S.1 + S.2.1
def e_slc : Nat → Nat
  | 0 => 0
  | n + 1 => e_slc n + (e_SH (n + 1)).2
def e_sn (S : e_S) : Nat := e_slc S.1 + 6 * S.2.1
def e_xn : Nat → String
  | 0 => "java/util/NoSuchElementException"
  | _ => "java/lang/IllegalArgumentException"
/-- behind a method: the heap holds the new state -/
def e_B (X : e_X) (ad : Nat → Nat) (k0 : Nat) (S : e_S) (ad' : Nat → Nat) (t : State) : Prop :=
  (∀ a, a ≤ k0 ∨ 999999 ≤ a → ad' a = ad a) ∧ e_Hp X ad' S t.heap ∧ va_S (e_A X) (e_H0 X) t.heap []
def e_Qc (X : e_X) (ad : Nat → Nat) (k0 : Nat) (o : e_O) : Array Value → State → Outcome → State → Prop := fun _ _ oc t =>
  ∃ v ad', o.1 = .inl v ∧ oc = .returned (v.map (e_cv ad')) ∧ (∀ x, v = some x → e_rg o.2.1 x) ∧ e_B X ad k0 o.2 ad' t
def e_XC (X : e_X) (ad : Nat → Nat) (k0 : Nat) (o : e_O) : String → State → State → Prop := fun E _ t =>
  ∃ z ad', o.1 = .inr z ∧ E = e_xn z ∧ e_B X ad k0 o.2 ad' t
/-- where a method's body stands: machine, code, tables, room -/
def e_C (X : e_X) (Y : e_Y) (d : Nat) (p : Program) (R : Room) (s : State) (m : MethodId) (args : Array Value) (meth : Method) (c : Code) : Prop :=
  p.tables.exec = Jvm.exec ∧ c.code = Y.2.1 ∧ meth.sig.returnType = Y.2.2.2.1 ∧ c.maxLocals = Y.2.2.1 ∧ s.vm.findClass Y.2.2.2.2.1 = some m.cls ∧ (∀ w ∈ e_gw, w.before args s = true) ∧ meth.locks = false ∧ e_F X s ∧
  c.exceptionTable.toList = tableOf Y.2.2.2.2.2 ∧ meth.name = Y.1.name ∧ d ≤ R.frames ∧ 48 * d ≤ R.locals ∧ X.1.stackTraces = false ∧ va_S (e_A X) (e_H0 X) s.heap []
/-- THE JUDGEMENT: the frame of Y at pc, with these locals, this stack, this state, comes to the outcome o -/
def e_G (X : e_X) (d : Nat) (Y : e_Y) (pc : Nat) (loc : List (Option e_V)) (st : List e_V) (S : e_S) (o : e_O) : Prop :=
  ∀ (p : Program) (e : Env) (R : Room) (s : State) (m : MethodId) (args : Array Value) (below : List Frame) (meth : Method) (c : Code) (ls : Array Slot) (H : Heap) (locs : List Loc) (cells slots : Nat) (ad ad0 : Nat → Nat) (k0 c0 s0 : Nat),
    e_C X Y d p R s m args meth c → e_Hp X ad S H → va_S (e_A X) (e_H0 X) H locs → e_L S.1 ad ls Y.2.2.1 loc → (∀ v ∈ st, e_rg S.1 v) → (∀ a, a ≤ k0 ∨ 999999 ≤ a → ad a = ad0 a) → k0 ≤ S.1 →
    cells + c0 = e_cn S → slots + s0 = e_sn S → (e_cn o.2 ≤ R.cells + c0 ∧ cells ≤ R.cells) → (e_sn o.2 ≤ R.slots + s0 ∧ slots ≤ R.slots) →
    W p X.1 e R s m args below meth c H locs cells slots (vx_MQ below (e_Qc X ad0 k0 o) (e_XC X ad0 k0 o) args s (e_cn o.2 - c0) (e_sn o.2 - s0) (e_A X)) (F0 m pc ls (st.map (e_cv ad)))
theorem e_nth_set {α : Type} : ∀ (l : List (Option α)) (i j : Nat) (v : Option α), e_nth (e_set l i v) j = if j = i ∧ i < l.length then v else e_nth l j
  | [], i, j, v => by simp [e_set, e_nth]
  | o :: t, 0, 0, v => by simp [e_set, e_nth]
  | o :: t, 0, j + 1, v => by simp [e_set, e_nth]
  | o :: t, i + 1, 0, v => by simp [e_set, e_nth]
  | o :: t, i + 1, j + 1, v => by
    show e_nth (e_set t i v) j = _
    rw [e_nth_set t i j v]
    simp [e_nth]
theorem e_set_len {α : Type} : ∀ (l : List (Option α)) (i : Nat) (v : Option α), (e_set l i v).length = l.length
  | [], _, _ => rfl
  | _ :: _, 0, _ => rfl
  | _ :: t, i + 1, v => by
    show (e_set t i v).length + 1 = t.length + 1
    rw [e_set_len t i v]
theorem e_nth_lt {α : Type} : ∀ {l : List (Option α)} {i : Nat} {v : α}, e_nth l i = some v → i < l.length
  | [], _, _, h => by simp [e_nth] at h
  | _ :: _, 0, _, _ => by simp
  | _ :: t, i + 1, v, h => by
    have h1 : e_nth t i = some v := h
    have := e_nth_lt h1
    simp only [List.length_cons]
    omega
/-- the pairs that the kit's rows speak of -/
def e_prs (ad : Nat → Nat) (loc : List (Option e_V)) : List (Nat × Value) := (List.range loc.length).filterMap (fun i => (e_nth loc i).map (fun v => (i, e_cv ad v)))
theorem e_prs_mem {ad : Nat → Nat} {loc : List (Option e_V)} {i : Nat} {v : e_V} (h : e_nth loc i = some v) : (i, e_cv ad v) ∈ e_prs ad loc := by
  refine List.mem_filterMap.mpr ⟨i, List.mem_range.mpr (e_nth_lt h), ?_⟩
  rw [h]; rfl
theorem e_L.has {cn : Nat} {ad : Nat → Nat} {ls : Array Slot} {n : Nat} {loc : List (Option e_V)} (h : e_L cn ad ls n loc) : lv_has ls n (e_prs ad loc) := by
  refine ⟨h.2.1, h.2.2.1, fun q hq => ?_⟩
  obtain ⟨i, -, hi⟩ := List.mem_filterMap.mp hq
  cases hv : e_nth loc i with
  | none => rw [hv] at hi; simp at hi
  | some v =>
    rw [hv] at hi
    simp at hi
    rw [← hi]
    exact h.2.2.2.1 i v hv
/-- the local ahead of i is no long -/
def e_okS (loc : List (Option e_V)) : Nat → Bool
  | 0 => true
  | j + 1 => match e_nth loc j with
    | some (.inr (.inl _)) => false
    | _ => true
theorem e_okS_cat {loc : List (Option e_V)} {i j : Nat} {v : e_V} (h : e_okS loc i = true) (hj : j + 1 = i) (hv : e_nth loc j = some v) : e_cat v = 1 := by
  subst hj
  rcases v with x | x | r
  · rfl
  · simp [e_okS, hv] at h
  · rfl
theorem e_L.store1 {cn : Nat} {ad : Nat → Nat} {ls ls' : Array Slot} {n i : Nat} {loc : List (Option e_V)} {v : e_V} (h : e_L cn ad ls n loc) (hk : e_okS loc i = true) (hr : e_rg cn v)
    (h' : lv_has ls' n ((i, e_cv ad v) :: (e_prs ad loc).filter (fun q => !(q.1 == i) && !(q.1 + 1 == i && q.2.category == 2)))) : e_L cn ad ls' n (e_set loc i (some v)) := by
  refine ⟨by rw [e_set_len]; exact h.1, h'.1, h'.2.1, fun j w hw => ?_, fun j w hw => ?_⟩
  · rw [e_nth_set] at hw
    by_cases hj : j = i ∧ i < loc.length
    · rw [if_pos hj] at hw
      cases hw
      rw [hj.1]
      exact h'.2.2 (i, e_cv ad v) List.mem_cons_self
    · rw [if_neg hj] at hw
      refine h'.2.2 (j, e_cv ad w) (List.mem_cons_of_mem _ (List.mem_filter.mpr ⟨e_prs_mem hw, ?_⟩))
      have hji : j ≠ i := fun e => hj ⟨e, by rw [← e]; exact e_nth_lt hw⟩
      have h1 : (j == i) = false := by simp [hji]
      by_cases hs : j + 1 = i
      · have := e_okS_cat hk hs hw
        simp [h1, e_cat_cv, this]
      · have h2 : (j + 1 == i) = false := by simp [hs]
        simp [h1, h2]
  · rw [e_nth_set] at hw
    split at hw
    · cases hw; exact hr
    · exact h.2.2.2.2 j w hw
theorem e_L.store2 {cn : Nat} {ad : Nat → Nat} {ls ls' : Array Slot} {n i : Nat} {loc : List (Option e_V)} {v : e_V} (h : e_L cn ad ls n loc) (hk : e_okS loc i = true) (hr : e_rg cn v) (hi : i + 1 < n)
    (h' : lv_has ls' n ((i, e_cv ad v) :: (e_prs ad loc).filter (fun q => !(q.1 == i) && (!(q.1 == i + 1) && !(q.1 + 1 == i && q.2.category == 2))))) : e_L cn ad ls' n (e_set (e_set loc i (some v)) (i + 1) none) := by
  have hl := h.1
  refine ⟨by rw [e_set_len, e_set_len]; exact h.1, h'.1, h'.2.1, fun j w hw => ?_, fun j w hw => ?_⟩
  · rw [e_nth_set, e_set_len] at hw
    by_cases hj1 : j = i + 1
    · rw [if_pos ⟨hj1, by omega⟩] at hw; cases hw
    rw [if_neg (fun q => hj1 q.1), e_nth_set] at hw
    by_cases hj : j = i ∧ i < loc.length
    · rw [if_pos hj] at hw
      cases hw
      rw [hj.1]
      exact h'.2.2 (i, e_cv ad v) List.mem_cons_self
    · rw [if_neg hj] at hw
      refine h'.2.2 (j, e_cv ad w) (List.mem_cons_of_mem _ (List.mem_filter.mpr ⟨e_prs_mem hw, ?_⟩))
      have hji : j ≠ i := fun e => hj ⟨e, by rw [← e]; exact e_nth_lt hw⟩
      have h1 : (j == i) = false := by simp [hji]
      have h3 : (j == i + 1) = false := by simp [hj1]
      by_cases hs : j + 1 = i
      · have := e_okS_cat hk hs hw
        simp [h1, h3, e_cat_cv, this]
      · have h2 : (j + 1 == i) = false := by simp [hs]
        simp [h1, h2, h3]
  · rw [e_nth_set] at hw
    split at hw
    · cases hw
    rw [e_nth_set] at hw
    split at hw
    · cases hw; exact hr
    · exact h.2.2.2.2 j w hw
