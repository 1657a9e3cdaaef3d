/-! THE ENGINE, 3: rows, an instruction each -/
section ER
variable {X : e_X} {d : Nat} {Y : e_Y} {pc pc' : Nat} {loc : List (Option e_V)} {st : List e_V} {S : e_S} {o : e_O}
/-- a step that changes the stack alone -/
theorem e_step {st st' : List e_V} (hr : (∀ v ∈ st, e_rg S.1 v) → (∀ i v, e_nth loc i = some v → e_rg S.1 v) → ∀ v ∈ st', e_rg S.1 v)
    (h : ∀ (p : Program) (e : Env) (R : Room) (s : State) (m : MethodId) (args : Array Value) (below : List Frame) (meth : Method) (c : Code) (ls : Array Slot) (H : Heap) (locs : List Loc) (cells slots : Nat) (ad : Nat → Nat) (Q : State → Prop), e_C X Y d p R s m args meth c → e_Hp X ad S H → va_S (e_A X) (e_H0 X) H locs → e_L S.1 ad ls Y.2.2.1 loc → (∀ v ∈ st, e_rg S.1 v) →
      W p X.1 e R s m args below meth c H locs cells slots Q (F0 m pc' ls (st'.map (e_cv ad))) → W p X.1 e R s m args below meth c H locs cells slots Q (F0 m pc ls (st.map (e_cv ad))))
    (k : e_G X d Y pc' loc st' S o) : e_G X d Y pc loc st S o := by
  intro p e R s m args below meth c ls H locs cells slots ad ad0 k0 c0 s0 C P Z L hs hA hk hc hn hR1 hR2
  exact h p e R s m args below meth c ls H locs cells slots ad _ C P Z L hs (k p e R s m args below meth c ls H locs cells slots ad ad0 k0 c0 s0 C P Z L (hr hs L.2.2.2.2) hA hk hc hn hR1 hR2)
theorem e_hd {n : Nat} {v : e_V} {st : List e_V} (h : ∀ x ∈ v :: st, e_rg n x) : e_rg n v := h v List.mem_cons_self
theorem e_tl {n : Nat} {v : e_V} {st : List e_V} (h : ∀ x ∈ v :: st, e_rg n x) : ∀ x ∈ st, e_rg n x := fun x hx => h x (List.mem_cons_of_mem _ hx)
theorem e_cs {n : Nat} {v : e_V} {st : List e_V} (h1 : e_rg n v) (h : ∀ x ∈ st, e_rg n x) : ∀ x ∈ v :: st, e_rg n x := fun x hx => by
  rcases List.mem_cons.mp hx with e | e
  · rw [e]; exact h1
  · exact h x e
theorem e_r_iadd {a b : Int} (hd : decode Y.2.1 pc = .ok (.iadd, 1)) (hp : pc + 1 = pc') (k : e_G X d Y pc' loc (.inl (e_w (a + b)) :: st) S o) : e_G X d Y pc loc (.inl b :: .inl a :: st) S o := by
  subst hp
  refine e_step (fun hs _ => e_cs (v := .inl _) (e_w_r _) (e_tl (e_tl hs))) (fun p e R s m args below meth c ls H locs cells slots ad Q C P Z L hs w => ?_) k
  have ha : e_i32 a := e_hd (e_tl hs)
  have hb : e_i32 b := e_hd hs
  refine lv_iadd C.1 C.2.1 hd ?_
  rw [← e_iadd]
  exact w
theorem e_r_isub {a b : Int} (hd : decode Y.2.1 pc = .ok (.isub, 1)) (hp : pc + 1 = pc') (k : e_G X d Y pc' loc (.inl (e_w (a - b)) :: st) S o) : e_G X d Y pc loc (.inl b :: .inl a :: st) S o := by
  subst hp
  refine e_step (fun hs _ => e_cs (v := .inl _) (e_w_r _) (e_tl (e_tl hs))) (fun p e R s m args below meth c ls H locs cells slots ad Q C P Z L hs w => ?_) k
  have ha : e_i32 a := e_hd (e_tl hs)
  have hb : e_i32 b := e_hd hs
  refine lv_isub C.1 C.2.1 hd ?_
  rw [← e_isub]
  exact w
theorem e_r_imul {a b : Int} (hd : decode Y.2.1 pc = .ok (.imul, 1)) (hp : pc + 1 = pc') (k : e_G X d Y pc' loc (.inl (e_w (a * b)) :: st) S o) : e_G X d Y pc loc (.inl b :: .inl a :: st) S o := by
  subst hp
  refine e_step (fun hs _ => e_cs (v := .inl _) (e_w_r _) (e_tl (e_tl hs))) (fun p e R s m args below meth c ls H locs cells slots ad Q C P Z L hs w => ?_) k
  have ha : e_i32 a := e_hd (e_tl hs)
  have hb : e_i32 b := e_hd hs
  refine lv_imul C.1 C.2.1 hd ?_
  rw [← e_imul]
  exact w
theorem e_r_iand {a b : Int} (hd : decode Y.2.1 pc = .ok (.iand, 1)) (hp : pc + 1 = pc') (k : e_G X d Y pc' loc (.inl (e_and a b) :: st) S o) : e_G X d Y pc loc (.inl b :: .inl a :: st) S o := by
  subst hp
  refine e_step (fun hs _ => e_cs (v := .inl _) (e_r32 _) (e_tl (e_tl hs))) (fun p e R s m args below meth c ls H locs cells slots ad Q C P Z L hs w => ?_) k
  have ha : e_i32 a := e_hd (e_tl hs)
  have hb : e_i32 b := e_hd hs
  refine lv_iand C.1 C.2.1 hd ?_
  rw [← e_ofI (_ &&& _)]
  exact w
theorem e_r_ior {a b : Int} (hd : decode Y.2.1 pc = .ok (.ior, 1)) (hp : pc + 1 = pc') (k : e_G X d Y pc' loc (.inl (e_or a b) :: st) S o) : e_G X d Y pc loc (.inl b :: .inl a :: st) S o := by
  subst hp
  refine e_step (fun hs _ => e_cs (v := .inl _) (e_r32 _) (e_tl (e_tl hs))) (fun p e R s m args below meth c ls H locs cells slots ad Q C P Z L hs w => ?_) k
  have ha : e_i32 a := e_hd (e_tl hs)
  have hb : e_i32 b := e_hd hs
  refine lv_ior C.1 C.2.1 hd ?_
  rw [← e_ofI (_ ||| _)]
  exact w
theorem e_r_ixor {a b : Int} (hd : decode Y.2.1 pc = .ok (.ixor, 1)) (hp : pc + 1 = pc') (k : e_G X d Y pc' loc (.inl (e_xor a b) :: st) S o) : e_G X d Y pc loc (.inl b :: .inl a :: st) S o := by
  subst hp
  refine e_step (fun hs _ => e_cs (v := .inl _) (e_r32 _) (e_tl (e_tl hs))) (fun p e R s m args below meth c ls H locs cells slots ad Q C P Z L hs w => ?_) k
  have ha : e_i32 a := e_hd (e_tl hs)
  have hb : e_i32 b := e_hd hs
  refine lv_ixor C.1 C.2.1 hd ?_
  rw [← e_ofI (_ ^^^ _)]
  exact w
theorem e_r_ishl {a b : Int} (hd : decode Y.2.1 pc = .ok (.ishl, 1)) (hp : pc + 1 = pc') (k : e_G X d Y pc' loc (.inl (e_shl a b) :: st) S o) : e_G X d Y pc loc (.inl b :: .inl a :: st) S o := by
  subst hp
  refine e_step (fun hs _ => e_cs (v := .inl _) (e_r32 _) (e_tl (e_tl hs))) (fun p e R s m args below meth c ls H locs cells slots ad Q C P Z L hs w => ?_) k
  have ha : e_i32 a := e_hd (e_tl hs)
  have hb : e_i32 b := e_hd hs
  refine lv_ishl C.1 C.2.1 hd ?_
  rw [← e_ofI (_ <<< _)]
  exact w
theorem e_r_ishr {a b : Int} (hd : decode Y.2.1 pc = .ok (.ishr, 1)) (hp : pc + 1 = pc') (k : e_G X d Y pc' loc (.inl (e_shr a b) :: st) S o) : e_G X d Y pc loc (.inl b :: .inl a :: st) S o := by
  subst hp
  refine e_step (fun hs _ => e_cs (v := .inl _) (e_r32 _) (e_tl (e_tl hs))) (fun p e R s m args below meth c ls H locs cells slots ad Q C P Z L hs w => ?_) k
  have ha : e_i32 a := e_hd (e_tl hs)
  have hb : e_i32 b := e_hd hs
  refine lv_ishr C.1 C.2.1 hd ?_
  rw [← e_ofI (_ >>> _)]
  exact w
theorem e_r_idiv {a b : Int} (hne : b ≠ 0) (hd : decode Y.2.1 pc = .ok (.idiv, 1)) (hp : pc + 1 = pc') (k : e_G X d Y pc' loc (.inl (e_w (a.tdiv b)) :: st) S o) : e_G X d Y pc loc (.inl b :: .inl a :: st) S o := by
  subst hp
  refine e_step (fun hs _ => e_cs (v := .inl _) (e_w_r _) (e_tl (e_tl hs))) (fun p e R s m args below meth c ls H locs cells slots ad Q C P Z L hs w => ?_) k
  have ha : e_i32 a := e_hd (e_tl hs)
  have hb : e_i32 b := e_hd hs
  refine lv_idiv C.1 C.2.1 hd (fun q => hne ?_) ?_
  · rw [e_0] at q
    exact (e_eq hb e_00).mp q
  · rw [← e_idiv ha hb]
    exact w
theorem e_r_irem {a b : Int} (hne : b ≠ 0) (hd : decode Y.2.1 pc = .ok (.irem, 1)) (hp : pc + 1 = pc') (k : e_G X d Y pc' loc (.inl (e_w (a.tmod b)) :: st) S o) : e_G X d Y pc loc (.inl b :: .inl a :: st) S o := by
  subst hp
  refine e_step (fun hs _ => e_cs (v := .inl _) (e_w_r _) (e_tl (e_tl hs))) (fun p e R s m args below meth c ls H locs cells slots ad Q C P Z L hs w => ?_) k
  have ha : e_i32 a := e_hd (e_tl hs)
  have hb : e_i32 b := e_hd hs
  refine lv_irem C.1 C.2.1 hd (fun q => hne ?_) ?_
  · rw [e_0] at q
    exact (e_eq hb e_00).mp q
  · rw [← e_irem ha hb]
    exact w
theorem e_r_ldiv {a b : Int} (hne : b ≠ 0) (hd : decode Y.2.1 pc = .ok (.ldiv, 1)) (hp : pc + 1 = pc') (k : e_G X d Y pc' loc (.inr (.inl (e_wl (a.tdiv b))) :: st) S o) : e_G X d Y pc loc (.inr (.inl b) :: .inr (.inl a) :: st) S o := by
  subst hp
  refine e_step (fun hs _ => e_cs (v := .inr (.inl _)) (e_wl_r _) (e_tl (e_tl hs))) (fun p e R s m args below meth c ls H locs cells slots ad Q C P Z L hs w => ?_) k
  have ha : e_i64 a := e_hd (e_tl hs)
  have hb : e_i64 b := e_hd hs
  refine lv_ldiv C.1 C.2.1 hd (fun q => hne ?_) ?_
  · have q1 := Int64.toInt_inj.mpr q
    rw [e_0L, e_tLr hb] at q1
    rw [q1]; rfl
  · rw [← e_ldiv ha hb]
    exact w
theorem e_r_lrem {a b : Int} (hne : b ≠ 0) (hd : decode Y.2.1 pc = .ok (.lrem, 1)) (hp : pc + 1 = pc') (k : e_G X d Y pc' loc (.inr (.inl (e_wl (a.tmod b))) :: st) S o) : e_G X d Y pc loc (.inr (.inl b) :: .inr (.inl a) :: st) S o := by
  subst hp
  refine e_step (fun hs _ => e_cs (v := .inr (.inl _)) (e_wl_r _) (e_tl (e_tl hs))) (fun p e R s m args below meth c ls H locs cells slots ad Q C P Z L hs w => ?_) k
  have ha : e_i64 a := e_hd (e_tl hs)
  have hb : e_i64 b := e_hd hs
  refine lv_lrem C.1 C.2.1 hd (fun q => hne ?_) ?_
  · have q1 := Int64.toInt_inj.mpr q
    rw [e_0L, e_tLr hb] at q1
    rw [q1]; rfl
  · rw [← e_lrem ha hb]
    exact w
theorem e_r_ladd {a b : Int} (hd : decode Y.2.1 pc = .ok (.ladd, 1)) (hp : pc + 1 = pc') (k : e_G X d Y pc' loc (.inr (.inl (e_wl (a + b))) :: st) S o) : e_G X d Y pc loc (.inr (.inl b) :: .inr (.inl a) :: st) S o := by
  subst hp
  refine e_step (fun hs _ => e_cs (v := .inr (.inl _)) (e_wl_r _) (e_tl (e_tl hs))) (fun p e R s m args below meth c ls H locs cells slots ad Q C P Z L hs w => ?_) k
  refine lv_ladd C.1 C.2.1 hd ?_
  rw [← e_ladd]
  exact w
theorem e_r_lsub {a b : Int} (hd : decode Y.2.1 pc = .ok (.lsub, 1)) (hp : pc + 1 = pc') (k : e_G X d Y pc' loc (.inr (.inl (e_wl (a - b))) :: st) S o) : e_G X d Y pc loc (.inr (.inl b) :: .inr (.inl a) :: st) S o := by
  subst hp
  refine e_step (fun hs _ => e_cs (v := .inr (.inl _)) (e_wl_r _) (e_tl (e_tl hs))) (fun p e R s m args below meth c ls H locs cells slots ad Q C P Z L hs w => ?_) k
  refine lv_lsub C.1 C.2.1 hd ?_
  rw [← e_lsub]
  exact w
theorem e_r_lmul {a b : Int} (hd : decode Y.2.1 pc = .ok (.lmul, 1)) (hp : pc + 1 = pc') (k : e_G X d Y pc' loc (.inr (.inl (e_wl (a * b))) :: st) S o) : e_G X d Y pc loc (.inr (.inl b) :: .inr (.inl a) :: st) S o := by
  subst hp
  refine e_step (fun hs _ => e_cs (v := .inr (.inl _)) (e_wl_r _) (e_tl (e_tl hs))) (fun p e R s m args below meth c ls H locs cells slots ad Q C P Z L hs w => ?_) k
  refine lv_lmul C.1 C.2.1 hd ?_
  rw [← e_lmul]
  exact w
theorem e_r_lshl {a b : Int} (hd : decode Y.2.1 pc = .ok (.lshl, 1)) (hp : pc + 1 = pc') (k : e_G X d Y pc' loc (.inr (.inl (e_lshl a b)) :: st) S o) : e_G X d Y pc loc (.inl b :: .inr (.inl a) :: st) S o := by
  subst hp
  refine e_step (fun hs _ => e_cs (v := .inr (.inl _)) (e_r64 _) (e_tl (e_tl hs))) (fun p e R s m args below meth c ls H locs cells slots ad Q C P Z L hs w => ?_) k
  refine lv_lshl C.1 C.2.1 hd (v := Int64.ofInt (e_lshl a b)) ?_ w
  unfold e_lshl
  rw [e_ofL]
theorem e_r_iushr {a b : Int} (hd : decode Y.2.1 pc = .ok (.iushr, 1)) (hp : pc + 1 = pc') (k : e_G X d Y pc' loc (.inl (e_ushr a b) :: st) S o) : e_G X d Y pc loc (.inl b :: .inl a :: st) S o := by
  subst hp
  refine e_step (fun hs _ => e_cs (v := .inl _) (e_r32 _) (e_tl (e_tl hs))) (fun p e R s m args below meth c ls H locs cells slots ad Q C P Z L hs w => ?_) k
  refine lv_iushr C.1 C.2.1 hd (v := Int32.ofInt (e_ushr a b)) ?_ w
  unfold e_ushr
  rw [e_ofI]
theorem e_r_lcmp {a b : Int} (hd : decode Y.2.1 pc = .ok (.lcmp, 1)) (hp : pc + 1 = pc') (k : e_G X d Y pc' loc (.inl (e_cmp a b) :: st) S o) : e_G X d Y pc loc (.inr (.inl b) :: .inr (.inl a) :: st) S o := by
  subst hp
  refine e_step (fun hs _ => e_cs (v := .inl _) (e_cmp_r _ _) (e_tl (e_tl hs))) (fun p e R s m args below meth c ls H locs cells slots ad Q C P Z L hs w => ?_) k
  have ha : e_i64 a := e_hd (e_tl hs)
  have hb : e_i64 b := e_hd hs
  refine W.lcmp C.1 C.2.1 hd ?_
  rw [← e_lcmp ha hb]
  exact w
theorem e_r_ineg {a : Int} (hd : decode Y.2.1 pc = .ok (.ineg, 1)) (hp : pc + 1 = pc') (k : e_G X d Y pc' loc (.inl (e_w (-a)) :: st) S o) : e_G X d Y pc loc (.inl a :: st) S o := by
  subst hp
  refine e_step (fun hs _ => e_cs (v := .inl _) (e_w_r _) (e_tl hs)) (fun p e R s m args below meth c ls H locs cells slots ad Q C P Z L hs w => ?_) k
  refine lv_ineg C.1 C.2.1 hd ?_
  rw [← e_ineg]
  exact w
theorem e_r_i2l {a : Int} (hd : decode Y.2.1 pc = .ok (.i2l, 1)) (hp : pc + 1 = pc') (k : e_G X d Y pc' loc (.inr (.inl a) :: st) S o) : e_G X d Y pc loc (.inl a :: st) S o := by
  subst hp
  refine e_step (fun hs _ => e_cs (v := .inr (.inl _)) (by have ha : e_i32 a := e_hd hs; unfold e_i32 at ha; show e_i64 a; unfold e_i64; omega) (e_tl hs)) (fun p e R s m args below meth c ls H locs cells slots ad Q C P Z L hs w => ?_) k
  exact lv_i2l C.1 C.2.1 hd (e_i2l (e_hd hs)) w
theorem e_r_l2i {a : Int} (hd : decode Y.2.1 pc = .ok (.l2i, 1)) (hp : pc + 1 = pc') (k : e_G X d Y pc' loc (.inl (e_w a) :: st) S o) : e_G X d Y pc loc (.inr (.inl a) :: st) S o := by
  subst hp
  refine e_step (fun hs _ => e_cs (v := .inl _) (e_w_r _) (e_tl hs)) (fun p e R s m args below meth c ls H locs cells slots ad Q C P Z L hs w => ?_) k
  exact lv_l2i C.1 C.2.1 hd (e_l2i a) w
theorem e_r_i2b {a : Int} (hd : decode Y.2.1 pc = .ok (.i2b, 1)) (hp : pc + 1 = pc') (k : e_G X d Y pc' loc (.inl (e_i2b a) :: st) S o) : e_G X d Y pc loc (.inl a :: st) S o := by
  subst hp
  refine e_step (fun hs _ => e_cs (v := .inl _) (e_r32 _) (e_tl hs)) (fun p e R s m args below meth c ls H locs cells slots ad Q C P Z L hs w => ?_) k
  refine lv_i2b C.1 C.2.1 hd (v := Int32.ofInt (e_i2b a)) ?_ w
  unfold e_i2b
  rw [e_ofI]
theorem e_r_iconst {n : Int} (hd : decode Y.2.1 pc = .ok (.iconst n, 1)) (hp : pc + 1 = pc') (hn : e_w n = n) (k : e_G X d Y pc' loc (.inl n :: st) S o) : e_G X d Y pc loc st S o := by
  subst hp
  refine e_step (fun hs _ => e_cs (by show e_i32 n; rw [← hn]; exact e_w_r n) hs) (fun p e R s m args below meth c ls H locs cells slots ad Q C P Z L hs w => ?_) k
  exact lv_iconst C.1 C.2.1 hd rfl w
theorem e_r_bipush {n : Int} (hd : decode Y.2.1 pc = .ok (.bipush n, 2)) (hp : pc + 2 = pc') (hn : (Int8.ofInt n).toInt32.toInt = n) (k : e_G X d Y pc' loc (.inl n :: st) S o) : e_G X d Y pc loc st S o := by
  subst hp
  refine e_step (fun hs _ => e_cs (by show e_i32 n; rw [← hn]; exact e_r32 _) hs) (fun p e R s m args below meth c ls H locs cells slots ad Q C P Z L hs w => ?_) k
  exact lv_bipush C.1 C.2.1 hd (v := Int32.ofInt n) (by rw [← hn, e_ofI, hn]) w
theorem e_r_sipush {n : Int} (hd : decode Y.2.1 pc = .ok (.sipush n, 3)) (hp : pc + 3 = pc') (hn : (Int16.ofInt n).toInt32.toInt = n) (k : e_G X d Y pc' loc (.inl n :: st) S o) : e_G X d Y pc loc st S o := by
  subst hp
  refine e_step (fun hs _ => e_cs (by show e_i32 n; rw [← hn]; exact e_r32 _) hs) (fun p e R s m args below meth c ls H locs cells slots ad Q C P Z L hs w => ?_) k
  exact lv_sipush C.1 C.2.1 hd (v := Int32.ofInt n) (by rw [← hn, e_ofI, hn]) w
theorem e_r_lconst {n : Fin 2} {z : Int} (hd : decode Y.2.1 pc = .ok (.lconst n, 1)) (hp : pc + 1 = pc') (hn : ((n : Nat) : Int) = z) (k : e_G X d Y pc' loc (.inr (.inl z) :: st) S o) : e_G X d Y pc loc st S o := by
  subst hp
  subst hn
  refine e_step (fun hs _ => e_cs (v := .inr (.inl _)) (by have := n.isLt; show e_i64 _; unfold e_i64; omega) hs) (fun p e R s m args below meth c ls H locs cells slots ad Q C P Z L hs w => ?_) k
  exact lv_lconst C.1 C.2.1 hd rfl w
theorem e_r_ldc {n : Int} {i : Nat} (hw : Cond.constant Y.2.2.2.2.1 i (Int32.ofInt n) ∈ e_gw) (hd : decode Y.2.1 pc = .ok (.ldc i, 2)) (hp : pc + 2 = pc') (hn : e_w n = n) (k : e_G X d Y pc' loc (.inl n :: st) S o) : e_G X d Y pc loc st S o := by
  subst hp
  refine e_step (fun hs _ => e_cs (by show e_i32 n; rw [← hn]; exact e_w_r n) hs) (fun p e R s m args below meth c ls H locs cells slots ad Q C P Z L hs w => ?_) k
  exact lv_ldc C.1 C.2.1 C.2.2.2.2.1 (C.2.2.2.2.2.1 _ hw) hd w
theorem e_r_ldcw {n : Int} {i : Nat} (hw : Cond.constant Y.2.2.2.2.1 i (Int32.ofInt n) ∈ e_gw) (hd : decode Y.2.1 pc = .ok (.ldc_w i, 3)) (hp : pc + 3 = pc') (hn : e_w n = n) (k : e_G X d Y pc' loc (.inl n :: st) S o) : e_G X d Y pc loc st S o := by
  subst hp
  refine e_step (fun hs _ => e_cs (by show e_i32 n; rw [← hn]; exact e_w_r n) hs) (fun p e R s m args below meth c ls H locs cells slots ad Q C P Z L hs w => ?_) k
  exact lv_ldcw C.1 C.2.1 C.2.2.2.2.1 (C.2.2.2.2.2.1 _ hw) hd w
theorem e_r_ldc2 {n : Int} {i : Nat} (hw : Cond.constantLong Y.2.2.2.2.1 i (Int64.ofInt n) ∈ e_gw) (hd : decode Y.2.1 pc = .ok (.ldc2_w i, 3)) (hp : pc + 3 = pc') (hn : e_wl n = n) (k : e_G X d Y pc' loc (.inr (.inl n) :: st) S o) : e_G X d Y pc loc st S o := by
  subst hp
  refine e_step (fun hs _ => e_cs (v := .inr (.inl _)) (by show e_i64 n; rw [← hn]; exact e_wl_r n) hs) (fun p e R s m args below meth c ls H locs cells slots ad Q C P Z L hs w => ?_) k
  exact lv_ldc2 C.1 C.2.1 C.2.2.2.2.1 (C.2.2.2.2.2.1 _ hw) hd w
theorem e_r_dup {v : e_V} (h1 : e_cat v = 1) (hd : decode Y.2.1 pc = .ok (.dup, 1)) (hp : pc + 1 = pc') (k : e_G X d Y pc' loc (v :: v :: st) S o) : e_G X d Y pc loc (v :: st) S o := by
  subst hp
  refine e_step (fun hs _ => e_cs (e_hd hs) hs) (fun p e R s m args below meth c ls H locs cells slots ad Q C P Z L hs w => ?_) k
  exact lv_dup C.1 C.2.1 hd (by rw [e_cat_cv]; exact h1) w
theorem e_r_dup2 {v u : e_V} (h1 : e_cat v = 1) (h2 : e_cat u = 1) (hd : decode Y.2.1 pc = .ok (.dup2, 1)) (hp : pc + 1 = pc') (k : e_G X d Y pc' loc (v :: u :: v :: u :: st) S o) : e_G X d Y pc loc (v :: u :: st) S o := by
  subst hp
  refine e_step (fun hs _ => e_cs (e_hd hs) (e_cs (e_hd (e_tl hs)) hs)) (fun p e R s m args below meth c ls H locs cells slots ad Q C P Z L hs w => ?_) k
  exact lv_dup2_11 C.1 C.2.1 hd (by rw [e_cat_cv]; exact h1) (by rw [e_cat_cv]; exact h2) w
theorem e_r_pop {v : e_V} (h1 : e_cat v = 1) (hd : decode Y.2.1 pc = .ok (.pop, 1)) (hp : pc + 1 = pc') (k : e_G X d Y pc' loc st S o) : e_G X d Y pc loc (v :: st) S o := by
  subst hp
  refine e_step (fun hs _ => e_tl hs) (fun p e R s m args below meth c ls H locs cells slots ad Q C P Z L hs w => ?_) k
  exact lv_pop C.1 C.2.1 hd (by rw [e_cat_cv]; exact h1) w
theorem e_r_goto {off : Int} (hd : decode Y.2.1 pc = .ok (.goto off, 3)) (ht : (pc : Int) + off = (pc' : Int)) (k : e_G X d Y pc' loc st S o) : e_G X d Y pc loc st S o :=
  e_step (fun hs _ => hs) (fun p e R s m args below meth c ls H locs cells slots ad Q C P Z L hs w => lv_goto C.1 C.2.1 hd ht w) k
theorem e_r_iload_n {n : Fin 4} {i : Nat} {x : Int} (hd : decode Y.2.1 pc = .ok (.iload_n n, 1)) (hi : (n : Nat) = i) (hp : pc + 1 = pc') (hv : e_nth loc i = some (.inl x)) (k : e_G X d Y pc' loc (.inl x :: st) S o) : e_G X d Y pc loc st S o := by
  subst hp
  refine e_step (fun hs hl => e_cs (hl i _ hv) hs) (fun p e R s m args below meth c ls H locs cells slots ad Q C P Z L hs w => ?_) k
  exact lv_iload_n C.1 C.2.1 hd hi (L.2.2.2.1 i _ hv) w
theorem e_r_iload {i : Nat} {x : Int} (hd : decode Y.2.1 pc = .ok (.iload i, 2)) (hp : pc + 2 = pc') (hv : e_nth loc i = some (.inl x)) (k : e_G X d Y pc' loc (.inl x :: st) S o) : e_G X d Y pc loc st S o := by
  subst hp
  refine e_step (fun hs hl => e_cs (hl i _ hv) hs) (fun p e R s m args below meth c ls H locs cells slots ad Q C P Z L hs w => ?_) k
  exact lv_iload C.1 C.2.1 hd (L.2.2.2.1 i _ hv) w
theorem e_r_lload_n {n : Fin 4} {i : Nat} {x : Int} (hd : decode Y.2.1 pc = .ok (.lload_n n, 1)) (hi : (n : Nat) = i) (hp : pc + 1 = pc') (hv : e_nth loc i = some (.inr (.inl x))) (k : e_G X d Y pc' loc (.inr (.inl x) :: st) S o) : e_G X d Y pc loc st S o := by
  subst hp
  refine e_step (fun hs hl => e_cs (hl i _ hv) hs) (fun p e R s m args below meth c ls H locs cells slots ad Q C P Z L hs w => ?_) k
  exact lv_lload_n C.1 C.2.1 hd hi (L.2.2.2.1 i _ hv) w
theorem e_r_lload {i : Nat} {x : Int} (hd : decode Y.2.1 pc = .ok (.lload i, 2)) (hp : pc + 2 = pc') (hv : e_nth loc i = some (.inr (.inl x))) (k : e_G X d Y pc' loc (.inr (.inl x) :: st) S o) : e_G X d Y pc loc st S o := by
  subst hp
  refine e_step (fun hs hl => e_cs (hl i _ hv) hs) (fun p e R s m args below meth c ls H locs cells slots ad Q C P Z L hs w => ?_) k
  exact lv_lload C.1 C.2.1 hd (L.2.2.2.1 i _ hv) w
theorem e_r_aload_n {n : Fin 4} {i : Nat} {x : Nat} (hx : x ≠ 0) (hd : decode Y.2.1 pc = .ok (.aload_n n, 1)) (hi : (n : Nat) = i) (hp : pc + 1 = pc') (hv : e_nth loc i = some (.inr (.inr x))) (k : e_G X d Y pc' loc (.inr (.inr x) :: st) S o) : e_G X d Y pc loc st S o := by
  subst hp
  refine e_step (fun hs hl => e_cs (hl i _ hv) hs) (fun p e R s m args below meth c ls H locs cells slots ad Q C P Z L hs w => ?_) k
  have hl := L.2.2.2.1 i _ hv
  have e1 : e_cv ad (.inr (.inr x)) = .ref (ad x) := by show va_rf (e_ad ad x) = _; unfold e_ad; rw [if_neg hx]; rfl
  rw [e1] at hl
  refine lv_aload_n C.1 C.2.1 hd hi hl ?_
  rw [← e1]
  exact w
theorem e_r_aload {i : Nat} {x : Nat} (hx : x ≠ 0) (hd : decode Y.2.1 pc = .ok (.aload i, 2)) (hp : pc + 2 = pc') (hv : e_nth loc i = some (.inr (.inr x))) (k : e_G X d Y pc' loc (.inr (.inr x) :: st) S o) : e_G X d Y pc loc st S o := by
  subst hp
  refine e_step (fun hs hl => e_cs (hl i _ hv) hs) (fun p e R s m args below meth c ls H locs cells slots ad Q C P Z L hs w => ?_) k
  have hl := L.2.2.2.1 i _ hv
  have e1 : e_cv ad (.inr (.inr x)) = .ref (ad x) := by show va_rf (e_ad ad x) = _; unfold e_ad; rw [if_neg hx]; rfl
  rw [e1] at hl
  refine lv_aload C.1 C.2.1 hd hl ?_
  rw [← e1]
  exact w
theorem e_r_istore_n {n : Fin 4} {i : Nat} {x : Int} {loc' : List (Option e_V)} (hd : decode Y.2.1 pc = .ok (.istore_n n, 1)) (hi : (n : Nat) = i) (hp : pc + 1 = pc') (hk : e_okS loc i = true) (hi9 : Nat.ble (i + 1) Y.2.2.1 = true) (hl' : e_set loc i (some (.inl x)) = loc') (k : e_G X d Y pc' loc' st S o) : e_G X d Y pc loc (.inl x :: st) S o := by
  subst hp
  subst hl'
  intro p e R s m args below meth c ls H locs cells slots ad ad0 k0 c0 s0 C P Z L hs hA hk0 hc hn hR1 hR2
  refine lv_istore_n C.1 C.2.1 hd hi L.has (Nat.le_of_ble_eq_true hi9) rfl (fun ls9 hl9 => ?_)
  exact k p e R s m args below meth c ls9 H locs cells slots ad ad0 k0 c0 s0 C P Z (L.store1 hk (e_hd hs) hl9) (e_tl hs) hA hk0 hc hn hR1 hR2
theorem e_r_istore {i : Nat} {x : Int} {loc' : List (Option e_V)} (hd : decode Y.2.1 pc = .ok (.istore i, 2)) (hp : pc + 2 = pc') (hk : e_okS loc i = true) (hi9 : Nat.ble (i + 1) Y.2.2.1 = true) (hl' : e_set loc i (some (.inl x)) = loc') (k : e_G X d Y pc' loc' st S o) : e_G X d Y pc loc (.inl x :: st) S o := by
  subst hp
  subst hl'
  intro p e R s m args below meth c ls H locs cells slots ad ad0 k0 c0 s0 C P Z L hs hA hk0 hc hn hR1 hR2
  refine lv_istore C.1 C.2.1 hd L.has (Nat.le_of_ble_eq_true hi9) rfl (fun ls9 hl9 => ?_)
  exact k p e R s m args below meth c ls9 H locs cells slots ad ad0 k0 c0 s0 C P Z (L.store1 hk (e_hd hs) hl9) (e_tl hs) hA hk0 hc hn hR1 hR2
theorem e_r_astore_n {n : Fin 4} {i : Nat} {x : Nat} {loc' : List (Option e_V)} (hx : x ≠ 0) (hd : decode Y.2.1 pc = .ok (.astore_n n, 1)) (hi : (n : Nat) = i) (hp : pc + 1 = pc') (hk : e_okS loc i = true) (hi9 : Nat.ble (i + 1) Y.2.2.1 = true) (hl' : e_set loc i (some (.inr (.inr x))) = loc') (k : e_G X d Y pc' loc' st S o) : e_G X d Y pc loc (.inr (.inr x) :: st) S o := by
  subst hp
  subst hl'
  intro p e R s m args below meth c ls H locs cells slots ad ad0 k0 c0 s0 C P Z L hs hA hk0 hc hn hR1 hR2
  have e1 : e_cv ad (.inr (.inr x)) = .ref (ad x) := by show va_rf (e_ad ad x) = _; unfold e_ad; rw [if_neg hx]; rfl
  show W p X.1 e R s m args below meth c H locs cells slots _ (F0 m pc ls (e_cv ad (.inr (.inr x)) :: st.map (e_cv ad)))
  rw [e1]
  refine lv_astore_n C.1 C.2.1 hd hi L.has (Nat.le_of_ble_eq_true hi9) rfl (fun ls9 hl9 => ?_)
  rw [← e1] at hl9; exact k p e R s m args below meth c ls9 H locs cells slots ad ad0 k0 c0 s0 C P Z (L.store1 hk (e_hd hs) hl9) (e_tl hs) hA hk0 hc hn hR1 hR2
theorem e_r_astore {i : Nat} {x : Nat} {loc' : List (Option e_V)} (hx : x ≠ 0) (hd : decode Y.2.1 pc = .ok (.astore i, 2)) (hp : pc + 2 = pc') (hk : e_okS loc i = true) (hi9 : Nat.ble (i + 1) Y.2.2.1 = true) (hl' : e_set loc i (some (.inr (.inr x))) = loc') (k : e_G X d Y pc' loc' st S o) : e_G X d Y pc loc (.inr (.inr x) :: st) S o := by
  subst hp
  subst hl'
  intro p e R s m args below meth c ls H locs cells slots ad ad0 k0 c0 s0 C P Z L hs hA hk0 hc hn hR1 hR2
  have e1 : e_cv ad (.inr (.inr x)) = .ref (ad x) := by show va_rf (e_ad ad x) = _; unfold e_ad; rw [if_neg hx]; rfl
  show W p X.1 e R s m args below meth c H locs cells slots _ (F0 m pc ls (e_cv ad (.inr (.inr x)) :: st.map (e_cv ad)))
  rw [e1]
  refine lv_astore C.1 C.2.1 hd L.has (Nat.le_of_ble_eq_true hi9) rfl (fun ls9 hl9 => ?_)
  rw [← e1] at hl9; exact k p e R s m args below meth c ls9 H locs cells slots ad ad0 k0 c0 s0 C P Z (L.store1 hk (e_hd hs) hl9) (e_tl hs) hA hk0 hc hn hR1 hR2
theorem e_r_lstore_n {n : Fin 4} {i : Nat} {x : Int} {loc' : List (Option e_V)} (hd : decode Y.2.1 pc = .ok (.lstore_n n, 1)) (hi : (n : Nat) = i) (hp : pc + 1 = pc') (hk : e_okS loc i = true) (hi9 : Nat.ble (i + 2) Y.2.2.1 = true) (hl' : e_set (e_set loc i (some (.inr (.inl x)))) (i + 1) none = loc') (k : e_G X d Y pc' loc' st S o) : e_G X d Y pc loc (.inr (.inl x) :: st) S o := by
  subst hp
  subst hl'
  intro p e R s m args below meth c ls H locs cells slots ad ad0 k0 c0 s0 C P Z L hs hA hk0 hc hn hR1 hR2
  have h9 : i + 1 < Y.2.2.1 := Nat.le_of_ble_eq_true hi9
  refine lv_lstore_n C.1 C.2.1 hd hi L.has h9 rfl (fun ls9 hl9 => ?_)
  exact k p e R s m args below meth c ls9 H locs cells slots ad ad0 k0 c0 s0 C P Z (L.store2 hk (e_hd hs) h9 hl9) (e_tl hs) hA hk0 hc hn hR1 hR2
theorem e_r_lstore {i : Nat} {x : Int} {loc' : List (Option e_V)} (hd : decode Y.2.1 pc = .ok (.lstore i, 2)) (hp : pc + 2 = pc') (hk : e_okS loc i = true) (hi9 : Nat.ble (i + 2) Y.2.2.1 = true) (hl' : e_set (e_set loc i (some (.inr (.inl x)))) (i + 1) none = loc') (k : e_G X d Y pc' loc' st S o) : e_G X d Y pc loc (.inr (.inl x) :: st) S o := by
  subst hp
  subst hl'
  intro p e R s m args below meth c ls H locs cells slots ad ad0 k0 c0 s0 C P Z L hs hA hk0 hc hn hR1 hR2
  have h9 : i + 1 < Y.2.2.1 := Nat.le_of_ble_eq_true hi9
  refine lv_lstore C.1 C.2.1 hd L.has h9 rfl (fun ls9 hl9 => ?_)
  exact k p e R s m args below meth c ls9 H locs cells slots ad ad0 k0 c0 s0 C P Z (L.store2 hk (e_hd hs) h9 hl9) (e_tl hs) hA hk0 hc hn hR1 hR2
theorem e_r_iinc {i : Nat} {x n : Int} {loc' : List (Option e_V)} (hd : decode Y.2.1 pc = .ok (.iinc i n, 3)) (hp : pc + 3 = pc') (hv : e_nth loc i = some (.inl x)) (hk : e_okS loc i = true) (hi9 : Nat.ble (i + 1) Y.2.2.1 = true) (hl' : e_set loc i (some (.inl (e_w (x + n)))) = loc') (k : e_G X d Y pc' loc' st S o) : e_G X d Y pc loc st S o := by
  subst hp
  subst hl'
  intro p e R s m args below meth c ls H locs cells slots ad ad0 k0 c0 s0 C P Z L hs hA hk0 hc hn hR1 hR2
  obtain ⟨k9, hk9⟩ := List.getElem?_of_mem (e_prs_mem (ad := ad) hv)
  refine lv_iinc (v := Int32.ofInt (e_w (x + n))) C.1 C.2.1 hd L.has hk9 (e_iadd x n).symm (Nat.le_of_ble_eq_true hi9) rfl (fun ls9 hl9 => ?_)
  exact k p e R s m args below meth c ls9 H locs cells slots ad ad0 k0 c0 s0 C P Z (L.store1 (v := .inl (e_w (x + n))) hk (e_w_r _) hl9) hs hA hk0 hc hn hR1 hR2
theorem e_r_if_eq {a off : Int} {tgt : Nat} (hd : decode Y.2.1 pc = .ok (.ifCond .eq off, 3)) (ht : (pc : Int) + off = (tgt : Int)) (hp : pc + 3 = pc') (kt : a = 0 → e_G X d Y tgt loc st S o) (kf : ¬ (a = 0) → e_G X d Y pc' loc st S o) : e_G X d Y pc loc (.inl a :: st) S o := by
  subst hp
  intro p e R s m args below meth c ls H locs cells slots ad ad0 k0 c0 s0 C P Z L hs hA hk0 hc hn hR1 hR2
  have ha : e_i32 a := e_hd hs
  refine lv_if_eq C.1 C.2.1 hd ht (fun q => ?_) (fun q => ?_)
  · rw [e_0] at q
    exact kt ((e_eq ha e_00).mp q) p e R s m args below meth c ls H locs cells slots ad ad0 k0 c0 s0 C P Z L (e_tl hs) hA hk0 hc hn hR1 hR2
  · rw [e_0] at q
    exact kf (fun z => q ((e_eq ha e_00).mpr z)) p e R s m args below meth c ls H locs cells slots ad ad0 k0 c0 s0 C P Z L (e_tl hs) hA hk0 hc hn hR1 hR2
theorem e_r_icmp_eq {a b off : Int} {tgt : Nat} (hd : decode Y.2.1 pc = .ok (.if_icmp .eq off, 3)) (ht : (pc : Int) + off = (tgt : Int)) (hp : pc + 3 = pc') (kt : a = b → e_G X d Y tgt loc st S o) (kf : ¬ (a = b) → e_G X d Y pc' loc st S o) : e_G X d Y pc loc (.inl b :: .inl a :: st) S o := by
  subst hp
  intro p e R s m args below meth c ls H locs cells slots ad ad0 k0 c0 s0 C P Z L hs hA hk0 hc hn hR1 hR2
  have ha : e_i32 a := e_hd (e_tl hs)
  have hb : e_i32 b := e_hd hs
  refine lv_icmp_eq C.1 C.2.1 hd ht (fun q => ?_) (fun q => ?_)
  · exact kt ((e_eq ha hb).mp q) p e R s m args below meth c ls H locs cells slots ad ad0 k0 c0 s0 C P Z L (e_tl (e_tl hs)) hA hk0 hc hn hR1 hR2
  · exact kf (fun z => q ((e_eq ha hb).mpr z)) p e R s m args below meth c ls H locs cells slots ad ad0 k0 c0 s0 C P Z L (e_tl (e_tl hs)) hA hk0 hc hn hR1 hR2
theorem e_r_if_ne {a off : Int} {tgt : Nat} (hd : decode Y.2.1 pc = .ok (.ifCond .ne off, 3)) (ht : (pc : Int) + off = (tgt : Int)) (hp : pc + 3 = pc') (kt : ¬ a = 0 → e_G X d Y tgt loc st S o) (kf : a = 0 → e_G X d Y pc' loc st S o) : e_G X d Y pc loc (.inl a :: st) S o := by
  subst hp
  intro p e R s m args below meth c ls H locs cells slots ad ad0 k0 c0 s0 C P Z L hs hA hk0 hc hn hR1 hR2
  have ha : e_i32 a := e_hd hs
  refine lv_if_ne C.1 C.2.1 hd ht (fun q => ?_) (fun q => ?_)
  · rw [e_0] at q
    exact kt ((not_congr (e_eq ha e_00)).mp q) p e R s m args below meth c ls H locs cells slots ad ad0 k0 c0 s0 C P Z L (e_tl hs) hA hk0 hc hn hR1 hR2
  · rw [e_0] at q
    exact kf ((e_eq ha e_00).mp q) p e R s m args below meth c ls H locs cells slots ad ad0 k0 c0 s0 C P Z L (e_tl hs) hA hk0 hc hn hR1 hR2
theorem e_r_icmp_ne {a b off : Int} {tgt : Nat} (hd : decode Y.2.1 pc = .ok (.if_icmp .ne off, 3)) (ht : (pc : Int) + off = (tgt : Int)) (hp : pc + 3 = pc') (kt : ¬ a = b → e_G X d Y tgt loc st S o) (kf : a = b → e_G X d Y pc' loc st S o) : e_G X d Y pc loc (.inl b :: .inl a :: st) S o := by
  subst hp
  intro p e R s m args below meth c ls H locs cells slots ad ad0 k0 c0 s0 C P Z L hs hA hk0 hc hn hR1 hR2
  have ha : e_i32 a := e_hd (e_tl hs)
  have hb : e_i32 b := e_hd hs
  refine lv_icmp_ne C.1 C.2.1 hd ht (fun q => ?_) (fun q => ?_)
  · exact kt ((not_congr (e_eq ha hb)).mp q) p e R s m args below meth c ls H locs cells slots ad ad0 k0 c0 s0 C P Z L (e_tl (e_tl hs)) hA hk0 hc hn hR1 hR2
  · exact kf ((e_eq ha hb).mp q) p e R s m args below meth c ls H locs cells slots ad ad0 k0 c0 s0 C P Z L (e_tl (e_tl hs)) hA hk0 hc hn hR1 hR2
theorem e_r_if_lt {a off : Int} {tgt : Nat} (hd : decode Y.2.1 pc = .ok (.ifCond .lt off, 3)) (ht : (pc : Int) + off = (tgt : Int)) (hp : pc + 3 = pc') (kt : a < 0 → e_G X d Y tgt loc st S o) (kf : ¬ (a < 0) → e_G X d Y pc' loc st S o) : e_G X d Y pc loc (.inl a :: st) S o := by
  subst hp
  intro p e R s m args below meth c ls H locs cells slots ad ad0 k0 c0 s0 C P Z L hs hA hk0 hc hn hR1 hR2
  have ha : e_i32 a := e_hd hs
  refine lv_if_lt C.1 C.2.1 hd ht (fun q => ?_) (fun q => ?_)
  · rw [e_0] at q
    exact kt ((e_lt ha e_00).mp q) p e R s m args below meth c ls H locs cells slots ad ad0 k0 c0 s0 C P Z L (e_tl hs) hA hk0 hc hn hR1 hR2
  · rw [e_0] at q
    exact kf (fun z => q ((e_lt ha e_00).mpr z)) p e R s m args below meth c ls H locs cells slots ad ad0 k0 c0 s0 C P Z L (e_tl hs) hA hk0 hc hn hR1 hR2
theorem e_r_icmp_lt {a b off : Int} {tgt : Nat} (hd : decode Y.2.1 pc = .ok (.if_icmp .lt off, 3)) (ht : (pc : Int) + off = (tgt : Int)) (hp : pc + 3 = pc') (kt : a < b → e_G X d Y tgt loc st S o) (kf : ¬ (a < b) → e_G X d Y pc' loc st S o) : e_G X d Y pc loc (.inl b :: .inl a :: st) S o := by
  subst hp
  intro p e R s m args below meth c ls H locs cells slots ad ad0 k0 c0 s0 C P Z L hs hA hk0 hc hn hR1 hR2
  have ha : e_i32 a := e_hd (e_tl hs)
  have hb : e_i32 b := e_hd hs
  refine lv_icmp_lt C.1 C.2.1 hd ht (fun q => ?_) (fun q => ?_)
  · exact kt ((e_lt ha hb).mp q) p e R s m args below meth c ls H locs cells slots ad ad0 k0 c0 s0 C P Z L (e_tl (e_tl hs)) hA hk0 hc hn hR1 hR2
  · exact kf (fun z => q ((e_lt ha hb).mpr z)) p e R s m args below meth c ls H locs cells slots ad ad0 k0 c0 s0 C P Z L (e_tl (e_tl hs)) hA hk0 hc hn hR1 hR2
theorem e_r_if_ge {a off : Int} {tgt : Nat} (hd : decode Y.2.1 pc = .ok (.ifCond .ge off, 3)) (ht : (pc : Int) + off = (tgt : Int)) (hp : pc + 3 = pc') (kt : 0 ≤ a → e_G X d Y tgt loc st S o) (kf : ¬ (0 ≤ a) → e_G X d Y pc' loc st S o) : e_G X d Y pc loc (.inl a :: st) S o := by
  subst hp
  intro p e R s m args below meth c ls H locs cells slots ad ad0 k0 c0 s0 C P Z L hs hA hk0 hc hn hR1 hR2
  have ha : e_i32 a := e_hd hs
  refine lv_if_ge C.1 C.2.1 hd ht (fun q => ?_) (fun q => ?_)
  · rw [e_0] at q
    exact kt ((e_le e_00 ha).mp q) p e R s m args below meth c ls H locs cells slots ad ad0 k0 c0 s0 C P Z L (e_tl hs) hA hk0 hc hn hR1 hR2
  · rw [e_0] at q
    exact kf (fun z => q ((e_le e_00 ha).mpr z)) p e R s m args below meth c ls H locs cells slots ad ad0 k0 c0 s0 C P Z L (e_tl hs) hA hk0 hc hn hR1 hR2
theorem e_r_icmp_ge {a b off : Int} {tgt : Nat} (hd : decode Y.2.1 pc = .ok (.if_icmp .ge off, 3)) (ht : (pc : Int) + off = (tgt : Int)) (hp : pc + 3 = pc') (kt : b ≤ a → e_G X d Y tgt loc st S o) (kf : ¬ (b ≤ a) → e_G X d Y pc' loc st S o) : e_G X d Y pc loc (.inl b :: .inl a :: st) S o := by
  subst hp
  intro p e R s m args below meth c ls H locs cells slots ad ad0 k0 c0 s0 C P Z L hs hA hk0 hc hn hR1 hR2
  have ha : e_i32 a := e_hd (e_tl hs)
  have hb : e_i32 b := e_hd hs
  refine lv_icmp_ge C.1 C.2.1 hd ht (fun q => ?_) (fun q => ?_)
  · exact kt ((e_le hb ha).mp q) p e R s m args below meth c ls H locs cells slots ad ad0 k0 c0 s0 C P Z L (e_tl (e_tl hs)) hA hk0 hc hn hR1 hR2
  · exact kf (fun z => q ((e_le hb ha).mpr z)) p e R s m args below meth c ls H locs cells slots ad ad0 k0 c0 s0 C P Z L (e_tl (e_tl hs)) hA hk0 hc hn hR1 hR2
theorem e_r_if_gt {a off : Int} {tgt : Nat} (hd : decode Y.2.1 pc = .ok (.ifCond .gt off, 3)) (ht : (pc : Int) + off = (tgt : Int)) (hp : pc + 3 = pc') (kt : 0 < a → e_G X d Y tgt loc st S o) (kf : ¬ (0 < a) → e_G X d Y pc' loc st S o) : e_G X d Y pc loc (.inl a :: st) S o := by
  subst hp
  intro p e R s m args below meth c ls H locs cells slots ad ad0 k0 c0 s0 C P Z L hs hA hk0 hc hn hR1 hR2
  have ha : e_i32 a := e_hd hs
  refine lv_if_gt C.1 C.2.1 hd ht (fun q => ?_) (fun q => ?_)
  · rw [e_0] at q
    exact kt ((e_lt e_00 ha).mp q) p e R s m args below meth c ls H locs cells slots ad ad0 k0 c0 s0 C P Z L (e_tl hs) hA hk0 hc hn hR1 hR2
  · rw [e_0] at q
    exact kf (fun z => q ((e_lt e_00 ha).mpr z)) p e R s m args below meth c ls H locs cells slots ad ad0 k0 c0 s0 C P Z L (e_tl hs) hA hk0 hc hn hR1 hR2
theorem e_r_icmp_gt {a b off : Int} {tgt : Nat} (hd : decode Y.2.1 pc = .ok (.if_icmp .gt off, 3)) (ht : (pc : Int) + off = (tgt : Int)) (hp : pc + 3 = pc') (kt : b < a → e_G X d Y tgt loc st S o) (kf : ¬ (b < a) → e_G X d Y pc' loc st S o) : e_G X d Y pc loc (.inl b :: .inl a :: st) S o := by
  subst hp
  intro p e R s m args below meth c ls H locs cells slots ad ad0 k0 c0 s0 C P Z L hs hA hk0 hc hn hR1 hR2
  have ha : e_i32 a := e_hd (e_tl hs)
  have hb : e_i32 b := e_hd hs
  refine lv_icmp_gt C.1 C.2.1 hd ht (fun q => ?_) (fun q => ?_)
  · exact kt ((e_lt hb ha).mp q) p e R s m args below meth c ls H locs cells slots ad ad0 k0 c0 s0 C P Z L (e_tl (e_tl hs)) hA hk0 hc hn hR1 hR2
  · exact kf (fun z => q ((e_lt hb ha).mpr z)) p e R s m args below meth c ls H locs cells slots ad ad0 k0 c0 s0 C P Z L (e_tl (e_tl hs)) hA hk0 hc hn hR1 hR2
theorem e_r_if_le {a off : Int} {tgt : Nat} (hd : decode Y.2.1 pc = .ok (.ifCond .le off, 3)) (ht : (pc : Int) + off = (tgt : Int)) (hp : pc + 3 = pc') (kt : a ≤ 0 → e_G X d Y tgt loc st S o) (kf : ¬ (a ≤ 0) → e_G X d Y pc' loc st S o) : e_G X d Y pc loc (.inl a :: st) S o := by
  subst hp
  intro p e R s m args below meth c ls H locs cells slots ad ad0 k0 c0 s0 C P Z L hs hA hk0 hc hn hR1 hR2
  have ha : e_i32 a := e_hd hs
  refine lv_if_le C.1 C.2.1 hd ht (fun q => ?_) (fun q => ?_)
  · rw [e_0] at q
    exact kt ((e_le ha e_00).mp q) p e R s m args below meth c ls H locs cells slots ad ad0 k0 c0 s0 C P Z L (e_tl hs) hA hk0 hc hn hR1 hR2
  · rw [e_0] at q
    exact kf (fun z => q ((e_le ha e_00).mpr z)) p e R s m args below meth c ls H locs cells slots ad ad0 k0 c0 s0 C P Z L (e_tl hs) hA hk0 hc hn hR1 hR2
theorem e_r_icmp_le {a b off : Int} {tgt : Nat} (hd : decode Y.2.1 pc = .ok (.if_icmp .le off, 3)) (ht : (pc : Int) + off = (tgt : Int)) (hp : pc + 3 = pc') (kt : a ≤ b → e_G X d Y tgt loc st S o) (kf : ¬ (a ≤ b) → e_G X d Y pc' loc st S o) : e_G X d Y pc loc (.inl b :: .inl a :: st) S o := by
  subst hp
  intro p e R s m args below meth c ls H locs cells slots ad ad0 k0 c0 s0 C P Z L hs hA hk0 hc hn hR1 hR2
  have ha : e_i32 a := e_hd (e_tl hs)
  have hb : e_i32 b := e_hd hs
  refine lv_icmp_le C.1 C.2.1 hd ht (fun q => ?_) (fun q => ?_)
  · exact kt ((e_le ha hb).mp q) p e R s m args below meth c ls H locs cells slots ad ad0 k0 c0 s0 C P Z L (e_tl (e_tl hs)) hA hk0 hc hn hR1 hR2
  · exact kf (fun z => q ((e_le ha hb).mpr z)) p e R s m args below meth c ls H locs cells slots ad ad0 k0 c0 s0 C P Z L (e_tl (e_tl hs)) hA hk0 hc hn hR1 hR2
theorem e_r_table {a dflt lo hi : Int} {offs : Array Int} {len tgt : Nat} (hd : decode Y.2.1 pc = .ok (.tableswitch dflt lo hi offs, len)) (ht : (pc : Int) + dflt = (tgt : Int)) (tg : Nat → Nat)
    (hin : ∀ j : Nat, lo + (j : Int) ≤ hi → ∃ off, offs[j]? = some off ∧ (pc : Int) + off = (tg j : Int))
    (kt : ∀ j : Nat, a = lo + (j : Int) → a ≤ hi → e_G X d Y (tg j) loc st S o) (kf : (a < lo ∨ hi < a) → e_G X d Y tgt loc st S o) : e_G X d Y pc loc (.inl a :: st) S o := by
  intro p e R s m args below meth c ls H locs cells slots ad ad0 k0 c0 s0 C P Z L hs hA hk0 hc hn hR1 hR2
  have ha : e_i32 a := e_hd hs
  have e1 := e_tIr ha
  by_cases h : a < lo ∨ hi < a
  · exact lv_tableOut C.1 C.2.1 hd (by rw [e1]; exact h) ht (kf h p e R s m args below meth c ls H locs cells slots ad ad0 k0 c0 s0 C P Z L (e_tl hs) hA hk0 hc hn hR1 hR2)
  · have h1 : ¬ a < lo := fun q => h (Or.inl q)
    have h2 : ¬ hi < a := fun q => h (Or.inr q)
    have h3 : a = lo + ((a - lo).toNat : Int) := by omega
    obtain ⟨off, ho, hto⟩ := hin (a - lo).toNat (by omega)
    exact lv_tableIn C.1 C.2.1 hd (by rw [e1]; exact h1) (by rw [e1]; exact h2) (by rw [e1]; exact ho) hto (kt (a - lo).toNat h3 (by omega) p e R s m args below meth c ls H locs cells slots ad ad0 k0 c0 s0 C P Z L (e_tl hs) hA hk0 hc hn hR1 hR2)
theorem e_r_lookup {a dflt : Int} {ps : Array (Int × Int)} {len : Nat} (hd : decode Y.2.1 pc = .ok (.lookupswitch dflt ps, len)) (hq : (ps.toList.zip (ps.toList.drop 1)).all (fun (a, next) => a.1 < next.1) = true) (off : Int) (ho : Op.lookupswitch.offset ps.toList dflt a = off) (ht : (pc : Int) + off = (pc' : Int))
    (k : e_G X d Y pc' loc st S o) : e_G X d Y pc loc (.inl a :: st) S o := by
  refine e_step (fun hs _ => e_tl hs) (fun p e R s m args below meth c ls H locs cells slots ad Q C P Z L hs w => ?_) k
  exact lv_lookup C.1 C.2.1 hd hq (by rw [e_tIr (e_hd hs)]; exact ho) ht w
end ER
