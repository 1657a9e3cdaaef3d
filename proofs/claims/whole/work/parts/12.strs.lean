/-! THE ENGINE, 9: a String constant is loaded -/
theorem e_r_ldcs {X : e_X} {d : Nat} {Y : e_Y} {pc pc' : Nat} {loc : List (Option e_V)} {st : List e_V} {S : e_S} {o : e_O} {j q is : Nat} {text : String} (hsj : e_str[j]? = some (Y.2.2.2.2.1, is, text)) (hq : 1000000 + j = q) (hd : decode Y.2.1 pc = .ok (.ldc is, 2)) (hp : pc + 2 = pc') (k : e_G X d Y pc' loc (.inr (.inr q) :: st) S o) : e_G X d Y pc loc st S o := by
  subst hp
  subst hq
  refine e_step (fun hs _ => e_cs (v := .inr (.inr _)) (Or.inr (by omega)) hs) (fun p e R s m args below meth c ls H locs cells slots ad Q C P Z L hs w => ?_) k
  rw [List.map_cons, e_ref (by omega), P.2.2.2.2 j] at w
  exact va_ldcS C.1 C.2.1 C.2.2.2.2.1 (C.2.2.2.2.2.2.2.1.2.2.2.2.2.1 j _ hsj) hd w
theorem e_str_1 : e_str[1]? = some ("BoughtMondays$Town", 58, "person duty can task") := by decide +kernel
theorem e_str_2 : e_str[2]? = some ("BoughtMondays$Law", 86, "week sold skipped coins wage needed tasks person least most") := by decide +kernel
theorem e_str_3 : e_str[3]? = some ("BoughtMondays$Plan", 58, "buy sell later week again") := by decide +kernel
