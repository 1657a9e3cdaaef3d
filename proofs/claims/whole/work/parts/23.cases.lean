def YL_law_ : e_Y := (yL_law_, code, 8, some .boolean, RL, [])
/-- the script's number at place i + k -/
abbrev k_xi (X : e_X) (i k : Nat) : Int := (X.2.2.2.2.2.2.1 (i + k)).toInt
theorem k_ix {i k : Nat} {L : Nat} (hL : L ≤ 4608) (h : i + 9 ≤ L) (hk : k ≤ 8) : e_w ((i : Int) + (k : Int)) = ((i + k : Nat) : Int) ∧ (0 : Int) ≤ ((i + k : Nat) : Int) ∧ ((i + k : Nat) : Int) < (L : Int) := by
  have e : e_w ((i : Int) + (k : Int)) = (i : Int) + (k : Int) := e_ws_ (by omega) (by omega)
  rw [e]
  omega
theorem k_nat (i k : Nat) : (((i + k : Nat) : Int)).toNat = i + k := by omega
theorem c_thrown {X : e_X} {d gn : Nat} {M : e_M} : e_E X d YX11_thrown [.inr (.inr 64)] (557, gn, e_RF, M) (.inl (some (.inl (M 64 0))), (557, gn, e_RF, M)) := wp_X11_thrown_0 M rfl
theorem lc_0 {X : e_X} {d gn g1 i : Nat} {o : e_O} {M M1 M2 : e_M} {v : Int} (hL : X.2.2.2.2.2.1 ≤ 4608) (hb : X.2.2.2.2.1 < (e_H0 X).size) (hi : i + 9 ≤ X.2.2.2.2.2.1) (hg : gn ≤ g1) (hmo : e_mn (557, g1, e_RF, M2) o.2) (hx : e_E X d YX10_feed [.inr (.inr 1), .inl (k_xi X i 1), .inl (k_xi X i 2), .inl (k_xi X i 3), .inl (k_xi X i 4), .inl (k_xi X i 5)] (557, gn, e_RF, M) (.inl (some (.inl v)), (557, g1, e_RF, M1))) (hm : e_E X d YX11_feed [.inr (.inr 64), .inl (k_xi X i 1), .inl (k_xi X i 2), .inl (k_xi X i 3), .inl (k_xi X i 4), .inl (k_xi X i 5)] (557, g1, e_RF, M1) (.inl (some (.inl v)), (557, g1, e_RF, M2))) (k9 : e_G X (d + 1) YL_law_ 2729 [some (.inr (.inr 999999)), some (.inr (.inr 1)), some (.inr (.inr 64)), some (.inr (.inr 557)), some (.inl (i : Int)), none, none, none] [] (557, g1, e_RF, M2) o) : e_G X (d + 1) YL_law_ 236 [some (.inr (.inr 999999)), some (.inr (.inr 1)), some (.inr (.inr 64)), some (.inr (.inr 557)), some (.inl (i : Int)), none, none, none] [] (557, gn, e_RF, M) o := by
  refine e_r_aload_n (pc' := 237) (by decide) dL_law__236 rfl rfl rfl ?_
  refine e_r_aload_n (pc' := 238) (by decide) dL_law__237 rfl rfl rfl ?_
  refine e_r_iload (pc' := 240) dL_law__238 rfl rfl ?_
  refine e_r_iconst (pc' := 241) dL_law__240 rfl (by decide) ?_
  refine e_r_iadd (pc' := 242) dL_law__241 rfl ?_
  rw [show e_w ((i : Int) + 1) = ((i + 1 : Nat) : Int) from (k_ix (k := 1) hL hi (by decide)).1]
  refine e_r_sld (pc' := 243) (k_ix (k := 1) hL hi (by decide)).2.1 (k_ix (k := 1) hL hi (by decide)).2.2 hb dL_law__242 rfl ?_
  rw [k_nat]
  refine e_r_aload_n (pc' := 244) (by decide) dL_law__243 rfl rfl rfl ?_
  refine e_r_iload (pc' := 246) dL_law__244 rfl rfl ?_
  refine e_r_iconst (pc' := 247) dL_law__246 rfl (by decide) ?_
  refine e_r_iadd (pc' := 248) dL_law__247 rfl ?_
  rw [show e_w ((i : Int) + 2) = ((i + 2 : Nat) : Int) from (k_ix (k := 2) hL hi (by decide)).1]
  refine e_r_sld (pc' := 249) (k_ix (k := 2) hL hi (by decide)).2.1 (k_ix (k := 2) hL hi (by decide)).2.2 hb dL_law__248 rfl ?_
  rw [k_nat]
  refine e_r_aload_n (pc' := 250) (by decide) dL_law__249 rfl rfl rfl ?_
  refine e_r_iload (pc' := 252) dL_law__250 rfl rfl ?_
  refine e_r_iconst (pc' := 253) dL_law__252 rfl (by decide) ?_
  refine e_r_iadd (pc' := 254) dL_law__253 rfl ?_
  rw [show e_w ((i : Int) + 3) = ((i + 3 : Nat) : Int) from (k_ix (k := 3) hL hi (by decide)).1]
  refine e_r_sld (pc' := 255) (k_ix (k := 3) hL hi (by decide)).2.1 (k_ix (k := 3) hL hi (by decide)).2.2 hb dL_law__254 rfl ?_
  rw [k_nat]
  refine e_r_aload_n (pc' := 256) (by decide) dL_law__255 rfl rfl rfl ?_
  refine e_r_iload (pc' := 258) dL_law__256 rfl rfl ?_
  refine e_r_iconst (pc' := 259) dL_law__258 rfl (by decide) ?_
  refine e_r_iadd (pc' := 260) dL_law__259 rfl ?_
  rw [show e_w ((i : Int) + 4) = ((i + 4 : Nat) : Int) from (k_ix (k := 4) hL hi (by decide)).1]
  refine e_r_sld (pc' := 261) (k_ix (k := 4) hL hi (by decide)).2.1 (k_ix (k := 4) hL hi (by decide)).2.2 hb dL_law__260 rfl ?_
  rw [k_nat]
  refine e_r_aload_n (pc' := 262) (by decide) dL_law__261 rfl rfl rfl ?_
  refine e_r_iload (pc' := 264) dL_law__262 rfl rfl ?_
  refine e_r_iconst (pc' := 265) dL_law__264 rfl (by decide) ?_
  refine e_r_iadd (pc' := 266) dL_law__265 rfl ?_
  rw [show e_w ((i : Int) + 5) = ((i + 5 : Nat) : Int) from (k_ix (k := 5) hL hi (by decide)).1]
  refine e_r_sld (pc' := 267) (k_ix (k := 5) hL hi (by decide)).2.1 (k_ix (k := 5) hL hi (by decide)).2.2 hb dL_law__266 rfl ?_
  rw [k_nat]
  refine e_r_callV (a := 1) (av := [.inl (k_xi X i 1), .inl (k_xi X i 2), .inl (k_xi X i 3), .inl (k_xi X i 4), .inl (k_xi X i 5)]) (st := []) mqYX10_feed ml_RL_121 cl_10 rfl (Nat.le_of_ble_eq_true rfl) (by simp [e_cat]) rfl rfl rfl dL_law__267 (pc' := 270) rfl hx ⟨Nat.le_refl _, hg⟩ hmo ?_
  refine e_r_aload_n (pc' := 271) (by decide) dL_law__270 rfl rfl rfl ?_
  refine e_r_aload_n (pc' := 272) (by decide) dL_law__271 rfl rfl rfl ?_
  refine e_r_iload (pc' := 274) dL_law__272 rfl rfl ?_
  refine e_r_iconst (pc' := 275) dL_law__274 rfl (by decide) ?_
  refine e_r_iadd (pc' := 276) dL_law__275 rfl ?_
  rw [show e_w ((i : Int) + 1) = ((i + 1 : Nat) : Int) from (k_ix (k := 1) hL hi (by decide)).1]
  refine e_r_sld (pc' := 277) (k_ix (k := 1) hL hi (by decide)).2.1 (k_ix (k := 1) hL hi (by decide)).2.2 hb dL_law__276 rfl ?_
  rw [k_nat]
  refine e_r_aload_n (pc' := 278) (by decide) dL_law__277 rfl rfl rfl ?_
  refine e_r_iload (pc' := 280) dL_law__278 rfl rfl ?_
  refine e_r_iconst (pc' := 281) dL_law__280 rfl (by decide) ?_
  refine e_r_iadd (pc' := 282) dL_law__281 rfl ?_
  rw [show e_w ((i : Int) + 2) = ((i + 2 : Nat) : Int) from (k_ix (k := 2) hL hi (by decide)).1]
  refine e_r_sld (pc' := 283) (k_ix (k := 2) hL hi (by decide)).2.1 (k_ix (k := 2) hL hi (by decide)).2.2 hb dL_law__282 rfl ?_
  rw [k_nat]
  refine e_r_aload_n (pc' := 284) (by decide) dL_law__283 rfl rfl rfl ?_
  refine e_r_iload (pc' := 286) dL_law__284 rfl rfl ?_
  refine e_r_iconst (pc' := 287) dL_law__286 rfl (by decide) ?_
  refine e_r_iadd (pc' := 288) dL_law__287 rfl ?_
  rw [show e_w ((i : Int) + 3) = ((i + 3 : Nat) : Int) from (k_ix (k := 3) hL hi (by decide)).1]
  refine e_r_sld (pc' := 289) (k_ix (k := 3) hL hi (by decide)).2.1 (k_ix (k := 3) hL hi (by decide)).2.2 hb dL_law__288 rfl ?_
  rw [k_nat]
  refine e_r_aload_n (pc' := 290) (by decide) dL_law__289 rfl rfl rfl ?_
  refine e_r_iload (pc' := 292) dL_law__290 rfl rfl ?_
  refine e_r_iconst (pc' := 293) dL_law__292 rfl (by decide) ?_
  refine e_r_iadd (pc' := 294) dL_law__293 rfl ?_
  rw [show e_w ((i : Int) + 4) = ((i + 4 : Nat) : Int) from (k_ix (k := 4) hL hi (by decide)).1]
  refine e_r_sld (pc' := 295) (k_ix (k := 4) hL hi (by decide)).2.1 (k_ix (k := 4) hL hi (by decide)).2.2 hb dL_law__294 rfl ?_
  rw [k_nat]
  refine e_r_aload_n (pc' := 296) (by decide) dL_law__295 rfl rfl rfl ?_
  refine e_r_iload (pc' := 298) dL_law__296 rfl rfl ?_
  refine e_r_iconst (pc' := 299) dL_law__298 rfl (by decide) ?_
  refine e_r_iadd (pc' := 300) dL_law__299 rfl ?_
  rw [show e_w ((i : Int) + 5) = ((i + 5 : Nat) : Int) from (k_ix (k := 5) hL hi (by decide)).1]
  refine e_r_sld (pc' := 301) (k_ix (k := 5) hL hi (by decide)).2.1 (k_ix (k := 5) hL hi (by decide)).2.2 hb dL_law__300 rfl ?_
  rw [k_nat]
  refine e_r_callV (a := 64) (av := [.inl (k_xi X i 1), .inl (k_xi X i 2), .inl (k_xi X i 3), .inl (k_xi X i 4), .inl (k_xi X i 5)]) (st := [.inl v]) mqYX11_feed ml_RL_124 cl_11 rfl (Nat.le_of_ble_eq_true rfl) (by simp [e_cat]) rfl rfl rfl dL_law__301 (pc' := 304) rfl hm ⟨Nat.le_refl _, Nat.le_refl _⟩ hmo ?_
  refine e_r_icmp_eq (tgt := 2729) (pc' := 307) dL_law__304 rfl rfl (fun _ => ?_) (fun q => absurd rfl q)
  exact e_forget (m := [true, true, true, true, true, false, false, false]) k9 rfl
theorem lc_1 {X : e_X} {d gn g1 i : Nat} {o : e_O} {M M1 M2 : e_M} {kk b : Int} (hL : X.2.2.2.2.2.1 ≤ 4608) (hb : X.2.2.2.2.1 < (e_H0 X).size) (hi : i + 9 ≤ X.2.2.2.2.2.1) (hg : gn ≤ g1) (hmo : e_mn (557, g1, e_RF, M2) o.2) (hh : e_E X d YL_town [.inr (.inr 1), .inl (k_xi X i 1), .inr (.inr 557)] (557, gn, e_RF, M) (.inl (some (.inl kk)), (557, g1, e_RF, M1))) (hm : e_E X d YX11_town [.inr (.inr 64), .inl (k_xi X i 1)] (557, g1, e_RF, M1) (.inl (some (.inl b)), (557, g1, e_RF, M2))) (ht : M2 64 0 = kk) (ho : kk = 0 → M2 557 0 = b) (k9 : e_G X (d + 1) YL_law_ 2729 [some (.inr (.inr 999999)), some (.inr (.inr 1)), some (.inr (.inr 64)), some (.inr (.inr 557)), some (.inl (i : Int)), none, none, none] [] (557, g1, e_RF, M2) o) : e_G X (d + 1) YL_law_ 309 [some (.inr (.inr 999999)), some (.inr (.inr 1)), some (.inr (.inr 64)), some (.inr (.inr 557)), some (.inl (i : Int)), none, none, none] [] (557, gn, e_RF, M) o := by
  refine e_r_aload_n (pc' := 310) (by decide) dL_law__309 rfl rfl rfl ?_
  refine e_r_aload_n (pc' := 311) (by decide) dL_law__310 rfl rfl rfl ?_
  refine e_r_iload (pc' := 313) dL_law__311 rfl rfl ?_
  refine e_r_iconst (pc' := 314) dL_law__313 rfl (by decide) ?_
  refine e_r_iadd (pc' := 315) dL_law__314 rfl ?_
  rw [show e_w ((i : Int) + 1) = ((i + 1 : Nat) : Int) from (k_ix (k := 1) hL hi (by decide)).1]
  refine e_r_sld (pc' := 316) (k_ix (k := 1) hL hi (by decide)).2.1 (k_ix (k := 1) hL hi (by decide)).2.2 hb dL_law__315 rfl ?_
  rw [k_nat]
  refine e_r_aload_n (pc' := 317) (by decide) dL_law__316 rfl rfl rfl ?_
  refine e_r_callSH (av := [.inr (.inr 1), .inl (k_xi X i 1), .inr (.inr 557)]) (st := []) mhYL_town ml_RL_125 (by simp [e_cat]) rfl rfl rfl dL_law__317 (pc' := 320) rfl hh ⟨Nat.le_refl _, hg⟩ hmo ?_
  refine e_r_istore (pc' := 322) (loc' := [some (.inr (.inr 999999)), some (.inr (.inr 1)), some (.inr (.inr 64)), some (.inr (.inr 557)), some (.inl (i : Int)), some (.inl kk), none, none]) dL_law__320 rfl rfl rfl rfl ?_
  refine e_r_aload_n (pc' := 323) (by decide) dL_law__322 rfl rfl rfl ?_
  refine e_r_aload_n (pc' := 324) (by decide) dL_law__323 rfl rfl rfl ?_
  refine e_r_iload (pc' := 326) dL_law__324 rfl rfl ?_
  refine e_r_iconst (pc' := 327) dL_law__326 rfl (by decide) ?_
  refine e_r_iadd (pc' := 328) dL_law__327 rfl ?_
  rw [show e_w ((i : Int) + 1) = ((i + 1 : Nat) : Int) from (k_ix (k := 1) hL hi (by decide)).1]
  refine e_r_sld (pc' := 329) (k_ix (k := 1) hL hi (by decide)).2.1 (k_ix (k := 1) hL hi (by decide)).2.2 hb dL_law__328 rfl ?_
  rw [k_nat]
  refine e_r_callV (a := 64) (av := [.inl (k_xi X i 1)]) (st := []) mqYX11_town ml_RL_130 cl_11 rfl (Nat.le_of_ble_eq_true rfl) (by simp [e_cat]) rfl rfl rfl dL_law__329 (pc' := 332) rfl hm ⟨Nat.le_refl _, Nat.le_refl _⟩ hmo ?_
  refine e_r_istore (pc' := 334) (loc' := [some (.inr (.inr 999999)), some (.inr (.inr 1)), some (.inr (.inr 64)), some (.inr (.inr 557)), some (.inl (i : Int)), some (.inl kk), some (.inl b), none]) dL_law__332 rfl rfl rfl rfl ?_
  refine e_r_aload_n (pc' := 335) (by decide) dL_law__334 rfl rfl rfl ?_
  refine e_r_callV (a := 64) (av := []) (st := []) mqYX11_thrown ml_RL_131 cl_11 rfl (Nat.le_of_ble_eq_true rfl) (by simp) rfl rfl rfl dL_law__335 (pc' := 338) rfl c_thrown ⟨Nat.le_refl _, Nat.le_refl _⟩ hmo ?_
  refine e_r_iload (pc' := 340) dL_law__338 rfl rfl ?_
  refine e_r_icmp_eq (tgt := 345) (pc' := 343) dL_law__340 rfl rfl (fun _ => ?_) (fun q => absurd ht q)
  refine e_r_iload (pc' := 347) dL_law__345 rfl rfl ?_
  refine e_r_if_ne (tgt := 362) (pc' := 350) dL_law__347 rfl rfl (fun _ => ?_) (fun hk0 => ?_)
  · refine e_r_goto (pc' := 2729) dL_law__362 rfl ?_
    exact e_forget (m := [true, true, true, true, true, false, false, false]) k9 rfl
  · refine e_r_aload_n (pc' := 351) (by decide) dL_law__350 rfl rfl rfl ?_
    refine e_r_iconst (pc' := 352) dL_law__351 rfl (by decide) ?_
    refine e_r_lald (j9 := 0) (pc' := 353) rfl (Nat.le_of_ble_eq_true rfl) (by decide) (by decide) rfl dL_law__352 rfl ?_
    refine e_r_iload (pc' := 355) dL_law__353 rfl rfl ?_
    refine e_r_i2l (pc' := 356) dL_law__355 rfl ?_
    refine e_r_lcmp (pc' := 357) dL_law__356 rfl ?_
    refine e_r_if_eq (tgt := 362) (pc' := 360) dL_law__357 rfl rfl (fun _ => ?_) (fun q => absurd (by rw [ho hk0]; simp [e_cmp]) q)
    refine e_r_goto (pc' := 2729) dL_law__362 rfl ?_
    exact e_forget (m := [true, true, true, true, true, false, false, false]) k9 rfl
theorem lc_2 {X : e_X} {d gn g1 i : Nat} {o : e_O} {M M1 M2 : e_M} {kk b : Int} (hL : X.2.2.2.2.2.1 ≤ 4608) (hb : X.2.2.2.2.1 < (e_H0 X).size) (hi : i + 9 ≤ X.2.2.2.2.2.1) (hg : gn ≤ g1) (hmo : e_mn (557, g1, e_RF, M2) o.2) (hh : e_E X d YL_law [.inr (.inr 1), .inl (k_xi X i 1), .inr (.inr 557)] (557, gn, e_RF, M) (.inl (some (.inl kk)), (557, g1, e_RF, M1))) (hm : e_E X d YX11_law [.inr (.inr 64), .inl (k_xi X i 1)] (557, g1, e_RF, M1) (.inl (some (.inl b)), (557, g1, e_RF, M2))) (ht : M2 64 0 = kk) (ho : kk = 0 → M2 557 0 = b) (k9 : e_G X (d + 1) YL_law_ 2729 [some (.inr (.inr 999999)), some (.inr (.inr 1)), some (.inr (.inr 64)), some (.inr (.inr 557)), some (.inl (i : Int)), none, none, none] [] (557, g1, e_RF, M2) o) : e_G X (d + 1) YL_law_ 365 [some (.inr (.inr 999999)), some (.inr (.inr 1)), some (.inr (.inr 64)), some (.inr (.inr 557)), some (.inl (i : Int)), none, none, none] [] (557, gn, e_RF, M) o := by
  refine e_r_aload_n (pc' := 366) (by decide) dL_law__365 rfl rfl rfl ?_
  refine e_r_aload_n (pc' := 367) (by decide) dL_law__366 rfl rfl rfl ?_
  refine e_r_iload (pc' := 369) dL_law__367 rfl rfl ?_
  refine e_r_iconst (pc' := 370) dL_law__369 rfl (by decide) ?_
  refine e_r_iadd (pc' := 371) dL_law__370 rfl ?_
  rw [show e_w ((i : Int) + 1) = ((i + 1 : Nat) : Int) from (k_ix (k := 1) hL hi (by decide)).1]
  refine e_r_sld (pc' := 372) (k_ix (k := 1) hL hi (by decide)).2.1 (k_ix (k := 1) hL hi (by decide)).2.2 hb dL_law__371 rfl ?_
  rw [k_nat]
  refine e_r_aload_n (pc' := 373) (by decide) dL_law__372 rfl rfl rfl ?_
  refine e_r_callSH (av := [.inr (.inr 1), .inl (k_xi X i 1), .inr (.inr 557)]) (st := []) mhYL_law ml_RL_135 (by simp [e_cat]) rfl rfl rfl dL_law__373 (pc' := 376) rfl hh ⟨Nat.le_refl _, hg⟩ hmo ?_
  refine e_r_istore (pc' := 378) (loc' := [some (.inr (.inr 999999)), some (.inr (.inr 1)), some (.inr (.inr 64)), some (.inr (.inr 557)), some (.inl (i : Int)), some (.inl kk), none, none]) dL_law__376 rfl rfl rfl rfl ?_
  refine e_r_aload_n (pc' := 379) (by decide) dL_law__378 rfl rfl rfl ?_
  refine e_r_aload_n (pc' := 380) (by decide) dL_law__379 rfl rfl rfl ?_
  refine e_r_iload (pc' := 382) dL_law__380 rfl rfl ?_
  refine e_r_iconst (pc' := 383) dL_law__382 rfl (by decide) ?_
  refine e_r_iadd (pc' := 384) dL_law__383 rfl ?_
  rw [show e_w ((i : Int) + 1) = ((i + 1 : Nat) : Int) from (k_ix (k := 1) hL hi (by decide)).1]
  refine e_r_sld (pc' := 385) (k_ix (k := 1) hL hi (by decide)).2.1 (k_ix (k := 1) hL hi (by decide)).2.2 hb dL_law__384 rfl ?_
  rw [k_nat]
  refine e_r_callV (a := 64) (av := [.inl (k_xi X i 1)]) (st := []) mqYX11_law ml_RL_137 cl_11 rfl (Nat.le_of_ble_eq_true rfl) (by simp [e_cat]) rfl rfl rfl dL_law__385 (pc' := 388) rfl hm ⟨Nat.le_refl _, Nat.le_refl _⟩ hmo ?_
  refine e_r_istore (pc' := 390) (loc' := [some (.inr (.inr 999999)), some (.inr (.inr 1)), some (.inr (.inr 64)), some (.inr (.inr 557)), some (.inl (i : Int)), some (.inl kk), some (.inl b), none]) dL_law__388 rfl rfl rfl rfl ?_
  refine e_r_aload_n (pc' := 391) (by decide) dL_law__390 rfl rfl rfl ?_
  refine e_r_callV (a := 64) (av := []) (st := []) mqYX11_thrown ml_RL_131 cl_11 rfl (Nat.le_of_ble_eq_true rfl) (by simp) rfl rfl rfl dL_law__391 (pc' := 394) rfl c_thrown ⟨Nat.le_refl _, Nat.le_refl _⟩ hmo ?_
  refine e_r_iload (pc' := 396) dL_law__394 rfl rfl ?_
  refine e_r_icmp_eq (tgt := 401) (pc' := 399) dL_law__396 rfl rfl (fun _ => ?_) (fun q => absurd ht q)
  refine e_r_iload (pc' := 403) dL_law__401 rfl rfl ?_
  refine e_r_if_ne (tgt := 418) (pc' := 406) dL_law__403 rfl rfl (fun _ => ?_) (fun hk0 => ?_)
  · refine e_r_goto (pc' := 2729) dL_law__418 rfl ?_
    exact e_forget (m := [true, true, true, true, true, false, false, false]) k9 rfl
  · refine e_r_aload_n (pc' := 407) (by decide) dL_law__406 rfl rfl rfl ?_
    refine e_r_iconst (pc' := 408) dL_law__407 rfl (by decide) ?_
    refine e_r_lald (j9 := 0) (pc' := 409) rfl (Nat.le_of_ble_eq_true rfl) (by decide) (by decide) rfl dL_law__408 rfl ?_
    refine e_r_iload (pc' := 411) dL_law__409 rfl rfl ?_
    refine e_r_i2l (pc' := 412) dL_law__411 rfl ?_
    refine e_r_lcmp (pc' := 413) dL_law__412 rfl ?_
    refine e_r_if_eq (tgt := 418) (pc' := 416) dL_law__413 rfl rfl (fun _ => ?_) (fun q => absurd (by rw [ho hk0]; simp [e_cmp]) q)
    refine e_r_goto (pc' := 2729) dL_law__418 rfl ?_
    exact e_forget (m := [true, true, true, true, true, false, false, false]) k9 rfl
theorem lc_3 {X : e_X} {d gn g1 i : Nat} {o : e_O} {M M1 M2 : e_M} {kk b : Int} (hL : X.2.2.2.2.2.1 ≤ 4608) (hb : X.2.2.2.2.1 < (e_H0 X).size) (hi : i + 9 ≤ X.2.2.2.2.2.1) (hg : gn ≤ g1) (hmo : e_mn (557, g1, e_RF, M2) o.2) (hh : e_E X d YL_work [.inr (.inr 1), .inl (k_xi X i 1), .inr (.inr 557)] (557, gn, e_RF, M) (.inl (some (.inl kk)), (557, g1, e_RF, M1))) (hm : e_E X d YX11_work [.inr (.inr 64), .inl (k_xi X i 1)] (557, g1, e_RF, M1) (.inl (some (.inl b)), (557, g1, e_RF, M2))) (ht : M2 64 0 = kk) (ho : kk = 0 → M2 557 0 = b) (k9 : e_G X (d + 1) YL_law_ 2729 [some (.inr (.inr 999999)), some (.inr (.inr 1)), some (.inr (.inr 64)), some (.inr (.inr 557)), some (.inl (i : Int)), none, none, none] [] (557, g1, e_RF, M2) o) : e_G X (d + 1) YL_law_ 421 [some (.inr (.inr 999999)), some (.inr (.inr 1)), some (.inr (.inr 64)), some (.inr (.inr 557)), some (.inl (i : Int)), none, none, none] [] (557, gn, e_RF, M) o := by
  refine e_r_aload_n (pc' := 422) (by decide) dL_law__421 rfl rfl rfl ?_
  refine e_r_aload_n (pc' := 423) (by decide) dL_law__422 rfl rfl rfl ?_
  refine e_r_iload (pc' := 425) dL_law__423 rfl rfl ?_
  refine e_r_iconst (pc' := 426) dL_law__425 rfl (by decide) ?_
  refine e_r_iadd (pc' := 427) dL_law__426 rfl ?_
  rw [show e_w ((i : Int) + 1) = ((i + 1 : Nat) : Int) from (k_ix (k := 1) hL hi (by decide)).1]
  refine e_r_sld (pc' := 428) (k_ix (k := 1) hL hi (by decide)).2.1 (k_ix (k := 1) hL hi (by decide)).2.2 hb dL_law__427 rfl ?_
  rw [k_nat]
  refine e_r_aload_n (pc' := 429) (by decide) dL_law__428 rfl rfl rfl ?_
  refine e_r_callSH (av := [.inr (.inr 1), .inl (k_xi X i 1), .inr (.inr 557)]) (st := []) mhYL_work ml_RL_138 (by simp [e_cat]) rfl rfl rfl dL_law__429 (pc' := 432) rfl hh ⟨Nat.le_refl _, hg⟩ hmo ?_
  refine e_r_istore (pc' := 434) (loc' := [some (.inr (.inr 999999)), some (.inr (.inr 1)), some (.inr (.inr 64)), some (.inr (.inr 557)), some (.inl (i : Int)), some (.inl kk), none, none]) dL_law__432 rfl rfl rfl rfl ?_
  refine e_r_aload_n (pc' := 435) (by decide) dL_law__434 rfl rfl rfl ?_
  refine e_r_aload_n (pc' := 436) (by decide) dL_law__435 rfl rfl rfl ?_
  refine e_r_iload (pc' := 438) dL_law__436 rfl rfl ?_
  refine e_r_iconst (pc' := 439) dL_law__438 rfl (by decide) ?_
  refine e_r_iadd (pc' := 440) dL_law__439 rfl ?_
  rw [show e_w ((i : Int) + 1) = ((i + 1 : Nat) : Int) from (k_ix (k := 1) hL hi (by decide)).1]
  refine e_r_sld (pc' := 441) (k_ix (k := 1) hL hi (by decide)).2.1 (k_ix (k := 1) hL hi (by decide)).2.2 hb dL_law__440 rfl ?_
  rw [k_nat]
  refine e_r_callV (a := 64) (av := [.inl (k_xi X i 1)]) (st := []) mqYX11_work ml_RL_140 cl_11 rfl (Nat.le_of_ble_eq_true rfl) (by simp [e_cat]) rfl rfl rfl dL_law__441 (pc' := 444) rfl hm ⟨Nat.le_refl _, Nat.le_refl _⟩ hmo ?_
  refine e_r_istore (pc' := 446) (loc' := [some (.inr (.inr 999999)), some (.inr (.inr 1)), some (.inr (.inr 64)), some (.inr (.inr 557)), some (.inl (i : Int)), some (.inl kk), some (.inl b), none]) dL_law__444 rfl rfl rfl rfl ?_
  refine e_r_aload_n (pc' := 447) (by decide) dL_law__446 rfl rfl rfl ?_
  refine e_r_callV (a := 64) (av := []) (st := []) mqYX11_thrown ml_RL_131 cl_11 rfl (Nat.le_of_ble_eq_true rfl) (by simp) rfl rfl rfl dL_law__447 (pc' := 450) rfl c_thrown ⟨Nat.le_refl _, Nat.le_refl _⟩ hmo ?_
  refine e_r_iload (pc' := 452) dL_law__450 rfl rfl ?_
  refine e_r_icmp_eq (tgt := 457) (pc' := 455) dL_law__452 rfl rfl (fun _ => ?_) (fun q => absurd ht q)
  refine e_r_iload (pc' := 459) dL_law__457 rfl rfl ?_
  refine e_r_if_ne (tgt := 474) (pc' := 462) dL_law__459 rfl rfl (fun _ => ?_) (fun hk0 => ?_)
  · refine e_r_goto (pc' := 2729) dL_law__474 rfl ?_
    exact e_forget (m := [true, true, true, true, true, false, false, false]) k9 rfl
  · refine e_r_aload_n (pc' := 463) (by decide) dL_law__462 rfl rfl rfl ?_
    refine e_r_iconst (pc' := 464) dL_law__463 rfl (by decide) ?_
    refine e_r_lald (j9 := 0) (pc' := 465) rfl (Nat.le_of_ble_eq_true rfl) (by decide) (by decide) rfl dL_law__464 rfl ?_
    refine e_r_iload (pc' := 467) dL_law__465 rfl rfl ?_
    refine e_r_i2l (pc' := 468) dL_law__467 rfl ?_
    refine e_r_lcmp (pc' := 469) dL_law__468 rfl ?_
    refine e_r_if_eq (tgt := 474) (pc' := 472) dL_law__469 rfl rfl (fun _ => ?_) (fun q => absurd (by rw [ho hk0]; simp [e_cmp]) q)
    refine e_r_goto (pc' := 2729) dL_law__474 rfl ?_
    exact e_forget (m := [true, true, true, true, true, false, false, false]) k9 rfl
theorem lc_4 {X : e_X} {d gn g1 i : Nat} {o : e_O} {M M1 M2 : e_M} {kk b : Int} (hL : X.2.2.2.2.2.1 ≤ 4608) (hb : X.2.2.2.2.1 < (e_H0 X).size) (hi : i + 9 ≤ X.2.2.2.2.2.1) (hg : gn ≤ g1) (hmo : e_mn (557, g1, e_RF, M2) o.2) (hh : e_E X d YL_book [.inr (.inr 1), .inl (k_xi X i 1), .inr (.inr 557)] (557, gn, e_RF, M) (.inl (some (.inl kk)), (557, g1, e_RF, M1))) (hm : e_E X d YX11_book [.inr (.inr 64), .inl (k_xi X i 1)] (557, g1, e_RF, M1) (.inl (some (.inl b)), (557, g1, e_RF, M2))) (ht : M2 64 0 = kk) (ho : kk = 0 → M2 557 0 = b) (k9 : e_G X (d + 1) YL_law_ 2729 [some (.inr (.inr 999999)), some (.inr (.inr 1)), some (.inr (.inr 64)), some (.inr (.inr 557)), some (.inl (i : Int)), none, none, none] [] (557, g1, e_RF, M2) o) : e_G X (d + 1) YL_law_ 477 [some (.inr (.inr 999999)), some (.inr (.inr 1)), some (.inr (.inr 64)), some (.inr (.inr 557)), some (.inl (i : Int)), none, none, none] [] (557, gn, e_RF, M) o := by
  refine e_r_aload_n (pc' := 478) (by decide) dL_law__477 rfl rfl rfl ?_
  refine e_r_aload_n (pc' := 479) (by decide) dL_law__478 rfl rfl rfl ?_
  refine e_r_iload (pc' := 481) dL_law__479 rfl rfl ?_
  refine e_r_iconst (pc' := 482) dL_law__481 rfl (by decide) ?_
  refine e_r_iadd (pc' := 483) dL_law__482 rfl ?_
  rw [show e_w ((i : Int) + 1) = ((i + 1 : Nat) : Int) from (k_ix (k := 1) hL hi (by decide)).1]
  refine e_r_sld (pc' := 484) (k_ix (k := 1) hL hi (by decide)).2.1 (k_ix (k := 1) hL hi (by decide)).2.2 hb dL_law__483 rfl ?_
  rw [k_nat]
  refine e_r_aload_n (pc' := 485) (by decide) dL_law__484 rfl rfl rfl ?_
  refine e_r_callSH (av := [.inr (.inr 1), .inl (k_xi X i 1), .inr (.inr 557)]) (st := []) mhYL_book ml_RL_141 (by simp [e_cat]) rfl rfl rfl dL_law__485 (pc' := 488) rfl hh ⟨Nat.le_refl _, hg⟩ hmo ?_
  refine e_r_istore (pc' := 490) (loc' := [some (.inr (.inr 999999)), some (.inr (.inr 1)), some (.inr (.inr 64)), some (.inr (.inr 557)), some (.inl (i : Int)), some (.inl kk), none, none]) dL_law__488 rfl rfl rfl rfl ?_
  refine e_r_aload_n (pc' := 491) (by decide) dL_law__490 rfl rfl rfl ?_
  refine e_r_aload_n (pc' := 492) (by decide) dL_law__491 rfl rfl rfl ?_
  refine e_r_iload (pc' := 494) dL_law__492 rfl rfl ?_
  refine e_r_iconst (pc' := 495) dL_law__494 rfl (by decide) ?_
  refine e_r_iadd (pc' := 496) dL_law__495 rfl ?_
  rw [show e_w ((i : Int) + 1) = ((i + 1 : Nat) : Int) from (k_ix (k := 1) hL hi (by decide)).1]
  refine e_r_sld (pc' := 497) (k_ix (k := 1) hL hi (by decide)).2.1 (k_ix (k := 1) hL hi (by decide)).2.2 hb dL_law__496 rfl ?_
  rw [k_nat]
  refine e_r_callV (a := 64) (av := [.inl (k_xi X i 1)]) (st := []) mqYX11_book ml_RL_143 cl_11 rfl (Nat.le_of_ble_eq_true rfl) (by simp [e_cat]) rfl rfl rfl dL_law__497 (pc' := 500) rfl hm ⟨Nat.le_refl _, Nat.le_refl _⟩ hmo ?_
  refine e_r_istore (pc' := 502) (loc' := [some (.inr (.inr 999999)), some (.inr (.inr 1)), some (.inr (.inr 64)), some (.inr (.inr 557)), some (.inl (i : Int)), some (.inl kk), some (.inl b), none]) dL_law__500 rfl rfl rfl rfl ?_
  refine e_r_aload_n (pc' := 503) (by decide) dL_law__502 rfl rfl rfl ?_
  refine e_r_callV (a := 64) (av := []) (st := []) mqYX11_thrown ml_RL_131 cl_11 rfl (Nat.le_of_ble_eq_true rfl) (by simp) rfl rfl rfl dL_law__503 (pc' := 506) rfl c_thrown ⟨Nat.le_refl _, Nat.le_refl _⟩ hmo ?_
  refine e_r_iload (pc' := 508) dL_law__506 rfl rfl ?_
  refine e_r_icmp_eq (tgt := 513) (pc' := 511) dL_law__508 rfl rfl (fun _ => ?_) (fun q => absurd ht q)
  refine e_r_iload (pc' := 515) dL_law__513 rfl rfl ?_
  refine e_r_if_ne (tgt := 530) (pc' := 518) dL_law__515 rfl rfl (fun _ => ?_) (fun hk0 => ?_)
  · refine e_r_goto (pc' := 2729) dL_law__530 rfl ?_
    exact e_forget (m := [true, true, true, true, true, false, false, false]) k9 rfl
  · refine e_r_aload_n (pc' := 519) (by decide) dL_law__518 rfl rfl rfl ?_
    refine e_r_iconst (pc' := 520) dL_law__519 rfl (by decide) ?_
    refine e_r_lald (j9 := 0) (pc' := 521) rfl (Nat.le_of_ble_eq_true rfl) (by decide) (by decide) rfl dL_law__520 rfl ?_
    refine e_r_iload (pc' := 523) dL_law__521 rfl rfl ?_
    refine e_r_i2l (pc' := 524) dL_law__523 rfl ?_
    refine e_r_lcmp (pc' := 525) dL_law__524 rfl ?_
    refine e_r_if_eq (tgt := 530) (pc' := 528) dL_law__525 rfl rfl (fun _ => ?_) (fun q => absurd (by rw [ho hk0]; simp [e_cmp]) q)
    refine e_r_goto (pc' := 2729) dL_law__530 rfl ?_
    exact e_forget (m := [true, true, true, true, true, false, false, false]) k9 rfl
theorem lc_5 {X : e_X} {d gn g1 i : Nat} {o : e_O} {M M1 M2 : e_M} {v : Int} (hL : X.2.2.2.2.2.1 ≤ 4608) (hb : X.2.2.2.2.1 < (e_H0 X).size) (hi : i + 9 ≤ X.2.2.2.2.2.1) (hg : gn ≤ g1) (hmo : e_mn (557, g1, e_RF, M2) o.2) (hx : e_E X d YX10_fault [.inr (.inr 1)] (557, gn, e_RF, M) (.inl (some (.inl v)), (557, g1, e_RF, M1))) (hm : e_E X d YX11_fault [.inr (.inr 64)] (557, g1, e_RF, M1) (.inl (some (.inl v)), (557, g1, e_RF, M2))) (k9 : e_G X (d + 1) YL_law_ 2729 [some (.inr (.inr 999999)), some (.inr (.inr 1)), some (.inr (.inr 64)), some (.inr (.inr 557)), some (.inl (i : Int)), none, none, none] [] (557, g1, e_RF, M2) o) : e_G X (d + 1) YL_law_ 533 [some (.inr (.inr 999999)), some (.inr (.inr 1)), some (.inr (.inr 64)), some (.inr (.inr 557)), some (.inl (i : Int)), none, none, none] [] (557, gn, e_RF, M) o := by
  refine e_r_aload_n (pc' := 534) (by decide) dL_law__533 rfl rfl rfl ?_
  refine e_r_callV (a := 1) (av := []) (st := []) mqYX10_fault ml_RL_144 cl_10 rfl (Nat.le_of_ble_eq_true rfl) (by simp [e_cat]) rfl rfl rfl dL_law__534 (pc' := 537) rfl hx ⟨Nat.le_refl _, hg⟩ hmo ?_
  refine e_r_aload_n (pc' := 538) (by decide) dL_law__537 rfl rfl rfl ?_
  refine e_r_callV (a := 64) (av := []) (st := [.inl v]) mqYX11_fault ml_RL_147 cl_11 rfl (Nat.le_of_ble_eq_true rfl) (by simp [e_cat]) rfl rfl rfl dL_law__538 (pc' := 541) rfl hm ⟨Nat.le_refl _, Nat.le_refl _⟩ hmo ?_
  refine e_r_icmp_eq (tgt := 2729) (pc' := 544) dL_law__541 rfl rfl (fun _ => ?_) (fun q => absurd rfl q)
  exact e_forget (m := [true, true, true, true, true, false, false, false]) k9 rfl
theorem lc_6 {X : e_X} {d gn g1 i : Nat} {o : e_O} {M M1 M2 : e_M} {v : Int} (hL : X.2.2.2.2.2.1 ≤ 4608) (hb : X.2.2.2.2.1 < (e_H0 X).size) (hi : i + 9 ≤ X.2.2.2.2.2.1) (hg : gn ≤ g1) (hmo : e_mn (557, g1, e_RF, M2) o.2) (hx : e_E X d YX10_undo [.inr (.inr 1)] (557, gn, e_RF, M) (.inl (some (.inl v)), (557, g1, e_RF, M1))) (hm : e_E X d YX11_undo [.inr (.inr 64)] (557, g1, e_RF, M1) (.inl (some (.inl v)), (557, g1, e_RF, M2))) (k9 : e_G X (d + 1) YL_law_ 2729 [some (.inr (.inr 999999)), some (.inr (.inr 1)), some (.inr (.inr 64)), some (.inr (.inr 557)), some (.inl (i : Int)), none, none, none] [] (557, g1, e_RF, M2) o) : e_G X (d + 1) YL_law_ 546 [some (.inr (.inr 999999)), some (.inr (.inr 1)), some (.inr (.inr 64)), some (.inr (.inr 557)), some (.inl (i : Int)), none, none, none] [] (557, gn, e_RF, M) o := by
  refine e_r_aload_n (pc' := 547) (by decide) dL_law__546 rfl rfl rfl ?_
  refine e_r_callV (a := 1) (av := []) (st := []) mqYX10_undo ml_RL_148 cl_10 rfl (Nat.le_of_ble_eq_true rfl) (by simp [e_cat]) rfl rfl rfl dL_law__547 (pc' := 550) rfl hx ⟨Nat.le_refl _, hg⟩ hmo ?_
  refine e_r_aload_n (pc' := 551) (by decide) dL_law__550 rfl rfl rfl ?_
  refine e_r_callV (a := 64) (av := []) (st := [.inl v]) mqYX11_undo ml_RL_151 cl_11 rfl (Nat.le_of_ble_eq_true rfl) (by simp [e_cat]) rfl rfl rfl dL_law__551 (pc' := 554) rfl hm ⟨Nat.le_refl _, Nat.le_refl _⟩ hmo ?_
  refine e_r_icmp_eq (tgt := 2729) (pc' := 557) dL_law__554 rfl rfl (fun _ => ?_) (fun q => absurd rfl q)
  exact e_forget (m := [true, true, true, true, true, false, false, false]) k9 rfl
theorem lc_7 {X : e_X} {d gn g1 i : Nat} {o : e_O} {M M1 M2 : e_M} {kk b : Int} (hL : X.2.2.2.2.2.1 ≤ 4608) (hb : X.2.2.2.2.1 < (e_H0 X).size) (hi : i + 9 ≤ X.2.2.2.2.2.1) (hg : gn ≤ g1) (hmo : e_mn (557, g1, e_RF, M2) o.2) (hh : e_E X d YL_told [.inr (.inr 1), .inl (k_xi X i 1), .inr (.inr 557)] (557, gn, e_RF, M) (.inl (some (.inl kk)), (557, g1, e_RF, M1))) (hm : e_E X d YX11_told [.inr (.inr 64), .inl (k_xi X i 1)] (557, g1, e_RF, M1) (.inl (some (.inl b)), (557, g1, e_RF, M2))) (ht : M2 64 0 = kk) (ho : kk = 0 → M2 557 0 = b) (k9 : e_G X (d + 1) YL_law_ 2729 [some (.inr (.inr 999999)), some (.inr (.inr 1)), some (.inr (.inr 64)), some (.inr (.inr 557)), some (.inl (i : Int)), none, none, none] [] (557, g1, e_RF, M2) o) : e_G X (d + 1) YL_law_ 559 [some (.inr (.inr 999999)), some (.inr (.inr 1)), some (.inr (.inr 64)), some (.inr (.inr 557)), some (.inl (i : Int)), none, none, none] [] (557, gn, e_RF, M) o := by
  refine e_r_aload_n (pc' := 560) (by decide) dL_law__559 rfl rfl rfl ?_
  refine e_r_aload_n (pc' := 561) (by decide) dL_law__560 rfl rfl rfl ?_
  refine e_r_iload (pc' := 563) dL_law__561 rfl rfl ?_
  refine e_r_iconst (pc' := 564) dL_law__563 rfl (by decide) ?_
  refine e_r_iadd (pc' := 565) dL_law__564 rfl ?_
  rw [show e_w ((i : Int) + 1) = ((i + 1 : Nat) : Int) from (k_ix (k := 1) hL hi (by decide)).1]
  refine e_r_sld (pc' := 566) (k_ix (k := 1) hL hi (by decide)).2.1 (k_ix (k := 1) hL hi (by decide)).2.2 hb dL_law__565 rfl ?_
  rw [k_nat]
  refine e_r_aload_n (pc' := 567) (by decide) dL_law__566 rfl rfl rfl ?_
  refine e_r_callSH (av := [.inr (.inr 1), .inl (k_xi X i 1), .inr (.inr 557)]) (st := []) mhYL_told ml_RL_152 (by simp [e_cat]) rfl rfl rfl dL_law__567 (pc' := 570) rfl hh ⟨Nat.le_refl _, hg⟩ hmo ?_
  refine e_r_istore (pc' := 572) (loc' := [some (.inr (.inr 999999)), some (.inr (.inr 1)), some (.inr (.inr 64)), some (.inr (.inr 557)), some (.inl (i : Int)), some (.inl kk), none, none]) dL_law__570 rfl rfl rfl rfl ?_
  refine e_r_aload_n (pc' := 573) (by decide) dL_law__572 rfl rfl rfl ?_
  refine e_r_aload_n (pc' := 574) (by decide) dL_law__573 rfl rfl rfl ?_
  refine e_r_iload (pc' := 576) dL_law__574 rfl rfl ?_
  refine e_r_iconst (pc' := 577) dL_law__576 rfl (by decide) ?_
  refine e_r_iadd (pc' := 578) dL_law__577 rfl ?_
  rw [show e_w ((i : Int) + 1) = ((i + 1 : Nat) : Int) from (k_ix (k := 1) hL hi (by decide)).1]
  refine e_r_sld (pc' := 579) (k_ix (k := 1) hL hi (by decide)).2.1 (k_ix (k := 1) hL hi (by decide)).2.2 hb dL_law__578 rfl ?_
  rw [k_nat]
  refine e_r_callV (a := 64) (av := [.inl (k_xi X i 1)]) (st := []) mqYX11_told ml_RL_154 cl_11 rfl (Nat.le_of_ble_eq_true rfl) (by simp [e_cat]) rfl rfl rfl dL_law__579 (pc' := 582) rfl hm ⟨Nat.le_refl _, Nat.le_refl _⟩ hmo ?_
  refine e_r_istore (pc' := 584) (loc' := [some (.inr (.inr 999999)), some (.inr (.inr 1)), some (.inr (.inr 64)), some (.inr (.inr 557)), some (.inl (i : Int)), some (.inl kk), some (.inl b), none]) dL_law__582 rfl rfl rfl rfl ?_
  refine e_r_aload_n (pc' := 585) (by decide) dL_law__584 rfl rfl rfl ?_
  refine e_r_callV (a := 64) (av := []) (st := []) mqYX11_thrown ml_RL_131 cl_11 rfl (Nat.le_of_ble_eq_true rfl) (by simp) rfl rfl rfl dL_law__585 (pc' := 588) rfl c_thrown ⟨Nat.le_refl _, Nat.le_refl _⟩ hmo ?_
  refine e_r_iload (pc' := 590) dL_law__588 rfl rfl ?_
  refine e_r_icmp_eq (tgt := 595) (pc' := 593) dL_law__590 rfl rfl (fun _ => ?_) (fun q => absurd ht q)
  refine e_r_iload (pc' := 597) dL_law__595 rfl rfl ?_
  refine e_r_if_ne (tgt := 612) (pc' := 600) dL_law__597 rfl rfl (fun _ => ?_) (fun hk0 => ?_)
  · refine e_r_goto (pc' := 2729) dL_law__612 rfl ?_
    exact e_forget (m := [true, true, true, true, true, false, false, false]) k9 rfl
  · refine e_r_aload_n (pc' := 601) (by decide) dL_law__600 rfl rfl rfl ?_
    refine e_r_iconst (pc' := 602) dL_law__601 rfl (by decide) ?_
    refine e_r_lald (j9 := 0) (pc' := 603) rfl (Nat.le_of_ble_eq_true rfl) (by decide) (by decide) rfl dL_law__602 rfl ?_
    refine e_r_iload (pc' := 605) dL_law__603 rfl rfl ?_
    refine e_r_i2l (pc' := 606) dL_law__605 rfl ?_
    refine e_r_lcmp (pc' := 607) dL_law__606 rfl ?_
    refine e_r_if_eq (tgt := 612) (pc' := 610) dL_law__607 rfl rfl (fun _ => ?_) (fun q => absurd (by rw [ho hk0]; simp [e_cmp]) q)
    refine e_r_goto (pc' := 2729) dL_law__612 rfl ?_
    exact e_forget (m := [true, true, true, true, true, false, false, false]) k9 rfl
theorem lc_8 {X : e_X} {d gn g1 i : Nat} {o : e_O} {M M1 M2 : e_M} {kk b : Int} (hL : X.2.2.2.2.2.1 ≤ 4608) (hb : X.2.2.2.2.1 < (e_H0 X).size) (hi : i + 9 ≤ X.2.2.2.2.2.1) (hg : gn ≤ g1) (hmo : e_mn (557, g1, e_RF, M2) o.2) (hh : e_E X d YL_person [.inr (.inr 1), .inl (k_xi X i 1), .inl (k_xi X i 2), .inr (.inr 557)] (557, gn, e_RF, M) (.inl (some (.inl kk)), (557, g1, e_RF, M1))) (hm : e_E X d YX11_person [.inr (.inr 64), .inl (k_xi X i 1), .inl (k_xi X i 2)] (557, g1, e_RF, M1) (.inl (some (.inl b)), (557, g1, e_RF, M2))) (ht : M2 64 0 = kk) (ho : kk = 0 → M2 557 0 = b) (k9 : e_G X (d + 1) YL_law_ 2729 [some (.inr (.inr 999999)), some (.inr (.inr 1)), some (.inr (.inr 64)), some (.inr (.inr 557)), some (.inl (i : Int)), none, none, none] [] (557, g1, e_RF, M2) o) : e_G X (d + 1) YL_law_ 615 [some (.inr (.inr 999999)), some (.inr (.inr 1)), some (.inr (.inr 64)), some (.inr (.inr 557)), some (.inl (i : Int)), none, none, none] [] (557, gn, e_RF, M) o := by
  refine e_r_aload_n (pc' := 616) (by decide) dL_law__615 rfl rfl rfl ?_
  refine e_r_aload_n (pc' := 617) (by decide) dL_law__616 rfl rfl rfl ?_
  refine e_r_iload (pc' := 619) dL_law__617 rfl rfl ?_
  refine e_r_iconst (pc' := 620) dL_law__619 rfl (by decide) ?_
  refine e_r_iadd (pc' := 621) dL_law__620 rfl ?_
  rw [show e_w ((i : Int) + 1) = ((i + 1 : Nat) : Int) from (k_ix (k := 1) hL hi (by decide)).1]
  refine e_r_sld (pc' := 622) (k_ix (k := 1) hL hi (by decide)).2.1 (k_ix (k := 1) hL hi (by decide)).2.2 hb dL_law__621 rfl ?_
  rw [k_nat]
  refine e_r_aload_n (pc' := 623) (by decide) dL_law__622 rfl rfl rfl ?_
  refine e_r_iload (pc' := 625) dL_law__623 rfl rfl ?_
  refine e_r_iconst (pc' := 626) dL_law__625 rfl (by decide) ?_
  refine e_r_iadd (pc' := 627) dL_law__626 rfl ?_
  rw [show e_w ((i : Int) + 2) = ((i + 2 : Nat) : Int) from (k_ix (k := 2) hL hi (by decide)).1]
  refine e_r_sld (pc' := 628) (k_ix (k := 2) hL hi (by decide)).2.1 (k_ix (k := 2) hL hi (by decide)).2.2 hb dL_law__627 rfl ?_
  rw [k_nat]
  refine e_r_aload_n (pc' := 629) (by decide) dL_law__628 rfl rfl rfl ?_
  refine e_r_callSH (av := [.inr (.inr 1), .inl (k_xi X i 1), .inl (k_xi X i 2), .inr (.inr 557)]) (st := []) mhYL_person ml_RL_155 (by simp [e_cat]) rfl rfl rfl dL_law__629 (pc' := 632) rfl hh ⟨Nat.le_refl _, hg⟩ hmo ?_
  refine e_r_istore (pc' := 634) (loc' := [some (.inr (.inr 999999)), some (.inr (.inr 1)), some (.inr (.inr 64)), some (.inr (.inr 557)), some (.inl (i : Int)), some (.inl kk), none, none]) dL_law__632 rfl rfl rfl rfl ?_
  refine e_r_aload_n (pc' := 635) (by decide) dL_law__634 rfl rfl rfl ?_
  refine e_r_aload_n (pc' := 636) (by decide) dL_law__635 rfl rfl rfl ?_
  refine e_r_iload (pc' := 638) dL_law__636 rfl rfl ?_
  refine e_r_iconst (pc' := 639) dL_law__638 rfl (by decide) ?_
  refine e_r_iadd (pc' := 640) dL_law__639 rfl ?_
  rw [show e_w ((i : Int) + 1) = ((i + 1 : Nat) : Int) from (k_ix (k := 1) hL hi (by decide)).1]
  refine e_r_sld (pc' := 641) (k_ix (k := 1) hL hi (by decide)).2.1 (k_ix (k := 1) hL hi (by decide)).2.2 hb dL_law__640 rfl ?_
  rw [k_nat]
  refine e_r_aload_n (pc' := 642) (by decide) dL_law__641 rfl rfl rfl ?_
  refine e_r_iload (pc' := 644) dL_law__642 rfl rfl ?_
  refine e_r_iconst (pc' := 645) dL_law__644 rfl (by decide) ?_
  refine e_r_iadd (pc' := 646) dL_law__645 rfl ?_
  rw [show e_w ((i : Int) + 2) = ((i + 2 : Nat) : Int) from (k_ix (k := 2) hL hi (by decide)).1]
  refine e_r_sld (pc' := 647) (k_ix (k := 2) hL hi (by decide)).2.1 (k_ix (k := 2) hL hi (by decide)).2.2 hb dL_law__646 rfl ?_
  rw [k_nat]
  refine e_r_callV (a := 64) (av := [.inl (k_xi X i 1), .inl (k_xi X i 2)]) (st := []) mqYX11_person ml_RL_158 cl_11 rfl (Nat.le_of_ble_eq_true rfl) (by simp [e_cat]) rfl rfl rfl dL_law__647 (pc' := 650) rfl hm ⟨Nat.le_refl _, Nat.le_refl _⟩ hmo ?_
  refine e_r_istore (pc' := 652) (loc' := [some (.inr (.inr 999999)), some (.inr (.inr 1)), some (.inr (.inr 64)), some (.inr (.inr 557)), some (.inl (i : Int)), some (.inl kk), some (.inl b), none]) dL_law__650 rfl rfl rfl rfl ?_
  refine e_r_aload_n (pc' := 653) (by decide) dL_law__652 rfl rfl rfl ?_
  refine e_r_callV (a := 64) (av := []) (st := []) mqYX11_thrown ml_RL_131 cl_11 rfl (Nat.le_of_ble_eq_true rfl) (by simp) rfl rfl rfl dL_law__653 (pc' := 656) rfl c_thrown ⟨Nat.le_refl _, Nat.le_refl _⟩ hmo ?_
  refine e_r_iload (pc' := 658) dL_law__656 rfl rfl ?_
  refine e_r_icmp_eq (tgt := 663) (pc' := 661) dL_law__658 rfl rfl (fun _ => ?_) (fun q => absurd ht q)
  refine e_r_iload (pc' := 665) dL_law__663 rfl rfl ?_
  refine e_r_if_ne (tgt := 680) (pc' := 668) dL_law__665 rfl rfl (fun _ => ?_) (fun hk0 => ?_)
  · refine e_r_goto (pc' := 2729) dL_law__680 rfl ?_
    exact e_forget (m := [true, true, true, true, true, false, false, false]) k9 rfl
  · refine e_r_aload_n (pc' := 669) (by decide) dL_law__668 rfl rfl rfl ?_
    refine e_r_iconst (pc' := 670) dL_law__669 rfl (by decide) ?_
    refine e_r_lald (j9 := 0) (pc' := 671) rfl (Nat.le_of_ble_eq_true rfl) (by decide) (by decide) rfl dL_law__670 rfl ?_
    refine e_r_iload (pc' := 673) dL_law__671 rfl rfl ?_
    refine e_r_i2l (pc' := 674) dL_law__673 rfl ?_
    refine e_r_lcmp (pc' := 675) dL_law__674 rfl ?_
    refine e_r_if_eq (tgt := 680) (pc' := 678) dL_law__675 rfl rfl (fun _ => ?_) (fun q => absurd (by rw [ho hk0]; simp [e_cmp]) q)
    refine e_r_goto (pc' := 2729) dL_law__680 rfl ?_
    exact e_forget (m := [true, true, true, true, true, false, false, false]) k9 rfl
theorem lc_9 {X : e_X} {d gn g1 i : Nat} {o : e_O} {M M1 M2 : e_M} {kk b : Int} (hL : X.2.2.2.2.2.1 ≤ 4608) (hb : X.2.2.2.2.1 < (e_H0 X).size) (hi : i + 9 ≤ X.2.2.2.2.2.1) (hg : gn ≤ g1) (hmo : e_mn (557, g1, e_RF, M2) o.2) (hh : e_E X d YL_duty [.inr (.inr 1), .inl (k_xi X i 1), .inl (k_xi X i 2), .inr (.inr 557)] (557, gn, e_RF, M) (.inl (some (.inl kk)), (557, g1, e_RF, M1))) (hm : e_E X d YX11_duty [.inr (.inr 64), .inl (k_xi X i 1), .inl (k_xi X i 2)] (557, g1, e_RF, M1) (.inl (some (.inl b)), (557, g1, e_RF, M2))) (ht : M2 64 0 = kk) (ho : kk = 0 → M2 557 0 = b) (k9 : e_G X (d + 1) YL_law_ 2729 [some (.inr (.inr 999999)), some (.inr (.inr 1)), some (.inr (.inr 64)), some (.inr (.inr 557)), some (.inl (i : Int)), none, none, none] [] (557, g1, e_RF, M2) o) : e_G X (d + 1) YL_law_ 683 [some (.inr (.inr 999999)), some (.inr (.inr 1)), some (.inr (.inr 64)), some (.inr (.inr 557)), some (.inl (i : Int)), none, none, none] [] (557, gn, e_RF, M) o := by
  refine e_r_aload_n (pc' := 684) (by decide) dL_law__683 rfl rfl rfl ?_
  refine e_r_aload_n (pc' := 685) (by decide) dL_law__684 rfl rfl rfl ?_
  refine e_r_iload (pc' := 687) dL_law__685 rfl rfl ?_
  refine e_r_iconst (pc' := 688) dL_law__687 rfl (by decide) ?_
  refine e_r_iadd (pc' := 689) dL_law__688 rfl ?_
  rw [show e_w ((i : Int) + 1) = ((i + 1 : Nat) : Int) from (k_ix (k := 1) hL hi (by decide)).1]
  refine e_r_sld (pc' := 690) (k_ix (k := 1) hL hi (by decide)).2.1 (k_ix (k := 1) hL hi (by decide)).2.2 hb dL_law__689 rfl ?_
  rw [k_nat]
  refine e_r_aload_n (pc' := 691) (by decide) dL_law__690 rfl rfl rfl ?_
  refine e_r_iload (pc' := 693) dL_law__691 rfl rfl ?_
  refine e_r_iconst (pc' := 694) dL_law__693 rfl (by decide) ?_
  refine e_r_iadd (pc' := 695) dL_law__694 rfl ?_
  rw [show e_w ((i : Int) + 2) = ((i + 2 : Nat) : Int) from (k_ix (k := 2) hL hi (by decide)).1]
  refine e_r_sld (pc' := 696) (k_ix (k := 2) hL hi (by decide)).2.1 (k_ix (k := 2) hL hi (by decide)).2.2 hb dL_law__695 rfl ?_
  rw [k_nat]
  refine e_r_aload_n (pc' := 697) (by decide) dL_law__696 rfl rfl rfl ?_
  refine e_r_callSH (av := [.inr (.inr 1), .inl (k_xi X i 1), .inl (k_xi X i 2), .inr (.inr 557)]) (st := []) mhYL_duty ml_RL_159 (by simp [e_cat]) rfl rfl rfl dL_law__697 (pc' := 700) rfl hh ⟨Nat.le_refl _, hg⟩ hmo ?_
  refine e_r_istore (pc' := 702) (loc' := [some (.inr (.inr 999999)), some (.inr (.inr 1)), some (.inr (.inr 64)), some (.inr (.inr 557)), some (.inl (i : Int)), some (.inl kk), none, none]) dL_law__700 rfl rfl rfl rfl ?_
  refine e_r_aload_n (pc' := 703) (by decide) dL_law__702 rfl rfl rfl ?_
  refine e_r_aload_n (pc' := 704) (by decide) dL_law__703 rfl rfl rfl ?_
  refine e_r_iload (pc' := 706) dL_law__704 rfl rfl ?_
  refine e_r_iconst (pc' := 707) dL_law__706 rfl (by decide) ?_
  refine e_r_iadd (pc' := 708) dL_law__707 rfl ?_
  rw [show e_w ((i : Int) + 1) = ((i + 1 : Nat) : Int) from (k_ix (k := 1) hL hi (by decide)).1]
  refine e_r_sld (pc' := 709) (k_ix (k := 1) hL hi (by decide)).2.1 (k_ix (k := 1) hL hi (by decide)).2.2 hb dL_law__708 rfl ?_
  rw [k_nat]
  refine e_r_aload_n (pc' := 710) (by decide) dL_law__709 rfl rfl rfl ?_
  refine e_r_iload (pc' := 712) dL_law__710 rfl rfl ?_
  refine e_r_iconst (pc' := 713) dL_law__712 rfl (by decide) ?_
  refine e_r_iadd (pc' := 714) dL_law__713 rfl ?_
  rw [show e_w ((i : Int) + 2) = ((i + 2 : Nat) : Int) from (k_ix (k := 2) hL hi (by decide)).1]
  refine e_r_sld (pc' := 715) (k_ix (k := 2) hL hi (by decide)).2.1 (k_ix (k := 2) hL hi (by decide)).2.2 hb dL_law__714 rfl ?_
  rw [k_nat]
  refine e_r_callV (a := 64) (av := [.inl (k_xi X i 1), .inl (k_xi X i 2)]) (st := []) mqYX11_duty ml_RL_161 cl_11 rfl (Nat.le_of_ble_eq_true rfl) (by simp [e_cat]) rfl rfl rfl dL_law__715 (pc' := 718) rfl hm ⟨Nat.le_refl _, Nat.le_refl _⟩ hmo ?_
  refine e_r_istore (pc' := 720) (loc' := [some (.inr (.inr 999999)), some (.inr (.inr 1)), some (.inr (.inr 64)), some (.inr (.inr 557)), some (.inl (i : Int)), some (.inl kk), some (.inl b), none]) dL_law__718 rfl rfl rfl rfl ?_
  refine e_r_aload_n (pc' := 721) (by decide) dL_law__720 rfl rfl rfl ?_
  refine e_r_callV (a := 64) (av := []) (st := []) mqYX11_thrown ml_RL_131 cl_11 rfl (Nat.le_of_ble_eq_true rfl) (by simp) rfl rfl rfl dL_law__721 (pc' := 724) rfl c_thrown ⟨Nat.le_refl _, Nat.le_refl _⟩ hmo ?_
  refine e_r_iload (pc' := 726) dL_law__724 rfl rfl ?_
  refine e_r_icmp_eq (tgt := 731) (pc' := 729) dL_law__726 rfl rfl (fun _ => ?_) (fun q => absurd ht q)
  refine e_r_iload (pc' := 733) dL_law__731 rfl rfl ?_
  refine e_r_if_ne (tgt := 748) (pc' := 736) dL_law__733 rfl rfl (fun _ => ?_) (fun hk0 => ?_)
  · refine e_r_goto (pc' := 2729) dL_law__748 rfl ?_
    exact e_forget (m := [true, true, true, true, true, false, false, false]) k9 rfl
  · refine e_r_aload_n (pc' := 737) (by decide) dL_law__736 rfl rfl rfl ?_
    refine e_r_iconst (pc' := 738) dL_law__737 rfl (by decide) ?_
    refine e_r_lald (j9 := 0) (pc' := 739) rfl (Nat.le_of_ble_eq_true rfl) (by decide) (by decide) rfl dL_law__738 rfl ?_
    refine e_r_iload (pc' := 741) dL_law__739 rfl rfl ?_
    refine e_r_i2l (pc' := 742) dL_law__741 rfl ?_
    refine e_r_lcmp (pc' := 743) dL_law__742 rfl ?_
    refine e_r_if_eq (tgt := 748) (pc' := 746) dL_law__743 rfl rfl (fun _ => ?_) (fun q => absurd (by rw [ho hk0]; simp [e_cmp]) q)
    refine e_r_goto (pc' := 2729) dL_law__748 rfl ?_
    exact e_forget (m := [true, true, true, true, true, false, false, false]) k9 rfl
theorem lc_10 {X : e_X} {d gn g1 i : Nat} {o : e_O} {M M1 M2 : e_M} {kk b : Int} (hL : X.2.2.2.2.2.1 ≤ 4608) (hb : X.2.2.2.2.1 < (e_H0 X).size) (hi : i + 9 ≤ X.2.2.2.2.2.1) (hg : gn ≤ g1) (hmo : e_mn (557, g1, e_RF, M2) o.2) (hh : e_E X d YL_task [.inr (.inr 1), .inl (k_xi X i 1), .inl (k_xi X i 2), .inr (.inr 557)] (557, gn, e_RF, M) (.inl (some (.inl kk)), (557, g1, e_RF, M1))) (hm : e_E X d YX11_task [.inr (.inr 64), .inl (k_xi X i 1), .inl (k_xi X i 2)] (557, g1, e_RF, M1) (.inl (some (.inl b)), (557, g1, e_RF, M2))) (ht : M2 64 0 = kk) (ho : kk = 0 → M2 557 0 = b) (k9 : e_G X (d + 1) YL_law_ 2729 [some (.inr (.inr 999999)), some (.inr (.inr 1)), some (.inr (.inr 64)), some (.inr (.inr 557)), some (.inl (i : Int)), none, none, none] [] (557, g1, e_RF, M2) o) : e_G X (d + 1) YL_law_ 751 [some (.inr (.inr 999999)), some (.inr (.inr 1)), some (.inr (.inr 64)), some (.inr (.inr 557)), some (.inl (i : Int)), none, none, none] [] (557, gn, e_RF, M) o := by
  refine e_r_aload_n (pc' := 752) (by decide) dL_law__751 rfl rfl rfl ?_
  refine e_r_aload_n (pc' := 753) (by decide) dL_law__752 rfl rfl rfl ?_
  refine e_r_iload (pc' := 755) dL_law__753 rfl rfl ?_
  refine e_r_iconst (pc' := 756) dL_law__755 rfl (by decide) ?_
  refine e_r_iadd (pc' := 757) dL_law__756 rfl ?_
  rw [show e_w ((i : Int) + 1) = ((i + 1 : Nat) : Int) from (k_ix (k := 1) hL hi (by decide)).1]
  refine e_r_sld (pc' := 758) (k_ix (k := 1) hL hi (by decide)).2.1 (k_ix (k := 1) hL hi (by decide)).2.2 hb dL_law__757 rfl ?_
  rw [k_nat]
  refine e_r_aload_n (pc' := 759) (by decide) dL_law__758 rfl rfl rfl ?_
  refine e_r_iload (pc' := 761) dL_law__759 rfl rfl ?_
  refine e_r_iconst (pc' := 762) dL_law__761 rfl (by decide) ?_
  refine e_r_iadd (pc' := 763) dL_law__762 rfl ?_
  rw [show e_w ((i : Int) + 2) = ((i + 2 : Nat) : Int) from (k_ix (k := 2) hL hi (by decide)).1]
  refine e_r_sld (pc' := 764) (k_ix (k := 2) hL hi (by decide)).2.1 (k_ix (k := 2) hL hi (by decide)).2.2 hb dL_law__763 rfl ?_
  rw [k_nat]
  refine e_r_aload_n (pc' := 765) (by decide) dL_law__764 rfl rfl rfl ?_
  refine e_r_callSH (av := [.inr (.inr 1), .inl (k_xi X i 1), .inl (k_xi X i 2), .inr (.inr 557)]) (st := []) mhYL_task ml_RL_162 (by simp [e_cat]) rfl rfl rfl dL_law__765 (pc' := 768) rfl hh ⟨Nat.le_refl _, hg⟩ hmo ?_
  refine e_r_istore (pc' := 770) (loc' := [some (.inr (.inr 999999)), some (.inr (.inr 1)), some (.inr (.inr 64)), some (.inr (.inr 557)), some (.inl (i : Int)), some (.inl kk), none, none]) dL_law__768 rfl rfl rfl rfl ?_
  refine e_r_aload_n (pc' := 771) (by decide) dL_law__770 rfl rfl rfl ?_
  refine e_r_aload_n (pc' := 772) (by decide) dL_law__771 rfl rfl rfl ?_
  refine e_r_iload (pc' := 774) dL_law__772 rfl rfl ?_
  refine e_r_iconst (pc' := 775) dL_law__774 rfl (by decide) ?_
  refine e_r_iadd (pc' := 776) dL_law__775 rfl ?_
  rw [show e_w ((i : Int) + 1) = ((i + 1 : Nat) : Int) from (k_ix (k := 1) hL hi (by decide)).1]
  refine e_r_sld (pc' := 777) (k_ix (k := 1) hL hi (by decide)).2.1 (k_ix (k := 1) hL hi (by decide)).2.2 hb dL_law__776 rfl ?_
  rw [k_nat]
  refine e_r_aload_n (pc' := 778) (by decide) dL_law__777 rfl rfl rfl ?_
  refine e_r_iload (pc' := 780) dL_law__778 rfl rfl ?_
  refine e_r_iconst (pc' := 781) dL_law__780 rfl (by decide) ?_
  refine e_r_iadd (pc' := 782) dL_law__781 rfl ?_
  rw [show e_w ((i : Int) + 2) = ((i + 2 : Nat) : Int) from (k_ix (k := 2) hL hi (by decide)).1]
  refine e_r_sld (pc' := 783) (k_ix (k := 2) hL hi (by decide)).2.1 (k_ix (k := 2) hL hi (by decide)).2.2 hb dL_law__782 rfl ?_
  rw [k_nat]
  refine e_r_callV (a := 64) (av := [.inl (k_xi X i 1), .inl (k_xi X i 2)]) (st := []) mqYX11_task ml_RL_164 cl_11 rfl (Nat.le_of_ble_eq_true rfl) (by simp [e_cat]) rfl rfl rfl dL_law__783 (pc' := 786) rfl hm ⟨Nat.le_refl _, Nat.le_refl _⟩ hmo ?_
  refine e_r_istore (pc' := 788) (loc' := [some (.inr (.inr 999999)), some (.inr (.inr 1)), some (.inr (.inr 64)), some (.inr (.inr 557)), some (.inl (i : Int)), some (.inl kk), some (.inl b), none]) dL_law__786 rfl rfl rfl rfl ?_
  refine e_r_aload_n (pc' := 789) (by decide) dL_law__788 rfl rfl rfl ?_
  refine e_r_callV (a := 64) (av := []) (st := []) mqYX11_thrown ml_RL_131 cl_11 rfl (Nat.le_of_ble_eq_true rfl) (by simp) rfl rfl rfl dL_law__789 (pc' := 792) rfl c_thrown ⟨Nat.le_refl _, Nat.le_refl _⟩ hmo ?_
  refine e_r_iload (pc' := 794) dL_law__792 rfl rfl ?_
  refine e_r_icmp_eq (tgt := 799) (pc' := 797) dL_law__794 rfl rfl (fun _ => ?_) (fun q => absurd ht q)
  refine e_r_iload (pc' := 801) dL_law__799 rfl rfl ?_
  refine e_r_if_ne (tgt := 816) (pc' := 804) dL_law__801 rfl rfl (fun _ => ?_) (fun hk0 => ?_)
  · refine e_r_goto (pc' := 2729) dL_law__816 rfl ?_
    exact e_forget (m := [true, true, true, true, true, false, false, false]) k9 rfl
  · refine e_r_aload_n (pc' := 805) (by decide) dL_law__804 rfl rfl rfl ?_
    refine e_r_iconst (pc' := 806) dL_law__805 rfl (by decide) ?_
    refine e_r_lald (j9 := 0) (pc' := 807) rfl (Nat.le_of_ble_eq_true rfl) (by decide) (by decide) rfl dL_law__806 rfl ?_
    refine e_r_iload (pc' := 809) dL_law__807 rfl rfl ?_
    refine e_r_i2l (pc' := 810) dL_law__809 rfl ?_
    refine e_r_lcmp (pc' := 811) dL_law__810 rfl ?_
    refine e_r_if_eq (tgt := 816) (pc' := 814) dL_law__811 rfl rfl (fun _ => ?_) (fun q => absurd (by rw [ho hk0]; simp [e_cmp]) q)
    refine e_r_goto (pc' := 2729) dL_law__816 rfl ?_
    exact e_forget (m := [true, true, true, true, true, false, false, false]) k9 rfl
theorem lc_11 {X : e_X} {d gn g1 i : Nat} {o : e_O} {M M1 M2 : e_M} {kk b : Int} (hL : X.2.2.2.2.2.1 ≤ 4608) (hb : X.2.2.2.2.1 < (e_H0 X).size) (hi : i + 9 ≤ X.2.2.2.2.2.1) (hg : gn ≤ g1) (hmo : e_mn (557, g1, e_RF, M2) o.2) (hh : e_E X d YL_price [.inr (.inr 1), .inl (k_xi X i 1), .inr (.inr 557)] (557, gn, e_RF, M) (.inl (some (.inl kk)), (557, g1, e_RF, M1))) (hm : e_E X d YX11_price [.inr (.inr 64), .inl (k_xi X i 1)] (557, g1, e_RF, M1) (.inl (some (.inl b)), (557, g1, e_RF, M2))) (ht : M2 64 0 = kk) (ho : kk = 0 → M2 557 0 = b) (k9 : e_G X (d + 1) YL_law_ 2729 [some (.inr (.inr 999999)), some (.inr (.inr 1)), some (.inr (.inr 64)), some (.inr (.inr 557)), some (.inl (i : Int)), none, none, none] [] (557, g1, e_RF, M2) o) : e_G X (d + 1) YL_law_ 819 [some (.inr (.inr 999999)), some (.inr (.inr 1)), some (.inr (.inr 64)), some (.inr (.inr 557)), some (.inl (i : Int)), none, none, none] [] (557, gn, e_RF, M) o := by
  refine e_r_aload_n (pc' := 820) (by decide) dL_law__819 rfl rfl rfl ?_
  refine e_r_aload_n (pc' := 821) (by decide) dL_law__820 rfl rfl rfl ?_
  refine e_r_iload (pc' := 823) dL_law__821 rfl rfl ?_
  refine e_r_iconst (pc' := 824) dL_law__823 rfl (by decide) ?_
  refine e_r_iadd (pc' := 825) dL_law__824 rfl ?_
  rw [show e_w ((i : Int) + 1) = ((i + 1 : Nat) : Int) from (k_ix (k := 1) hL hi (by decide)).1]
  refine e_r_sld (pc' := 826) (k_ix (k := 1) hL hi (by decide)).2.1 (k_ix (k := 1) hL hi (by decide)).2.2 hb dL_law__825 rfl ?_
  rw [k_nat]
  refine e_r_aload_n (pc' := 827) (by decide) dL_law__826 rfl rfl rfl ?_
  refine e_r_callSH (av := [.inr (.inr 1), .inl (k_xi X i 1), .inr (.inr 557)]) (st := []) mhYL_price ml_RL_165 (by simp [e_cat]) rfl rfl rfl dL_law__827 (pc' := 830) rfl hh ⟨Nat.le_refl _, hg⟩ hmo ?_
  refine e_r_istore (pc' := 832) (loc' := [some (.inr (.inr 999999)), some (.inr (.inr 1)), some (.inr (.inr 64)), some (.inr (.inr 557)), some (.inl (i : Int)), some (.inl kk), none, none]) dL_law__830 rfl rfl rfl rfl ?_
  refine e_r_aload_n (pc' := 833) (by decide) dL_law__832 rfl rfl rfl ?_
  refine e_r_aload_n (pc' := 834) (by decide) dL_law__833 rfl rfl rfl ?_
  refine e_r_iload (pc' := 836) dL_law__834 rfl rfl ?_
  refine e_r_iconst (pc' := 837) dL_law__836 rfl (by decide) ?_
  refine e_r_iadd (pc' := 838) dL_law__837 rfl ?_
  rw [show e_w ((i : Int) + 1) = ((i + 1 : Nat) : Int) from (k_ix (k := 1) hL hi (by decide)).1]
  refine e_r_sld (pc' := 839) (k_ix (k := 1) hL hi (by decide)).2.1 (k_ix (k := 1) hL hi (by decide)).2.2 hb dL_law__838 rfl ?_
  rw [k_nat]
  refine e_r_callV (a := 64) (av := [.inl (k_xi X i 1)]) (st := []) mqYX11_price ml_RL_167 cl_11 rfl (Nat.le_of_ble_eq_true rfl) (by simp [e_cat]) rfl rfl rfl dL_law__839 (pc' := 842) rfl hm ⟨Nat.le_refl _, Nat.le_refl _⟩ hmo ?_
  refine e_r_istore (pc' := 844) (loc' := [some (.inr (.inr 999999)), some (.inr (.inr 1)), some (.inr (.inr 64)), some (.inr (.inr 557)), some (.inl (i : Int)), some (.inl kk), some (.inl b), none]) dL_law__842 rfl rfl rfl rfl ?_
  refine e_r_aload_n (pc' := 845) (by decide) dL_law__844 rfl rfl rfl ?_
  refine e_r_callV (a := 64) (av := []) (st := []) mqYX11_thrown ml_RL_131 cl_11 rfl (Nat.le_of_ble_eq_true rfl) (by simp) rfl rfl rfl dL_law__845 (pc' := 848) rfl c_thrown ⟨Nat.le_refl _, Nat.le_refl _⟩ hmo ?_
  refine e_r_iload (pc' := 850) dL_law__848 rfl rfl ?_
  refine e_r_icmp_eq (tgt := 855) (pc' := 853) dL_law__850 rfl rfl (fun _ => ?_) (fun q => absurd ht q)
  refine e_r_iload (pc' := 857) dL_law__855 rfl rfl ?_
  refine e_r_if_ne (tgt := 872) (pc' := 860) dL_law__857 rfl rfl (fun _ => ?_) (fun hk0 => ?_)
  · refine e_r_goto (pc' := 2729) dL_law__872 rfl ?_
    exact e_forget (m := [true, true, true, true, true, false, false, false]) k9 rfl
  · refine e_r_aload_n (pc' := 861) (by decide) dL_law__860 rfl rfl rfl ?_
    refine e_r_iconst (pc' := 862) dL_law__861 rfl (by decide) ?_
    refine e_r_lald (j9 := 0) (pc' := 863) rfl (Nat.le_of_ble_eq_true rfl) (by decide) (by decide) rfl dL_law__862 rfl ?_
    refine e_r_iload (pc' := 865) dL_law__863 rfl rfl ?_
    refine e_r_i2l (pc' := 866) dL_law__865 rfl ?_
    refine e_r_lcmp (pc' := 867) dL_law__866 rfl ?_
    refine e_r_if_eq (tgt := 872) (pc' := 870) dL_law__867 rfl rfl (fun _ => ?_) (fun q => absurd (by rw [ho hk0]; simp [e_cmp]) q)
    refine e_r_goto (pc' := 2729) dL_law__872 rfl ?_
    exact e_forget (m := [true, true, true, true, true, false, false, false]) k9 rfl
theorem lc_12 {X : e_X} {d gn g1 i : Nat} {o : e_O} {M M1 M2 : e_M} {kk b : Int} (hL : X.2.2.2.2.2.1 ≤ 4608) (hb : X.2.2.2.2.1 < (e_H0 X).size) (hi : i + 9 ≤ X.2.2.2.2.2.1) (hg : gn ≤ g1) (hmo : e_mn (557, g1, e_RF, M2) o.2) (hh : e_E X d YL_would [.inr (.inr 1), .inl (k_xi X i 1), .inl (k_xi X i 2), .inl (k_xi X i 3), .inl (k_xi X i 4), .inl (k_xi X i 5), .inl (k_xi X i 6), .inl (k_xi X i 7), .inl (k_xi X i 8), .inr (.inr 557)] (557, gn, e_RF, M) (.inl (some (.inl kk)), (557, g1, e_RF, M1))) (hm : e_E X d YX11_would [.inr (.inr 64), .inl (k_xi X i 1), .inl (k_xi X i 2), .inl (k_xi X i 3), .inl (k_xi X i 4), .inl (k_xi X i 5), .inl (k_xi X i 6), .inl (k_xi X i 7), .inl (k_xi X i 8)] (557, g1, e_RF, M1) (.inl (some (.inl b)), (557, g1, e_RF, M2))) (ht : M2 64 0 = kk) (ho : kk = 0 → M2 557 0 = b) (k9 : e_G X (d + 1) YL_law_ 2729 [some (.inr (.inr 999999)), some (.inr (.inr 1)), some (.inr (.inr 64)), some (.inr (.inr 557)), some (.inl (i : Int)), none, none, none] [] (557, g1, e_RF, M2) o) : e_G X (d + 1) YL_law_ 875 [some (.inr (.inr 999999)), some (.inr (.inr 1)), some (.inr (.inr 64)), some (.inr (.inr 557)), some (.inl (i : Int)), none, none, none] [] (557, gn, e_RF, M) o := by
  refine e_r_aload_n (pc' := 876) (by decide) dL_law__875 rfl rfl rfl ?_
  refine e_r_aload_n (pc' := 877) (by decide) dL_law__876 rfl rfl rfl ?_
  refine e_r_iload (pc' := 879) dL_law__877 rfl rfl ?_
  refine e_r_iconst (pc' := 880) dL_law__879 rfl (by decide) ?_
  refine e_r_iadd (pc' := 881) dL_law__880 rfl ?_
  rw [show e_w ((i : Int) + 1) = ((i + 1 : Nat) : Int) from (k_ix (k := 1) hL hi (by decide)).1]
  refine e_r_sld (pc' := 882) (k_ix (k := 1) hL hi (by decide)).2.1 (k_ix (k := 1) hL hi (by decide)).2.2 hb dL_law__881 rfl ?_
  rw [k_nat]
  refine e_r_aload_n (pc' := 883) (by decide) dL_law__882 rfl rfl rfl ?_
  refine e_r_iload (pc' := 885) dL_law__883 rfl rfl ?_
  refine e_r_iconst (pc' := 886) dL_law__885 rfl (by decide) ?_
  refine e_r_iadd (pc' := 887) dL_law__886 rfl ?_
  rw [show e_w ((i : Int) + 2) = ((i + 2 : Nat) : Int) from (k_ix (k := 2) hL hi (by decide)).1]
  refine e_r_sld (pc' := 888) (k_ix (k := 2) hL hi (by decide)).2.1 (k_ix (k := 2) hL hi (by decide)).2.2 hb dL_law__887 rfl ?_
  rw [k_nat]
  refine e_r_aload_n (pc' := 889) (by decide) dL_law__888 rfl rfl rfl ?_
  refine e_r_iload (pc' := 891) dL_law__889 rfl rfl ?_
  refine e_r_iconst (pc' := 892) dL_law__891 rfl (by decide) ?_
  refine e_r_iadd (pc' := 893) dL_law__892 rfl ?_
  rw [show e_w ((i : Int) + 3) = ((i + 3 : Nat) : Int) from (k_ix (k := 3) hL hi (by decide)).1]
  refine e_r_sld (pc' := 894) (k_ix (k := 3) hL hi (by decide)).2.1 (k_ix (k := 3) hL hi (by decide)).2.2 hb dL_law__893 rfl ?_
  rw [k_nat]
  refine e_r_aload_n (pc' := 895) (by decide) dL_law__894 rfl rfl rfl ?_
  refine e_r_iload (pc' := 897) dL_law__895 rfl rfl ?_
  refine e_r_iconst (pc' := 898) dL_law__897 rfl (by decide) ?_
  refine e_r_iadd (pc' := 899) dL_law__898 rfl ?_
  rw [show e_w ((i : Int) + 4) = ((i + 4 : Nat) : Int) from (k_ix (k := 4) hL hi (by decide)).1]
  refine e_r_sld (pc' := 900) (k_ix (k := 4) hL hi (by decide)).2.1 (k_ix (k := 4) hL hi (by decide)).2.2 hb dL_law__899 rfl ?_
  rw [k_nat]
  refine e_r_aload_n (pc' := 901) (by decide) dL_law__900 rfl rfl rfl ?_
  refine e_r_iload (pc' := 903) dL_law__901 rfl rfl ?_
  refine e_r_iconst (pc' := 904) dL_law__903 rfl (by decide) ?_
  refine e_r_iadd (pc' := 905) dL_law__904 rfl ?_
  rw [show e_w ((i : Int) + 5) = ((i + 5 : Nat) : Int) from (k_ix (k := 5) hL hi (by decide)).1]
  refine e_r_sld (pc' := 906) (k_ix (k := 5) hL hi (by decide)).2.1 (k_ix (k := 5) hL hi (by decide)).2.2 hb dL_law__905 rfl ?_
  rw [k_nat]
  refine e_r_aload_n (pc' := 907) (by decide) dL_law__906 rfl rfl rfl ?_
  refine e_r_iload (pc' := 909) dL_law__907 rfl rfl ?_
  refine e_r_bipush (pc' := 911) dL_law__909 rfl (by decide) ?_
  refine e_r_iadd (pc' := 912) dL_law__911 rfl ?_
  rw [show e_w ((i : Int) + 6) = ((i + 6 : Nat) : Int) from (k_ix (k := 6) hL hi (by decide)).1]
  refine e_r_sld (pc' := 913) (k_ix (k := 6) hL hi (by decide)).2.1 (k_ix (k := 6) hL hi (by decide)).2.2 hb dL_law__912 rfl ?_
  rw [k_nat]
  refine e_r_aload_n (pc' := 914) (by decide) dL_law__913 rfl rfl rfl ?_
  refine e_r_iload (pc' := 916) dL_law__914 rfl rfl ?_
  refine e_r_bipush (pc' := 918) dL_law__916 rfl (by decide) ?_
  refine e_r_iadd (pc' := 919) dL_law__918 rfl ?_
  rw [show e_w ((i : Int) + 7) = ((i + 7 : Nat) : Int) from (k_ix (k := 7) hL hi (by decide)).1]
  refine e_r_sld (pc' := 920) (k_ix (k := 7) hL hi (by decide)).2.1 (k_ix (k := 7) hL hi (by decide)).2.2 hb dL_law__919 rfl ?_
  rw [k_nat]
  refine e_r_aload_n (pc' := 921) (by decide) dL_law__920 rfl rfl rfl ?_
  refine e_r_iload (pc' := 923) dL_law__921 rfl rfl ?_
  refine e_r_bipush (pc' := 925) dL_law__923 rfl (by decide) ?_
  refine e_r_iadd (pc' := 926) dL_law__925 rfl ?_
  rw [show e_w ((i : Int) + 8) = ((i + 8 : Nat) : Int) from (k_ix (k := 8) hL hi (by decide)).1]
  refine e_r_sld (pc' := 927) (k_ix (k := 8) hL hi (by decide)).2.1 (k_ix (k := 8) hL hi (by decide)).2.2 hb dL_law__926 rfl ?_
  rw [k_nat]
  refine e_r_aload_n (pc' := 928) (by decide) dL_law__927 rfl rfl rfl ?_
  refine e_r_callSH (av := [.inr (.inr 1), .inl (k_xi X i 1), .inl (k_xi X i 2), .inl (k_xi X i 3), .inl (k_xi X i 4), .inl (k_xi X i 5), .inl (k_xi X i 6), .inl (k_xi X i 7), .inl (k_xi X i 8), .inr (.inr 557)]) (st := []) mhYL_would ml_RL_168 (by simp [e_cat]) rfl rfl rfl dL_law__928 (pc' := 931) rfl hh ⟨Nat.le_refl _, hg⟩ hmo ?_
  refine e_r_istore (pc' := 933) (loc' := [some (.inr (.inr 999999)), some (.inr (.inr 1)), some (.inr (.inr 64)), some (.inr (.inr 557)), some (.inl (i : Int)), some (.inl kk), none, none]) dL_law__931 rfl rfl rfl rfl ?_
  refine e_r_aload_n (pc' := 934) (by decide) dL_law__933 rfl rfl rfl ?_
  refine e_r_aload_n (pc' := 935) (by decide) dL_law__934 rfl rfl rfl ?_
  refine e_r_iload (pc' := 937) dL_law__935 rfl rfl ?_
  refine e_r_iconst (pc' := 938) dL_law__937 rfl (by decide) ?_
  refine e_r_iadd (pc' := 939) dL_law__938 rfl ?_
  rw [show e_w ((i : Int) + 1) = ((i + 1 : Nat) : Int) from (k_ix (k := 1) hL hi (by decide)).1]
  refine e_r_sld (pc' := 940) (k_ix (k := 1) hL hi (by decide)).2.1 (k_ix (k := 1) hL hi (by decide)).2.2 hb dL_law__939 rfl ?_
  rw [k_nat]
  refine e_r_aload_n (pc' := 941) (by decide) dL_law__940 rfl rfl rfl ?_
  refine e_r_iload (pc' := 943) dL_law__941 rfl rfl ?_
  refine e_r_iconst (pc' := 944) dL_law__943 rfl (by decide) ?_
  refine e_r_iadd (pc' := 945) dL_law__944 rfl ?_
  rw [show e_w ((i : Int) + 2) = ((i + 2 : Nat) : Int) from (k_ix (k := 2) hL hi (by decide)).1]
  refine e_r_sld (pc' := 946) (k_ix (k := 2) hL hi (by decide)).2.1 (k_ix (k := 2) hL hi (by decide)).2.2 hb dL_law__945 rfl ?_
  rw [k_nat]
  refine e_r_aload_n (pc' := 947) (by decide) dL_law__946 rfl rfl rfl ?_
  refine e_r_iload (pc' := 949) dL_law__947 rfl rfl ?_
  refine e_r_iconst (pc' := 950) dL_law__949 rfl (by decide) ?_
  refine e_r_iadd (pc' := 951) dL_law__950 rfl ?_
  rw [show e_w ((i : Int) + 3) = ((i + 3 : Nat) : Int) from (k_ix (k := 3) hL hi (by decide)).1]
  refine e_r_sld (pc' := 952) (k_ix (k := 3) hL hi (by decide)).2.1 (k_ix (k := 3) hL hi (by decide)).2.2 hb dL_law__951 rfl ?_
  rw [k_nat]
  refine e_r_aload_n (pc' := 953) (by decide) dL_law__952 rfl rfl rfl ?_
  refine e_r_iload (pc' := 955) dL_law__953 rfl rfl ?_
  refine e_r_iconst (pc' := 956) dL_law__955 rfl (by decide) ?_
  refine e_r_iadd (pc' := 957) dL_law__956 rfl ?_
  rw [show e_w ((i : Int) + 4) = ((i + 4 : Nat) : Int) from (k_ix (k := 4) hL hi (by decide)).1]
  refine e_r_sld (pc' := 958) (k_ix (k := 4) hL hi (by decide)).2.1 (k_ix (k := 4) hL hi (by decide)).2.2 hb dL_law__957 rfl ?_
  rw [k_nat]
  refine e_r_aload_n (pc' := 959) (by decide) dL_law__958 rfl rfl rfl ?_
  refine e_r_iload (pc' := 961) dL_law__959 rfl rfl ?_
  refine e_r_iconst (pc' := 962) dL_law__961 rfl (by decide) ?_
  refine e_r_iadd (pc' := 963) dL_law__962 rfl ?_
  rw [show e_w ((i : Int) + 5) = ((i + 5 : Nat) : Int) from (k_ix (k := 5) hL hi (by decide)).1]
  refine e_r_sld (pc' := 964) (k_ix (k := 5) hL hi (by decide)).2.1 (k_ix (k := 5) hL hi (by decide)).2.2 hb dL_law__963 rfl ?_
  rw [k_nat]
  refine e_r_aload_n (pc' := 965) (by decide) dL_law__964 rfl rfl rfl ?_
  refine e_r_iload (pc' := 967) dL_law__965 rfl rfl ?_
  refine e_r_bipush (pc' := 969) dL_law__967 rfl (by decide) ?_
  refine e_r_iadd (pc' := 970) dL_law__969 rfl ?_
  rw [show e_w ((i : Int) + 6) = ((i + 6 : Nat) : Int) from (k_ix (k := 6) hL hi (by decide)).1]
  refine e_r_sld (pc' := 971) (k_ix (k := 6) hL hi (by decide)).2.1 (k_ix (k := 6) hL hi (by decide)).2.2 hb dL_law__970 rfl ?_
  rw [k_nat]
  refine e_r_aload_n (pc' := 972) (by decide) dL_law__971 rfl rfl rfl ?_
  refine e_r_iload (pc' := 974) dL_law__972 rfl rfl ?_
  refine e_r_bipush (pc' := 976) dL_law__974 rfl (by decide) ?_
  refine e_r_iadd (pc' := 977) dL_law__976 rfl ?_
  rw [show e_w ((i : Int) + 7) = ((i + 7 : Nat) : Int) from (k_ix (k := 7) hL hi (by decide)).1]
  refine e_r_sld (pc' := 978) (k_ix (k := 7) hL hi (by decide)).2.1 (k_ix (k := 7) hL hi (by decide)).2.2 hb dL_law__977 rfl ?_
  rw [k_nat]
  refine e_r_aload_n (pc' := 979) (by decide) dL_law__978 rfl rfl rfl ?_
  refine e_r_iload (pc' := 981) dL_law__979 rfl rfl ?_
  refine e_r_bipush (pc' := 983) dL_law__981 rfl (by decide) ?_
  refine e_r_iadd (pc' := 984) dL_law__983 rfl ?_
  rw [show e_w ((i : Int) + 8) = ((i + 8 : Nat) : Int) from (k_ix (k := 8) hL hi (by decide)).1]
  refine e_r_sld (pc' := 985) (k_ix (k := 8) hL hi (by decide)).2.1 (k_ix (k := 8) hL hi (by decide)).2.2 hb dL_law__984 rfl ?_
  rw [k_nat]
  refine e_r_callV (a := 64) (av := [.inl (k_xi X i 1), .inl (k_xi X i 2), .inl (k_xi X i 3), .inl (k_xi X i 4), .inl (k_xi X i 5), .inl (k_xi X i 6), .inl (k_xi X i 7), .inl (k_xi X i 8)]) (st := []) mqYX11_would ml_RL_171 cl_11 rfl (Nat.le_of_ble_eq_true rfl) (by simp [e_cat]) rfl rfl rfl dL_law__985 (pc' := 988) rfl hm ⟨Nat.le_refl _, Nat.le_refl _⟩ hmo ?_
  refine e_r_istore (pc' := 990) (loc' := [some (.inr (.inr 999999)), some (.inr (.inr 1)), some (.inr (.inr 64)), some (.inr (.inr 557)), some (.inl (i : Int)), some (.inl kk), some (.inl b), none]) dL_law__988 rfl rfl rfl rfl ?_
  refine e_r_aload_n (pc' := 991) (by decide) dL_law__990 rfl rfl rfl ?_
  refine e_r_callV (a := 64) (av := []) (st := []) mqYX11_thrown ml_RL_131 cl_11 rfl (Nat.le_of_ble_eq_true rfl) (by simp) rfl rfl rfl dL_law__991 (pc' := 994) rfl c_thrown ⟨Nat.le_refl _, Nat.le_refl _⟩ hmo ?_
  refine e_r_iload (pc' := 996) dL_law__994 rfl rfl ?_
  refine e_r_icmp_eq (tgt := 1001) (pc' := 999) dL_law__996 rfl rfl (fun _ => ?_) (fun q => absurd ht q)
  refine e_r_iload (pc' := 1003) dL_law__1001 rfl rfl ?_
  refine e_r_if_ne (tgt := 1018) (pc' := 1006) dL_law__1003 rfl rfl (fun _ => ?_) (fun hk0 => ?_)
  · refine e_r_goto (pc' := 2729) dL_law__1018 rfl ?_
    exact e_forget (m := [true, true, true, true, true, false, false, false]) k9 rfl
  · refine e_r_aload_n (pc' := 1007) (by decide) dL_law__1006 rfl rfl rfl ?_
    refine e_r_iconst (pc' := 1008) dL_law__1007 rfl (by decide) ?_
    refine e_r_lald (j9 := 0) (pc' := 1009) rfl (Nat.le_of_ble_eq_true rfl) (by decide) (by decide) rfl dL_law__1008 rfl ?_
    refine e_r_iload (pc' := 1011) dL_law__1009 rfl rfl ?_
    refine e_r_i2l (pc' := 1012) dL_law__1011 rfl ?_
    refine e_r_lcmp (pc' := 1013) dL_law__1012 rfl ?_
    refine e_r_if_eq (tgt := 1018) (pc' := 1016) dL_law__1013 rfl rfl (fun _ => ?_) (fun q => absurd (by rw [ho hk0]; simp [e_cmp]) q)
    refine e_r_goto (pc' := 2729) dL_law__1018 rfl ?_
    exact e_forget (m := [true, true, true, true, true, false, false, false]) k9 rfl
theorem lc_13 {X : e_X} {d gn g1 i : Nat} {o : e_O} {M M1 M2 : e_M} {kk b : Int} (hL : X.2.2.2.2.2.1 ≤ 4608) (hb : X.2.2.2.2.1 < (e_H0 X).size) (hi : i + 9 ≤ X.2.2.2.2.2.1) (hg : gn ≤ g1) (hmo : e_mn (557, g1, e_RF, M2) o.2) (hh : e_E X d YL_can [.inr (.inr 1), .inl (k_xi X i 1), .inr (.inr 557)] (557, gn, e_RF, M) (.inl (some (.inl kk)), (557, g1, e_RF, M1))) (hm : e_E X d YX11_can [.inr (.inr 64), .inl (k_xi X i 1)] (557, g1, e_RF, M1) (.inl (some (.inl b)), (557, g1, e_RF, M2))) (hbz : b = 0 ∨ b = 1) (ht : M2 64 0 = kk) (ho : kk = 0 → M2 557 0 = b) (k9 : e_G X (d + 1) YL_law_ 2729 [some (.inr (.inr 999999)), some (.inr (.inr 1)), some (.inr (.inr 64)), some (.inr (.inr 557)), some (.inl (i : Int)), none, none, none] [] (557, g1, e_RF, M2) o) : e_G X (d + 1) YL_law_ 1021 [some (.inr (.inr 999999)), some (.inr (.inr 1)), some (.inr (.inr 64)), some (.inr (.inr 557)), some (.inl (i : Int)), none, none, none] [] (557, gn, e_RF, M) o := by
  refine e_r_aload_n (pc' := 1022) (by decide) dL_law__1021 rfl rfl rfl ?_
  refine e_r_aload_n (pc' := 1023) (by decide) dL_law__1022 rfl rfl rfl ?_
  refine e_r_iload (pc' := 1025) dL_law__1023 rfl rfl ?_
  refine e_r_iconst (pc' := 1026) dL_law__1025 rfl (by decide) ?_
  refine e_r_iadd (pc' := 1027) dL_law__1026 rfl ?_
  rw [show e_w ((i : Int) + 1) = ((i + 1 : Nat) : Int) from (k_ix (k := 1) hL hi (by decide)).1]
  refine e_r_sld (pc' := 1028) (k_ix (k := 1) hL hi (by decide)).2.1 (k_ix (k := 1) hL hi (by decide)).2.2 hb dL_law__1027 rfl ?_
  rw [k_nat]
  refine e_r_aload_n (pc' := 1029) (by decide) dL_law__1028 rfl rfl rfl ?_
  refine e_r_callSH (av := [.inr (.inr 1), .inl (k_xi X i 1), .inr (.inr 557)]) (st := []) mhYL_can ml_RL_172 (by simp [e_cat]) rfl rfl rfl dL_law__1029 (pc' := 1032) rfl hh ⟨Nat.le_refl _, hg⟩ hmo ?_
  refine e_r_istore (pc' := 1034) (loc' := [some (.inr (.inr 999999)), some (.inr (.inr 1)), some (.inr (.inr 64)), some (.inr (.inr 557)), some (.inl (i : Int)), some (.inl kk), none, none]) dL_law__1032 rfl rfl rfl rfl ?_
  refine e_r_aload_n (pc' := 1035) (by decide) dL_law__1034 rfl rfl rfl ?_
  refine e_r_aload_n (pc' := 1036) (by decide) dL_law__1035 rfl rfl rfl ?_
  refine e_r_iload (pc' := 1038) dL_law__1036 rfl rfl ?_
  refine e_r_iconst (pc' := 1039) dL_law__1038 rfl (by decide) ?_
  refine e_r_iadd (pc' := 1040) dL_law__1039 rfl ?_
  rw [show e_w ((i : Int) + 1) = ((i + 1 : Nat) : Int) from (k_ix (k := 1) hL hi (by decide)).1]
  refine e_r_sld (pc' := 1041) (k_ix (k := 1) hL hi (by decide)).2.1 (k_ix (k := 1) hL hi (by decide)).2.2 hb dL_law__1040 rfl ?_
  rw [k_nat]
  refine e_r_callV (a := 64) (av := [.inl (k_xi X i 1)]) (st := []) mqYX11_can ml_RL_174 cl_11 rfl (Nat.le_of_ble_eq_true rfl) (by simp [e_cat]) rfl rfl rfl dL_law__1041 (pc' := 1044) rfl hm ⟨Nat.le_refl _, Nat.le_refl _⟩ hmo ?_
  refine e_r_istore (pc' := 1046) (loc' := [some (.inr (.inr 999999)), some (.inr (.inr 1)), some (.inr (.inr 64)), some (.inr (.inr 557)), some (.inl (i : Int)), some (.inl kk), some (.inl b), none]) dL_law__1044 rfl rfl rfl rfl ?_
  refine e_r_aload_n (pc' := 1047) (by decide) dL_law__1046 rfl rfl rfl ?_
  refine e_r_callV (a := 64) (av := []) (st := []) mqYX11_thrown ml_RL_131 cl_11 rfl (Nat.le_of_ble_eq_true rfl) (by simp) rfl rfl rfl dL_law__1047 (pc' := 1050) rfl c_thrown ⟨Nat.le_refl _, Nat.le_refl _⟩ hmo ?_
  refine e_r_iload (pc' := 1052) dL_law__1050 rfl rfl ?_
  refine e_r_icmp_eq (tgt := 1057) (pc' := 1055) dL_law__1052 rfl rfl (fun _ => ?_) (fun q => absurd ht q)
  refine e_r_iload (pc' := 1059) dL_law__1057 rfl rfl ?_
  refine e_r_if_ne (tgt := 1081) (pc' := 1062) dL_law__1059 rfl rfl (fun _ => ?_) (fun hk0 => ?_)
  · refine e_r_goto (pc' := 2729) dL_law__1081 rfl ?_
    exact e_forget (m := [true, true, true, true, true, false, false, false]) k9 rfl
  · refine e_r_aload_n (pc' := 1063) (by decide) dL_law__1062 rfl rfl rfl ?_
    refine e_r_iconst (pc' := 1064) dL_law__1063 rfl (by decide) ?_
    refine e_r_lald (j9 := 0) (pc' := 1065) rfl (Nat.le_of_ble_eq_true rfl) (by decide) (by decide) rfl dL_law__1064 rfl ?_
    refine e_r_iload (pc' := 1067) dL_law__1065 rfl rfl ?_
    refine e_r_if_eq (tgt := 1074) (pc' := 1070) dL_law__1067 rfl rfl (fun q => ?_) (fun q => ?_)
    · have hb0 : b = 0 := by omega
      subst hb0
      refine e_r_lconst (pc' := 1075) (z := 0) dL_law__1074 rfl rfl ?_
      refine e_r_lcmp (pc' := 1076) dL_law__1075 rfl ?_
      refine e_r_if_eq (tgt := 1081) (pc' := 1079) dL_law__1076 rfl rfl (fun _ => ?_) (fun q => absurd (by rw [ho hk0]; simp [e_cmp]) q)
      refine e_r_goto (pc' := 2729) dL_law__1081 rfl ?_
      exact e_forget (m := [true, true, true, true, true, false, false, false]) k9 rfl
    · have hb0 : b = 1 := by omega
      subst hb0
      refine e_r_lconst (pc' := 1071) (z := 1) dL_law__1070 rfl rfl ?_
      refine e_r_goto (pc' := 1075) dL_law__1071 rfl ?_
      refine e_r_lcmp (pc' := 1076) dL_law__1075 rfl ?_
      refine e_r_if_eq (tgt := 1081) (pc' := 1079) dL_law__1076 rfl rfl (fun _ => ?_) (fun q => absurd (by rw [ho hk0]; simp [e_cmp]) q)
      refine e_r_goto (pc' := 2729) dL_law__1081 rfl ?_
      exact e_forget (m := [true, true, true, true, true, false, false, false]) k9 rfl
theorem lc_14 {X : e_X} {d gn g1 i : Nat} {o : e_O} {M M1 M2 : e_M} {kk b : Int} (hL : X.2.2.2.2.2.1 ≤ 4608) (hb : X.2.2.2.2.1 < (e_H0 X).size) (hi : i + 9 ≤ X.2.2.2.2.2.1) (hg : gn ≤ g1) (hmo : e_mn (557, g1, e_RF, M2) o.2) (hh : e_E X d YL_ahead [.inr (.inr 1), .inl (k_xi X i 1), .inl (k_xi X i 2), .inr (.inr 557)] (557, gn, e_RF, M) (.inl (some (.inl kk)), (557, g1, e_RF, M1))) (hm : e_E X d YX11_ahead [.inr (.inr 64), .inl (k_xi X i 1), .inl (k_xi X i 2)] (557, g1, e_RF, M1) (.inl (some (.inl b)), (557, g1, e_RF, M2))) (ht : M2 64 0 = kk) (ho : kk = 0 → M2 557 0 = b) (k9 : e_G X (d + 1) YL_law_ 2729 [some (.inr (.inr 999999)), some (.inr (.inr 1)), some (.inr (.inr 64)), some (.inr (.inr 557)), some (.inl (i : Int)), none, none, none] [] (557, g1, e_RF, M2) o) : e_G X (d + 1) YL_law_ 1084 [some (.inr (.inr 999999)), some (.inr (.inr 1)), some (.inr (.inr 64)), some (.inr (.inr 557)), some (.inl (i : Int)), none, none, none] [] (557, gn, e_RF, M) o := by
  refine e_r_aload_n (pc' := 1085) (by decide) dL_law__1084 rfl rfl rfl ?_
  refine e_r_aload_n (pc' := 1086) (by decide) dL_law__1085 rfl rfl rfl ?_
  refine e_r_iload (pc' := 1088) dL_law__1086 rfl rfl ?_
  refine e_r_iconst (pc' := 1089) dL_law__1088 rfl (by decide) ?_
  refine e_r_iadd (pc' := 1090) dL_law__1089 rfl ?_
  rw [show e_w ((i : Int) + 1) = ((i + 1 : Nat) : Int) from (k_ix (k := 1) hL hi (by decide)).1]
  refine e_r_sld (pc' := 1091) (k_ix (k := 1) hL hi (by decide)).2.1 (k_ix (k := 1) hL hi (by decide)).2.2 hb dL_law__1090 rfl ?_
  rw [k_nat]
  refine e_r_aload_n (pc' := 1092) (by decide) dL_law__1091 rfl rfl rfl ?_
  refine e_r_iload (pc' := 1094) dL_law__1092 rfl rfl ?_
  refine e_r_iconst (pc' := 1095) dL_law__1094 rfl (by decide) ?_
  refine e_r_iadd (pc' := 1096) dL_law__1095 rfl ?_
  rw [show e_w ((i : Int) + 2) = ((i + 2 : Nat) : Int) from (k_ix (k := 2) hL hi (by decide)).1]
  refine e_r_sld (pc' := 1097) (k_ix (k := 2) hL hi (by decide)).2.1 (k_ix (k := 2) hL hi (by decide)).2.2 hb dL_law__1096 rfl ?_
  rw [k_nat]
  refine e_r_aload_n (pc' := 1098) (by decide) dL_law__1097 rfl rfl rfl ?_
  refine e_r_callSH (av := [.inr (.inr 1), .inl (k_xi X i 1), .inl (k_xi X i 2), .inr (.inr 557)]) (st := []) mhYL_ahead ml_RL_175 (by simp [e_cat]) rfl rfl rfl dL_law__1098 (pc' := 1101) rfl hh ⟨Nat.le_refl _, hg⟩ hmo ?_
  refine e_r_istore (pc' := 1103) (loc' := [some (.inr (.inr 999999)), some (.inr (.inr 1)), some (.inr (.inr 64)), some (.inr (.inr 557)), some (.inl (i : Int)), some (.inl kk), none, none]) dL_law__1101 rfl rfl rfl rfl ?_
  refine e_r_aload_n (pc' := 1104) (by decide) dL_law__1103 rfl rfl rfl ?_
  refine e_r_aload_n (pc' := 1105) (by decide) dL_law__1104 rfl rfl rfl ?_
  refine e_r_iload (pc' := 1107) dL_law__1105 rfl rfl ?_
  refine e_r_iconst (pc' := 1108) dL_law__1107 rfl (by decide) ?_
  refine e_r_iadd (pc' := 1109) dL_law__1108 rfl ?_
  rw [show e_w ((i : Int) + 1) = ((i + 1 : Nat) : Int) from (k_ix (k := 1) hL hi (by decide)).1]
  refine e_r_sld (pc' := 1110) (k_ix (k := 1) hL hi (by decide)).2.1 (k_ix (k := 1) hL hi (by decide)).2.2 hb dL_law__1109 rfl ?_
  rw [k_nat]
  refine e_r_aload_n (pc' := 1111) (by decide) dL_law__1110 rfl rfl rfl ?_
  refine e_r_iload (pc' := 1113) dL_law__1111 rfl rfl ?_
  refine e_r_iconst (pc' := 1114) dL_law__1113 rfl (by decide) ?_
  refine e_r_iadd (pc' := 1115) dL_law__1114 rfl ?_
  rw [show e_w ((i : Int) + 2) = ((i + 2 : Nat) : Int) from (k_ix (k := 2) hL hi (by decide)).1]
  refine e_r_sld (pc' := 1116) (k_ix (k := 2) hL hi (by decide)).2.1 (k_ix (k := 2) hL hi (by decide)).2.2 hb dL_law__1115 rfl ?_
  rw [k_nat]
  refine e_r_callV (a := 64) (av := [.inl (k_xi X i 1), .inl (k_xi X i 2)]) (st := []) mqYX11_ahead ml_RL_177 cl_11 rfl (Nat.le_of_ble_eq_true rfl) (by simp [e_cat]) rfl rfl rfl dL_law__1116 (pc' := 1119) rfl hm ⟨Nat.le_refl _, Nat.le_refl _⟩ hmo ?_
  refine e_r_istore (pc' := 1121) (loc' := [some (.inr (.inr 999999)), some (.inr (.inr 1)), some (.inr (.inr 64)), some (.inr (.inr 557)), some (.inl (i : Int)), some (.inl kk), some (.inl b), none]) dL_law__1119 rfl rfl rfl rfl ?_
  refine e_r_aload_n (pc' := 1122) (by decide) dL_law__1121 rfl rfl rfl ?_
  refine e_r_callV (a := 64) (av := []) (st := []) mqYX11_thrown ml_RL_131 cl_11 rfl (Nat.le_of_ble_eq_true rfl) (by simp) rfl rfl rfl dL_law__1122 (pc' := 1125) rfl c_thrown ⟨Nat.le_refl _, Nat.le_refl _⟩ hmo ?_
  refine e_r_iload (pc' := 1127) dL_law__1125 rfl rfl ?_
  refine e_r_icmp_eq (tgt := 1132) (pc' := 1130) dL_law__1127 rfl rfl (fun _ => ?_) (fun q => absurd ht q)
  refine e_r_iload (pc' := 1134) dL_law__1132 rfl rfl ?_
  refine e_r_if_ne (tgt := 1149) (pc' := 1137) dL_law__1134 rfl rfl (fun _ => ?_) (fun hk0 => ?_)
  · refine e_r_goto (pc' := 2729) dL_law__1149 rfl ?_
    exact e_forget (m := [true, true, true, true, true, false, false, false]) k9 rfl
  · refine e_r_aload_n (pc' := 1138) (by decide) dL_law__1137 rfl rfl rfl ?_
    refine e_r_iconst (pc' := 1139) dL_law__1138 rfl (by decide) ?_
    refine e_r_lald (j9 := 0) (pc' := 1140) rfl (Nat.le_of_ble_eq_true rfl) (by decide) (by decide) rfl dL_law__1139 rfl ?_
    refine e_r_iload (pc' := 1142) dL_law__1140 rfl rfl ?_
    refine e_r_i2l (pc' := 1143) dL_law__1142 rfl ?_
    refine e_r_lcmp (pc' := 1144) dL_law__1143 rfl ?_
    refine e_r_if_eq (tgt := 1149) (pc' := 1147) dL_law__1144 rfl rfl (fun _ => ?_) (fun q => absurd (by rw [ho hk0]; simp [e_cmp]) q)
    refine e_r_goto (pc' := 2729) dL_law__1149 rfl ?_
    exact e_forget (m := [true, true, true, true, true, false, false, false]) k9 rfl
theorem lc_15 {X : e_X} {d gn g1 i : Nat} {o : e_O} {M M1 M2 : e_M} {v : Int} (hL : X.2.2.2.2.2.1 ≤ 4608) (hb : X.2.2.2.2.1 < (e_H0 X).size) (hi : i + 9 ≤ X.2.2.2.2.2.1) (hg : gn ≤ g1) (hmo : e_mn (557, g1, e_RF, M2) o.2) (hx : e_E X d YX10_left [.inr (.inr 1)] (557, gn, e_RF, M) (.inl (some (.inl v)), (557, g1, e_RF, M1))) (hm : e_E X d YX11_left [.inr (.inr 64)] (557, g1, e_RF, M1) (.inl (some (.inl v)), (557, g1, e_RF, M2))) (k9 : e_G X (d + 1) YL_law_ 2729 [some (.inr (.inr 999999)), some (.inr (.inr 1)), some (.inr (.inr 64)), some (.inr (.inr 557)), some (.inl (i : Int)), none, none, none] [] (557, g1, e_RF, M2) o) : e_G X (d + 1) YL_law_ 1152 [some (.inr (.inr 999999)), some (.inr (.inr 1)), some (.inr (.inr 64)), some (.inr (.inr 557)), some (.inl (i : Int)), none, none, none] [] (557, gn, e_RF, M) o := by
  refine e_r_aload_n (pc' := 1153) (by decide) dL_law__1152 rfl rfl rfl ?_
  refine e_r_callV (a := 1) (av := []) (st := []) mqYX10_left ml_RL_178 cl_10 rfl (Nat.le_of_ble_eq_true rfl) (by simp [e_cat]) rfl rfl rfl dL_law__1153 (pc' := 1156) rfl hx ⟨Nat.le_refl _, hg⟩ hmo ?_
  refine e_r_aload_n (pc' := 1157) (by decide) dL_law__1156 rfl rfl rfl ?_
  refine e_r_callV (a := 64) (av := []) (st := [.inl v]) mqYX11_left ml_RL_181 cl_11 rfl (Nat.le_of_ble_eq_true rfl) (by simp [e_cat]) rfl rfl rfl dL_law__1157 (pc' := 1160) rfl hm ⟨Nat.le_refl _, Nat.le_refl _⟩ hmo ?_
  refine e_r_icmp_eq (tgt := 2729) (pc' := 1163) dL_law__1160 rfl rfl (fun _ => ?_) (fun q => absurd rfl q)
  exact e_forget (m := [true, true, true, true, true, false, false, false]) k9 rfl
theorem lc_16 {X : e_X} {d gn g1 i : Nat} {o : e_O} {M M1 M2 : e_M} {kk b : Int} (hL : X.2.2.2.2.2.1 ≤ 4608) (hb : X.2.2.2.2.1 < (e_H0 X).size) (hi : i + 9 ≤ X.2.2.2.2.2.1) (hg : gn ≤ g1) (hmo : e_mn (557, g1, e_RF, M2) o.2) (hh : e_E X d YL_stay [.inr (.inr 1), .inl (k_xi X i 1), .inr (.inr 557)] (557, gn, e_RF, M) (.inl (some (.inl kk)), (557, g1, e_RF, M1))) (hm : e_E X d YX11_stay [.inr (.inr 64), .inl (k_xi X i 1)] (557, g1, e_RF, M1) (.inl (some (.inl b)), (557, g1, e_RF, M2))) (ht : M2 64 0 = kk) (ho : kk = 0 → M2 557 0 = b) (k9 : e_G X (d + 1) YL_law_ 2729 [some (.inr (.inr 999999)), some (.inr (.inr 1)), some (.inr (.inr 64)), some (.inr (.inr 557)), some (.inl (i : Int)), none, none, none] [] (557, g1, e_RF, M2) o) : e_G X (d + 1) YL_law_ 1165 [some (.inr (.inr 999999)), some (.inr (.inr 1)), some (.inr (.inr 64)), some (.inr (.inr 557)), some (.inl (i : Int)), none, none, none] [] (557, gn, e_RF, M) o := by
  refine e_r_aload_n (pc' := 1166) (by decide) dL_law__1165 rfl rfl rfl ?_
  refine e_r_aload_n (pc' := 1167) (by decide) dL_law__1166 rfl rfl rfl ?_
  refine e_r_iload (pc' := 1169) dL_law__1167 rfl rfl ?_
  refine e_r_iconst (pc' := 1170) dL_law__1169 rfl (by decide) ?_
  refine e_r_iadd (pc' := 1171) dL_law__1170 rfl ?_
  rw [show e_w ((i : Int) + 1) = ((i + 1 : Nat) : Int) from (k_ix (k := 1) hL hi (by decide)).1]
  refine e_r_sld (pc' := 1172) (k_ix (k := 1) hL hi (by decide)).2.1 (k_ix (k := 1) hL hi (by decide)).2.2 hb dL_law__1171 rfl ?_
  rw [k_nat]
  refine e_r_aload_n (pc' := 1173) (by decide) dL_law__1172 rfl rfl rfl ?_
  refine e_r_callSH (av := [.inr (.inr 1), .inl (k_xi X i 1), .inr (.inr 557)]) (st := []) mhYL_stay ml_RL_182 (by simp [e_cat]) rfl rfl rfl dL_law__1173 (pc' := 1176) rfl hh ⟨Nat.le_refl _, hg⟩ hmo ?_
  refine e_r_istore (pc' := 1178) (loc' := [some (.inr (.inr 999999)), some (.inr (.inr 1)), some (.inr (.inr 64)), some (.inr (.inr 557)), some (.inl (i : Int)), some (.inl kk), none, none]) dL_law__1176 rfl rfl rfl rfl ?_
  refine e_r_aload_n (pc' := 1179) (by decide) dL_law__1178 rfl rfl rfl ?_
  refine e_r_aload_n (pc' := 1180) (by decide) dL_law__1179 rfl rfl rfl ?_
  refine e_r_iload (pc' := 1182) dL_law__1180 rfl rfl ?_
  refine e_r_iconst (pc' := 1183) dL_law__1182 rfl (by decide) ?_
  refine e_r_iadd (pc' := 1184) dL_law__1183 rfl ?_
  rw [show e_w ((i : Int) + 1) = ((i + 1 : Nat) : Int) from (k_ix (k := 1) hL hi (by decide)).1]
  refine e_r_sld (pc' := 1185) (k_ix (k := 1) hL hi (by decide)).2.1 (k_ix (k := 1) hL hi (by decide)).2.2 hb dL_law__1184 rfl ?_
  rw [k_nat]
  refine e_r_callV (a := 64) (av := [.inl (k_xi X i 1)]) (st := []) mqYX11_stay ml_RL_184 cl_11 rfl (Nat.le_of_ble_eq_true rfl) (by simp [e_cat]) rfl rfl rfl dL_law__1185 (pc' := 1188) rfl hm ⟨Nat.le_refl _, Nat.le_refl _⟩ hmo ?_
  refine e_r_istore (pc' := 1190) (loc' := [some (.inr (.inr 999999)), some (.inr (.inr 1)), some (.inr (.inr 64)), some (.inr (.inr 557)), some (.inl (i : Int)), some (.inl kk), some (.inl b), none]) dL_law__1188 rfl rfl rfl rfl ?_
  refine e_r_aload_n (pc' := 1191) (by decide) dL_law__1190 rfl rfl rfl ?_
  refine e_r_callV (a := 64) (av := []) (st := []) mqYX11_thrown ml_RL_131 cl_11 rfl (Nat.le_of_ble_eq_true rfl) (by simp) rfl rfl rfl dL_law__1191 (pc' := 1194) rfl c_thrown ⟨Nat.le_refl _, Nat.le_refl _⟩ hmo ?_
  refine e_r_iload (pc' := 1196) dL_law__1194 rfl rfl ?_
  refine e_r_icmp_eq (tgt := 1201) (pc' := 1199) dL_law__1196 rfl rfl (fun _ => ?_) (fun q => absurd ht q)
  refine e_r_iload (pc' := 1203) dL_law__1201 rfl rfl ?_
  refine e_r_if_ne (tgt := 1218) (pc' := 1206) dL_law__1203 rfl rfl (fun _ => ?_) (fun hk0 => ?_)
  · refine e_r_goto (pc' := 2729) dL_law__1218 rfl ?_
    exact e_forget (m := [true, true, true, true, true, false, false, false]) k9 rfl
  · refine e_r_aload_n (pc' := 1207) (by decide) dL_law__1206 rfl rfl rfl ?_
    refine e_r_iconst (pc' := 1208) dL_law__1207 rfl (by decide) ?_
    refine e_r_lald (j9 := 0) (pc' := 1209) rfl (Nat.le_of_ble_eq_true rfl) (by decide) (by decide) rfl dL_law__1208 rfl ?_
    refine e_r_iload (pc' := 1211) dL_law__1209 rfl rfl ?_
    refine e_r_i2l (pc' := 1212) dL_law__1211 rfl ?_
    refine e_r_lcmp (pc' := 1213) dL_law__1212 rfl ?_
    refine e_r_if_eq (tgt := 1218) (pc' := 1216) dL_law__1213 rfl rfl (fun _ => ?_) (fun q => absurd (by rw [ho hk0]; simp [e_cmp]) q)
    refine e_r_goto (pc' := 2729) dL_law__1218 rfl ?_
    exact e_forget (m := [true, true, true, true, true, false, false, false]) k9 rfl
theorem lc_17 {X : e_X} {d gn g1 i : Nat} {o : e_O} {M M1 M2 : e_M} {v : Int} (hL : X.2.2.2.2.2.1 ≤ 4608) (hb : X.2.2.2.2.1 < (e_H0 X).size) (hi : i + 9 ≤ X.2.2.2.2.2.1) (hg : gn ≤ g1) (hmo : e_mn (557, g1, e_RF, M2) o.2) (hx : e_E X d YX10_given [.inr (.inr 1)] (557, gn, e_RF, M) (.inl (some (.inl v)), (557, g1, e_RF, M1))) (hm : e_E X d YX11_given [.inr (.inr 64)] (557, g1, e_RF, M1) (.inl (some (.inl v)), (557, g1, e_RF, M2))) (k9 : e_G X (d + 1) YL_law_ 2729 [some (.inr (.inr 999999)), some (.inr (.inr 1)), some (.inr (.inr 64)), some (.inr (.inr 557)), some (.inl (i : Int)), none, none, none] [] (557, g1, e_RF, M2) o) : e_G X (d + 1) YL_law_ 1221 [some (.inr (.inr 999999)), some (.inr (.inr 1)), some (.inr (.inr 64)), some (.inr (.inr 557)), some (.inl (i : Int)), none, none, none] [] (557, gn, e_RF, M) o := by
  refine e_r_aload_n (pc' := 1222) (by decide) dL_law__1221 rfl rfl rfl ?_
  refine e_r_callV (a := 1) (av := []) (st := []) mqYX10_given ml_RL_185 cl_10 rfl (Nat.le_of_ble_eq_true rfl) (by simp [e_cat]) rfl rfl rfl dL_law__1222 (pc' := 1225) rfl hx ⟨Nat.le_refl _, hg⟩ hmo ?_
  refine e_r_aload_n (pc' := 1226) (by decide) dL_law__1225 rfl rfl rfl ?_
  refine e_r_callV (a := 64) (av := []) (st := [.inl v]) mqYX11_given ml_RL_188 cl_11 rfl (Nat.le_of_ble_eq_true rfl) (by simp [e_cat]) rfl rfl rfl dL_law__1226 (pc' := 1229) rfl hm ⟨Nat.le_refl _, Nat.le_refl _⟩ hmo ?_
  refine e_r_icmp_eq (tgt := 2729) (pc' := 1232) dL_law__1229 rfl rfl (fun _ => ?_) (fun q => absurd rfl q)
  exact e_forget (m := [true, true, true, true, true, false, false, false]) k9 rfl
theorem lc_18 {X : e_X} {d gn g1 i : Nat} {o : e_O} {M M1 M2 : e_M} {kk b : Int} (hL : X.2.2.2.2.2.1 ≤ 4608) (hb : X.2.2.2.2.1 < (e_H0 X).size) (hi : i + 9 ≤ X.2.2.2.2.2.1) (hg : gn ≤ g1) (hmo : e_mn (557, g1, e_RF, M2) o.2) (hh : e_E X d YL_giver [.inr (.inr 1), .inl (k_xi X i 1), .inr (.inr 557)] (557, gn, e_RF, M) (.inl (some (.inl kk)), (557, g1, e_RF, M1))) (hm : e_E X d YX11_giver [.inr (.inr 64), .inl (k_xi X i 1)] (557, g1, e_RF, M1) (.inl (some (.inl b)), (557, g1, e_RF, M2))) (ht : M2 64 0 = kk) (ho : kk = 0 → M2 557 0 = b) (k9 : e_G X (d + 1) YL_law_ 2729 [some (.inr (.inr 999999)), some (.inr (.inr 1)), some (.inr (.inr 64)), some (.inr (.inr 557)), some (.inl (i : Int)), none, none, none] [] (557, g1, e_RF, M2) o) : e_G X (d + 1) YL_law_ 1234 [some (.inr (.inr 999999)), some (.inr (.inr 1)), some (.inr (.inr 64)), some (.inr (.inr 557)), some (.inl (i : Int)), none, none, none] [] (557, gn, e_RF, M) o := by
  refine e_r_aload_n (pc' := 1235) (by decide) dL_law__1234 rfl rfl rfl ?_
  refine e_r_aload_n (pc' := 1236) (by decide) dL_law__1235 rfl rfl rfl ?_
  refine e_r_iload (pc' := 1238) dL_law__1236 rfl rfl ?_
  refine e_r_iconst (pc' := 1239) dL_law__1238 rfl (by decide) ?_
  refine e_r_iadd (pc' := 1240) dL_law__1239 rfl ?_
  rw [show e_w ((i : Int) + 1) = ((i + 1 : Nat) : Int) from (k_ix (k := 1) hL hi (by decide)).1]
  refine e_r_sld (pc' := 1241) (k_ix (k := 1) hL hi (by decide)).2.1 (k_ix (k := 1) hL hi (by decide)).2.2 hb dL_law__1240 rfl ?_
  rw [k_nat]
  refine e_r_aload_n (pc' := 1242) (by decide) dL_law__1241 rfl rfl rfl ?_
  refine e_r_callSH (av := [.inr (.inr 1), .inl (k_xi X i 1), .inr (.inr 557)]) (st := []) mhYL_giver ml_RL_189 (by simp [e_cat]) rfl rfl rfl dL_law__1242 (pc' := 1245) rfl hh ⟨Nat.le_refl _, hg⟩ hmo ?_
  refine e_r_istore (pc' := 1247) (loc' := [some (.inr (.inr 999999)), some (.inr (.inr 1)), some (.inr (.inr 64)), some (.inr (.inr 557)), some (.inl (i : Int)), some (.inl kk), none, none]) dL_law__1245 rfl rfl rfl rfl ?_
  refine e_r_aload_n (pc' := 1248) (by decide) dL_law__1247 rfl rfl rfl ?_
  refine e_r_aload_n (pc' := 1249) (by decide) dL_law__1248 rfl rfl rfl ?_
  refine e_r_iload (pc' := 1251) dL_law__1249 rfl rfl ?_
  refine e_r_iconst (pc' := 1252) dL_law__1251 rfl (by decide) ?_
  refine e_r_iadd (pc' := 1253) dL_law__1252 rfl ?_
  rw [show e_w ((i : Int) + 1) = ((i + 1 : Nat) : Int) from (k_ix (k := 1) hL hi (by decide)).1]
  refine e_r_sld (pc' := 1254) (k_ix (k := 1) hL hi (by decide)).2.1 (k_ix (k := 1) hL hi (by decide)).2.2 hb dL_law__1253 rfl ?_
  rw [k_nat]
  refine e_r_callV (a := 64) (av := [.inl (k_xi X i 1)]) (st := []) mqYX11_giver ml_RL_191 cl_11 rfl (Nat.le_of_ble_eq_true rfl) (by simp [e_cat]) rfl rfl rfl dL_law__1254 (pc' := 1257) rfl hm ⟨Nat.le_refl _, Nat.le_refl _⟩ hmo ?_
  refine e_r_istore (pc' := 1259) (loc' := [some (.inr (.inr 999999)), some (.inr (.inr 1)), some (.inr (.inr 64)), some (.inr (.inr 557)), some (.inl (i : Int)), some (.inl kk), some (.inl b), none]) dL_law__1257 rfl rfl rfl rfl ?_
  refine e_r_aload_n (pc' := 1260) (by decide) dL_law__1259 rfl rfl rfl ?_
  refine e_r_callV (a := 64) (av := []) (st := []) mqYX11_thrown ml_RL_131 cl_11 rfl (Nat.le_of_ble_eq_true rfl) (by simp) rfl rfl rfl dL_law__1260 (pc' := 1263) rfl c_thrown ⟨Nat.le_refl _, Nat.le_refl _⟩ hmo ?_
  refine e_r_iload (pc' := 1265) dL_law__1263 rfl rfl ?_
  refine e_r_icmp_eq (tgt := 1270) (pc' := 1268) dL_law__1265 rfl rfl (fun _ => ?_) (fun q => absurd ht q)
  refine e_r_iload (pc' := 1272) dL_law__1270 rfl rfl ?_
  refine e_r_if_ne (tgt := 1287) (pc' := 1275) dL_law__1272 rfl rfl (fun _ => ?_) (fun hk0 => ?_)
  · refine e_r_goto (pc' := 2729) dL_law__1287 rfl ?_
    exact e_forget (m := [true, true, true, true, true, false, false, false]) k9 rfl
  · refine e_r_aload_n (pc' := 1276) (by decide) dL_law__1275 rfl rfl rfl ?_
    refine e_r_iconst (pc' := 1277) dL_law__1276 rfl (by decide) ?_
    refine e_r_lald (j9 := 0) (pc' := 1278) rfl (Nat.le_of_ble_eq_true rfl) (by decide) (by decide) rfl dL_law__1277 rfl ?_
    refine e_r_iload (pc' := 1280) dL_law__1278 rfl rfl ?_
    refine e_r_i2l (pc' := 1281) dL_law__1280 rfl ?_
    refine e_r_lcmp (pc' := 1282) dL_law__1281 rfl ?_
    refine e_r_if_eq (tgt := 1287) (pc' := 1285) dL_law__1282 rfl rfl (fun _ => ?_) (fun q => absurd (by rw [ho hk0]; simp [e_cmp]) q)
    refine e_r_goto (pc' := 2729) dL_law__1287 rfl ?_
    exact e_forget (m := [true, true, true, true, true, false, false, false]) k9 rfl
theorem lc_19 {X : e_X} {d gn g1 i : Nat} {o : e_O} {M M1 M2 : e_M} {kk b : Int} (hL : X.2.2.2.2.2.1 ≤ 4608) (hb : X.2.2.2.2.1 < (e_H0 X).size) (hi : i + 9 ≤ X.2.2.2.2.2.1) (hg : gn ≤ g1) (hmo : e_mn (557, g1, e_RF, M2) o.2) (hh : e_E X d YL_skips [.inr (.inr 1), .inl (k_xi X i 1), .inl (k_xi X i 2), .inl (k_xi X i 3), .inr (.inr 557)] (557, gn, e_RF, M) (.inl (some (.inl kk)), (557, g1, e_RF, M1))) (hm : e_E X d YX11_skips [.inr (.inr 64), .inl (k_xi X i 1), .inl (k_xi X i 2), .inl (k_xi X i 3)] (557, g1, e_RF, M1) (.inl (some (.inl b)), (557, g1, e_RF, M2))) (ht : M2 64 0 = kk) (ho : kk = 0 → M2 557 0 = b) (k9 : e_G X (d + 1) YL_law_ 2729 [some (.inr (.inr 999999)), some (.inr (.inr 1)), some (.inr (.inr 64)), some (.inr (.inr 557)), some (.inl (i : Int)), none, none, none] [] (557, g1, e_RF, M2) o) : e_G X (d + 1) YL_law_ 1290 [some (.inr (.inr 999999)), some (.inr (.inr 1)), some (.inr (.inr 64)), some (.inr (.inr 557)), some (.inl (i : Int)), none, none, none] [] (557, gn, e_RF, M) o := by
  refine e_r_aload_n (pc' := 1291) (by decide) dL_law__1290 rfl rfl rfl ?_
  refine e_r_aload_n (pc' := 1292) (by decide) dL_law__1291 rfl rfl rfl ?_
  refine e_r_iload (pc' := 1294) dL_law__1292 rfl rfl ?_
  refine e_r_iconst (pc' := 1295) dL_law__1294 rfl (by decide) ?_
  refine e_r_iadd (pc' := 1296) dL_law__1295 rfl ?_
  rw [show e_w ((i : Int) + 1) = ((i + 1 : Nat) : Int) from (k_ix (k := 1) hL hi (by decide)).1]
  refine e_r_sld (pc' := 1297) (k_ix (k := 1) hL hi (by decide)).2.1 (k_ix (k := 1) hL hi (by decide)).2.2 hb dL_law__1296 rfl ?_
  rw [k_nat]
  refine e_r_aload_n (pc' := 1298) (by decide) dL_law__1297 rfl rfl rfl ?_
  refine e_r_iload (pc' := 1300) dL_law__1298 rfl rfl ?_
  refine e_r_iconst (pc' := 1301) dL_law__1300 rfl (by decide) ?_
  refine e_r_iadd (pc' := 1302) dL_law__1301 rfl ?_
  rw [show e_w ((i : Int) + 2) = ((i + 2 : Nat) : Int) from (k_ix (k := 2) hL hi (by decide)).1]
  refine e_r_sld (pc' := 1303) (k_ix (k := 2) hL hi (by decide)).2.1 (k_ix (k := 2) hL hi (by decide)).2.2 hb dL_law__1302 rfl ?_
  rw [k_nat]
  refine e_r_aload_n (pc' := 1304) (by decide) dL_law__1303 rfl rfl rfl ?_
  refine e_r_iload (pc' := 1306) dL_law__1304 rfl rfl ?_
  refine e_r_iconst (pc' := 1307) dL_law__1306 rfl (by decide) ?_
  refine e_r_iadd (pc' := 1308) dL_law__1307 rfl ?_
  rw [show e_w ((i : Int) + 3) = ((i + 3 : Nat) : Int) from (k_ix (k := 3) hL hi (by decide)).1]
  refine e_r_sld (pc' := 1309) (k_ix (k := 3) hL hi (by decide)).2.1 (k_ix (k := 3) hL hi (by decide)).2.2 hb dL_law__1308 rfl ?_
  rw [k_nat]
  refine e_r_aload_n (pc' := 1310) (by decide) dL_law__1309 rfl rfl rfl ?_
  refine e_r_callSH (av := [.inr (.inr 1), .inl (k_xi X i 1), .inl (k_xi X i 2), .inl (k_xi X i 3), .inr (.inr 557)]) (st := []) mhYL_skips ml_RL_192 (by simp [e_cat]) rfl rfl rfl dL_law__1310 (pc' := 1313) rfl hh ⟨Nat.le_refl _, hg⟩ hmo ?_
  refine e_r_istore (pc' := 1315) (loc' := [some (.inr (.inr 999999)), some (.inr (.inr 1)), some (.inr (.inr 64)), some (.inr (.inr 557)), some (.inl (i : Int)), some (.inl kk), none, none]) dL_law__1313 rfl rfl rfl rfl ?_
  refine e_r_aload_n (pc' := 1316) (by decide) dL_law__1315 rfl rfl rfl ?_
  refine e_r_aload_n (pc' := 1317) (by decide) dL_law__1316 rfl rfl rfl ?_
  refine e_r_iload (pc' := 1319) dL_law__1317 rfl rfl ?_
  refine e_r_iconst (pc' := 1320) dL_law__1319 rfl (by decide) ?_
  refine e_r_iadd (pc' := 1321) dL_law__1320 rfl ?_
  rw [show e_w ((i : Int) + 1) = ((i + 1 : Nat) : Int) from (k_ix (k := 1) hL hi (by decide)).1]
  refine e_r_sld (pc' := 1322) (k_ix (k := 1) hL hi (by decide)).2.1 (k_ix (k := 1) hL hi (by decide)).2.2 hb dL_law__1321 rfl ?_
  rw [k_nat]
  refine e_r_aload_n (pc' := 1323) (by decide) dL_law__1322 rfl rfl rfl ?_
  refine e_r_iload (pc' := 1325) dL_law__1323 rfl rfl ?_
  refine e_r_iconst (pc' := 1326) dL_law__1325 rfl (by decide) ?_
  refine e_r_iadd (pc' := 1327) dL_law__1326 rfl ?_
  rw [show e_w ((i : Int) + 2) = ((i + 2 : Nat) : Int) from (k_ix (k := 2) hL hi (by decide)).1]
  refine e_r_sld (pc' := 1328) (k_ix (k := 2) hL hi (by decide)).2.1 (k_ix (k := 2) hL hi (by decide)).2.2 hb dL_law__1327 rfl ?_
  rw [k_nat]
  refine e_r_aload_n (pc' := 1329) (by decide) dL_law__1328 rfl rfl rfl ?_
  refine e_r_iload (pc' := 1331) dL_law__1329 rfl rfl ?_
  refine e_r_iconst (pc' := 1332) dL_law__1331 rfl (by decide) ?_
  refine e_r_iadd (pc' := 1333) dL_law__1332 rfl ?_
  rw [show e_w ((i : Int) + 3) = ((i + 3 : Nat) : Int) from (k_ix (k := 3) hL hi (by decide)).1]
  refine e_r_sld (pc' := 1334) (k_ix (k := 3) hL hi (by decide)).2.1 (k_ix (k := 3) hL hi (by decide)).2.2 hb dL_law__1333 rfl ?_
  rw [k_nat]
  refine e_r_callV (a := 64) (av := [.inl (k_xi X i 1), .inl (k_xi X i 2), .inl (k_xi X i 3)]) (st := []) mqYX11_skips ml_RL_195 cl_11 rfl (Nat.le_of_ble_eq_true rfl) (by simp [e_cat]) rfl rfl rfl dL_law__1334 (pc' := 1337) rfl hm ⟨Nat.le_refl _, Nat.le_refl _⟩ hmo ?_
  refine e_r_istore (pc' := 1339) (loc' := [some (.inr (.inr 999999)), some (.inr (.inr 1)), some (.inr (.inr 64)), some (.inr (.inr 557)), some (.inl (i : Int)), some (.inl kk), some (.inl b), none]) dL_law__1337 rfl rfl rfl rfl ?_
  refine e_r_aload_n (pc' := 1340) (by decide) dL_law__1339 rfl rfl rfl ?_
  refine e_r_callV (a := 64) (av := []) (st := []) mqYX11_thrown ml_RL_131 cl_11 rfl (Nat.le_of_ble_eq_true rfl) (by simp) rfl rfl rfl dL_law__1340 (pc' := 1343) rfl c_thrown ⟨Nat.le_refl _, Nat.le_refl _⟩ hmo ?_
  refine e_r_iload (pc' := 1345) dL_law__1343 rfl rfl ?_
  refine e_r_icmp_eq (tgt := 1350) (pc' := 1348) dL_law__1345 rfl rfl (fun _ => ?_) (fun q => absurd ht q)
  refine e_r_iload (pc' := 1352) dL_law__1350 rfl rfl ?_
  refine e_r_if_ne (tgt := 1367) (pc' := 1355) dL_law__1352 rfl rfl (fun _ => ?_) (fun hk0 => ?_)
  · refine e_r_goto (pc' := 2729) dL_law__1367 rfl ?_
    exact e_forget (m := [true, true, true, true, true, false, false, false]) k9 rfl
  · refine e_r_aload_n (pc' := 1356) (by decide) dL_law__1355 rfl rfl rfl ?_
    refine e_r_iconst (pc' := 1357) dL_law__1356 rfl (by decide) ?_
    refine e_r_lald (j9 := 0) (pc' := 1358) rfl (Nat.le_of_ble_eq_true rfl) (by decide) (by decide) rfl dL_law__1357 rfl ?_
    refine e_r_iload (pc' := 1360) dL_law__1358 rfl rfl ?_
    refine e_r_i2l (pc' := 1361) dL_law__1360 rfl ?_
    refine e_r_lcmp (pc' := 1362) dL_law__1361 rfl ?_
    refine e_r_if_eq (tgt := 1367) (pc' := 1365) dL_law__1362 rfl rfl (fun _ => ?_) (fun q => absurd (by rw [ho hk0]; simp [e_cmp]) q)
    refine e_r_goto (pc' := 2729) dL_law__1367 rfl ?_
    exact e_forget (m := [true, true, true, true, true, false, false, false]) k9 rfl
theorem lc_20 {X : e_X} {d gn g1 i : Nat} {o : e_O} {M M1 M2 : e_M} {kk b : Int} (hL : X.2.2.2.2.2.1 ≤ 4608) (hb : X.2.2.2.2.1 < (e_H0 X).size) (hi : i + 9 ≤ X.2.2.2.2.2.1) (hg : gn ≤ g1) (hmo : e_mn (557, g1, e_RF, M2) o.2) (hh : e_E X d YL_apart [.inr (.inr 1), .inl (k_xi X i 1), .inl (k_xi X i 2), .inl (k_xi X i 3), .inr (.inr 557)] (557, gn, e_RF, M) (.inl (some (.inl kk)), (557, g1, e_RF, M1))) (hm : e_E X d YX11_apart [.inr (.inr 64), .inl (k_xi X i 1), .inl (k_xi X i 2), .inl (k_xi X i 3)] (557, g1, e_RF, M1) (.inl (some (.inl b)), (557, g1, e_RF, M2))) (ht : M2 64 0 = kk) (ho : kk = 0 → M2 557 0 = b) (k9 : e_G X (d + 1) YL_law_ 2729 [some (.inr (.inr 999999)), some (.inr (.inr 1)), some (.inr (.inr 64)), some (.inr (.inr 557)), some (.inl (i : Int)), none, none, none] [] (557, g1, e_RF, M2) o) : e_G X (d + 1) YL_law_ 1370 [some (.inr (.inr 999999)), some (.inr (.inr 1)), some (.inr (.inr 64)), some (.inr (.inr 557)), some (.inl (i : Int)), none, none, none] [] (557, gn, e_RF, M) o := by
  refine e_r_aload_n (pc' := 1371) (by decide) dL_law__1370 rfl rfl rfl ?_
  refine e_r_aload_n (pc' := 1372) (by decide) dL_law__1371 rfl rfl rfl ?_
  refine e_r_iload (pc' := 1374) dL_law__1372 rfl rfl ?_
  refine e_r_iconst (pc' := 1375) dL_law__1374 rfl (by decide) ?_
  refine e_r_iadd (pc' := 1376) dL_law__1375 rfl ?_
  rw [show e_w ((i : Int) + 1) = ((i + 1 : Nat) : Int) from (k_ix (k := 1) hL hi (by decide)).1]
  refine e_r_sld (pc' := 1377) (k_ix (k := 1) hL hi (by decide)).2.1 (k_ix (k := 1) hL hi (by decide)).2.2 hb dL_law__1376 rfl ?_
  rw [k_nat]
  refine e_r_aload_n (pc' := 1378) (by decide) dL_law__1377 rfl rfl rfl ?_
  refine e_r_iload (pc' := 1380) dL_law__1378 rfl rfl ?_
  refine e_r_iconst (pc' := 1381) dL_law__1380 rfl (by decide) ?_
  refine e_r_iadd (pc' := 1382) dL_law__1381 rfl ?_
  rw [show e_w ((i : Int) + 2) = ((i + 2 : Nat) : Int) from (k_ix (k := 2) hL hi (by decide)).1]
  refine e_r_sld (pc' := 1383) (k_ix (k := 2) hL hi (by decide)).2.1 (k_ix (k := 2) hL hi (by decide)).2.2 hb dL_law__1382 rfl ?_
  rw [k_nat]
  refine e_r_aload_n (pc' := 1384) (by decide) dL_law__1383 rfl rfl rfl ?_
  refine e_r_iload (pc' := 1386) dL_law__1384 rfl rfl ?_
  refine e_r_iconst (pc' := 1387) dL_law__1386 rfl (by decide) ?_
  refine e_r_iadd (pc' := 1388) dL_law__1387 rfl ?_
  rw [show e_w ((i : Int) + 3) = ((i + 3 : Nat) : Int) from (k_ix (k := 3) hL hi (by decide)).1]
  refine e_r_sld (pc' := 1389) (k_ix (k := 3) hL hi (by decide)).2.1 (k_ix (k := 3) hL hi (by decide)).2.2 hb dL_law__1388 rfl ?_
  rw [k_nat]
  refine e_r_aload_n (pc' := 1390) (by decide) dL_law__1389 rfl rfl rfl ?_
  refine e_r_callSH (av := [.inr (.inr 1), .inl (k_xi X i 1), .inl (k_xi X i 2), .inl (k_xi X i 3), .inr (.inr 557)]) (st := []) mhYL_apart ml_RL_196 (by simp [e_cat]) rfl rfl rfl dL_law__1390 (pc' := 1393) rfl hh ⟨Nat.le_refl _, hg⟩ hmo ?_
  refine e_r_istore (pc' := 1395) (loc' := [some (.inr (.inr 999999)), some (.inr (.inr 1)), some (.inr (.inr 64)), some (.inr (.inr 557)), some (.inl (i : Int)), some (.inl kk), none, none]) dL_law__1393 rfl rfl rfl rfl ?_
  refine e_r_aload_n (pc' := 1396) (by decide) dL_law__1395 rfl rfl rfl ?_
  refine e_r_aload_n (pc' := 1397) (by decide) dL_law__1396 rfl rfl rfl ?_
  refine e_r_iload (pc' := 1399) dL_law__1397 rfl rfl ?_
  refine e_r_iconst (pc' := 1400) dL_law__1399 rfl (by decide) ?_
  refine e_r_iadd (pc' := 1401) dL_law__1400 rfl ?_
  rw [show e_w ((i : Int) + 1) = ((i + 1 : Nat) : Int) from (k_ix (k := 1) hL hi (by decide)).1]
  refine e_r_sld (pc' := 1402) (k_ix (k := 1) hL hi (by decide)).2.1 (k_ix (k := 1) hL hi (by decide)).2.2 hb dL_law__1401 rfl ?_
  rw [k_nat]
  refine e_r_aload_n (pc' := 1403) (by decide) dL_law__1402 rfl rfl rfl ?_
  refine e_r_iload (pc' := 1405) dL_law__1403 rfl rfl ?_
  refine e_r_iconst (pc' := 1406) dL_law__1405 rfl (by decide) ?_
  refine e_r_iadd (pc' := 1407) dL_law__1406 rfl ?_
  rw [show e_w ((i : Int) + 2) = ((i + 2 : Nat) : Int) from (k_ix (k := 2) hL hi (by decide)).1]
  refine e_r_sld (pc' := 1408) (k_ix (k := 2) hL hi (by decide)).2.1 (k_ix (k := 2) hL hi (by decide)).2.2 hb dL_law__1407 rfl ?_
  rw [k_nat]
  refine e_r_aload_n (pc' := 1409) (by decide) dL_law__1408 rfl rfl rfl ?_
  refine e_r_iload (pc' := 1411) dL_law__1409 rfl rfl ?_
  refine e_r_iconst (pc' := 1412) dL_law__1411 rfl (by decide) ?_
  refine e_r_iadd (pc' := 1413) dL_law__1412 rfl ?_
  rw [show e_w ((i : Int) + 3) = ((i + 3 : Nat) : Int) from (k_ix (k := 3) hL hi (by decide)).1]
  refine e_r_sld (pc' := 1414) (k_ix (k := 3) hL hi (by decide)).2.1 (k_ix (k := 3) hL hi (by decide)).2.2 hb dL_law__1413 rfl ?_
  rw [k_nat]
  refine e_r_callV (a := 64) (av := [.inl (k_xi X i 1), .inl (k_xi X i 2), .inl (k_xi X i 3)]) (st := []) mqYX11_apart ml_RL_198 cl_11 rfl (Nat.le_of_ble_eq_true rfl) (by simp [e_cat]) rfl rfl rfl dL_law__1414 (pc' := 1417) rfl hm ⟨Nat.le_refl _, Nat.le_refl _⟩ hmo ?_
  refine e_r_istore (pc' := 1419) (loc' := [some (.inr (.inr 999999)), some (.inr (.inr 1)), some (.inr (.inr 64)), some (.inr (.inr 557)), some (.inl (i : Int)), some (.inl kk), some (.inl b), none]) dL_law__1417 rfl rfl rfl rfl ?_
  refine e_r_aload_n (pc' := 1420) (by decide) dL_law__1419 rfl rfl rfl ?_
  refine e_r_callV (a := 64) (av := []) (st := []) mqYX11_thrown ml_RL_131 cl_11 rfl (Nat.le_of_ble_eq_true rfl) (by simp) rfl rfl rfl dL_law__1420 (pc' := 1423) rfl c_thrown ⟨Nat.le_refl _, Nat.le_refl _⟩ hmo ?_
  refine e_r_iload (pc' := 1425) dL_law__1423 rfl rfl ?_
  refine e_r_icmp_eq (tgt := 1430) (pc' := 1428) dL_law__1425 rfl rfl (fun _ => ?_) (fun q => absurd ht q)
  refine e_r_iload (pc' := 1432) dL_law__1430 rfl rfl ?_
  refine e_r_if_ne (tgt := 1447) (pc' := 1435) dL_law__1432 rfl rfl (fun _ => ?_) (fun hk0 => ?_)
  · refine e_r_goto (pc' := 2729) dL_law__1447 rfl ?_
    exact e_forget (m := [true, true, true, true, true, false, false, false]) k9 rfl
  · refine e_r_aload_n (pc' := 1436) (by decide) dL_law__1435 rfl rfl rfl ?_
    refine e_r_iconst (pc' := 1437) dL_law__1436 rfl (by decide) ?_
    refine e_r_lald (j9 := 0) (pc' := 1438) rfl (Nat.le_of_ble_eq_true rfl) (by decide) (by decide) rfl dL_law__1437 rfl ?_
    refine e_r_iload (pc' := 1440) dL_law__1438 rfl rfl ?_
    refine e_r_i2l (pc' := 1441) dL_law__1440 rfl ?_
    refine e_r_lcmp (pc' := 1442) dL_law__1441 rfl ?_
    refine e_r_if_eq (tgt := 1447) (pc' := 1445) dL_law__1442 rfl rfl (fun _ => ?_) (fun q => absurd (by rw [ho hk0]; simp [e_cmp]) q)
    refine e_r_goto (pc' := 2729) dL_law__1447 rfl ?_
    exact e_forget (m := [true, true, true, true, true, false, false, false]) k9 rfl
theorem lc_21 {X : e_X} {d gn g1 i : Nat} {o : e_O} {M M1 M2 : e_M} {kk b : Int} (hL : X.2.2.2.2.2.1 ≤ 4608) (hb : X.2.2.2.2.1 < (e_H0 X).size) (hi : i + 9 ≤ X.2.2.2.2.2.1) (hg : gn ≤ g1) (hmo : e_mn (557, g1, e_RF, M2) o.2) (hh : e_E X d YL_together [.inr (.inr 1), .inl (k_xi X i 1), .inl (k_xi X i 2), .inl (k_xi X i 3), .inr (.inr 557)] (557, gn, e_RF, M) (.inl (some (.inl kk)), (557, g1, e_RF, M1))) (hm : e_E X d YX11_together [.inr (.inr 64), .inl (k_xi X i 1), .inl (k_xi X i 2), .inl (k_xi X i 3)] (557, g1, e_RF, M1) (.inl (some (.inl b)), (557, g1, e_RF, M2))) (ht : M2 64 0 = kk) (ho : kk = 0 → M2 557 0 = b) (k9 : e_G X (d + 1) YL_law_ 2729 [some (.inr (.inr 999999)), some (.inr (.inr 1)), some (.inr (.inr 64)), some (.inr (.inr 557)), some (.inl (i : Int)), none, none, none] [] (557, g1, e_RF, M2) o) : e_G X (d + 1) YL_law_ 1450 [some (.inr (.inr 999999)), some (.inr (.inr 1)), some (.inr (.inr 64)), some (.inr (.inr 557)), some (.inl (i : Int)), none, none, none] [] (557, gn, e_RF, M) o := by
  refine e_r_aload_n (pc' := 1451) (by decide) dL_law__1450 rfl rfl rfl ?_
  refine e_r_aload_n (pc' := 1452) (by decide) dL_law__1451 rfl rfl rfl ?_
  refine e_r_iload (pc' := 1454) dL_law__1452 rfl rfl ?_
  refine e_r_iconst (pc' := 1455) dL_law__1454 rfl (by decide) ?_
  refine e_r_iadd (pc' := 1456) dL_law__1455 rfl ?_
  rw [show e_w ((i : Int) + 1) = ((i + 1 : Nat) : Int) from (k_ix (k := 1) hL hi (by decide)).1]
  refine e_r_sld (pc' := 1457) (k_ix (k := 1) hL hi (by decide)).2.1 (k_ix (k := 1) hL hi (by decide)).2.2 hb dL_law__1456 rfl ?_
  rw [k_nat]
  refine e_r_aload_n (pc' := 1458) (by decide) dL_law__1457 rfl rfl rfl ?_
  refine e_r_iload (pc' := 1460) dL_law__1458 rfl rfl ?_
  refine e_r_iconst (pc' := 1461) dL_law__1460 rfl (by decide) ?_
  refine e_r_iadd (pc' := 1462) dL_law__1461 rfl ?_
  rw [show e_w ((i : Int) + 2) = ((i + 2 : Nat) : Int) from (k_ix (k := 2) hL hi (by decide)).1]
  refine e_r_sld (pc' := 1463) (k_ix (k := 2) hL hi (by decide)).2.1 (k_ix (k := 2) hL hi (by decide)).2.2 hb dL_law__1462 rfl ?_
  rw [k_nat]
  refine e_r_aload_n (pc' := 1464) (by decide) dL_law__1463 rfl rfl rfl ?_
  refine e_r_iload (pc' := 1466) dL_law__1464 rfl rfl ?_
  refine e_r_iconst (pc' := 1467) dL_law__1466 rfl (by decide) ?_
  refine e_r_iadd (pc' := 1468) dL_law__1467 rfl ?_
  rw [show e_w ((i : Int) + 3) = ((i + 3 : Nat) : Int) from (k_ix (k := 3) hL hi (by decide)).1]
  refine e_r_sld (pc' := 1469) (k_ix (k := 3) hL hi (by decide)).2.1 (k_ix (k := 3) hL hi (by decide)).2.2 hb dL_law__1468 rfl ?_
  rw [k_nat]
  refine e_r_aload_n (pc' := 1470) (by decide) dL_law__1469 rfl rfl rfl ?_
  refine e_r_callSH (av := [.inr (.inr 1), .inl (k_xi X i 1), .inl (k_xi X i 2), .inl (k_xi X i 3), .inr (.inr 557)]) (st := []) mhYL_together ml_RL_199 (by simp [e_cat]) rfl rfl rfl dL_law__1470 (pc' := 1473) rfl hh ⟨Nat.le_refl _, hg⟩ hmo ?_
  refine e_r_istore (pc' := 1475) (loc' := [some (.inr (.inr 999999)), some (.inr (.inr 1)), some (.inr (.inr 64)), some (.inr (.inr 557)), some (.inl (i : Int)), some (.inl kk), none, none]) dL_law__1473 rfl rfl rfl rfl ?_
  refine e_r_aload_n (pc' := 1476) (by decide) dL_law__1475 rfl rfl rfl ?_
  refine e_r_aload_n (pc' := 1477) (by decide) dL_law__1476 rfl rfl rfl ?_
  refine e_r_iload (pc' := 1479) dL_law__1477 rfl rfl ?_
  refine e_r_iconst (pc' := 1480) dL_law__1479 rfl (by decide) ?_
  refine e_r_iadd (pc' := 1481) dL_law__1480 rfl ?_
  rw [show e_w ((i : Int) + 1) = ((i + 1 : Nat) : Int) from (k_ix (k := 1) hL hi (by decide)).1]
  refine e_r_sld (pc' := 1482) (k_ix (k := 1) hL hi (by decide)).2.1 (k_ix (k := 1) hL hi (by decide)).2.2 hb dL_law__1481 rfl ?_
  rw [k_nat]
  refine e_r_aload_n (pc' := 1483) (by decide) dL_law__1482 rfl rfl rfl ?_
  refine e_r_iload (pc' := 1485) dL_law__1483 rfl rfl ?_
  refine e_r_iconst (pc' := 1486) dL_law__1485 rfl (by decide) ?_
  refine e_r_iadd (pc' := 1487) dL_law__1486 rfl ?_
  rw [show e_w ((i : Int) + 2) = ((i + 2 : Nat) : Int) from (k_ix (k := 2) hL hi (by decide)).1]
  refine e_r_sld (pc' := 1488) (k_ix (k := 2) hL hi (by decide)).2.1 (k_ix (k := 2) hL hi (by decide)).2.2 hb dL_law__1487 rfl ?_
  rw [k_nat]
  refine e_r_aload_n (pc' := 1489) (by decide) dL_law__1488 rfl rfl rfl ?_
  refine e_r_iload (pc' := 1491) dL_law__1489 rfl rfl ?_
  refine e_r_iconst (pc' := 1492) dL_law__1491 rfl (by decide) ?_
  refine e_r_iadd (pc' := 1493) dL_law__1492 rfl ?_
  rw [show e_w ((i : Int) + 3) = ((i + 3 : Nat) : Int) from (k_ix (k := 3) hL hi (by decide)).1]
  refine e_r_sld (pc' := 1494) (k_ix (k := 3) hL hi (by decide)).2.1 (k_ix (k := 3) hL hi (by decide)).2.2 hb dL_law__1493 rfl ?_
  rw [k_nat]
  refine e_r_callV (a := 64) (av := [.inl (k_xi X i 1), .inl (k_xi X i 2), .inl (k_xi X i 3)]) (st := []) mqYX11_together ml_RL_201 cl_11 rfl (Nat.le_of_ble_eq_true rfl) (by simp [e_cat]) rfl rfl rfl dL_law__1494 (pc' := 1497) rfl hm ⟨Nat.le_refl _, Nat.le_refl _⟩ hmo ?_
  refine e_r_istore (pc' := 1499) (loc' := [some (.inr (.inr 999999)), some (.inr (.inr 1)), some (.inr (.inr 64)), some (.inr (.inr 557)), some (.inl (i : Int)), some (.inl kk), some (.inl b), none]) dL_law__1497 rfl rfl rfl rfl ?_
  refine e_r_aload_n (pc' := 1500) (by decide) dL_law__1499 rfl rfl rfl ?_
  refine e_r_callV (a := 64) (av := []) (st := []) mqYX11_thrown ml_RL_131 cl_11 rfl (Nat.le_of_ble_eq_true rfl) (by simp) rfl rfl rfl dL_law__1500 (pc' := 1503) rfl c_thrown ⟨Nat.le_refl _, Nat.le_refl _⟩ hmo ?_
  refine e_r_iload (pc' := 1505) dL_law__1503 rfl rfl ?_
  refine e_r_icmp_eq (tgt := 1510) (pc' := 1508) dL_law__1505 rfl rfl (fun _ => ?_) (fun q => absurd ht q)
  refine e_r_iload (pc' := 1512) dL_law__1510 rfl rfl ?_
  refine e_r_if_ne (tgt := 1527) (pc' := 1515) dL_law__1512 rfl rfl (fun _ => ?_) (fun hk0 => ?_)
  · refine e_r_goto (pc' := 2729) dL_law__1527 rfl ?_
    exact e_forget (m := [true, true, true, true, true, false, false, false]) k9 rfl
  · refine e_r_aload_n (pc' := 1516) (by decide) dL_law__1515 rfl rfl rfl ?_
    refine e_r_iconst (pc' := 1517) dL_law__1516 rfl (by decide) ?_
    refine e_r_lald (j9 := 0) (pc' := 1518) rfl (Nat.le_of_ble_eq_true rfl) (by decide) (by decide) rfl dL_law__1517 rfl ?_
    refine e_r_iload (pc' := 1520) dL_law__1518 rfl rfl ?_
    refine e_r_i2l (pc' := 1521) dL_law__1520 rfl ?_
    refine e_r_lcmp (pc' := 1522) dL_law__1521 rfl ?_
    refine e_r_if_eq (tgt := 1527) (pc' := 1525) dL_law__1522 rfl rfl (fun _ => ?_) (fun q => absurd (by rw [ho hk0]; simp [e_cmp]) q)
    refine e_r_goto (pc' := 2729) dL_law__1527 rfl ?_
    exact e_forget (m := [true, true, true, true, true, false, false, false]) k9 rfl
theorem lc_22 {X : e_X} {d gn g1 i : Nat} {o : e_O} {M M1 M2 : e_M} {kk b : Int} (hL : X.2.2.2.2.2.1 ≤ 4608) (hb : X.2.2.2.2.1 < (e_H0 X).size) (hi : i + 9 ≤ X.2.2.2.2.2.1) (hg : gn ≤ g1) (hmo : e_mn (557, g1, e_RF, M2) o.2) (hh : e_E X d YL_met [.inr (.inr 1), .inl (k_xi X i 1), .inl (k_xi X i 2), .inl (k_xi X i 3), .inr (.inr 557)] (557, gn, e_RF, M) (.inl (some (.inl kk)), (557, g1, e_RF, M1))) (hm : e_E X d YX11_met [.inr (.inr 64), .inl (k_xi X i 1), .inl (k_xi X i 2), .inl (k_xi X i 3)] (557, g1, e_RF, M1) (.inl (some (.inr (.inl b))), (557, g1, e_RF, M2))) (ht : M2 64 0 = kk) (ho : kk = 0 → M2 557 0 = b) (k9 : e_G X (d + 1) YL_law_ 2729 [some (.inr (.inr 999999)), some (.inr (.inr 1)), some (.inr (.inr 64)), some (.inr (.inr 557)), some (.inl (i : Int)), none, none, none] [] (557, g1, e_RF, M2) o) : e_G X (d + 1) YL_law_ 1530 [some (.inr (.inr 999999)), some (.inr (.inr 1)), some (.inr (.inr 64)), some (.inr (.inr 557)), some (.inl (i : Int)), none, none, none] [] (557, gn, e_RF, M) o := by
  refine e_r_aload_n (pc' := 1531) (by decide) dL_law__1530 rfl rfl rfl ?_
  refine e_r_aload_n (pc' := 1532) (by decide) dL_law__1531 rfl rfl rfl ?_
  refine e_r_iload (pc' := 1534) dL_law__1532 rfl rfl ?_
  refine e_r_iconst (pc' := 1535) dL_law__1534 rfl (by decide) ?_
  refine e_r_iadd (pc' := 1536) dL_law__1535 rfl ?_
  rw [show e_w ((i : Int) + 1) = ((i + 1 : Nat) : Int) from (k_ix (k := 1) hL hi (by decide)).1]
  refine e_r_sld (pc' := 1537) (k_ix (k := 1) hL hi (by decide)).2.1 (k_ix (k := 1) hL hi (by decide)).2.2 hb dL_law__1536 rfl ?_
  rw [k_nat]
  refine e_r_aload_n (pc' := 1538) (by decide) dL_law__1537 rfl rfl rfl ?_
  refine e_r_iload (pc' := 1540) dL_law__1538 rfl rfl ?_
  refine e_r_iconst (pc' := 1541) dL_law__1540 rfl (by decide) ?_
  refine e_r_iadd (pc' := 1542) dL_law__1541 rfl ?_
  rw [show e_w ((i : Int) + 2) = ((i + 2 : Nat) : Int) from (k_ix (k := 2) hL hi (by decide)).1]
  refine e_r_sld (pc' := 1543) (k_ix (k := 2) hL hi (by decide)).2.1 (k_ix (k := 2) hL hi (by decide)).2.2 hb dL_law__1542 rfl ?_
  rw [k_nat]
  refine e_r_aload_n (pc' := 1544) (by decide) dL_law__1543 rfl rfl rfl ?_
  refine e_r_iload (pc' := 1546) dL_law__1544 rfl rfl ?_
  refine e_r_iconst (pc' := 1547) dL_law__1546 rfl (by decide) ?_
  refine e_r_iadd (pc' := 1548) dL_law__1547 rfl ?_
  rw [show e_w ((i : Int) + 3) = ((i + 3 : Nat) : Int) from (k_ix (k := 3) hL hi (by decide)).1]
  refine e_r_sld (pc' := 1549) (k_ix (k := 3) hL hi (by decide)).2.1 (k_ix (k := 3) hL hi (by decide)).2.2 hb dL_law__1548 rfl ?_
  rw [k_nat]
  refine e_r_aload_n (pc' := 1550) (by decide) dL_law__1549 rfl rfl rfl ?_
  refine e_r_callSH (av := [.inr (.inr 1), .inl (k_xi X i 1), .inl (k_xi X i 2), .inl (k_xi X i 3), .inr (.inr 557)]) (st := []) mhYL_met ml_RL_202 (by simp [e_cat]) rfl rfl rfl dL_law__1550 (pc' := 1553) rfl hh ⟨Nat.le_refl _, hg⟩ hmo ?_
  refine e_r_istore (pc' := 1555) (loc' := [some (.inr (.inr 999999)), some (.inr (.inr 1)), some (.inr (.inr 64)), some (.inr (.inr 557)), some (.inl (i : Int)), some (.inl kk), none, none]) dL_law__1553 rfl rfl rfl rfl ?_
  refine e_r_aload_n (pc' := 1556) (by decide) dL_law__1555 rfl rfl rfl ?_
  refine e_r_aload_n (pc' := 1557) (by decide) dL_law__1556 rfl rfl rfl ?_
  refine e_r_iload (pc' := 1559) dL_law__1557 rfl rfl ?_
  refine e_r_iconst (pc' := 1560) dL_law__1559 rfl (by decide) ?_
  refine e_r_iadd (pc' := 1561) dL_law__1560 rfl ?_
  rw [show e_w ((i : Int) + 1) = ((i + 1 : Nat) : Int) from (k_ix (k := 1) hL hi (by decide)).1]
  refine e_r_sld (pc' := 1562) (k_ix (k := 1) hL hi (by decide)).2.1 (k_ix (k := 1) hL hi (by decide)).2.2 hb dL_law__1561 rfl ?_
  rw [k_nat]
  refine e_r_aload_n (pc' := 1563) (by decide) dL_law__1562 rfl rfl rfl ?_
  refine e_r_iload (pc' := 1565) dL_law__1563 rfl rfl ?_
  refine e_r_iconst (pc' := 1566) dL_law__1565 rfl (by decide) ?_
  refine e_r_iadd (pc' := 1567) dL_law__1566 rfl ?_
  rw [show e_w ((i : Int) + 2) = ((i + 2 : Nat) : Int) from (k_ix (k := 2) hL hi (by decide)).1]
  refine e_r_sld (pc' := 1568) (k_ix (k := 2) hL hi (by decide)).2.1 (k_ix (k := 2) hL hi (by decide)).2.2 hb dL_law__1567 rfl ?_
  rw [k_nat]
  refine e_r_aload_n (pc' := 1569) (by decide) dL_law__1568 rfl rfl rfl ?_
  refine e_r_iload (pc' := 1571) dL_law__1569 rfl rfl ?_
  refine e_r_iconst (pc' := 1572) dL_law__1571 rfl (by decide) ?_
  refine e_r_iadd (pc' := 1573) dL_law__1572 rfl ?_
  rw [show e_w ((i : Int) + 3) = ((i + 3 : Nat) : Int) from (k_ix (k := 3) hL hi (by decide)).1]
  refine e_r_sld (pc' := 1574) (k_ix (k := 3) hL hi (by decide)).2.1 (k_ix (k := 3) hL hi (by decide)).2.2 hb dL_law__1573 rfl ?_
  rw [k_nat]
  refine e_r_callV (a := 64) (av := [.inl (k_xi X i 1), .inl (k_xi X i 2), .inl (k_xi X i 3)]) (st := []) mqYX11_met ml_RL_204 cl_11 rfl (Nat.le_of_ble_eq_true rfl) (by simp [e_cat]) rfl rfl rfl dL_law__1574 (pc' := 1577) rfl hm ⟨Nat.le_refl _, Nat.le_refl _⟩ hmo ?_
  refine e_r_lstore (pc' := 1579) (loc' := [some (.inr (.inr 999999)), some (.inr (.inr 1)), some (.inr (.inr 64)), some (.inr (.inr 557)), some (.inl (i : Int)), some (.inl kk), some (.inr (.inl b)), none]) dL_law__1577 rfl rfl rfl rfl ?_
  refine e_r_aload_n (pc' := 1580) (by decide) dL_law__1579 rfl rfl rfl ?_
  refine e_r_callV (a := 64) (av := []) (st := []) mqYX11_thrown ml_RL_131 cl_11 rfl (Nat.le_of_ble_eq_true rfl) (by simp) rfl rfl rfl dL_law__1580 (pc' := 1583) rfl c_thrown ⟨Nat.le_refl _, Nat.le_refl _⟩ hmo ?_
  refine e_r_iload (pc' := 1585) dL_law__1583 rfl rfl ?_
  refine e_r_icmp_eq (tgt := 1590) (pc' := 1588) dL_law__1585 rfl rfl (fun _ => ?_) (fun q => absurd ht q)
  refine e_r_iload (pc' := 1592) dL_law__1590 rfl rfl ?_
  refine e_r_if_ne (tgt := 1606) (pc' := 1595) dL_law__1592 rfl rfl (fun _ => ?_) (fun hk0 => ?_)
  · refine e_r_goto (pc' := 2729) dL_law__1606 rfl ?_
    exact e_forget (m := [true, true, true, true, true, false, false, false]) k9 rfl
  · refine e_r_aload_n (pc' := 1596) (by decide) dL_law__1595 rfl rfl rfl ?_
    refine e_r_iconst (pc' := 1597) dL_law__1596 rfl (by decide) ?_
    refine e_r_lald (j9 := 0) (pc' := 1598) rfl (Nat.le_of_ble_eq_true rfl) (by decide) (by decide) rfl dL_law__1597 rfl ?_
    refine e_r_lload (pc' := 1600) dL_law__1598 rfl rfl ?_
    refine e_r_lcmp (pc' := 1601) dL_law__1600 rfl ?_
    refine e_r_if_eq (tgt := 1606) (pc' := 1604) dL_law__1601 rfl rfl (fun _ => ?_) (fun q => absurd (by rw [ho hk0]; simp [e_cmp]) q)
    refine e_r_goto (pc' := 2729) dL_law__1606 rfl ?_
    exact e_forget (m := [true, true, true, true, true, false, false, false]) k9 rfl
theorem lc_23 {X : e_X} {d gn g1 i : Nat} {o : e_O} {M M1 M2 : e_M} {kk b : Int} (hL : X.2.2.2.2.2.1 ≤ 4608) (hb : X.2.2.2.2.1 < (e_H0 X).size) (hi : i + 9 ≤ X.2.2.2.2.2.1) (hg : gn ≤ g1) (hmo : e_mn (557, g1, e_RF, M2) o.2) (hh : e_E X d YL_open [.inr (.inr 1), .inl (k_xi X i 1), .inl (k_xi X i 2), .inl (k_xi X i 3), .inr (.inr 557)] (557, gn, e_RF, M) (.inl (some (.inl kk)), (557, g1, e_RF, M1))) (hm : e_E X d YX11_open [.inr (.inr 64), .inl (k_xi X i 1), .inl (k_xi X i 2), .inl (k_xi X i 3)] (557, g1, e_RF, M1) (.inl (some (.inl b)), (557, g1, e_RF, M2))) (ht : M2 64 0 = kk) (ho : kk = 0 → M2 557 0 = b) (k9 : e_G X (d + 1) YL_law_ 2729 [some (.inr (.inr 999999)), some (.inr (.inr 1)), some (.inr (.inr 64)), some (.inr (.inr 557)), some (.inl (i : Int)), none, none, none] [] (557, g1, e_RF, M2) o) : e_G X (d + 1) YL_law_ 1609 [some (.inr (.inr 999999)), some (.inr (.inr 1)), some (.inr (.inr 64)), some (.inr (.inr 557)), some (.inl (i : Int)), none, none, none] [] (557, gn, e_RF, M) o := by
  refine e_r_aload_n (pc' := 1610) (by decide) dL_law__1609 rfl rfl rfl ?_
  refine e_r_aload_n (pc' := 1611) (by decide) dL_law__1610 rfl rfl rfl ?_
  refine e_r_iload (pc' := 1613) dL_law__1611 rfl rfl ?_
  refine e_r_iconst (pc' := 1614) dL_law__1613 rfl (by decide) ?_
  refine e_r_iadd (pc' := 1615) dL_law__1614 rfl ?_
  rw [show e_w ((i : Int) + 1) = ((i + 1 : Nat) : Int) from (k_ix (k := 1) hL hi (by decide)).1]
  refine e_r_sld (pc' := 1616) (k_ix (k := 1) hL hi (by decide)).2.1 (k_ix (k := 1) hL hi (by decide)).2.2 hb dL_law__1615 rfl ?_
  rw [k_nat]
  refine e_r_aload_n (pc' := 1617) (by decide) dL_law__1616 rfl rfl rfl ?_
  refine e_r_iload (pc' := 1619) dL_law__1617 rfl rfl ?_
  refine e_r_iconst (pc' := 1620) dL_law__1619 rfl (by decide) ?_
  refine e_r_iadd (pc' := 1621) dL_law__1620 rfl ?_
  rw [show e_w ((i : Int) + 2) = ((i + 2 : Nat) : Int) from (k_ix (k := 2) hL hi (by decide)).1]
  refine e_r_sld (pc' := 1622) (k_ix (k := 2) hL hi (by decide)).2.1 (k_ix (k := 2) hL hi (by decide)).2.2 hb dL_law__1621 rfl ?_
  rw [k_nat]
  refine e_r_aload_n (pc' := 1623) (by decide) dL_law__1622 rfl rfl rfl ?_
  refine e_r_iload (pc' := 1625) dL_law__1623 rfl rfl ?_
  refine e_r_iconst (pc' := 1626) dL_law__1625 rfl (by decide) ?_
  refine e_r_iadd (pc' := 1627) dL_law__1626 rfl ?_
  rw [show e_w ((i : Int) + 3) = ((i + 3 : Nat) : Int) from (k_ix (k := 3) hL hi (by decide)).1]
  refine e_r_sld (pc' := 1628) (k_ix (k := 3) hL hi (by decide)).2.1 (k_ix (k := 3) hL hi (by decide)).2.2 hb dL_law__1627 rfl ?_
  rw [k_nat]
  refine e_r_aload_n (pc' := 1629) (by decide) dL_law__1628 rfl rfl rfl ?_
  refine e_r_callSH (av := [.inr (.inr 1), .inl (k_xi X i 1), .inl (k_xi X i 2), .inl (k_xi X i 3), .inr (.inr 557)]) (st := []) mhYL_open ml_RL_205 (by simp [e_cat]) rfl rfl rfl dL_law__1629 (pc' := 1632) rfl hh ⟨Nat.le_refl _, hg⟩ hmo ?_
  refine e_r_istore (pc' := 1634) (loc' := [some (.inr (.inr 999999)), some (.inr (.inr 1)), some (.inr (.inr 64)), some (.inr (.inr 557)), some (.inl (i : Int)), some (.inl kk), none, none]) dL_law__1632 rfl rfl rfl rfl ?_
  refine e_r_aload_n (pc' := 1635) (by decide) dL_law__1634 rfl rfl rfl ?_
  refine e_r_aload_n (pc' := 1636) (by decide) dL_law__1635 rfl rfl rfl ?_
  refine e_r_iload (pc' := 1638) dL_law__1636 rfl rfl ?_
  refine e_r_iconst (pc' := 1639) dL_law__1638 rfl (by decide) ?_
  refine e_r_iadd (pc' := 1640) dL_law__1639 rfl ?_
  rw [show e_w ((i : Int) + 1) = ((i + 1 : Nat) : Int) from (k_ix (k := 1) hL hi (by decide)).1]
  refine e_r_sld (pc' := 1641) (k_ix (k := 1) hL hi (by decide)).2.1 (k_ix (k := 1) hL hi (by decide)).2.2 hb dL_law__1640 rfl ?_
  rw [k_nat]
  refine e_r_aload_n (pc' := 1642) (by decide) dL_law__1641 rfl rfl rfl ?_
  refine e_r_iload (pc' := 1644) dL_law__1642 rfl rfl ?_
  refine e_r_iconst (pc' := 1645) dL_law__1644 rfl (by decide) ?_
  refine e_r_iadd (pc' := 1646) dL_law__1645 rfl ?_
  rw [show e_w ((i : Int) + 2) = ((i + 2 : Nat) : Int) from (k_ix (k := 2) hL hi (by decide)).1]
  refine e_r_sld (pc' := 1647) (k_ix (k := 2) hL hi (by decide)).2.1 (k_ix (k := 2) hL hi (by decide)).2.2 hb dL_law__1646 rfl ?_
  rw [k_nat]
  refine e_r_aload_n (pc' := 1648) (by decide) dL_law__1647 rfl rfl rfl ?_
  refine e_r_iload (pc' := 1650) dL_law__1648 rfl rfl ?_
  refine e_r_iconst (pc' := 1651) dL_law__1650 rfl (by decide) ?_
  refine e_r_iadd (pc' := 1652) dL_law__1651 rfl ?_
  rw [show e_w ((i : Int) + 3) = ((i + 3 : Nat) : Int) from (k_ix (k := 3) hL hi (by decide)).1]
  refine e_r_sld (pc' := 1653) (k_ix (k := 3) hL hi (by decide)).2.1 (k_ix (k := 3) hL hi (by decide)).2.2 hb dL_law__1652 rfl ?_
  rw [k_nat]
  refine e_r_callV (a := 64) (av := [.inl (k_xi X i 1), .inl (k_xi X i 2), .inl (k_xi X i 3)]) (st := []) mqYX11_open ml_RL_207 cl_11 rfl (Nat.le_of_ble_eq_true rfl) (by simp [e_cat]) rfl rfl rfl dL_law__1653 (pc' := 1656) rfl hm ⟨Nat.le_refl _, Nat.le_refl _⟩ hmo ?_
  refine e_r_istore (pc' := 1658) (loc' := [some (.inr (.inr 999999)), some (.inr (.inr 1)), some (.inr (.inr 64)), some (.inr (.inr 557)), some (.inl (i : Int)), some (.inl kk), some (.inl b), none]) dL_law__1656 rfl rfl rfl rfl ?_
  refine e_r_aload_n (pc' := 1659) (by decide) dL_law__1658 rfl rfl rfl ?_
  refine e_r_callV (a := 64) (av := []) (st := []) mqYX11_thrown ml_RL_131 cl_11 rfl (Nat.le_of_ble_eq_true rfl) (by simp) rfl rfl rfl dL_law__1659 (pc' := 1662) rfl c_thrown ⟨Nat.le_refl _, Nat.le_refl _⟩ hmo ?_
  refine e_r_iload (pc' := 1664) dL_law__1662 rfl rfl ?_
  refine e_r_icmp_eq (tgt := 1669) (pc' := 1667) dL_law__1664 rfl rfl (fun _ => ?_) (fun q => absurd ht q)
  refine e_r_iload (pc' := 1671) dL_law__1669 rfl rfl ?_
  refine e_r_if_ne (tgt := 1686) (pc' := 1674) dL_law__1671 rfl rfl (fun _ => ?_) (fun hk0 => ?_)
  · refine e_r_goto (pc' := 2729) dL_law__1686 rfl ?_
    exact e_forget (m := [true, true, true, true, true, false, false, false]) k9 rfl
  · refine e_r_aload_n (pc' := 1675) (by decide) dL_law__1674 rfl rfl rfl ?_
    refine e_r_iconst (pc' := 1676) dL_law__1675 rfl (by decide) ?_
    refine e_r_lald (j9 := 0) (pc' := 1677) rfl (Nat.le_of_ble_eq_true rfl) (by decide) (by decide) rfl dL_law__1676 rfl ?_
    refine e_r_iload (pc' := 1679) dL_law__1677 rfl rfl ?_
    refine e_r_i2l (pc' := 1680) dL_law__1679 rfl ?_
    refine e_r_lcmp (pc' := 1681) dL_law__1680 rfl ?_
    refine e_r_if_eq (tgt := 1686) (pc' := 1684) dL_law__1681 rfl rfl (fun _ => ?_) (fun q => absurd (by rw [ho hk0]; simp [e_cmp]) q)
    refine e_r_goto (pc' := 2729) dL_law__1686 rfl ?_
    exact e_forget (m := [true, true, true, true, true, false, false, false]) k9 rfl
theorem lc_24 {X : e_X} {d gn g1 i : Nat} {o : e_O} {M M1 M2 : e_M} {kk b : Int} (hL : X.2.2.2.2.2.1 ≤ 4608) (hb : X.2.2.2.2.1 < (e_H0 X).size) (hi : i + 9 ≤ X.2.2.2.2.2.1) (hg : gn ≤ g1) (hmo : e_mn (557, g1, e_RF, M2) o.2) (hh : e_E X d YL_share [.inr (.inr 1), .inl (k_xi X i 1), .inl (k_xi X i 2), .inl (k_xi X i 3), .inr (.inr 557)] (557, gn, e_RF, M) (.inl (some (.inl kk)), (557, g1, e_RF, M1))) (hm : e_E X d YX11_share [.inr (.inr 64), .inl (k_xi X i 1), .inl (k_xi X i 2), .inl (k_xi X i 3)] (557, g1, e_RF, M1) (.inl (some (.inl b)), (557, g1, e_RF, M2))) (ht : M2 64 0 = kk) (ho : kk = 0 → M2 557 0 = b) (k9 : e_G X (d + 1) YL_law_ 2729 [some (.inr (.inr 999999)), some (.inr (.inr 1)), some (.inr (.inr 64)), some (.inr (.inr 557)), some (.inl (i : Int)), none, none, none] [] (557, g1, e_RF, M2) o) : e_G X (d + 1) YL_law_ 1689 [some (.inr (.inr 999999)), some (.inr (.inr 1)), some (.inr (.inr 64)), some (.inr (.inr 557)), some (.inl (i : Int)), none, none, none] [] (557, gn, e_RF, M) o := by
  refine e_r_aload_n (pc' := 1690) (by decide) dL_law__1689 rfl rfl rfl ?_
  refine e_r_aload_n (pc' := 1691) (by decide) dL_law__1690 rfl rfl rfl ?_
  refine e_r_iload (pc' := 1693) dL_law__1691 rfl rfl ?_
  refine e_r_iconst (pc' := 1694) dL_law__1693 rfl (by decide) ?_
  refine e_r_iadd (pc' := 1695) dL_law__1694 rfl ?_
  rw [show e_w ((i : Int) + 1) = ((i + 1 : Nat) : Int) from (k_ix (k := 1) hL hi (by decide)).1]
  refine e_r_sld (pc' := 1696) (k_ix (k := 1) hL hi (by decide)).2.1 (k_ix (k := 1) hL hi (by decide)).2.2 hb dL_law__1695 rfl ?_
  rw [k_nat]
  refine e_r_aload_n (pc' := 1697) (by decide) dL_law__1696 rfl rfl rfl ?_
  refine e_r_iload (pc' := 1699) dL_law__1697 rfl rfl ?_
  refine e_r_iconst (pc' := 1700) dL_law__1699 rfl (by decide) ?_
  refine e_r_iadd (pc' := 1701) dL_law__1700 rfl ?_
  rw [show e_w ((i : Int) + 2) = ((i + 2 : Nat) : Int) from (k_ix (k := 2) hL hi (by decide)).1]
  refine e_r_sld (pc' := 1702) (k_ix (k := 2) hL hi (by decide)).2.1 (k_ix (k := 2) hL hi (by decide)).2.2 hb dL_law__1701 rfl ?_
  rw [k_nat]
  refine e_r_aload_n (pc' := 1703) (by decide) dL_law__1702 rfl rfl rfl ?_
  refine e_r_iload (pc' := 1705) dL_law__1703 rfl rfl ?_
  refine e_r_iconst (pc' := 1706) dL_law__1705 rfl (by decide) ?_
  refine e_r_iadd (pc' := 1707) dL_law__1706 rfl ?_
  rw [show e_w ((i : Int) + 3) = ((i + 3 : Nat) : Int) from (k_ix (k := 3) hL hi (by decide)).1]
  refine e_r_sld (pc' := 1708) (k_ix (k := 3) hL hi (by decide)).2.1 (k_ix (k := 3) hL hi (by decide)).2.2 hb dL_law__1707 rfl ?_
  rw [k_nat]
  refine e_r_aload_n (pc' := 1709) (by decide) dL_law__1708 rfl rfl rfl ?_
  refine e_r_callSH (av := [.inr (.inr 1), .inl (k_xi X i 1), .inl (k_xi X i 2), .inl (k_xi X i 3), .inr (.inr 557)]) (st := []) mhYL_share ml_RL_208 (by simp [e_cat]) rfl rfl rfl dL_law__1709 (pc' := 1712) rfl hh ⟨Nat.le_refl _, hg⟩ hmo ?_
  refine e_r_istore (pc' := 1714) (loc' := [some (.inr (.inr 999999)), some (.inr (.inr 1)), some (.inr (.inr 64)), some (.inr (.inr 557)), some (.inl (i : Int)), some (.inl kk), none, none]) dL_law__1712 rfl rfl rfl rfl ?_
  refine e_r_aload_n (pc' := 1715) (by decide) dL_law__1714 rfl rfl rfl ?_
  refine e_r_aload_n (pc' := 1716) (by decide) dL_law__1715 rfl rfl rfl ?_
  refine e_r_iload (pc' := 1718) dL_law__1716 rfl rfl ?_
  refine e_r_iconst (pc' := 1719) dL_law__1718 rfl (by decide) ?_
  refine e_r_iadd (pc' := 1720) dL_law__1719 rfl ?_
  rw [show e_w ((i : Int) + 1) = ((i + 1 : Nat) : Int) from (k_ix (k := 1) hL hi (by decide)).1]
  refine e_r_sld (pc' := 1721) (k_ix (k := 1) hL hi (by decide)).2.1 (k_ix (k := 1) hL hi (by decide)).2.2 hb dL_law__1720 rfl ?_
  rw [k_nat]
  refine e_r_aload_n (pc' := 1722) (by decide) dL_law__1721 rfl rfl rfl ?_
  refine e_r_iload (pc' := 1724) dL_law__1722 rfl rfl ?_
  refine e_r_iconst (pc' := 1725) dL_law__1724 rfl (by decide) ?_
  refine e_r_iadd (pc' := 1726) dL_law__1725 rfl ?_
  rw [show e_w ((i : Int) + 2) = ((i + 2 : Nat) : Int) from (k_ix (k := 2) hL hi (by decide)).1]
  refine e_r_sld (pc' := 1727) (k_ix (k := 2) hL hi (by decide)).2.1 (k_ix (k := 2) hL hi (by decide)).2.2 hb dL_law__1726 rfl ?_
  rw [k_nat]
  refine e_r_aload_n (pc' := 1728) (by decide) dL_law__1727 rfl rfl rfl ?_
  refine e_r_iload (pc' := 1730) dL_law__1728 rfl rfl ?_
  refine e_r_iconst (pc' := 1731) dL_law__1730 rfl (by decide) ?_
  refine e_r_iadd (pc' := 1732) dL_law__1731 rfl ?_
  rw [show e_w ((i : Int) + 3) = ((i + 3 : Nat) : Int) from (k_ix (k := 3) hL hi (by decide)).1]
  refine e_r_sld (pc' := 1733) (k_ix (k := 3) hL hi (by decide)).2.1 (k_ix (k := 3) hL hi (by decide)).2.2 hb dL_law__1732 rfl ?_
  rw [k_nat]
  refine e_r_callV (a := 64) (av := [.inl (k_xi X i 1), .inl (k_xi X i 2), .inl (k_xi X i 3)]) (st := []) mqYX11_share ml_RL_210 cl_11 rfl (Nat.le_of_ble_eq_true rfl) (by simp [e_cat]) rfl rfl rfl dL_law__1733 (pc' := 1736) rfl hm ⟨Nat.le_refl _, Nat.le_refl _⟩ hmo ?_
  refine e_r_istore (pc' := 1738) (loc' := [some (.inr (.inr 999999)), some (.inr (.inr 1)), some (.inr (.inr 64)), some (.inr (.inr 557)), some (.inl (i : Int)), some (.inl kk), some (.inl b), none]) dL_law__1736 rfl rfl rfl rfl ?_
  refine e_r_aload_n (pc' := 1739) (by decide) dL_law__1738 rfl rfl rfl ?_
  refine e_r_callV (a := 64) (av := []) (st := []) mqYX11_thrown ml_RL_131 cl_11 rfl (Nat.le_of_ble_eq_true rfl) (by simp) rfl rfl rfl dL_law__1739 (pc' := 1742) rfl c_thrown ⟨Nat.le_refl _, Nat.le_refl _⟩ hmo ?_
  refine e_r_iload (pc' := 1744) dL_law__1742 rfl rfl ?_
  refine e_r_icmp_eq (tgt := 1749) (pc' := 1747) dL_law__1744 rfl rfl (fun _ => ?_) (fun q => absurd ht q)
  refine e_r_iload (pc' := 1751) dL_law__1749 rfl rfl ?_
  refine e_r_if_ne (tgt := 1766) (pc' := 1754) dL_law__1751 rfl rfl (fun _ => ?_) (fun hk0 => ?_)
  · refine e_r_goto (pc' := 2729) dL_law__1766 rfl ?_
    exact e_forget (m := [true, true, true, true, true, false, false, false]) k9 rfl
  · refine e_r_aload_n (pc' := 1755) (by decide) dL_law__1754 rfl rfl rfl ?_
    refine e_r_iconst (pc' := 1756) dL_law__1755 rfl (by decide) ?_
    refine e_r_lald (j9 := 0) (pc' := 1757) rfl (Nat.le_of_ble_eq_true rfl) (by decide) (by decide) rfl dL_law__1756 rfl ?_
    refine e_r_iload (pc' := 1759) dL_law__1757 rfl rfl ?_
    refine e_r_i2l (pc' := 1760) dL_law__1759 rfl ?_
    refine e_r_lcmp (pc' := 1761) dL_law__1760 rfl ?_
    refine e_r_if_eq (tgt := 1766) (pc' := 1764) dL_law__1761 rfl rfl (fun _ => ?_) (fun q => absurd (by rw [ho hk0]; simp [e_cmp]) q)
    refine e_r_goto (pc' := 2729) dL_law__1766 rfl ?_
    exact e_forget (m := [true, true, true, true, true, false, false, false]) k9 rfl
theorem lc_25 {X : e_X} {d gn g1 i : Nat} {o : e_O} {M M1 M2 : e_M} {kk b : Int} (hL : X.2.2.2.2.2.1 ≤ 4608) (hb : X.2.2.2.2.1 < (e_H0 X).size) (hi : i + 9 ≤ X.2.2.2.2.2.1) (hg : gn ≤ g1) (hmo : e_mn (557, g1, e_RF, M2) o.2) (hh : e_E X d YL_youngest [.inr (.inr 1), .inl (k_xi X i 1), .inr (.inr 557)] (557, gn, e_RF, M) (.inl (some (.inl kk)), (557, g1, e_RF, M1))) (hm : e_E X d YX11_youngest [.inr (.inr 64), .inl (k_xi X i 1)] (557, g1, e_RF, M1) (.inl (some (.inl b)), (557, g1, e_RF, M2))) (ht : M2 64 0 = kk) (ho : kk = 0 → M2 557 0 = b) (k9 : e_G X (d + 1) YL_law_ 2729 [some (.inr (.inr 999999)), some (.inr (.inr 1)), some (.inr (.inr 64)), some (.inr (.inr 557)), some (.inl (i : Int)), none, none, none] [] (557, g1, e_RF, M2) o) : e_G X (d + 1) YL_law_ 1769 [some (.inr (.inr 999999)), some (.inr (.inr 1)), some (.inr (.inr 64)), some (.inr (.inr 557)), some (.inl (i : Int)), none, none, none] [] (557, gn, e_RF, M) o := by
  refine e_r_aload_n (pc' := 1770) (by decide) dL_law__1769 rfl rfl rfl ?_
  refine e_r_aload_n (pc' := 1771) (by decide) dL_law__1770 rfl rfl rfl ?_
  refine e_r_iload (pc' := 1773) dL_law__1771 rfl rfl ?_
  refine e_r_iconst (pc' := 1774) dL_law__1773 rfl (by decide) ?_
  refine e_r_iadd (pc' := 1775) dL_law__1774 rfl ?_
  rw [show e_w ((i : Int) + 1) = ((i + 1 : Nat) : Int) from (k_ix (k := 1) hL hi (by decide)).1]
  refine e_r_sld (pc' := 1776) (k_ix (k := 1) hL hi (by decide)).2.1 (k_ix (k := 1) hL hi (by decide)).2.2 hb dL_law__1775 rfl ?_
  rw [k_nat]
  refine e_r_aload_n (pc' := 1777) (by decide) dL_law__1776 rfl rfl rfl ?_
  refine e_r_callSH (av := [.inr (.inr 1), .inl (k_xi X i 1), .inr (.inr 557)]) (st := []) mhYL_youngest ml_RL_211 (by simp [e_cat]) rfl rfl rfl dL_law__1777 (pc' := 1780) rfl hh ⟨Nat.le_refl _, hg⟩ hmo ?_
  refine e_r_istore (pc' := 1782) (loc' := [some (.inr (.inr 999999)), some (.inr (.inr 1)), some (.inr (.inr 64)), some (.inr (.inr 557)), some (.inl (i : Int)), some (.inl kk), none, none]) dL_law__1780 rfl rfl rfl rfl ?_
  refine e_r_aload_n (pc' := 1783) (by decide) dL_law__1782 rfl rfl rfl ?_
  refine e_r_aload_n (pc' := 1784) (by decide) dL_law__1783 rfl rfl rfl ?_
  refine e_r_iload (pc' := 1786) dL_law__1784 rfl rfl ?_
  refine e_r_iconst (pc' := 1787) dL_law__1786 rfl (by decide) ?_
  refine e_r_iadd (pc' := 1788) dL_law__1787 rfl ?_
  rw [show e_w ((i : Int) + 1) = ((i + 1 : Nat) : Int) from (k_ix (k := 1) hL hi (by decide)).1]
  refine e_r_sld (pc' := 1789) (k_ix (k := 1) hL hi (by decide)).2.1 (k_ix (k := 1) hL hi (by decide)).2.2 hb dL_law__1788 rfl ?_
  rw [k_nat]
  refine e_r_callV (a := 64) (av := [.inl (k_xi X i 1)]) (st := []) mqYX11_youngest ml_RL_213 cl_11 rfl (Nat.le_of_ble_eq_true rfl) (by simp [e_cat]) rfl rfl rfl dL_law__1789 (pc' := 1792) rfl hm ⟨Nat.le_refl _, Nat.le_refl _⟩ hmo ?_
  refine e_r_istore (pc' := 1794) (loc' := [some (.inr (.inr 999999)), some (.inr (.inr 1)), some (.inr (.inr 64)), some (.inr (.inr 557)), some (.inl (i : Int)), some (.inl kk), some (.inl b), none]) dL_law__1792 rfl rfl rfl rfl ?_
  refine e_r_aload_n (pc' := 1795) (by decide) dL_law__1794 rfl rfl rfl ?_
  refine e_r_callV (a := 64) (av := []) (st := []) mqYX11_thrown ml_RL_131 cl_11 rfl (Nat.le_of_ble_eq_true rfl) (by simp) rfl rfl rfl dL_law__1795 (pc' := 1798) rfl c_thrown ⟨Nat.le_refl _, Nat.le_refl _⟩ hmo ?_
  refine e_r_iload (pc' := 1800) dL_law__1798 rfl rfl ?_
  refine e_r_icmp_eq (tgt := 1805) (pc' := 1803) dL_law__1800 rfl rfl (fun _ => ?_) (fun q => absurd ht q)
  refine e_r_iload (pc' := 1807) dL_law__1805 rfl rfl ?_
  refine e_r_if_ne (tgt := 1822) (pc' := 1810) dL_law__1807 rfl rfl (fun _ => ?_) (fun hk0 => ?_)
  · refine e_r_goto (pc' := 2729) dL_law__1822 rfl ?_
    exact e_forget (m := [true, true, true, true, true, false, false, false]) k9 rfl
  · refine e_r_aload_n (pc' := 1811) (by decide) dL_law__1810 rfl rfl rfl ?_
    refine e_r_iconst (pc' := 1812) dL_law__1811 rfl (by decide) ?_
    refine e_r_lald (j9 := 0) (pc' := 1813) rfl (Nat.le_of_ble_eq_true rfl) (by decide) (by decide) rfl dL_law__1812 rfl ?_
    refine e_r_iload (pc' := 1815) dL_law__1813 rfl rfl ?_
    refine e_r_i2l (pc' := 1816) dL_law__1815 rfl ?_
    refine e_r_lcmp (pc' := 1817) dL_law__1816 rfl ?_
    refine e_r_if_eq (tgt := 1822) (pc' := 1820) dL_law__1817 rfl rfl (fun _ => ?_) (fun q => absurd (by rw [ho hk0]; simp [e_cmp]) q)
    refine e_r_goto (pc' := 2729) dL_law__1822 rfl ?_
    exact e_forget (m := [true, true, true, true, true, false, false, false]) k9 rfl
theorem lc_26 {X : e_X} {d gn g1 i : Nat} {o : e_O} {M M1 M2 : e_M} {kk b : Int} (hL : X.2.2.2.2.2.1 ≤ 4608) (hb : X.2.2.2.2.1 < (e_H0 X).size) (hi : i + 9 ≤ X.2.2.2.2.2.1) (hg : gn ≤ g1) (hmo : e_mn (557, g1, e_RF, M2) o.2) (hh : e_E X d YL_next [.inr (.inr 1), .inl (k_xi X i 1), .inl (k_xi X i 2), .inr (.inr 557)] (557, gn, e_RF, M) (.inl (some (.inl kk)), (557, g1, e_RF, M1))) (hm : e_E X d YX11_next [.inr (.inr 64), .inl (k_xi X i 1), .inl (k_xi X i 2)] (557, g1, e_RF, M1) (.inl (some (.inl b)), (557, g1, e_RF, M2))) (ht : M2 64 0 = kk) (ho : kk = 0 → M2 557 0 = b) (k9 : e_G X (d + 1) YL_law_ 2729 [some (.inr (.inr 999999)), some (.inr (.inr 1)), some (.inr (.inr 64)), some (.inr (.inr 557)), some (.inl (i : Int)), none, none, none] [] (557, g1, e_RF, M2) o) : e_G X (d + 1) YL_law_ 1825 [some (.inr (.inr 999999)), some (.inr (.inr 1)), some (.inr (.inr 64)), some (.inr (.inr 557)), some (.inl (i : Int)), none, none, none] [] (557, gn, e_RF, M) o := by
  refine e_r_aload_n (pc' := 1826) (by decide) dL_law__1825 rfl rfl rfl ?_
  refine e_r_aload_n (pc' := 1827) (by decide) dL_law__1826 rfl rfl rfl ?_
  refine e_r_iload (pc' := 1829) dL_law__1827 rfl rfl ?_
  refine e_r_iconst (pc' := 1830) dL_law__1829 rfl (by decide) ?_
  refine e_r_iadd (pc' := 1831) dL_law__1830 rfl ?_
  rw [show e_w ((i : Int) + 1) = ((i + 1 : Nat) : Int) from (k_ix (k := 1) hL hi (by decide)).1]
  refine e_r_sld (pc' := 1832) (k_ix (k := 1) hL hi (by decide)).2.1 (k_ix (k := 1) hL hi (by decide)).2.2 hb dL_law__1831 rfl ?_
  rw [k_nat]
  refine e_r_aload_n (pc' := 1833) (by decide) dL_law__1832 rfl rfl rfl ?_
  refine e_r_iload (pc' := 1835) dL_law__1833 rfl rfl ?_
  refine e_r_iconst (pc' := 1836) dL_law__1835 rfl (by decide) ?_
  refine e_r_iadd (pc' := 1837) dL_law__1836 rfl ?_
  rw [show e_w ((i : Int) + 2) = ((i + 2 : Nat) : Int) from (k_ix (k := 2) hL hi (by decide)).1]
  refine e_r_sld (pc' := 1838) (k_ix (k := 2) hL hi (by decide)).2.1 (k_ix (k := 2) hL hi (by decide)).2.2 hb dL_law__1837 rfl ?_
  rw [k_nat]
  refine e_r_aload_n (pc' := 1839) (by decide) dL_law__1838 rfl rfl rfl ?_
  refine e_r_callSH (av := [.inr (.inr 1), .inl (k_xi X i 1), .inl (k_xi X i 2), .inr (.inr 557)]) (st := []) mhYL_next ml_RL_214 (by simp [e_cat]) rfl rfl rfl dL_law__1839 (pc' := 1842) rfl hh ⟨Nat.le_refl _, hg⟩ hmo ?_
  refine e_r_istore (pc' := 1844) (loc' := [some (.inr (.inr 999999)), some (.inr (.inr 1)), some (.inr (.inr 64)), some (.inr (.inr 557)), some (.inl (i : Int)), some (.inl kk), none, none]) dL_law__1842 rfl rfl rfl rfl ?_
  refine e_r_aload_n (pc' := 1845) (by decide) dL_law__1844 rfl rfl rfl ?_
  refine e_r_aload_n (pc' := 1846) (by decide) dL_law__1845 rfl rfl rfl ?_
  refine e_r_iload (pc' := 1848) dL_law__1846 rfl rfl ?_
  refine e_r_iconst (pc' := 1849) dL_law__1848 rfl (by decide) ?_
  refine e_r_iadd (pc' := 1850) dL_law__1849 rfl ?_
  rw [show e_w ((i : Int) + 1) = ((i + 1 : Nat) : Int) from (k_ix (k := 1) hL hi (by decide)).1]
  refine e_r_sld (pc' := 1851) (k_ix (k := 1) hL hi (by decide)).2.1 (k_ix (k := 1) hL hi (by decide)).2.2 hb dL_law__1850 rfl ?_
  rw [k_nat]
  refine e_r_aload_n (pc' := 1852) (by decide) dL_law__1851 rfl rfl rfl ?_
  refine e_r_iload (pc' := 1854) dL_law__1852 rfl rfl ?_
  refine e_r_iconst (pc' := 1855) dL_law__1854 rfl (by decide) ?_
  refine e_r_iadd (pc' := 1856) dL_law__1855 rfl ?_
  rw [show e_w ((i : Int) + 2) = ((i + 2 : Nat) : Int) from (k_ix (k := 2) hL hi (by decide)).1]
  refine e_r_sld (pc' := 1857) (k_ix (k := 2) hL hi (by decide)).2.1 (k_ix (k := 2) hL hi (by decide)).2.2 hb dL_law__1856 rfl ?_
  rw [k_nat]
  refine e_r_callV (a := 64) (av := [.inl (k_xi X i 1), .inl (k_xi X i 2)]) (st := []) mqYX11_next ml_RL_216 cl_11 rfl (Nat.le_of_ble_eq_true rfl) (by simp [e_cat]) rfl rfl rfl dL_law__1857 (pc' := 1860) rfl hm ⟨Nat.le_refl _, Nat.le_refl _⟩ hmo ?_
  refine e_r_istore (pc' := 1862) (loc' := [some (.inr (.inr 999999)), some (.inr (.inr 1)), some (.inr (.inr 64)), some (.inr (.inr 557)), some (.inl (i : Int)), some (.inl kk), some (.inl b), none]) dL_law__1860 rfl rfl rfl rfl ?_
  refine e_r_aload_n (pc' := 1863) (by decide) dL_law__1862 rfl rfl rfl ?_
  refine e_r_callV (a := 64) (av := []) (st := []) mqYX11_thrown ml_RL_131 cl_11 rfl (Nat.le_of_ble_eq_true rfl) (by simp) rfl rfl rfl dL_law__1863 (pc' := 1866) rfl c_thrown ⟨Nat.le_refl _, Nat.le_refl _⟩ hmo ?_
  refine e_r_iload (pc' := 1868) dL_law__1866 rfl rfl ?_
  refine e_r_icmp_eq (tgt := 1873) (pc' := 1871) dL_law__1868 rfl rfl (fun _ => ?_) (fun q => absurd ht q)
  refine e_r_iload (pc' := 1875) dL_law__1873 rfl rfl ?_
  refine e_r_if_ne (tgt := 1890) (pc' := 1878) dL_law__1875 rfl rfl (fun _ => ?_) (fun hk0 => ?_)
  · refine e_r_goto (pc' := 2729) dL_law__1890 rfl ?_
    exact e_forget (m := [true, true, true, true, true, false, false, false]) k9 rfl
  · refine e_r_aload_n (pc' := 1879) (by decide) dL_law__1878 rfl rfl rfl ?_
    refine e_r_iconst (pc' := 1880) dL_law__1879 rfl (by decide) ?_
    refine e_r_lald (j9 := 0) (pc' := 1881) rfl (Nat.le_of_ble_eq_true rfl) (by decide) (by decide) rfl dL_law__1880 rfl ?_
    refine e_r_iload (pc' := 1883) dL_law__1881 rfl rfl ?_
    refine e_r_i2l (pc' := 1884) dL_law__1883 rfl ?_
    refine e_r_lcmp (pc' := 1885) dL_law__1884 rfl ?_
    refine e_r_if_eq (tgt := 1890) (pc' := 1888) dL_law__1885 rfl rfl (fun _ => ?_) (fun q => absurd (by rw [ho hk0]; simp [e_cmp]) q)
    refine e_r_goto (pc' := 2729) dL_law__1890 rfl ?_
    exact e_forget (m := [true, true, true, true, true, false, false, false]) k9 rfl
theorem lc_27 {X : e_X} {d gn g1 i : Nat} {o : e_O} {M M1 M2 : e_M} {v : Int} (hL : X.2.2.2.2.2.1 ≤ 4608) (hb : X.2.2.2.2.1 < (e_H0 X).size) (hi : i + 9 ≤ X.2.2.2.2.2.1) (hg : gn ≤ g1) (hmo : e_mn (557, g1, e_RF, M2) o.2) (hx : e_E X d YX10_missed [.inr (.inr 1)] (557, gn, e_RF, M) (.inl (some (.inl v)), (557, g1, e_RF, M1))) (hm : e_E X d YX11_missed [.inr (.inr 64)] (557, g1, e_RF, M1) (.inl (some (.inl v)), (557, g1, e_RF, M2))) (k9 : e_G X (d + 1) YL_law_ 2729 [some (.inr (.inr 999999)), some (.inr (.inr 1)), some (.inr (.inr 64)), some (.inr (.inr 557)), some (.inl (i : Int)), none, none, none] [] (557, g1, e_RF, M2) o) : e_G X (d + 1) YL_law_ 1893 [some (.inr (.inr 999999)), some (.inr (.inr 1)), some (.inr (.inr 64)), some (.inr (.inr 557)), some (.inl (i : Int)), none, none, none] [] (557, gn, e_RF, M) o := by
  refine e_r_aload_n (pc' := 1894) (by decide) dL_law__1893 rfl rfl rfl ?_
  refine e_r_callV (a := 1) (av := []) (st := []) mqYX10_missed ml_RL_217 cl_10 rfl (Nat.le_of_ble_eq_true rfl) (by simp [e_cat]) rfl rfl rfl dL_law__1894 (pc' := 1897) rfl hx ⟨Nat.le_refl _, hg⟩ hmo ?_
  refine e_r_aload_n (pc' := 1898) (by decide) dL_law__1897 rfl rfl rfl ?_
  refine e_r_callV (a := 64) (av := []) (st := [.inl v]) mqYX11_missed ml_RL_220 cl_11 rfl (Nat.le_of_ble_eq_true rfl) (by simp [e_cat]) rfl rfl rfl dL_law__1898 (pc' := 1901) rfl hm ⟨Nat.le_refl _, Nat.le_refl _⟩ hmo ?_
  refine e_r_icmp_eq (tgt := 2729) (pc' := 1904) dL_law__1901 rfl rfl (fun _ => ?_) (fun q => absurd rfl q)
  exact e_forget (m := [true, true, true, true, true, false, false, false]) k9 rfl
theorem lc_28 {X : e_X} {d gn g1 i : Nat} {o : e_O} {M M1 M2 : e_M} {v : Int} (hL : X.2.2.2.2.2.1 ≤ 4608) (hb : X.2.2.2.2.1 < (e_H0 X).size) (hi : i + 9 ≤ X.2.2.2.2.2.1) (hg : gn ≤ g1) (hmo : e_mn (557, g1, e_RF, M2) o.2) (hx : e_E X d YX10_due [.inr (.inr 1)] (557, gn, e_RF, M) (.inl (some (.inl v)), (557, g1, e_RF, M1))) (hm : e_E X d YX11_due [.inr (.inr 64)] (557, g1, e_RF, M1) (.inl (some (.inl v)), (557, g1, e_RF, M2))) (k9 : e_G X (d + 1) YL_law_ 2729 [some (.inr (.inr 999999)), some (.inr (.inr 1)), some (.inr (.inr 64)), some (.inr (.inr 557)), some (.inl (i : Int)), none, none, none] [] (557, g1, e_RF, M2) o) : e_G X (d + 1) YL_law_ 1906 [some (.inr (.inr 999999)), some (.inr (.inr 1)), some (.inr (.inr 64)), some (.inr (.inr 557)), some (.inl (i : Int)), none, none, none] [] (557, gn, e_RF, M) o := by
  refine e_r_aload_n (pc' := 1907) (by decide) dL_law__1906 rfl rfl rfl ?_
  refine e_r_callV (a := 1) (av := []) (st := []) mqYX10_due ml_RL_221 cl_10 rfl (Nat.le_of_ble_eq_true rfl) (by simp [e_cat]) rfl rfl rfl dL_law__1907 (pc' := 1910) rfl hx ⟨Nat.le_refl _, hg⟩ hmo ?_
  refine e_r_aload_n (pc' := 1911) (by decide) dL_law__1910 rfl rfl rfl ?_
  refine e_r_callV (a := 64) (av := []) (st := [.inl v]) mqYX11_due ml_RL_224 cl_11 rfl (Nat.le_of_ble_eq_true rfl) (by simp [e_cat]) rfl rfl rfl dL_law__1911 (pc' := 1914) rfl hm ⟨Nat.le_refl _, Nat.le_refl _⟩ hmo ?_
  refine e_r_icmp_eq (tgt := 2729) (pc' := 1917) dL_law__1914 rfl rfl (fun _ => ?_) (fun q => absurd rfl q)
  exact e_forget (m := [true, true, true, true, true, false, false, false]) k9 rfl
theorem lc_29 {X : e_X} {d gn g1 i : Nat} {o : e_O} {M M1 M2 : e_M} {v : Int} (hL : X.2.2.2.2.2.1 ≤ 4608) (hb : X.2.2.2.2.1 < (e_H0 X).size) (hi : i + 9 ≤ X.2.2.2.2.2.1) (hg : gn ≤ g1) (hmo : e_mn (557, g1, e_RF, M2) o.2) (hx : e_E X d YX10_lone [.inr (.inr 1)] (557, gn, e_RF, M) (.inl (some (.inl v)), (557, g1, e_RF, M1))) (hm : e_E X d YX11_lone [.inr (.inr 64)] (557, g1, e_RF, M1) (.inl (some (.inl v)), (557, g1, e_RF, M2))) (k9 : e_G X (d + 1) YL_law_ 2729 [some (.inr (.inr 999999)), some (.inr (.inr 1)), some (.inr (.inr 64)), some (.inr (.inr 557)), some (.inl (i : Int)), none, none, none] [] (557, g1, e_RF, M2) o) : e_G X (d + 1) YL_law_ 1919 [some (.inr (.inr 999999)), some (.inr (.inr 1)), some (.inr (.inr 64)), some (.inr (.inr 557)), some (.inl (i : Int)), none, none, none] [] (557, gn, e_RF, M) o := by
  refine e_r_aload_n (pc' := 1920) (by decide) dL_law__1919 rfl rfl rfl ?_
  refine e_r_callV (a := 1) (av := []) (st := []) mqYX10_lone ml_RL_225 cl_10 rfl (Nat.le_of_ble_eq_true rfl) (by simp [e_cat]) rfl rfl rfl dL_law__1920 (pc' := 1923) rfl hx ⟨Nat.le_refl _, hg⟩ hmo ?_
  refine e_r_aload_n (pc' := 1924) (by decide) dL_law__1923 rfl rfl rfl ?_
  refine e_r_callV (a := 64) (av := []) (st := [.inl v]) mqYX11_lone ml_RL_228 cl_11 rfl (Nat.le_of_ble_eq_true rfl) (by simp [e_cat]) rfl rfl rfl dL_law__1924 (pc' := 1927) rfl hm ⟨Nat.le_refl _, Nat.le_refl _⟩ hmo ?_
  refine e_r_icmp_eq (tgt := 2729) (pc' := 1930) dL_law__1927 rfl rfl (fun _ => ?_) (fun q => absurd rfl q)
  exact e_forget (m := [true, true, true, true, true, false, false, false]) k9 rfl
theorem lc_30 {X : e_X} {d gn g1 i : Nat} {o : e_O} {M M1 M2 : e_M} {kk b : Int} (hL : X.2.2.2.2.2.1 ≤ 4608) (hb : X.2.2.2.2.1 < (e_H0 X).size) (hi : i + 9 ≤ X.2.2.2.2.2.1) (hg : gn ≤ g1) (hmo : e_mn (557, g1, e_RF, M2) o.2) (hh : e_E X d YL_debt [.inr (.inr 1), .inl (k_xi X i 1), .inr (.inr 557)] (557, gn, e_RF, M) (.inl (some (.inl kk)), (557, g1, e_RF, M1))) (hm : e_E X d YX11_debt [.inr (.inr 64), .inl (k_xi X i 1)] (557, g1, e_RF, M1) (.inl (some (.inl b)), (557, g1, e_RF, M2))) (ht : M2 64 0 = kk) (ho : kk = 0 → M2 557 0 = b) (k9 : e_G X (d + 1) YL_law_ 2729 [some (.inr (.inr 999999)), some (.inr (.inr 1)), some (.inr (.inr 64)), some (.inr (.inr 557)), some (.inl (i : Int)), none, none, none] [] (557, g1, e_RF, M2) o) : e_G X (d + 1) YL_law_ 1932 [some (.inr (.inr 999999)), some (.inr (.inr 1)), some (.inr (.inr 64)), some (.inr (.inr 557)), some (.inl (i : Int)), none, none, none] [] (557, gn, e_RF, M) o := by
  refine e_r_aload_n (pc' := 1933) (by decide) dL_law__1932 rfl rfl rfl ?_
  refine e_r_aload_n (pc' := 1934) (by decide) dL_law__1933 rfl rfl rfl ?_
  refine e_r_iload (pc' := 1936) dL_law__1934 rfl rfl ?_
  refine e_r_iconst (pc' := 1937) dL_law__1936 rfl (by decide) ?_
  refine e_r_iadd (pc' := 1938) dL_law__1937 rfl ?_
  rw [show e_w ((i : Int) + 1) = ((i + 1 : Nat) : Int) from (k_ix (k := 1) hL hi (by decide)).1]
  refine e_r_sld (pc' := 1939) (k_ix (k := 1) hL hi (by decide)).2.1 (k_ix (k := 1) hL hi (by decide)).2.2 hb dL_law__1938 rfl ?_
  rw [k_nat]
  refine e_r_aload_n (pc' := 1940) (by decide) dL_law__1939 rfl rfl rfl ?_
  refine e_r_callSH (av := [.inr (.inr 1), .inl (k_xi X i 1), .inr (.inr 557)]) (st := []) mhYL_debt ml_RL_229 (by simp [e_cat]) rfl rfl rfl dL_law__1940 (pc' := 1943) rfl hh ⟨Nat.le_refl _, hg⟩ hmo ?_
  refine e_r_istore (pc' := 1945) (loc' := [some (.inr (.inr 999999)), some (.inr (.inr 1)), some (.inr (.inr 64)), some (.inr (.inr 557)), some (.inl (i : Int)), some (.inl kk), none, none]) dL_law__1943 rfl rfl rfl rfl ?_
  refine e_r_aload_n (pc' := 1946) (by decide) dL_law__1945 rfl rfl rfl ?_
  refine e_r_aload_n (pc' := 1947) (by decide) dL_law__1946 rfl rfl rfl ?_
  refine e_r_iload (pc' := 1949) dL_law__1947 rfl rfl ?_
  refine e_r_iconst (pc' := 1950) dL_law__1949 rfl (by decide) ?_
  refine e_r_iadd (pc' := 1951) dL_law__1950 rfl ?_
  rw [show e_w ((i : Int) + 1) = ((i + 1 : Nat) : Int) from (k_ix (k := 1) hL hi (by decide)).1]
  refine e_r_sld (pc' := 1952) (k_ix (k := 1) hL hi (by decide)).2.1 (k_ix (k := 1) hL hi (by decide)).2.2 hb dL_law__1951 rfl ?_
  rw [k_nat]
  refine e_r_callV (a := 64) (av := [.inl (k_xi X i 1)]) (st := []) mqYX11_debt ml_RL_231 cl_11 rfl (Nat.le_of_ble_eq_true rfl) (by simp [e_cat]) rfl rfl rfl dL_law__1952 (pc' := 1955) rfl hm ⟨Nat.le_refl _, Nat.le_refl _⟩ hmo ?_
  refine e_r_istore (pc' := 1957) (loc' := [some (.inr (.inr 999999)), some (.inr (.inr 1)), some (.inr (.inr 64)), some (.inr (.inr 557)), some (.inl (i : Int)), some (.inl kk), some (.inl b), none]) dL_law__1955 rfl rfl rfl rfl ?_
  refine e_r_aload_n (pc' := 1958) (by decide) dL_law__1957 rfl rfl rfl ?_
  refine e_r_callV (a := 64) (av := []) (st := []) mqYX11_thrown ml_RL_131 cl_11 rfl (Nat.le_of_ble_eq_true rfl) (by simp) rfl rfl rfl dL_law__1958 (pc' := 1961) rfl c_thrown ⟨Nat.le_refl _, Nat.le_refl _⟩ hmo ?_
  refine e_r_iload (pc' := 1963) dL_law__1961 rfl rfl ?_
  refine e_r_icmp_eq (tgt := 1968) (pc' := 1966) dL_law__1963 rfl rfl (fun _ => ?_) (fun q => absurd ht q)
  refine e_r_iload (pc' := 1970) dL_law__1968 rfl rfl ?_
  refine e_r_if_ne (tgt := 1985) (pc' := 1973) dL_law__1970 rfl rfl (fun _ => ?_) (fun hk0 => ?_)
  · refine e_r_goto (pc' := 2729) dL_law__1985 rfl ?_
    exact e_forget (m := [true, true, true, true, true, false, false, false]) k9 rfl
  · refine e_r_aload_n (pc' := 1974) (by decide) dL_law__1973 rfl rfl rfl ?_
    refine e_r_iconst (pc' := 1975) dL_law__1974 rfl (by decide) ?_
    refine e_r_lald (j9 := 0) (pc' := 1976) rfl (Nat.le_of_ble_eq_true rfl) (by decide) (by decide) rfl dL_law__1975 rfl ?_
    refine e_r_iload (pc' := 1978) dL_law__1976 rfl rfl ?_
    refine e_r_i2l (pc' := 1979) dL_law__1978 rfl ?_
    refine e_r_lcmp (pc' := 1980) dL_law__1979 rfl ?_
    refine e_r_if_eq (tgt := 1985) (pc' := 1983) dL_law__1980 rfl rfl (fun _ => ?_) (fun q => absurd (by rw [ho hk0]; simp [e_cmp]) q)
    refine e_r_goto (pc' := 2729) dL_law__1985 rfl ?_
    exact e_forget (m := [true, true, true, true, true, false, false, false]) k9 rfl
theorem lc_31 {X : e_X} {d gn g1 i : Nat} {o : e_O} {M M1 M2 : e_M} {kk b : Int} (hL : X.2.2.2.2.2.1 ≤ 4608) (hb : X.2.2.2.2.1 < (e_H0 X).size) (hi : i + 9 ≤ X.2.2.2.2.2.1) (hg : gn ≤ g1) (hmo : e_mn (557, g1, e_RF, M2) o.2) (hh : e_E X d YL_spare [.inr (.inr 1), .inl (k_xi X i 1), .inl (k_xi X i 2), .inr (.inr 557)] (557, gn, e_RF, M) (.inl (some (.inl kk)), (557, g1, e_RF, M1))) (hm : e_E X d YX11_spare [.inr (.inr 64), .inl (k_xi X i 1), .inl (k_xi X i 2)] (557, g1, e_RF, M1) (.inl (some (.inl b)), (557, g1, e_RF, M2))) (ht : M2 64 0 = kk) (ho : kk = 0 → M2 557 0 = b) (k9 : e_G X (d + 1) YL_law_ 2729 [some (.inr (.inr 999999)), some (.inr (.inr 1)), some (.inr (.inr 64)), some (.inr (.inr 557)), some (.inl (i : Int)), none, none, none] [] (557, g1, e_RF, M2) o) : e_G X (d + 1) YL_law_ 1988 [some (.inr (.inr 999999)), some (.inr (.inr 1)), some (.inr (.inr 64)), some (.inr (.inr 557)), some (.inl (i : Int)), none, none, none] [] (557, gn, e_RF, M) o := by
  refine e_r_aload_n (pc' := 1989) (by decide) dL_law__1988 rfl rfl rfl ?_
  refine e_r_aload_n (pc' := 1990) (by decide) dL_law__1989 rfl rfl rfl ?_
  refine e_r_iload (pc' := 1992) dL_law__1990 rfl rfl ?_
  refine e_r_iconst (pc' := 1993) dL_law__1992 rfl (by decide) ?_
  refine e_r_iadd (pc' := 1994) dL_law__1993 rfl ?_
  rw [show e_w ((i : Int) + 1) = ((i + 1 : Nat) : Int) from (k_ix (k := 1) hL hi (by decide)).1]
  refine e_r_sld (pc' := 1995) (k_ix (k := 1) hL hi (by decide)).2.1 (k_ix (k := 1) hL hi (by decide)).2.2 hb dL_law__1994 rfl ?_
  rw [k_nat]
  refine e_r_aload_n (pc' := 1996) (by decide) dL_law__1995 rfl rfl rfl ?_
  refine e_r_iload (pc' := 1998) dL_law__1996 rfl rfl ?_
  refine e_r_iconst (pc' := 1999) dL_law__1998 rfl (by decide) ?_
  refine e_r_iadd (pc' := 2000) dL_law__1999 rfl ?_
  rw [show e_w ((i : Int) + 2) = ((i + 2 : Nat) : Int) from (k_ix (k := 2) hL hi (by decide)).1]
  refine e_r_sld (pc' := 2001) (k_ix (k := 2) hL hi (by decide)).2.1 (k_ix (k := 2) hL hi (by decide)).2.2 hb dL_law__2000 rfl ?_
  rw [k_nat]
  refine e_r_aload_n (pc' := 2002) (by decide) dL_law__2001 rfl rfl rfl ?_
  refine e_r_callSH (av := [.inr (.inr 1), .inl (k_xi X i 1), .inl (k_xi X i 2), .inr (.inr 557)]) (st := []) mhYL_spare ml_RL_232 (by simp [e_cat]) rfl rfl rfl dL_law__2002 (pc' := 2005) rfl hh ⟨Nat.le_refl _, hg⟩ hmo ?_
  refine e_r_istore (pc' := 2007) (loc' := [some (.inr (.inr 999999)), some (.inr (.inr 1)), some (.inr (.inr 64)), some (.inr (.inr 557)), some (.inl (i : Int)), some (.inl kk), none, none]) dL_law__2005 rfl rfl rfl rfl ?_
  refine e_r_aload_n (pc' := 2008) (by decide) dL_law__2007 rfl rfl rfl ?_
  refine e_r_aload_n (pc' := 2009) (by decide) dL_law__2008 rfl rfl rfl ?_
  refine e_r_iload (pc' := 2011) dL_law__2009 rfl rfl ?_
  refine e_r_iconst (pc' := 2012) dL_law__2011 rfl (by decide) ?_
  refine e_r_iadd (pc' := 2013) dL_law__2012 rfl ?_
  rw [show e_w ((i : Int) + 1) = ((i + 1 : Nat) : Int) from (k_ix (k := 1) hL hi (by decide)).1]
  refine e_r_sld (pc' := 2014) (k_ix (k := 1) hL hi (by decide)).2.1 (k_ix (k := 1) hL hi (by decide)).2.2 hb dL_law__2013 rfl ?_
  rw [k_nat]
  refine e_r_aload_n (pc' := 2015) (by decide) dL_law__2014 rfl rfl rfl ?_
  refine e_r_iload (pc' := 2017) dL_law__2015 rfl rfl ?_
  refine e_r_iconst (pc' := 2018) dL_law__2017 rfl (by decide) ?_
  refine e_r_iadd (pc' := 2019) dL_law__2018 rfl ?_
  rw [show e_w ((i : Int) + 2) = ((i + 2 : Nat) : Int) from (k_ix (k := 2) hL hi (by decide)).1]
  refine e_r_sld (pc' := 2020) (k_ix (k := 2) hL hi (by decide)).2.1 (k_ix (k := 2) hL hi (by decide)).2.2 hb dL_law__2019 rfl ?_
  rw [k_nat]
  refine e_r_callV (a := 64) (av := [.inl (k_xi X i 1), .inl (k_xi X i 2)]) (st := []) mqYX11_spare ml_RL_234 cl_11 rfl (Nat.le_of_ble_eq_true rfl) (by simp [e_cat]) rfl rfl rfl dL_law__2020 (pc' := 2023) rfl hm ⟨Nat.le_refl _, Nat.le_refl _⟩ hmo ?_
  refine e_r_istore (pc' := 2025) (loc' := [some (.inr (.inr 999999)), some (.inr (.inr 1)), some (.inr (.inr 64)), some (.inr (.inr 557)), some (.inl (i : Int)), some (.inl kk), some (.inl b), none]) dL_law__2023 rfl rfl rfl rfl ?_
  refine e_r_aload_n (pc' := 2026) (by decide) dL_law__2025 rfl rfl rfl ?_
  refine e_r_callV (a := 64) (av := []) (st := []) mqYX11_thrown ml_RL_131 cl_11 rfl (Nat.le_of_ble_eq_true rfl) (by simp) rfl rfl rfl dL_law__2026 (pc' := 2029) rfl c_thrown ⟨Nat.le_refl _, Nat.le_refl _⟩ hmo ?_
  refine e_r_iload (pc' := 2031) dL_law__2029 rfl rfl ?_
  refine e_r_icmp_eq (tgt := 2036) (pc' := 2034) dL_law__2031 rfl rfl (fun _ => ?_) (fun q => absurd ht q)
  refine e_r_iload (pc' := 2038) dL_law__2036 rfl rfl ?_
  refine e_r_if_ne (tgt := 2053) (pc' := 2041) dL_law__2038 rfl rfl (fun _ => ?_) (fun hk0 => ?_)
  · refine e_r_goto (pc' := 2729) dL_law__2053 rfl ?_
    exact e_forget (m := [true, true, true, true, true, false, false, false]) k9 rfl
  · refine e_r_aload_n (pc' := 2042) (by decide) dL_law__2041 rfl rfl rfl ?_
    refine e_r_iconst (pc' := 2043) dL_law__2042 rfl (by decide) ?_
    refine e_r_lald (j9 := 0) (pc' := 2044) rfl (Nat.le_of_ble_eq_true rfl) (by decide) (by decide) rfl dL_law__2043 rfl ?_
    refine e_r_iload (pc' := 2046) dL_law__2044 rfl rfl ?_
    refine e_r_i2l (pc' := 2047) dL_law__2046 rfl ?_
    refine e_r_lcmp (pc' := 2048) dL_law__2047 rfl ?_
    refine e_r_if_eq (tgt := 2053) (pc' := 2051) dL_law__2048 rfl rfl (fun _ => ?_) (fun q => absurd (by rw [ho hk0]; simp [e_cmp]) q)
    refine e_r_goto (pc' := 2729) dL_law__2053 rfl ?_
    exact e_forget (m := [true, true, true, true, true, false, false, false]) k9 rfl
theorem lc_32 {X : e_X} {d gn g1 i : Nat} {o : e_O} {M M1 M2 : e_M} {kk b : Int} (hL : X.2.2.2.2.2.1 ≤ 4608) (hb : X.2.2.2.2.1 < (e_H0 X).size) (hi : i + 9 ≤ X.2.2.2.2.2.1) (hg : gn ≤ g1) (hmo : e_mn (557, g1, e_RF, M2) o.2) (hh : e_E X d YL_cheapest [.inr (.inr 1), .inl (k_xi X i 1), .inr (.inr 557)] (557, gn, e_RF, M) (.inl (some (.inl kk)), (557, g1, e_RF, M1))) (hm : e_E X d YX11_cheapest [.inr (.inr 64), .inl (k_xi X i 1)] (557, g1, e_RF, M1) (.inl (some (.inl b)), (557, g1, e_RF, M2))) (ht : M2 64 0 = kk) (ho : kk = 0 → M2 557 0 = b) (k9 : e_G X (d + 1) YL_law_ 2729 [some (.inr (.inr 999999)), some (.inr (.inr 1)), some (.inr (.inr 64)), some (.inr (.inr 557)), some (.inl (i : Int)), none, none, none] [] (557, g1, e_RF, M2) o) : e_G X (d + 1) YL_law_ 2056 [some (.inr (.inr 999999)), some (.inr (.inr 1)), some (.inr (.inr 64)), some (.inr (.inr 557)), some (.inl (i : Int)), none, none, none] [] (557, gn, e_RF, M) o := by
  refine e_r_aload_n (pc' := 2057) (by decide) dL_law__2056 rfl rfl rfl ?_
  refine e_r_aload_n (pc' := 2058) (by decide) dL_law__2057 rfl rfl rfl ?_
  refine e_r_iload (pc' := 2060) dL_law__2058 rfl rfl ?_
  refine e_r_iconst (pc' := 2061) dL_law__2060 rfl (by decide) ?_
  refine e_r_iadd (pc' := 2062) dL_law__2061 rfl ?_
  rw [show e_w ((i : Int) + 1) = ((i + 1 : Nat) : Int) from (k_ix (k := 1) hL hi (by decide)).1]
  refine e_r_sld (pc' := 2063) (k_ix (k := 1) hL hi (by decide)).2.1 (k_ix (k := 1) hL hi (by decide)).2.2 hb dL_law__2062 rfl ?_
  rw [k_nat]
  refine e_r_aload_n (pc' := 2064) (by decide) dL_law__2063 rfl rfl rfl ?_
  refine e_r_callSH (av := [.inr (.inr 1), .inl (k_xi X i 1), .inr (.inr 557)]) (st := []) mhYL_cheapest ml_RL_235 (by simp [e_cat]) rfl rfl rfl dL_law__2064 (pc' := 2067) rfl hh ⟨Nat.le_refl _, hg⟩ hmo ?_
  refine e_r_istore (pc' := 2069) (loc' := [some (.inr (.inr 999999)), some (.inr (.inr 1)), some (.inr (.inr 64)), some (.inr (.inr 557)), some (.inl (i : Int)), some (.inl kk), none, none]) dL_law__2067 rfl rfl rfl rfl ?_
  refine e_r_aload_n (pc' := 2070) (by decide) dL_law__2069 rfl rfl rfl ?_
  refine e_r_aload_n (pc' := 2071) (by decide) dL_law__2070 rfl rfl rfl ?_
  refine e_r_iload (pc' := 2073) dL_law__2071 rfl rfl ?_
  refine e_r_iconst (pc' := 2074) dL_law__2073 rfl (by decide) ?_
  refine e_r_iadd (pc' := 2075) dL_law__2074 rfl ?_
  rw [show e_w ((i : Int) + 1) = ((i + 1 : Nat) : Int) from (k_ix (k := 1) hL hi (by decide)).1]
  refine e_r_sld (pc' := 2076) (k_ix (k := 1) hL hi (by decide)).2.1 (k_ix (k := 1) hL hi (by decide)).2.2 hb dL_law__2075 rfl ?_
  rw [k_nat]
  refine e_r_callV (a := 64) (av := [.inl (k_xi X i 1)]) (st := []) mqYX11_cheapest ml_RL_237 cl_11 rfl (Nat.le_of_ble_eq_true rfl) (by simp [e_cat]) rfl rfl rfl dL_law__2076 (pc' := 2079) rfl hm ⟨Nat.le_refl _, Nat.le_refl _⟩ hmo ?_
  refine e_r_istore (pc' := 2081) (loc' := [some (.inr (.inr 999999)), some (.inr (.inr 1)), some (.inr (.inr 64)), some (.inr (.inr 557)), some (.inl (i : Int)), some (.inl kk), some (.inl b), none]) dL_law__2079 rfl rfl rfl rfl ?_
  refine e_r_aload_n (pc' := 2082) (by decide) dL_law__2081 rfl rfl rfl ?_
  refine e_r_callV (a := 64) (av := []) (st := []) mqYX11_thrown ml_RL_131 cl_11 rfl (Nat.le_of_ble_eq_true rfl) (by simp) rfl rfl rfl dL_law__2082 (pc' := 2085) rfl c_thrown ⟨Nat.le_refl _, Nat.le_refl _⟩ hmo ?_
  refine e_r_iload (pc' := 2087) dL_law__2085 rfl rfl ?_
  refine e_r_icmp_eq (tgt := 2092) (pc' := 2090) dL_law__2087 rfl rfl (fun _ => ?_) (fun q => absurd ht q)
  refine e_r_iload (pc' := 2094) dL_law__2092 rfl rfl ?_
  refine e_r_if_ne (tgt := 2109) (pc' := 2097) dL_law__2094 rfl rfl (fun _ => ?_) (fun hk0 => ?_)
  · refine e_r_goto (pc' := 2729) dL_law__2109 rfl ?_
    exact e_forget (m := [true, true, true, true, true, false, false, false]) k9 rfl
  · refine e_r_aload_n (pc' := 2098) (by decide) dL_law__2097 rfl rfl rfl ?_
    refine e_r_iconst (pc' := 2099) dL_law__2098 rfl (by decide) ?_
    refine e_r_lald (j9 := 0) (pc' := 2100) rfl (Nat.le_of_ble_eq_true rfl) (by decide) (by decide) rfl dL_law__2099 rfl ?_
    refine e_r_iload (pc' := 2102) dL_law__2100 rfl rfl ?_
    refine e_r_i2l (pc' := 2103) dL_law__2102 rfl ?_
    refine e_r_lcmp (pc' := 2104) dL_law__2103 rfl ?_
    refine e_r_if_eq (tgt := 2109) (pc' := 2107) dL_law__2104 rfl rfl (fun _ => ?_) (fun q => absurd (by rw [ho hk0]; simp [e_cmp]) q)
    refine e_r_goto (pc' := 2729) dL_law__2109 rfl ?_
    exact e_forget (m := [true, true, true, true, true, false, false, false]) k9 rfl
theorem lc_33 {X : e_X} {d gn g1 i : Nat} {o : e_O} {M M1 M2 : e_M} {kk b : Int} (hL : X.2.2.2.2.2.1 ≤ 4608) (hb : X.2.2.2.2.1 < (e_H0 X).size) (hi : i + 9 ≤ X.2.2.2.2.2.1) (hg : gn ≤ g1) (hmo : e_mn (557, g1, e_RF, M2) o.2) (hh : e_E X d YL_crowd [.inr (.inr 1), .inl (k_xi X i 1), .inr (.inr 557)] (557, gn, e_RF, M) (.inl (some (.inl kk)), (557, g1, e_RF, M1))) (hm : e_E X d YX11_crowd [.inr (.inr 64), .inl (k_xi X i 1)] (557, g1, e_RF, M1) (.inl (some (.inl b)), (557, g1, e_RF, M2))) (ht : M2 64 0 = kk) (ho : kk = 0 → M2 557 0 = b) (k9 : e_G X (d + 1) YL_law_ 2729 [some (.inr (.inr 999999)), some (.inr (.inr 1)), some (.inr (.inr 64)), some (.inr (.inr 557)), some (.inl (i : Int)), none, none, none] [] (557, g1, e_RF, M2) o) : e_G X (d + 1) YL_law_ 2112 [some (.inr (.inr 999999)), some (.inr (.inr 1)), some (.inr (.inr 64)), some (.inr (.inr 557)), some (.inl (i : Int)), none, none, none] [] (557, gn, e_RF, M) o := by
  refine e_r_aload_n (pc' := 2113) (by decide) dL_law__2112 rfl rfl rfl ?_
  refine e_r_aload_n (pc' := 2114) (by decide) dL_law__2113 rfl rfl rfl ?_
  refine e_r_iload (pc' := 2116) dL_law__2114 rfl rfl ?_
  refine e_r_iconst (pc' := 2117) dL_law__2116 rfl (by decide) ?_
  refine e_r_iadd (pc' := 2118) dL_law__2117 rfl ?_
  rw [show e_w ((i : Int) + 1) = ((i + 1 : Nat) : Int) from (k_ix (k := 1) hL hi (by decide)).1]
  refine e_r_sld (pc' := 2119) (k_ix (k := 1) hL hi (by decide)).2.1 (k_ix (k := 1) hL hi (by decide)).2.2 hb dL_law__2118 rfl ?_
  rw [k_nat]
  refine e_r_aload_n (pc' := 2120) (by decide) dL_law__2119 rfl rfl rfl ?_
  refine e_r_callSH (av := [.inr (.inr 1), .inl (k_xi X i 1), .inr (.inr 557)]) (st := []) mhYL_crowd ml_RL_238 (by simp [e_cat]) rfl rfl rfl dL_law__2120 (pc' := 2123) rfl hh ⟨Nat.le_refl _, hg⟩ hmo ?_
  refine e_r_istore (pc' := 2125) (loc' := [some (.inr (.inr 999999)), some (.inr (.inr 1)), some (.inr (.inr 64)), some (.inr (.inr 557)), some (.inl (i : Int)), some (.inl kk), none, none]) dL_law__2123 rfl rfl rfl rfl ?_
  refine e_r_aload_n (pc' := 2126) (by decide) dL_law__2125 rfl rfl rfl ?_
  refine e_r_aload_n (pc' := 2127) (by decide) dL_law__2126 rfl rfl rfl ?_
  refine e_r_iload (pc' := 2129) dL_law__2127 rfl rfl ?_
  refine e_r_iconst (pc' := 2130) dL_law__2129 rfl (by decide) ?_
  refine e_r_iadd (pc' := 2131) dL_law__2130 rfl ?_
  rw [show e_w ((i : Int) + 1) = ((i + 1 : Nat) : Int) from (k_ix (k := 1) hL hi (by decide)).1]
  refine e_r_sld (pc' := 2132) (k_ix (k := 1) hL hi (by decide)).2.1 (k_ix (k := 1) hL hi (by decide)).2.2 hb dL_law__2131 rfl ?_
  rw [k_nat]
  refine e_r_callV (a := 64) (av := [.inl (k_xi X i 1)]) (st := []) mqYX11_crowd ml_RL_240 cl_11 rfl (Nat.le_of_ble_eq_true rfl) (by simp [e_cat]) rfl rfl rfl dL_law__2132 (pc' := 2135) rfl hm ⟨Nat.le_refl _, Nat.le_refl _⟩ hmo ?_
  refine e_r_istore (pc' := 2137) (loc' := [some (.inr (.inr 999999)), some (.inr (.inr 1)), some (.inr (.inr 64)), some (.inr (.inr 557)), some (.inl (i : Int)), some (.inl kk), some (.inl b), none]) dL_law__2135 rfl rfl rfl rfl ?_
  refine e_r_aload_n (pc' := 2138) (by decide) dL_law__2137 rfl rfl rfl ?_
  refine e_r_callV (a := 64) (av := []) (st := []) mqYX11_thrown ml_RL_131 cl_11 rfl (Nat.le_of_ble_eq_true rfl) (by simp) rfl rfl rfl dL_law__2138 (pc' := 2141) rfl c_thrown ⟨Nat.le_refl _, Nat.le_refl _⟩ hmo ?_
  refine e_r_iload (pc' := 2143) dL_law__2141 rfl rfl ?_
  refine e_r_icmp_eq (tgt := 2148) (pc' := 2146) dL_law__2143 rfl rfl (fun _ => ?_) (fun q => absurd ht q)
  refine e_r_iload (pc' := 2150) dL_law__2148 rfl rfl ?_
  refine e_r_if_ne (tgt := 2165) (pc' := 2153) dL_law__2150 rfl rfl (fun _ => ?_) (fun hk0 => ?_)
  · refine e_r_goto (pc' := 2729) dL_law__2165 rfl ?_
    exact e_forget (m := [true, true, true, true, true, false, false, false]) k9 rfl
  · refine e_r_aload_n (pc' := 2154) (by decide) dL_law__2153 rfl rfl rfl ?_
    refine e_r_iconst (pc' := 2155) dL_law__2154 rfl (by decide) ?_
    refine e_r_lald (j9 := 0) (pc' := 2156) rfl (Nat.le_of_ble_eq_true rfl) (by decide) (by decide) rfl dL_law__2155 rfl ?_
    refine e_r_iload (pc' := 2158) dL_law__2156 rfl rfl ?_
    refine e_r_i2l (pc' := 2159) dL_law__2158 rfl ?_
    refine e_r_lcmp (pc' := 2160) dL_law__2159 rfl ?_
    refine e_r_if_eq (tgt := 2165) (pc' := 2163) dL_law__2160 rfl rfl (fun _ => ?_) (fun q => absurd (by rw [ho hk0]; simp [e_cmp]) q)
    refine e_r_goto (pc' := 2729) dL_law__2165 rfl ?_
    exact e_forget (m := [true, true, true, true, true, false, false, false]) k9 rfl
theorem lc_34 {X : e_X} {d gn g1 i : Nat} {o : e_O} {M M1 M2 : e_M} {v : Int} (hL : X.2.2.2.2.2.1 ≤ 4608) (hb : X.2.2.2.2.1 < (e_H0 X).size) (hi : i + 9 ≤ X.2.2.2.2.2.1) (hg : gn ≤ g1) (hmo : e_mn (557, g1, e_RF, M2) o.2) (hx : e_E X d YX10_rush [.inr (.inr 1)] (557, gn, e_RF, M) (.inl (some (.inl v)), (557, g1, e_RF, M1))) (hm : e_E X d YX11_rush [.inr (.inr 64)] (557, g1, e_RF, M1) (.inl (some (.inl v)), (557, g1, e_RF, M2))) (k9 : e_G X (d + 1) YL_law_ 2729 [some (.inr (.inr 999999)), some (.inr (.inr 1)), some (.inr (.inr 64)), some (.inr (.inr 557)), some (.inl (i : Int)), none, none, none] [] (557, g1, e_RF, M2) o) : e_G X (d + 1) YL_law_ 2168 [some (.inr (.inr 999999)), some (.inr (.inr 1)), some (.inr (.inr 64)), some (.inr (.inr 557)), some (.inl (i : Int)), none, none, none] [] (557, gn, e_RF, M) o := by
  refine e_r_aload_n (pc' := 2169) (by decide) dL_law__2168 rfl rfl rfl ?_
  refine e_r_callV (a := 1) (av := []) (st := []) mqYX10_rush ml_RL_241 cl_10 rfl (Nat.le_of_ble_eq_true rfl) (by simp [e_cat]) rfl rfl rfl dL_law__2169 (pc' := 2172) rfl hx ⟨Nat.le_refl _, hg⟩ hmo ?_
  refine e_r_aload_n (pc' := 2173) (by decide) dL_law__2172 rfl rfl rfl ?_
  refine e_r_callV (a := 64) (av := []) (st := [.inl v]) mqYX11_rush ml_RL_244 cl_11 rfl (Nat.le_of_ble_eq_true rfl) (by simp [e_cat]) rfl rfl rfl dL_law__2173 (pc' := 2176) rfl hm ⟨Nat.le_refl _, Nat.le_refl _⟩ hmo ?_
  refine e_r_icmp_eq (tgt := 2729) (pc' := 2179) dL_law__2176 rfl rfl (fun _ => ?_) (fun q => absurd rfl q)
  exact e_forget (m := [true, true, true, true, true, false, false, false]) k9 rfl
theorem lc_35 {X : e_X} {d gn g1 i : Nat} {o : e_O} {M M1 M2 : e_M} {kk b : Int} (hL : X.2.2.2.2.2.1 ≤ 4608) (hb : X.2.2.2.2.1 < (e_H0 X).size) (hi : i + 9 ≤ X.2.2.2.2.2.1) (hg : gn ≤ g1) (hmo : e_mn (557, g1, e_RF, M2) o.2) (hh : e_E X d YL_clear [.inr (.inr 1), .inl (k_xi X i 1), .inl (k_xi X i 2), .inr (.inr 557)] (557, gn, e_RF, M) (.inl (some (.inl kk)), (557, g1, e_RF, M1))) (hm : e_E X d YX11_clear [.inr (.inr 64), .inl (k_xi X i 1), .inl (k_xi X i 2)] (557, g1, e_RF, M1) (.inl (some (.inl b)), (557, g1, e_RF, M2))) (ht : M2 64 0 = kk) (ho : kk = 0 → M2 557 0 = b) (k9 : e_G X (d + 1) YL_law_ 2729 [some (.inr (.inr 999999)), some (.inr (.inr 1)), some (.inr (.inr 64)), some (.inr (.inr 557)), some (.inl (i : Int)), none, none, none] [] (557, g1, e_RF, M2) o) : e_G X (d + 1) YL_law_ 2181 [some (.inr (.inr 999999)), some (.inr (.inr 1)), some (.inr (.inr 64)), some (.inr (.inr 557)), some (.inl (i : Int)), none, none, none] [] (557, gn, e_RF, M) o := by
  refine e_r_aload_n (pc' := 2182) (by decide) dL_law__2181 rfl rfl rfl ?_
  refine e_r_aload_n (pc' := 2183) (by decide) dL_law__2182 rfl rfl rfl ?_
  refine e_r_iload (pc' := 2185) dL_law__2183 rfl rfl ?_
  refine e_r_iconst (pc' := 2186) dL_law__2185 rfl (by decide) ?_
  refine e_r_iadd (pc' := 2187) dL_law__2186 rfl ?_
  rw [show e_w ((i : Int) + 1) = ((i + 1 : Nat) : Int) from (k_ix (k := 1) hL hi (by decide)).1]
  refine e_r_sld (pc' := 2188) (k_ix (k := 1) hL hi (by decide)).2.1 (k_ix (k := 1) hL hi (by decide)).2.2 hb dL_law__2187 rfl ?_
  rw [k_nat]
  refine e_r_aload_n (pc' := 2189) (by decide) dL_law__2188 rfl rfl rfl ?_
  refine e_r_iload (pc' := 2191) dL_law__2189 rfl rfl ?_
  refine e_r_iconst (pc' := 2192) dL_law__2191 rfl (by decide) ?_
  refine e_r_iadd (pc' := 2193) dL_law__2192 rfl ?_
  rw [show e_w ((i : Int) + 2) = ((i + 2 : Nat) : Int) from (k_ix (k := 2) hL hi (by decide)).1]
  refine e_r_sld (pc' := 2194) (k_ix (k := 2) hL hi (by decide)).2.1 (k_ix (k := 2) hL hi (by decide)).2.2 hb dL_law__2193 rfl ?_
  rw [k_nat]
  refine e_r_aload_n (pc' := 2195) (by decide) dL_law__2194 rfl rfl rfl ?_
  refine e_r_callSH (av := [.inr (.inr 1), .inl (k_xi X i 1), .inl (k_xi X i 2), .inr (.inr 557)]) (st := []) mhYL_clear ml_RL_245 (by simp [e_cat]) rfl rfl rfl dL_law__2195 (pc' := 2198) rfl hh ⟨Nat.le_refl _, hg⟩ hmo ?_
  refine e_r_istore (pc' := 2200) (loc' := [some (.inr (.inr 999999)), some (.inr (.inr 1)), some (.inr (.inr 64)), some (.inr (.inr 557)), some (.inl (i : Int)), some (.inl kk), none, none]) dL_law__2198 rfl rfl rfl rfl ?_
  refine e_r_aload_n (pc' := 2201) (by decide) dL_law__2200 rfl rfl rfl ?_
  refine e_r_aload_n (pc' := 2202) (by decide) dL_law__2201 rfl rfl rfl ?_
  refine e_r_iload (pc' := 2204) dL_law__2202 rfl rfl ?_
  refine e_r_iconst (pc' := 2205) dL_law__2204 rfl (by decide) ?_
  refine e_r_iadd (pc' := 2206) dL_law__2205 rfl ?_
  rw [show e_w ((i : Int) + 1) = ((i + 1 : Nat) : Int) from (k_ix (k := 1) hL hi (by decide)).1]
  refine e_r_sld (pc' := 2207) (k_ix (k := 1) hL hi (by decide)).2.1 (k_ix (k := 1) hL hi (by decide)).2.2 hb dL_law__2206 rfl ?_
  rw [k_nat]
  refine e_r_aload_n (pc' := 2208) (by decide) dL_law__2207 rfl rfl rfl ?_
  refine e_r_iload (pc' := 2210) dL_law__2208 rfl rfl ?_
  refine e_r_iconst (pc' := 2211) dL_law__2210 rfl (by decide) ?_
  refine e_r_iadd (pc' := 2212) dL_law__2211 rfl ?_
  rw [show e_w ((i : Int) + 2) = ((i + 2 : Nat) : Int) from (k_ix (k := 2) hL hi (by decide)).1]
  refine e_r_sld (pc' := 2213) (k_ix (k := 2) hL hi (by decide)).2.1 (k_ix (k := 2) hL hi (by decide)).2.2 hb dL_law__2212 rfl ?_
  rw [k_nat]
  refine e_r_callV (a := 64) (av := [.inl (k_xi X i 1), .inl (k_xi X i 2)]) (st := []) mqYX11_clear ml_RL_247 cl_11 rfl (Nat.le_of_ble_eq_true rfl) (by simp [e_cat]) rfl rfl rfl dL_law__2213 (pc' := 2216) rfl hm ⟨Nat.le_refl _, Nat.le_refl _⟩ hmo ?_
  refine e_r_istore (pc' := 2218) (loc' := [some (.inr (.inr 999999)), some (.inr (.inr 1)), some (.inr (.inr 64)), some (.inr (.inr 557)), some (.inl (i : Int)), some (.inl kk), some (.inl b), none]) dL_law__2216 rfl rfl rfl rfl ?_
  refine e_r_aload_n (pc' := 2219) (by decide) dL_law__2218 rfl rfl rfl ?_
  refine e_r_callV (a := 64) (av := []) (st := []) mqYX11_thrown ml_RL_131 cl_11 rfl (Nat.le_of_ble_eq_true rfl) (by simp) rfl rfl rfl dL_law__2219 (pc' := 2222) rfl c_thrown ⟨Nat.le_refl _, Nat.le_refl _⟩ hmo ?_
  refine e_r_iload (pc' := 2224) dL_law__2222 rfl rfl ?_
  refine e_r_icmp_eq (tgt := 2229) (pc' := 2227) dL_law__2224 rfl rfl (fun _ => ?_) (fun q => absurd ht q)
  refine e_r_iload (pc' := 2231) dL_law__2229 rfl rfl ?_
  refine e_r_if_ne (tgt := 2246) (pc' := 2234) dL_law__2231 rfl rfl (fun _ => ?_) (fun hk0 => ?_)
  · refine e_r_goto (pc' := 2729) dL_law__2246 rfl ?_
    exact e_forget (m := [true, true, true, true, true, false, false, false]) k9 rfl
  · refine e_r_aload_n (pc' := 2235) (by decide) dL_law__2234 rfl rfl rfl ?_
    refine e_r_iconst (pc' := 2236) dL_law__2235 rfl (by decide) ?_
    refine e_r_lald (j9 := 0) (pc' := 2237) rfl (Nat.le_of_ble_eq_true rfl) (by decide) (by decide) rfl dL_law__2236 rfl ?_
    refine e_r_iload (pc' := 2239) dL_law__2237 rfl rfl ?_
    refine e_r_i2l (pc' := 2240) dL_law__2239 rfl ?_
    refine e_r_lcmp (pc' := 2241) dL_law__2240 rfl ?_
    refine e_r_if_eq (tgt := 2246) (pc' := 2244) dL_law__2241 rfl rfl (fun _ => ?_) (fun q => absurd (by rw [ho hk0]; simp [e_cmp]) q)
    refine e_r_goto (pc' := 2729) dL_law__2246 rfl ?_
    exact e_forget (m := [true, true, true, true, true, false, false, false]) k9 rfl
theorem lc_36 {X : e_X} {d gn g1 i : Nat} {o : e_O} {M M1 M2 : e_M} {kk b : Int} (hL : X.2.2.2.2.2.1 ≤ 4608) (hb : X.2.2.2.2.1 < (e_H0 X).size) (hi : i + 9 ≤ X.2.2.2.2.2.1) (hg : gn ≤ g1) (hmo : e_mn (557, g1, e_RF, M2) o.2) (hh : e_E X d YL_richest [.inr (.inr 1), .inl (k_xi X i 1), .inr (.inr 557)] (557, gn, e_RF, M) (.inl (some (.inl kk)), (557, g1, e_RF, M1))) (hm : e_E X d YX11_richest [.inr (.inr 64), .inl (k_xi X i 1)] (557, g1, e_RF, M1) (.inl (some (.inl b)), (557, g1, e_RF, M2))) (ht : M2 64 0 = kk) (ho : kk = 0 → M2 557 0 = b) (k9 : e_G X (d + 1) YL_law_ 2729 [some (.inr (.inr 999999)), some (.inr (.inr 1)), some (.inr (.inr 64)), some (.inr (.inr 557)), some (.inl (i : Int)), none, none, none] [] (557, g1, e_RF, M2) o) : e_G X (d + 1) YL_law_ 2249 [some (.inr (.inr 999999)), some (.inr (.inr 1)), some (.inr (.inr 64)), some (.inr (.inr 557)), some (.inl (i : Int)), none, none, none] [] (557, gn, e_RF, M) o := by
  refine e_r_aload_n (pc' := 2250) (by decide) dL_law__2249 rfl rfl rfl ?_
  refine e_r_aload_n (pc' := 2251) (by decide) dL_law__2250 rfl rfl rfl ?_
  refine e_r_iload (pc' := 2253) dL_law__2251 rfl rfl ?_
  refine e_r_iconst (pc' := 2254) dL_law__2253 rfl (by decide) ?_
  refine e_r_iadd (pc' := 2255) dL_law__2254 rfl ?_
  rw [show e_w ((i : Int) + 1) = ((i + 1 : Nat) : Int) from (k_ix (k := 1) hL hi (by decide)).1]
  refine e_r_sld (pc' := 2256) (k_ix (k := 1) hL hi (by decide)).2.1 (k_ix (k := 1) hL hi (by decide)).2.2 hb dL_law__2255 rfl ?_
  rw [k_nat]
  refine e_r_aload_n (pc' := 2257) (by decide) dL_law__2256 rfl rfl rfl ?_
  refine e_r_callSH (av := [.inr (.inr 1), .inl (k_xi X i 1), .inr (.inr 557)]) (st := []) mhYL_richest ml_RL_248 (by simp [e_cat]) rfl rfl rfl dL_law__2257 (pc' := 2260) rfl hh ⟨Nat.le_refl _, hg⟩ hmo ?_
  refine e_r_istore (pc' := 2262) (loc' := [some (.inr (.inr 999999)), some (.inr (.inr 1)), some (.inr (.inr 64)), some (.inr (.inr 557)), some (.inl (i : Int)), some (.inl kk), none, none]) dL_law__2260 rfl rfl rfl rfl ?_
  refine e_r_aload_n (pc' := 2263) (by decide) dL_law__2262 rfl rfl rfl ?_
  refine e_r_aload_n (pc' := 2264) (by decide) dL_law__2263 rfl rfl rfl ?_
  refine e_r_iload (pc' := 2266) dL_law__2264 rfl rfl ?_
  refine e_r_iconst (pc' := 2267) dL_law__2266 rfl (by decide) ?_
  refine e_r_iadd (pc' := 2268) dL_law__2267 rfl ?_
  rw [show e_w ((i : Int) + 1) = ((i + 1 : Nat) : Int) from (k_ix (k := 1) hL hi (by decide)).1]
  refine e_r_sld (pc' := 2269) (k_ix (k := 1) hL hi (by decide)).2.1 (k_ix (k := 1) hL hi (by decide)).2.2 hb dL_law__2268 rfl ?_
  rw [k_nat]
  refine e_r_callV (a := 64) (av := [.inl (k_xi X i 1)]) (st := []) mqYX11_richest ml_RL_250 cl_11 rfl (Nat.le_of_ble_eq_true rfl) (by simp [e_cat]) rfl rfl rfl dL_law__2269 (pc' := 2272) rfl hm ⟨Nat.le_refl _, Nat.le_refl _⟩ hmo ?_
  refine e_r_istore (pc' := 2274) (loc' := [some (.inr (.inr 999999)), some (.inr (.inr 1)), some (.inr (.inr 64)), some (.inr (.inr 557)), some (.inl (i : Int)), some (.inl kk), some (.inl b), none]) dL_law__2272 rfl rfl rfl rfl ?_
  refine e_r_aload_n (pc' := 2275) (by decide) dL_law__2274 rfl rfl rfl ?_
  refine e_r_callV (a := 64) (av := []) (st := []) mqYX11_thrown ml_RL_131 cl_11 rfl (Nat.le_of_ble_eq_true rfl) (by simp) rfl rfl rfl dL_law__2275 (pc' := 2278) rfl c_thrown ⟨Nat.le_refl _, Nat.le_refl _⟩ hmo ?_
  refine e_r_iload (pc' := 2280) dL_law__2278 rfl rfl ?_
  refine e_r_icmp_eq (tgt := 2285) (pc' := 2283) dL_law__2280 rfl rfl (fun _ => ?_) (fun q => absurd ht q)
  refine e_r_iload (pc' := 2287) dL_law__2285 rfl rfl ?_
  refine e_r_if_ne (tgt := 2302) (pc' := 2290) dL_law__2287 rfl rfl (fun _ => ?_) (fun hk0 => ?_)
  · refine e_r_goto (pc' := 2729) dL_law__2302 rfl ?_
    exact e_forget (m := [true, true, true, true, true, false, false, false]) k9 rfl
  · refine e_r_aload_n (pc' := 2291) (by decide) dL_law__2290 rfl rfl rfl ?_
    refine e_r_iconst (pc' := 2292) dL_law__2291 rfl (by decide) ?_
    refine e_r_lald (j9 := 0) (pc' := 2293) rfl (Nat.le_of_ble_eq_true rfl) (by decide) (by decide) rfl dL_law__2292 rfl ?_
    refine e_r_iload (pc' := 2295) dL_law__2293 rfl rfl ?_
    refine e_r_i2l (pc' := 2296) dL_law__2295 rfl ?_
    refine e_r_lcmp (pc' := 2297) dL_law__2296 rfl ?_
    refine e_r_if_eq (tgt := 2302) (pc' := 2300) dL_law__2297 rfl rfl (fun _ => ?_) (fun q => absurd (by rw [ho hk0]; simp [e_cmp]) q)
    refine e_r_goto (pc' := 2729) dL_law__2302 rfl ?_
    exact e_forget (m := [true, true, true, true, true, false, false, false]) k9 rfl
theorem lc_37 {X : e_X} {d gn g1 i : Nat} {o : e_O} {M M1 M2 : e_M} {kk b : Int} (hL : X.2.2.2.2.2.1 ≤ 4608) (hb : X.2.2.2.2.1 < (e_H0 X).size) (hi : i + 9 ≤ X.2.2.2.2.2.1) (hg : gn ≤ g1) (hmo : e_mn (557, g1, e_RF, M2) o.2) (hh : e_E X d YL_back [.inr (.inr 1), .inl (k_xi X i 1), .inr (.inr 557)] (557, gn, e_RF, M) (.inl (some (.inl kk)), (557, g1, e_RF, M1))) (hm : e_E X d YX11_back [.inr (.inr 64), .inl (k_xi X i 1)] (557, g1, e_RF, M1) (.inl (some (.inl b)), (557, g1, e_RF, M2))) (ht : M2 64 0 = kk) (ho : kk = 0 → M2 557 0 = b) (k9 : e_G X (d + 1) YL_law_ 2729 [some (.inr (.inr 999999)), some (.inr (.inr 1)), some (.inr (.inr 64)), some (.inr (.inr 557)), some (.inl (i : Int)), none, none, none] [] (557, g1, e_RF, M2) o) : e_G X (d + 1) YL_law_ 2305 [some (.inr (.inr 999999)), some (.inr (.inr 1)), some (.inr (.inr 64)), some (.inr (.inr 557)), some (.inl (i : Int)), none, none, none] [] (557, gn, e_RF, M) o := by
  refine e_r_aload_n (pc' := 2306) (by decide) dL_law__2305 rfl rfl rfl ?_
  refine e_r_aload_n (pc' := 2307) (by decide) dL_law__2306 rfl rfl rfl ?_
  refine e_r_iload (pc' := 2309) dL_law__2307 rfl rfl ?_
  refine e_r_iconst (pc' := 2310) dL_law__2309 rfl (by decide) ?_
  refine e_r_iadd (pc' := 2311) dL_law__2310 rfl ?_
  rw [show e_w ((i : Int) + 1) = ((i + 1 : Nat) : Int) from (k_ix (k := 1) hL hi (by decide)).1]
  refine e_r_sld (pc' := 2312) (k_ix (k := 1) hL hi (by decide)).2.1 (k_ix (k := 1) hL hi (by decide)).2.2 hb dL_law__2311 rfl ?_
  rw [k_nat]
  refine e_r_aload_n (pc' := 2313) (by decide) dL_law__2312 rfl rfl rfl ?_
  refine e_r_callSH (av := [.inr (.inr 1), .inl (k_xi X i 1), .inr (.inr 557)]) (st := []) mhYL_back ml_RL_251 (by simp [e_cat]) rfl rfl rfl dL_law__2313 (pc' := 2316) rfl hh ⟨Nat.le_refl _, hg⟩ hmo ?_
  refine e_r_istore (pc' := 2318) (loc' := [some (.inr (.inr 999999)), some (.inr (.inr 1)), some (.inr (.inr 64)), some (.inr (.inr 557)), some (.inl (i : Int)), some (.inl kk), none, none]) dL_law__2316 rfl rfl rfl rfl ?_
  refine e_r_aload_n (pc' := 2319) (by decide) dL_law__2318 rfl rfl rfl ?_
  refine e_r_aload_n (pc' := 2320) (by decide) dL_law__2319 rfl rfl rfl ?_
  refine e_r_iload (pc' := 2322) dL_law__2320 rfl rfl ?_
  refine e_r_iconst (pc' := 2323) dL_law__2322 rfl (by decide) ?_
  refine e_r_iadd (pc' := 2324) dL_law__2323 rfl ?_
  rw [show e_w ((i : Int) + 1) = ((i + 1 : Nat) : Int) from (k_ix (k := 1) hL hi (by decide)).1]
  refine e_r_sld (pc' := 2325) (k_ix (k := 1) hL hi (by decide)).2.1 (k_ix (k := 1) hL hi (by decide)).2.2 hb dL_law__2324 rfl ?_
  rw [k_nat]
  refine e_r_callV (a := 64) (av := [.inl (k_xi X i 1)]) (st := []) mqYX11_back ml_RL_253 cl_11 rfl (Nat.le_of_ble_eq_true rfl) (by simp [e_cat]) rfl rfl rfl dL_law__2325 (pc' := 2328) rfl hm ⟨Nat.le_refl _, Nat.le_refl _⟩ hmo ?_
  refine e_r_istore (pc' := 2330) (loc' := [some (.inr (.inr 999999)), some (.inr (.inr 1)), some (.inr (.inr 64)), some (.inr (.inr 557)), some (.inl (i : Int)), some (.inl kk), some (.inl b), none]) dL_law__2328 rfl rfl rfl rfl ?_
  refine e_r_aload_n (pc' := 2331) (by decide) dL_law__2330 rfl rfl rfl ?_
  refine e_r_callV (a := 64) (av := []) (st := []) mqYX11_thrown ml_RL_131 cl_11 rfl (Nat.le_of_ble_eq_true rfl) (by simp) rfl rfl rfl dL_law__2331 (pc' := 2334) rfl c_thrown ⟨Nat.le_refl _, Nat.le_refl _⟩ hmo ?_
  refine e_r_iload (pc' := 2336) dL_law__2334 rfl rfl ?_
  refine e_r_icmp_eq (tgt := 2341) (pc' := 2339) dL_law__2336 rfl rfl (fun _ => ?_) (fun q => absurd ht q)
  refine e_r_iload (pc' := 2343) dL_law__2341 rfl rfl ?_
  refine e_r_if_ne (tgt := 2358) (pc' := 2346) dL_law__2343 rfl rfl (fun _ => ?_) (fun hk0 => ?_)
  · refine e_r_goto (pc' := 2729) dL_law__2358 rfl ?_
    exact e_forget (m := [true, true, true, true, true, false, false, false]) k9 rfl
  · refine e_r_aload_n (pc' := 2347) (by decide) dL_law__2346 rfl rfl rfl ?_
    refine e_r_iconst (pc' := 2348) dL_law__2347 rfl (by decide) ?_
    refine e_r_lald (j9 := 0) (pc' := 2349) rfl (Nat.le_of_ble_eq_true rfl) (by decide) (by decide) rfl dL_law__2348 rfl ?_
    refine e_r_iload (pc' := 2351) dL_law__2349 rfl rfl ?_
    refine e_r_i2l (pc' := 2352) dL_law__2351 rfl ?_
    refine e_r_lcmp (pc' := 2353) dL_law__2352 rfl ?_
    refine e_r_if_eq (tgt := 2358) (pc' := 2356) dL_law__2353 rfl rfl (fun _ => ?_) (fun q => absurd (by rw [ho hk0]; simp [e_cmp]) q)
    refine e_r_goto (pc' := 2729) dL_law__2358 rfl ?_
    exact e_forget (m := [true, true, true, true, true, false, false, false]) k9 rfl
theorem lc_38 {X : e_X} {d gn g1 i : Nat} {o : e_O} {M M1 M2 : e_M} {kk b : Int} (hL : X.2.2.2.2.2.1 ≤ 4608) (hb : X.2.2.2.2.1 < (e_H0 X).size) (hi : i + 9 ≤ X.2.2.2.2.2.1) (hg : gn ≤ g1) (hmo : e_mn (557, g1, e_RF, M2) o.2) (hh : e_E X d YL_loses [.inr (.inr 1), .inl (k_xi X i 1), .inr (.inr 557)] (557, gn, e_RF, M) (.inl (some (.inl kk)), (557, g1, e_RF, M1))) (hm : e_E X d YX11_loses [.inr (.inr 64), .inl (k_xi X i 1)] (557, g1, e_RF, M1) (.inl (some (.inl b)), (557, g1, e_RF, M2))) (ht : M2 64 0 = kk) (ho : kk = 0 → M2 557 0 = b) (k9 : e_G X (d + 1) YL_law_ 2729 [some (.inr (.inr 999999)), some (.inr (.inr 1)), some (.inr (.inr 64)), some (.inr (.inr 557)), some (.inl (i : Int)), none, none, none] [] (557, g1, e_RF, M2) o) : e_G X (d + 1) YL_law_ 2361 [some (.inr (.inr 999999)), some (.inr (.inr 1)), some (.inr (.inr 64)), some (.inr (.inr 557)), some (.inl (i : Int)), none, none, none] [] (557, gn, e_RF, M) o := by
  refine e_r_aload_n (pc' := 2362) (by decide) dL_law__2361 rfl rfl rfl ?_
  refine e_r_aload_n (pc' := 2363) (by decide) dL_law__2362 rfl rfl rfl ?_
  refine e_r_iload (pc' := 2365) dL_law__2363 rfl rfl ?_
  refine e_r_iconst (pc' := 2366) dL_law__2365 rfl (by decide) ?_
  refine e_r_iadd (pc' := 2367) dL_law__2366 rfl ?_
  rw [show e_w ((i : Int) + 1) = ((i + 1 : Nat) : Int) from (k_ix (k := 1) hL hi (by decide)).1]
  refine e_r_sld (pc' := 2368) (k_ix (k := 1) hL hi (by decide)).2.1 (k_ix (k := 1) hL hi (by decide)).2.2 hb dL_law__2367 rfl ?_
  rw [k_nat]
  refine e_r_aload_n (pc' := 2369) (by decide) dL_law__2368 rfl rfl rfl ?_
  refine e_r_callSH (av := [.inr (.inr 1), .inl (k_xi X i 1), .inr (.inr 557)]) (st := []) mhYL_loses ml_RL_254 (by simp [e_cat]) rfl rfl rfl dL_law__2369 (pc' := 2372) rfl hh ⟨Nat.le_refl _, hg⟩ hmo ?_
  refine e_r_istore (pc' := 2374) (loc' := [some (.inr (.inr 999999)), some (.inr (.inr 1)), some (.inr (.inr 64)), some (.inr (.inr 557)), some (.inl (i : Int)), some (.inl kk), none, none]) dL_law__2372 rfl rfl rfl rfl ?_
  refine e_r_aload_n (pc' := 2375) (by decide) dL_law__2374 rfl rfl rfl ?_
  refine e_r_aload_n (pc' := 2376) (by decide) dL_law__2375 rfl rfl rfl ?_
  refine e_r_iload (pc' := 2378) dL_law__2376 rfl rfl ?_
  refine e_r_iconst (pc' := 2379) dL_law__2378 rfl (by decide) ?_
  refine e_r_iadd (pc' := 2380) dL_law__2379 rfl ?_
  rw [show e_w ((i : Int) + 1) = ((i + 1 : Nat) : Int) from (k_ix (k := 1) hL hi (by decide)).1]
  refine e_r_sld (pc' := 2381) (k_ix (k := 1) hL hi (by decide)).2.1 (k_ix (k := 1) hL hi (by decide)).2.2 hb dL_law__2380 rfl ?_
  rw [k_nat]
  refine e_r_callV (a := 64) (av := [.inl (k_xi X i 1)]) (st := []) mqYX11_loses ml_RL_256 cl_11 rfl (Nat.le_of_ble_eq_true rfl) (by simp [e_cat]) rfl rfl rfl dL_law__2381 (pc' := 2384) rfl hm ⟨Nat.le_refl _, Nat.le_refl _⟩ hmo ?_
  refine e_r_istore (pc' := 2386) (loc' := [some (.inr (.inr 999999)), some (.inr (.inr 1)), some (.inr (.inr 64)), some (.inr (.inr 557)), some (.inl (i : Int)), some (.inl kk), some (.inl b), none]) dL_law__2384 rfl rfl rfl rfl ?_
  refine e_r_aload_n (pc' := 2387) (by decide) dL_law__2386 rfl rfl rfl ?_
  refine e_r_callV (a := 64) (av := []) (st := []) mqYX11_thrown ml_RL_131 cl_11 rfl (Nat.le_of_ble_eq_true rfl) (by simp) rfl rfl rfl dL_law__2387 (pc' := 2390) rfl c_thrown ⟨Nat.le_refl _, Nat.le_refl _⟩ hmo ?_
  refine e_r_iload (pc' := 2392) dL_law__2390 rfl rfl ?_
  refine e_r_icmp_eq (tgt := 2397) (pc' := 2395) dL_law__2392 rfl rfl (fun _ => ?_) (fun q => absurd ht q)
  refine e_r_iload (pc' := 2399) dL_law__2397 rfl rfl ?_
  refine e_r_if_ne (tgt := 2414) (pc' := 2402) dL_law__2399 rfl rfl (fun _ => ?_) (fun hk0 => ?_)
  · refine e_r_goto (pc' := 2729) dL_law__2414 rfl ?_
    exact e_forget (m := [true, true, true, true, true, false, false, false]) k9 rfl
  · refine e_r_aload_n (pc' := 2403) (by decide) dL_law__2402 rfl rfl rfl ?_
    refine e_r_iconst (pc' := 2404) dL_law__2403 rfl (by decide) ?_
    refine e_r_lald (j9 := 0) (pc' := 2405) rfl (Nat.le_of_ble_eq_true rfl) (by decide) (by decide) rfl dL_law__2404 rfl ?_
    refine e_r_iload (pc' := 2407) dL_law__2405 rfl rfl ?_
    refine e_r_i2l (pc' := 2408) dL_law__2407 rfl ?_
    refine e_r_lcmp (pc' := 2409) dL_law__2408 rfl ?_
    refine e_r_if_eq (tgt := 2414) (pc' := 2412) dL_law__2409 rfl rfl (fun _ => ?_) (fun q => absurd (by rw [ho hk0]; simp [e_cmp]) q)
    refine e_r_goto (pc' := 2729) dL_law__2414 rfl ?_
    exact e_forget (m := [true, true, true, true, true, false, false, false]) k9 rfl
theorem lc_39 {X : e_X} {d gn g1 i : Nat} {o : e_O} {M M1 M2 : e_M} {kk b : Int} (hL : X.2.2.2.2.2.1 ≤ 4608) (hb : X.2.2.2.2.1 < (e_H0 X).size) (hi : i + 9 ≤ X.2.2.2.2.2.1) (hg : gn ≤ g1) (hmo : e_mn (557, g1, e_RF, M2) o.2) (hh : e_E X d YL_year [.inr (.inr 1), .inl (k_xi X i 1), .inl (k_xi X i 2), .inl (k_xi X i 3), .inl (k_xi X i 4), .inl (k_xi X i 5), .inr (.inr 557)] (557, gn, e_RF, M) (.inl (some (.inl kk)), (557, g1, e_RF, M1))) (hm : e_E X d YX11_year [.inr (.inr 64), .inl (k_xi X i 1), .inl (k_xi X i 2), .inl (k_xi X i 3), .inl (k_xi X i 4), .inl (k_xi X i 5)] (557, g1, e_RF, M1) (.inl (some (.inl b)), (557, g1, e_RF, M2))) (ht : M2 64 0 = kk) (ho : kk = 0 → M2 557 0 = b) (k9 : e_G X (d + 1) YL_law_ 2729 [some (.inr (.inr 999999)), some (.inr (.inr 1)), some (.inr (.inr 64)), some (.inr (.inr 557)), some (.inl (i : Int)), none, none, none] [] (557, g1, e_RF, M2) o) : e_G X (d + 1) YL_law_ 2417 [some (.inr (.inr 999999)), some (.inr (.inr 1)), some (.inr (.inr 64)), some (.inr (.inr 557)), some (.inl (i : Int)), none, none, none] [] (557, gn, e_RF, M) o := by
  refine e_r_aload_n (pc' := 2418) (by decide) dL_law__2417 rfl rfl rfl ?_
  refine e_r_aload_n (pc' := 2419) (by decide) dL_law__2418 rfl rfl rfl ?_
  refine e_r_iload (pc' := 2421) dL_law__2419 rfl rfl ?_
  refine e_r_iconst (pc' := 2422) dL_law__2421 rfl (by decide) ?_
  refine e_r_iadd (pc' := 2423) dL_law__2422 rfl ?_
  rw [show e_w ((i : Int) + 1) = ((i + 1 : Nat) : Int) from (k_ix (k := 1) hL hi (by decide)).1]
  refine e_r_sld (pc' := 2424) (k_ix (k := 1) hL hi (by decide)).2.1 (k_ix (k := 1) hL hi (by decide)).2.2 hb dL_law__2423 rfl ?_
  rw [k_nat]
  refine e_r_aload_n (pc' := 2425) (by decide) dL_law__2424 rfl rfl rfl ?_
  refine e_r_iload (pc' := 2427) dL_law__2425 rfl rfl ?_
  refine e_r_iconst (pc' := 2428) dL_law__2427 rfl (by decide) ?_
  refine e_r_iadd (pc' := 2429) dL_law__2428 rfl ?_
  rw [show e_w ((i : Int) + 2) = ((i + 2 : Nat) : Int) from (k_ix (k := 2) hL hi (by decide)).1]
  refine e_r_sld (pc' := 2430) (k_ix (k := 2) hL hi (by decide)).2.1 (k_ix (k := 2) hL hi (by decide)).2.2 hb dL_law__2429 rfl ?_
  rw [k_nat]
  refine e_r_aload_n (pc' := 2431) (by decide) dL_law__2430 rfl rfl rfl ?_
  refine e_r_iload (pc' := 2433) dL_law__2431 rfl rfl ?_
  refine e_r_iconst (pc' := 2434) dL_law__2433 rfl (by decide) ?_
  refine e_r_iadd (pc' := 2435) dL_law__2434 rfl ?_
  rw [show e_w ((i : Int) + 3) = ((i + 3 : Nat) : Int) from (k_ix (k := 3) hL hi (by decide)).1]
  refine e_r_sld (pc' := 2436) (k_ix (k := 3) hL hi (by decide)).2.1 (k_ix (k := 3) hL hi (by decide)).2.2 hb dL_law__2435 rfl ?_
  rw [k_nat]
  refine e_r_aload_n (pc' := 2437) (by decide) dL_law__2436 rfl rfl rfl ?_
  refine e_r_iload (pc' := 2439) dL_law__2437 rfl rfl ?_
  refine e_r_iconst (pc' := 2440) dL_law__2439 rfl (by decide) ?_
  refine e_r_iadd (pc' := 2441) dL_law__2440 rfl ?_
  rw [show e_w ((i : Int) + 4) = ((i + 4 : Nat) : Int) from (k_ix (k := 4) hL hi (by decide)).1]
  refine e_r_sld (pc' := 2442) (k_ix (k := 4) hL hi (by decide)).2.1 (k_ix (k := 4) hL hi (by decide)).2.2 hb dL_law__2441 rfl ?_
  rw [k_nat]
  refine e_r_aload_n (pc' := 2443) (by decide) dL_law__2442 rfl rfl rfl ?_
  refine e_r_iload (pc' := 2445) dL_law__2443 rfl rfl ?_
  refine e_r_iconst (pc' := 2446) dL_law__2445 rfl (by decide) ?_
  refine e_r_iadd (pc' := 2447) dL_law__2446 rfl ?_
  rw [show e_w ((i : Int) + 5) = ((i + 5 : Nat) : Int) from (k_ix (k := 5) hL hi (by decide)).1]
  refine e_r_sld (pc' := 2448) (k_ix (k := 5) hL hi (by decide)).2.1 (k_ix (k := 5) hL hi (by decide)).2.2 hb dL_law__2447 rfl ?_
  rw [k_nat]
  refine e_r_aload_n (pc' := 2449) (by decide) dL_law__2448 rfl rfl rfl ?_
  refine e_r_callSH (av := [.inr (.inr 1), .inl (k_xi X i 1), .inl (k_xi X i 2), .inl (k_xi X i 3), .inl (k_xi X i 4), .inl (k_xi X i 5), .inr (.inr 557)]) (st := []) mhYL_year ml_RL_257 (by simp [e_cat]) rfl rfl rfl dL_law__2449 (pc' := 2452) rfl hh ⟨Nat.le_refl _, hg⟩ hmo ?_
  refine e_r_istore (pc' := 2454) (loc' := [some (.inr (.inr 999999)), some (.inr (.inr 1)), some (.inr (.inr 64)), some (.inr (.inr 557)), some (.inl (i : Int)), some (.inl kk), none, none]) dL_law__2452 rfl rfl rfl rfl ?_
  refine e_r_aload_n (pc' := 2455) (by decide) dL_law__2454 rfl rfl rfl ?_
  refine e_r_aload_n (pc' := 2456) (by decide) dL_law__2455 rfl rfl rfl ?_
  refine e_r_iload (pc' := 2458) dL_law__2456 rfl rfl ?_
  refine e_r_iconst (pc' := 2459) dL_law__2458 rfl (by decide) ?_
  refine e_r_iadd (pc' := 2460) dL_law__2459 rfl ?_
  rw [show e_w ((i : Int) + 1) = ((i + 1 : Nat) : Int) from (k_ix (k := 1) hL hi (by decide)).1]
  refine e_r_sld (pc' := 2461) (k_ix (k := 1) hL hi (by decide)).2.1 (k_ix (k := 1) hL hi (by decide)).2.2 hb dL_law__2460 rfl ?_
  rw [k_nat]
  refine e_r_aload_n (pc' := 2462) (by decide) dL_law__2461 rfl rfl rfl ?_
  refine e_r_iload (pc' := 2464) dL_law__2462 rfl rfl ?_
  refine e_r_iconst (pc' := 2465) dL_law__2464 rfl (by decide) ?_
  refine e_r_iadd (pc' := 2466) dL_law__2465 rfl ?_
  rw [show e_w ((i : Int) + 2) = ((i + 2 : Nat) : Int) from (k_ix (k := 2) hL hi (by decide)).1]
  refine e_r_sld (pc' := 2467) (k_ix (k := 2) hL hi (by decide)).2.1 (k_ix (k := 2) hL hi (by decide)).2.2 hb dL_law__2466 rfl ?_
  rw [k_nat]
  refine e_r_aload_n (pc' := 2468) (by decide) dL_law__2467 rfl rfl rfl ?_
  refine e_r_iload (pc' := 2470) dL_law__2468 rfl rfl ?_
  refine e_r_iconst (pc' := 2471) dL_law__2470 rfl (by decide) ?_
  refine e_r_iadd (pc' := 2472) dL_law__2471 rfl ?_
  rw [show e_w ((i : Int) + 3) = ((i + 3 : Nat) : Int) from (k_ix (k := 3) hL hi (by decide)).1]
  refine e_r_sld (pc' := 2473) (k_ix (k := 3) hL hi (by decide)).2.1 (k_ix (k := 3) hL hi (by decide)).2.2 hb dL_law__2472 rfl ?_
  rw [k_nat]
  refine e_r_aload_n (pc' := 2474) (by decide) dL_law__2473 rfl rfl rfl ?_
  refine e_r_iload (pc' := 2476) dL_law__2474 rfl rfl ?_
  refine e_r_iconst (pc' := 2477) dL_law__2476 rfl (by decide) ?_
  refine e_r_iadd (pc' := 2478) dL_law__2477 rfl ?_
  rw [show e_w ((i : Int) + 4) = ((i + 4 : Nat) : Int) from (k_ix (k := 4) hL hi (by decide)).1]
  refine e_r_sld (pc' := 2479) (k_ix (k := 4) hL hi (by decide)).2.1 (k_ix (k := 4) hL hi (by decide)).2.2 hb dL_law__2478 rfl ?_
  rw [k_nat]
  refine e_r_aload_n (pc' := 2480) (by decide) dL_law__2479 rfl rfl rfl ?_
  refine e_r_iload (pc' := 2482) dL_law__2480 rfl rfl ?_
  refine e_r_iconst (pc' := 2483) dL_law__2482 rfl (by decide) ?_
  refine e_r_iadd (pc' := 2484) dL_law__2483 rfl ?_
  rw [show e_w ((i : Int) + 5) = ((i + 5 : Nat) : Int) from (k_ix (k := 5) hL hi (by decide)).1]
  refine e_r_sld (pc' := 2485) (k_ix (k := 5) hL hi (by decide)).2.1 (k_ix (k := 5) hL hi (by decide)).2.2 hb dL_law__2484 rfl ?_
  rw [k_nat]
  refine e_r_callV (a := 64) (av := [.inl (k_xi X i 1), .inl (k_xi X i 2), .inl (k_xi X i 3), .inl (k_xi X i 4), .inl (k_xi X i 5)]) (st := []) mqYX11_year ml_RL_260 cl_11 rfl (Nat.le_of_ble_eq_true rfl) (by simp [e_cat]) rfl rfl rfl dL_law__2485 (pc' := 2488) rfl hm ⟨Nat.le_refl _, Nat.le_refl _⟩ hmo ?_
  refine e_r_istore (pc' := 2490) (loc' := [some (.inr (.inr 999999)), some (.inr (.inr 1)), some (.inr (.inr 64)), some (.inr (.inr 557)), some (.inl (i : Int)), some (.inl kk), some (.inl b), none]) dL_law__2488 rfl rfl rfl rfl ?_
  refine e_r_aload_n (pc' := 2491) (by decide) dL_law__2490 rfl rfl rfl ?_
  refine e_r_callV (a := 64) (av := []) (st := []) mqYX11_thrown ml_RL_131 cl_11 rfl (Nat.le_of_ble_eq_true rfl) (by simp) rfl rfl rfl dL_law__2491 (pc' := 2494) rfl c_thrown ⟨Nat.le_refl _, Nat.le_refl _⟩ hmo ?_
  refine e_r_iload (pc' := 2496) dL_law__2494 rfl rfl ?_
  refine e_r_icmp_eq (tgt := 2501) (pc' := 2499) dL_law__2496 rfl rfl (fun _ => ?_) (fun q => absurd ht q)
  refine e_r_iload (pc' := 2503) dL_law__2501 rfl rfl ?_
  refine e_r_if_ne (tgt := 2518) (pc' := 2506) dL_law__2503 rfl rfl (fun _ => ?_) (fun hk0 => ?_)
  · refine e_r_goto (pc' := 2729) dL_law__2518 rfl ?_
    exact e_forget (m := [true, true, true, true, true, false, false, false]) k9 rfl
  · refine e_r_aload_n (pc' := 2507) (by decide) dL_law__2506 rfl rfl rfl ?_
    refine e_r_iconst (pc' := 2508) dL_law__2507 rfl (by decide) ?_
    refine e_r_lald (j9 := 0) (pc' := 2509) rfl (Nat.le_of_ble_eq_true rfl) (by decide) (by decide) rfl dL_law__2508 rfl ?_
    refine e_r_iload (pc' := 2511) dL_law__2509 rfl rfl ?_
    refine e_r_i2l (pc' := 2512) dL_law__2511 rfl ?_
    refine e_r_lcmp (pc' := 2513) dL_law__2512 rfl ?_
    refine e_r_if_eq (tgt := 2518) (pc' := 2516) dL_law__2513 rfl rfl (fun _ => ?_) (fun q => absurd (by rw [ho hk0]; simp [e_cmp]) q)
    refine e_r_goto (pc' := 2729) dL_law__2518 rfl ?_
    exact e_forget (m := [true, true, true, true, true, false, false, false]) k9 rfl
theorem lc_40 {X : e_X} {d gn g1 i : Nat} {o : e_O} {M M1 M2 : e_M} {kk b : Int} (hL : X.2.2.2.2.2.1 ≤ 4608) (hb : X.2.2.2.2.1 < (e_H0 X).size) (hi : i + 9 ≤ X.2.2.2.2.2.1) (hg : gn ≤ g1) (hmo : e_mn (557, g1, e_RF, M2) o.2) (hh : e_E X d YL_span [.inr (.inr 1), .inl (k_xi X i 1), .inl (k_xi X i 2), .inl (k_xi X i 3), .inl (k_xi X i 4), .inl (k_xi X i 5), .inl (k_xi X i 6), .inl (k_xi X i 7), .inr (.inr 557)] (557, gn, e_RF, M) (.inl (some (.inl kk)), (557, g1, e_RF, M1))) (hm : e_E X d YX11_span [.inr (.inr 64), .inl (k_xi X i 1), .inl (k_xi X i 2), .inl (k_xi X i 3), .inl (k_xi X i 4), .inl (k_xi X i 5), .inl (k_xi X i 6), .inl (k_xi X i 7)] (557, g1, e_RF, M1) (.inl (some (.inl b)), (557, g1, e_RF, M2))) (ht : M2 64 0 = kk) (ho : kk = 0 → M2 557 0 = b) (k9 : e_G X (d + 1) YL_law_ 2729 [some (.inr (.inr 999999)), some (.inr (.inr 1)), some (.inr (.inr 64)), some (.inr (.inr 557)), some (.inl (i : Int)), none, none, none] [] (557, g1, e_RF, M2) o) : e_G X (d + 1) YL_law_ 2521 [some (.inr (.inr 999999)), some (.inr (.inr 1)), some (.inr (.inr 64)), some (.inr (.inr 557)), some (.inl (i : Int)), none, none, none] [] (557, gn, e_RF, M) o := by
  refine e_r_aload_n (pc' := 2522) (by decide) dL_law__2521 rfl rfl rfl ?_
  refine e_r_aload_n (pc' := 2523) (by decide) dL_law__2522 rfl rfl rfl ?_
  refine e_r_iload (pc' := 2525) dL_law__2523 rfl rfl ?_
  refine e_r_iconst (pc' := 2526) dL_law__2525 rfl (by decide) ?_
  refine e_r_iadd (pc' := 2527) dL_law__2526 rfl ?_
  rw [show e_w ((i : Int) + 1) = ((i + 1 : Nat) : Int) from (k_ix (k := 1) hL hi (by decide)).1]
  refine e_r_sld (pc' := 2528) (k_ix (k := 1) hL hi (by decide)).2.1 (k_ix (k := 1) hL hi (by decide)).2.2 hb dL_law__2527 rfl ?_
  rw [k_nat]
  refine e_r_aload_n (pc' := 2529) (by decide) dL_law__2528 rfl rfl rfl ?_
  refine e_r_iload (pc' := 2531) dL_law__2529 rfl rfl ?_
  refine e_r_iconst (pc' := 2532) dL_law__2531 rfl (by decide) ?_
  refine e_r_iadd (pc' := 2533) dL_law__2532 rfl ?_
  rw [show e_w ((i : Int) + 2) = ((i + 2 : Nat) : Int) from (k_ix (k := 2) hL hi (by decide)).1]
  refine e_r_sld (pc' := 2534) (k_ix (k := 2) hL hi (by decide)).2.1 (k_ix (k := 2) hL hi (by decide)).2.2 hb dL_law__2533 rfl ?_
  rw [k_nat]
  refine e_r_aload_n (pc' := 2535) (by decide) dL_law__2534 rfl rfl rfl ?_
  refine e_r_iload (pc' := 2537) dL_law__2535 rfl rfl ?_
  refine e_r_iconst (pc' := 2538) dL_law__2537 rfl (by decide) ?_
  refine e_r_iadd (pc' := 2539) dL_law__2538 rfl ?_
  rw [show e_w ((i : Int) + 3) = ((i + 3 : Nat) : Int) from (k_ix (k := 3) hL hi (by decide)).1]
  refine e_r_sld (pc' := 2540) (k_ix (k := 3) hL hi (by decide)).2.1 (k_ix (k := 3) hL hi (by decide)).2.2 hb dL_law__2539 rfl ?_
  rw [k_nat]
  refine e_r_aload_n (pc' := 2541) (by decide) dL_law__2540 rfl rfl rfl ?_
  refine e_r_iload (pc' := 2543) dL_law__2541 rfl rfl ?_
  refine e_r_iconst (pc' := 2544) dL_law__2543 rfl (by decide) ?_
  refine e_r_iadd (pc' := 2545) dL_law__2544 rfl ?_
  rw [show e_w ((i : Int) + 4) = ((i + 4 : Nat) : Int) from (k_ix (k := 4) hL hi (by decide)).1]
  refine e_r_sld (pc' := 2546) (k_ix (k := 4) hL hi (by decide)).2.1 (k_ix (k := 4) hL hi (by decide)).2.2 hb dL_law__2545 rfl ?_
  rw [k_nat]
  refine e_r_aload_n (pc' := 2547) (by decide) dL_law__2546 rfl rfl rfl ?_
  refine e_r_iload (pc' := 2549) dL_law__2547 rfl rfl ?_
  refine e_r_iconst (pc' := 2550) dL_law__2549 rfl (by decide) ?_
  refine e_r_iadd (pc' := 2551) dL_law__2550 rfl ?_
  rw [show e_w ((i : Int) + 5) = ((i + 5 : Nat) : Int) from (k_ix (k := 5) hL hi (by decide)).1]
  refine e_r_sld (pc' := 2552) (k_ix (k := 5) hL hi (by decide)).2.1 (k_ix (k := 5) hL hi (by decide)).2.2 hb dL_law__2551 rfl ?_
  rw [k_nat]
  refine e_r_aload_n (pc' := 2553) (by decide) dL_law__2552 rfl rfl rfl ?_
  refine e_r_iload (pc' := 2555) dL_law__2553 rfl rfl ?_
  refine e_r_bipush (pc' := 2557) dL_law__2555 rfl (by decide) ?_
  refine e_r_iadd (pc' := 2558) dL_law__2557 rfl ?_
  rw [show e_w ((i : Int) + 6) = ((i + 6 : Nat) : Int) from (k_ix (k := 6) hL hi (by decide)).1]
  refine e_r_sld (pc' := 2559) (k_ix (k := 6) hL hi (by decide)).2.1 (k_ix (k := 6) hL hi (by decide)).2.2 hb dL_law__2558 rfl ?_
  rw [k_nat]
  refine e_r_aload_n (pc' := 2560) (by decide) dL_law__2559 rfl rfl rfl ?_
  refine e_r_iload (pc' := 2562) dL_law__2560 rfl rfl ?_
  refine e_r_bipush (pc' := 2564) dL_law__2562 rfl (by decide) ?_
  refine e_r_iadd (pc' := 2565) dL_law__2564 rfl ?_
  rw [show e_w ((i : Int) + 7) = ((i + 7 : Nat) : Int) from (k_ix (k := 7) hL hi (by decide)).1]
  refine e_r_sld (pc' := 2566) (k_ix (k := 7) hL hi (by decide)).2.1 (k_ix (k := 7) hL hi (by decide)).2.2 hb dL_law__2565 rfl ?_
  rw [k_nat]
  refine e_r_aload_n (pc' := 2567) (by decide) dL_law__2566 rfl rfl rfl ?_
  refine e_r_callSH (av := [.inr (.inr 1), .inl (k_xi X i 1), .inl (k_xi X i 2), .inl (k_xi X i 3), .inl (k_xi X i 4), .inl (k_xi X i 5), .inl (k_xi X i 6), .inl (k_xi X i 7), .inr (.inr 557)]) (st := []) mhYL_span ml_RL_261 (by simp [e_cat]) rfl rfl rfl dL_law__2567 (pc' := 2570) rfl hh ⟨Nat.le_refl _, hg⟩ hmo ?_
  refine e_r_istore (pc' := 2572) (loc' := [some (.inr (.inr 999999)), some (.inr (.inr 1)), some (.inr (.inr 64)), some (.inr (.inr 557)), some (.inl (i : Int)), some (.inl kk), none, none]) dL_law__2570 rfl rfl rfl rfl ?_
  refine e_r_aload_n (pc' := 2573) (by decide) dL_law__2572 rfl rfl rfl ?_
  refine e_r_aload_n (pc' := 2574) (by decide) dL_law__2573 rfl rfl rfl ?_
  refine e_r_iload (pc' := 2576) dL_law__2574 rfl rfl ?_
  refine e_r_iconst (pc' := 2577) dL_law__2576 rfl (by decide) ?_
  refine e_r_iadd (pc' := 2578) dL_law__2577 rfl ?_
  rw [show e_w ((i : Int) + 1) = ((i + 1 : Nat) : Int) from (k_ix (k := 1) hL hi (by decide)).1]
  refine e_r_sld (pc' := 2579) (k_ix (k := 1) hL hi (by decide)).2.1 (k_ix (k := 1) hL hi (by decide)).2.2 hb dL_law__2578 rfl ?_
  rw [k_nat]
  refine e_r_aload_n (pc' := 2580) (by decide) dL_law__2579 rfl rfl rfl ?_
  refine e_r_iload (pc' := 2582) dL_law__2580 rfl rfl ?_
  refine e_r_iconst (pc' := 2583) dL_law__2582 rfl (by decide) ?_
  refine e_r_iadd (pc' := 2584) dL_law__2583 rfl ?_
  rw [show e_w ((i : Int) + 2) = ((i + 2 : Nat) : Int) from (k_ix (k := 2) hL hi (by decide)).1]
  refine e_r_sld (pc' := 2585) (k_ix (k := 2) hL hi (by decide)).2.1 (k_ix (k := 2) hL hi (by decide)).2.2 hb dL_law__2584 rfl ?_
  rw [k_nat]
  refine e_r_aload_n (pc' := 2586) (by decide) dL_law__2585 rfl rfl rfl ?_
  refine e_r_iload (pc' := 2588) dL_law__2586 rfl rfl ?_
  refine e_r_iconst (pc' := 2589) dL_law__2588 rfl (by decide) ?_
  refine e_r_iadd (pc' := 2590) dL_law__2589 rfl ?_
  rw [show e_w ((i : Int) + 3) = ((i + 3 : Nat) : Int) from (k_ix (k := 3) hL hi (by decide)).1]
  refine e_r_sld (pc' := 2591) (k_ix (k := 3) hL hi (by decide)).2.1 (k_ix (k := 3) hL hi (by decide)).2.2 hb dL_law__2590 rfl ?_
  rw [k_nat]
  refine e_r_aload_n (pc' := 2592) (by decide) dL_law__2591 rfl rfl rfl ?_
  refine e_r_iload (pc' := 2594) dL_law__2592 rfl rfl ?_
  refine e_r_iconst (pc' := 2595) dL_law__2594 rfl (by decide) ?_
  refine e_r_iadd (pc' := 2596) dL_law__2595 rfl ?_
  rw [show e_w ((i : Int) + 4) = ((i + 4 : Nat) : Int) from (k_ix (k := 4) hL hi (by decide)).1]
  refine e_r_sld (pc' := 2597) (k_ix (k := 4) hL hi (by decide)).2.1 (k_ix (k := 4) hL hi (by decide)).2.2 hb dL_law__2596 rfl ?_
  rw [k_nat]
  refine e_r_aload_n (pc' := 2598) (by decide) dL_law__2597 rfl rfl rfl ?_
  refine e_r_iload (pc' := 2600) dL_law__2598 rfl rfl ?_
  refine e_r_iconst (pc' := 2601) dL_law__2600 rfl (by decide) ?_
  refine e_r_iadd (pc' := 2602) dL_law__2601 rfl ?_
  rw [show e_w ((i : Int) + 5) = ((i + 5 : Nat) : Int) from (k_ix (k := 5) hL hi (by decide)).1]
  refine e_r_sld (pc' := 2603) (k_ix (k := 5) hL hi (by decide)).2.1 (k_ix (k := 5) hL hi (by decide)).2.2 hb dL_law__2602 rfl ?_
  rw [k_nat]
  refine e_r_aload_n (pc' := 2604) (by decide) dL_law__2603 rfl rfl rfl ?_
  refine e_r_iload (pc' := 2606) dL_law__2604 rfl rfl ?_
  refine e_r_bipush (pc' := 2608) dL_law__2606 rfl (by decide) ?_
  refine e_r_iadd (pc' := 2609) dL_law__2608 rfl ?_
  rw [show e_w ((i : Int) + 6) = ((i + 6 : Nat) : Int) from (k_ix (k := 6) hL hi (by decide)).1]
  refine e_r_sld (pc' := 2610) (k_ix (k := 6) hL hi (by decide)).2.1 (k_ix (k := 6) hL hi (by decide)).2.2 hb dL_law__2609 rfl ?_
  rw [k_nat]
  refine e_r_aload_n (pc' := 2611) (by decide) dL_law__2610 rfl rfl rfl ?_
  refine e_r_iload (pc' := 2613) dL_law__2611 rfl rfl ?_
  refine e_r_bipush (pc' := 2615) dL_law__2613 rfl (by decide) ?_
  refine e_r_iadd (pc' := 2616) dL_law__2615 rfl ?_
  rw [show e_w ((i : Int) + 7) = ((i + 7 : Nat) : Int) from (k_ix (k := 7) hL hi (by decide)).1]
  refine e_r_sld (pc' := 2617) (k_ix (k := 7) hL hi (by decide)).2.1 (k_ix (k := 7) hL hi (by decide)).2.2 hb dL_law__2616 rfl ?_
  rw [k_nat]
  refine e_r_callV (a := 64) (av := [.inl (k_xi X i 1), .inl (k_xi X i 2), .inl (k_xi X i 3), .inl (k_xi X i 4), .inl (k_xi X i 5), .inl (k_xi X i 6), .inl (k_xi X i 7)]) (st := []) mqYX11_span ml_RL_264 cl_11 rfl (Nat.le_of_ble_eq_true rfl) (by simp [e_cat]) rfl rfl rfl dL_law__2617 (pc' := 2620) rfl hm ⟨Nat.le_refl _, Nat.le_refl _⟩ hmo ?_
  refine e_r_istore (pc' := 2622) (loc' := [some (.inr (.inr 999999)), some (.inr (.inr 1)), some (.inr (.inr 64)), some (.inr (.inr 557)), some (.inl (i : Int)), some (.inl kk), some (.inl b), none]) dL_law__2620 rfl rfl rfl rfl ?_
  refine e_r_aload_n (pc' := 2623) (by decide) dL_law__2622 rfl rfl rfl ?_
  refine e_r_callV (a := 64) (av := []) (st := []) mqYX11_thrown ml_RL_131 cl_11 rfl (Nat.le_of_ble_eq_true rfl) (by simp) rfl rfl rfl dL_law__2623 (pc' := 2626) rfl c_thrown ⟨Nat.le_refl _, Nat.le_refl _⟩ hmo ?_
  refine e_r_iload (pc' := 2628) dL_law__2626 rfl rfl ?_
  refine e_r_icmp_eq (tgt := 2633) (pc' := 2631) dL_law__2628 rfl rfl (fun _ => ?_) (fun q => absurd ht q)
  refine e_r_iload (pc' := 2635) dL_law__2633 rfl rfl ?_
  refine e_r_if_ne (tgt := 2650) (pc' := 2638) dL_law__2635 rfl rfl (fun _ => ?_) (fun hk0 => ?_)
  · refine e_r_goto (pc' := 2729) dL_law__2650 rfl ?_
    exact e_forget (m := [true, true, true, true, true, false, false, false]) k9 rfl
  · refine e_r_aload_n (pc' := 2639) (by decide) dL_law__2638 rfl rfl rfl ?_
    refine e_r_iconst (pc' := 2640) dL_law__2639 rfl (by decide) ?_
    refine e_r_lald (j9 := 0) (pc' := 2641) rfl (Nat.le_of_ble_eq_true rfl) (by decide) (by decide) rfl dL_law__2640 rfl ?_
    refine e_r_iload (pc' := 2643) dL_law__2641 rfl rfl ?_
    refine e_r_i2l (pc' := 2644) dL_law__2643 rfl ?_
    refine e_r_lcmp (pc' := 2645) dL_law__2644 rfl ?_
    refine e_r_if_eq (tgt := 2650) (pc' := 2648) dL_law__2645 rfl rfl (fun _ => ?_) (fun q => absurd (by rw [ho hk0]; simp [e_cmp]) q)
    refine e_r_goto (pc' := 2729) dL_law__2650 rfl ?_
    exact e_forget (m := [true, true, true, true, true, false, false, false]) k9 rfl
theorem lc_41 {X : e_X} {d gn g1 i : Nat} {o : e_O} {M M1 M2 : e_M} {v : Int} (hL : X.2.2.2.2.2.1 ≤ 4608) (hb : X.2.2.2.2.1 < (e_H0 X).size) (hi : i + 9 ≤ X.2.2.2.2.2.1) (hg : gn ≤ g1) (hmo : e_mn (557, g1, e_RF, M2) o.2) (hx : e_E X d YX10_image [.inr (.inr 1)] (557, gn, e_RF, M) (.inl (some (.inl v)), (557, g1, e_RF, M1))) (hm : e_E X d YX11_image [.inr (.inr 64)] (557, g1, e_RF, M1) (.inl (some (.inl v)), (557, g1, e_RF, M2))) (k9 : e_G X (d + 1) YL_law_ 2729 [some (.inr (.inr 999999)), some (.inr (.inr 1)), some (.inr (.inr 64)), some (.inr (.inr 557)), some (.inl (i : Int)), none, none, none] [] (557, g1, e_RF, M2) o) : e_G X (d + 1) YL_law_ 2653 [some (.inr (.inr 999999)), some (.inr (.inr 1)), some (.inr (.inr 64)), some (.inr (.inr 557)), some (.inl (i : Int)), none, none, none] [] (557, gn, e_RF, M) o := by
  refine e_r_aload_n (pc' := 2654) (by decide) dL_law__2653 rfl rfl rfl ?_
  refine e_r_callV (a := 1) (av := []) (st := []) mqYX10_image ml_RL_265 cl_10 rfl (Nat.le_of_ble_eq_true rfl) (by simp [e_cat]) rfl rfl rfl dL_law__2654 (pc' := 2657) rfl hx ⟨Nat.le_refl _, hg⟩ hmo ?_
  refine e_r_aload_n (pc' := 2658) (by decide) dL_law__2657 rfl rfl rfl ?_
  refine e_r_callV (a := 64) (av := []) (st := [.inl v]) mqYX11_image ml_RL_268 cl_11 rfl (Nat.le_of_ble_eq_true rfl) (by simp [e_cat]) rfl rfl rfl dL_law__2658 (pc' := 2661) rfl hm ⟨Nat.le_refl _, Nat.le_refl _⟩ hmo ?_
  refine e_r_icmp_eq (tgt := 2729) (pc' := 2664) dL_law__2661 rfl rfl (fun _ => ?_) (fun q => absurd rfl q)
  exact e_forget (m := [true, true, true, true, true, false, false, false]) k9 rfl
theorem lc_42 {X : e_X} {d gn g1 i : Nat} {o : e_O} {M M1 M2 : e_M} {v : Int} (hL : X.2.2.2.2.2.1 ≤ 4608) (hb : X.2.2.2.2.1 < (e_H0 X).size) (hi : i + 9 ≤ X.2.2.2.2.2.1) (hg : gn ≤ g1) (hmo : e_mn (557, g1, e_RF, M2) o.2) (hx : e_E X d YX10_restore [.inr (.inr 1)] (557, gn, e_RF, M) (.inl (some (.inl v)), (557, g1, e_RF, M1))) (hm : e_E X d YX11_restore [.inr (.inr 64)] (557, g1, e_RF, M1) (.inl (some (.inl v)), (557, g1, e_RF, M2))) (k9 : e_G X (d + 1) YL_law_ 2729 [some (.inr (.inr 999999)), some (.inr (.inr 1)), some (.inr (.inr 64)), some (.inr (.inr 557)), some (.inl (i : Int)), none, none, none] [] (557, g1, e_RF, M2) o) : e_G X (d + 1) YL_law_ 2666 [some (.inr (.inr 999999)), some (.inr (.inr 1)), some (.inr (.inr 64)), some (.inr (.inr 557)), some (.inl (i : Int)), none, none, none] [] (557, gn, e_RF, M) o := by
  refine e_r_aload_n (pc' := 2667) (by decide) dL_law__2666 rfl rfl rfl ?_
  refine e_r_callV (a := 1) (av := []) (st := []) mqYX10_restore ml_RL_269 cl_10 rfl (Nat.le_of_ble_eq_true rfl) (by simp [e_cat]) rfl rfl rfl dL_law__2667 (pc' := 2670) rfl hx ⟨Nat.le_refl _, hg⟩ hmo ?_
  refine e_r_aload_n (pc' := 2671) (by decide) dL_law__2670 rfl rfl rfl ?_
  refine e_r_callV (a := 64) (av := []) (st := [.inl v]) mqYX11_restore ml_RL_272 cl_11 rfl (Nat.le_of_ble_eq_true rfl) (by simp [e_cat]) rfl rfl rfl dL_law__2671 (pc' := 2674) rfl hm ⟨Nat.le_refl _, Nat.le_refl _⟩ hmo ?_
  refine e_r_icmp_eq (tgt := 2729) (pc' := 2677) dL_law__2674 rfl rfl (fun _ => ?_) (fun q => absurd rfl q)
  exact e_forget (m := [true, true, true, true, true, false, false, false]) k9 rfl
theorem lc_43 {X : e_X} {d gn g1 i : Nat} {o : e_O} {M M1 M2 : e_M} {v : Int} (hL : X.2.2.2.2.2.1 ≤ 4608) (hb : X.2.2.2.2.1 < (e_H0 X).size) (hi : i + 9 ≤ X.2.2.2.2.2.1) (hg : gn ≤ g1) (hmo : e_mn (557, g1, e_RF, M2) o.2) (hx : e_E X d YX10_status [.inr (.inr 1), .inl (k_xi X i 1)] (557, gn, e_RF, M) (.inl (some (.inl v)), (557, g1, e_RF, M1))) (hm : e_E X d YX11_status [.inr (.inr 64), .inl (k_xi X i 1)] (557, g1, e_RF, M1) (.inl (some (.inl v)), (557, g1, e_RF, M2))) (k9 : e_G X (d + 1) YL_law_ 2729 [some (.inr (.inr 999999)), some (.inr (.inr 1)), some (.inr (.inr 64)), some (.inr (.inr 557)), some (.inl (i : Int)), none, none, none] [] (557, g1, e_RF, M2) o) : e_G X (d + 1) YL_law_ 2679 [some (.inr (.inr 999999)), some (.inr (.inr 1)), some (.inr (.inr 64)), some (.inr (.inr 557)), some (.inl (i : Int)), none, none, none] [] (557, gn, e_RF, M) o := by
  refine e_r_aload_n (pc' := 2680) (by decide) dL_law__2679 rfl rfl rfl ?_
  refine e_r_aload_n (pc' := 2681) (by decide) dL_law__2680 rfl rfl rfl ?_
  refine e_r_iload (pc' := 2683) dL_law__2681 rfl rfl ?_
  refine e_r_iconst (pc' := 2684) dL_law__2683 rfl (by decide) ?_
  refine e_r_iadd (pc' := 2685) dL_law__2684 rfl ?_
  rw [show e_w ((i : Int) + 1) = ((i + 1 : Nat) : Int) from (k_ix (k := 1) hL hi (by decide)).1]
  refine e_r_sld (pc' := 2686) (k_ix (k := 1) hL hi (by decide)).2.1 (k_ix (k := 1) hL hi (by decide)).2.2 hb dL_law__2685 rfl ?_
  rw [k_nat]
  refine e_r_callV (a := 1) (av := [.inl (k_xi X i 1)]) (st := []) mqYX10_status ml_RL_273 cl_10 rfl (Nat.le_of_ble_eq_true rfl) (by simp [e_cat]) rfl rfl rfl dL_law__2686 (pc' := 2689) rfl hx ⟨Nat.le_refl _, hg⟩ hmo ?_
  refine e_r_aload_n (pc' := 2690) (by decide) dL_law__2689 rfl rfl rfl ?_
  refine e_r_aload_n (pc' := 2691) (by decide) dL_law__2690 rfl rfl rfl ?_
  refine e_r_iload (pc' := 2693) dL_law__2691 rfl rfl ?_
  refine e_r_iconst (pc' := 2694) dL_law__2693 rfl (by decide) ?_
  refine e_r_iadd (pc' := 2695) dL_law__2694 rfl ?_
  rw [show e_w ((i : Int) + 1) = ((i + 1 : Nat) : Int) from (k_ix (k := 1) hL hi (by decide)).1]
  refine e_r_sld (pc' := 2696) (k_ix (k := 1) hL hi (by decide)).2.1 (k_ix (k := 1) hL hi (by decide)).2.2 hb dL_law__2695 rfl ?_
  rw [k_nat]
  refine e_r_callV (a := 64) (av := [.inl (k_xi X i 1)]) (st := [.inl v]) mqYX11_status ml_RL_276 cl_11 rfl (Nat.le_of_ble_eq_true rfl) (by simp [e_cat]) rfl rfl rfl dL_law__2696 (pc' := 2699) rfl hm ⟨Nat.le_refl _, Nat.le_refl _⟩ hmo ?_
  refine e_r_icmp_eq (tgt := 2729) (pc' := 2702) dL_law__2699 rfl rfl (fun _ => ?_) (fun q => absurd rfl q)
  exact e_forget (m := [true, true, true, true, true, false, false, false]) k9 rfl
theorem lc_44 {X : e_X} {d gn g1 i : Nat} {o : e_O} {M M1 M2 : e_M} {v : Int} (hL : X.2.2.2.2.2.1 ≤ 4608) (hb : X.2.2.2.2.1 < (e_H0 X).size) (hi : i + 9 ≤ X.2.2.2.2.2.1) (hg : gn ≤ g1) (hmo : e_mn (557, g1, e_RF, M2) o.2) (hx : e_E X d YX10_count [.inr (.inr 1), .inl (k_xi X i 1)] (557, gn, e_RF, M) (.inl (some (.inl v)), (557, g1, e_RF, M1))) (hm : e_E X d YX11_count [.inr (.inr 64), .inl (k_xi X i 1)] (557, g1, e_RF, M1) (.inl (some (.inl v)), (557, g1, e_RF, M2))) (k9 : e_G X (d + 1) YL_law_ 2729 [some (.inr (.inr 999999)), some (.inr (.inr 1)), some (.inr (.inr 64)), some (.inr (.inr 557)), some (.inl (i : Int)), none, none, none] [] (557, g1, e_RF, M2) o) : e_G X (d + 1) YL_law_ 2704 [some (.inr (.inr 999999)), some (.inr (.inr 1)), some (.inr (.inr 64)), some (.inr (.inr 557)), some (.inl (i : Int)), none, none, none] [] (557, gn, e_RF, M) o := by
  refine e_r_aload_n (pc' := 2705) (by decide) dL_law__2704 rfl rfl rfl ?_
  refine e_r_aload_n (pc' := 2706) (by decide) dL_law__2705 rfl rfl rfl ?_
  refine e_r_iload (pc' := 2708) dL_law__2706 rfl rfl ?_
  refine e_r_iconst (pc' := 2709) dL_law__2708 rfl (by decide) ?_
  refine e_r_iadd (pc' := 2710) dL_law__2709 rfl ?_
  rw [show e_w ((i : Int) + 1) = ((i + 1 : Nat) : Int) from (k_ix (k := 1) hL hi (by decide)).1]
  refine e_r_sld (pc' := 2711) (k_ix (k := 1) hL hi (by decide)).2.1 (k_ix (k := 1) hL hi (by decide)).2.2 hb dL_law__2710 rfl ?_
  rw [k_nat]
  refine e_r_callV (a := 1) (av := [.inl (k_xi X i 1)]) (st := []) mqYX10_count ml_RL_277 cl_10 rfl (Nat.le_of_ble_eq_true rfl) (by simp [e_cat]) rfl rfl rfl dL_law__2711 (pc' := 2714) rfl hx ⟨Nat.le_refl _, hg⟩ hmo ?_
  refine e_r_aload_n (pc' := 2715) (by decide) dL_law__2714 rfl rfl rfl ?_
  refine e_r_aload_n (pc' := 2716) (by decide) dL_law__2715 rfl rfl rfl ?_
  refine e_r_iload (pc' := 2718) dL_law__2716 rfl rfl ?_
  refine e_r_iconst (pc' := 2719) dL_law__2718 rfl (by decide) ?_
  refine e_r_iadd (pc' := 2720) dL_law__2719 rfl ?_
  rw [show e_w ((i : Int) + 1) = ((i + 1 : Nat) : Int) from (k_ix (k := 1) hL hi (by decide)).1]
  refine e_r_sld (pc' := 2721) (k_ix (k := 1) hL hi (by decide)).2.1 (k_ix (k := 1) hL hi (by decide)).2.2 hb dL_law__2720 rfl ?_
  rw [k_nat]
  refine e_r_callV (a := 64) (av := [.inl (k_xi X i 1)]) (st := [.inl v]) mqYX11_count ml_RL_280 cl_11 rfl (Nat.le_of_ble_eq_true rfl) (by simp [e_cat]) rfl rfl rfl dL_law__2721 (pc' := 2724) rfl hm ⟨Nat.le_refl _, Nat.le_refl _⟩ hmo ?_
  refine e_r_icmp_eq (tgt := 2729) (pc' := 2727) dL_law__2724 rfl rfl (fun _ => ?_) (fun q => absurd rfl q)
  exact e_forget (m := [true, true, true, true, true, false, false, false]) k9 rfl
