/-! THE ENGINE, 7: throw new E("text") -/
theorem e_nw_tab {w : Cond} (h : w ∈ e_nw) : w.onTables = true := by
  have h1 := (List.mem_filter.mp h).2
  cases w <;> first | rfl | (simp at h1)
section ET
variable {X : e_X} {d : Nat} {Y : e_Y} {pc : Nat} {loc : List (Option e_V)} {o : e_O} {cn gn : Nat} {R : e_R} {M : e_M}
set_option maxHeartbeats 2000000 in
theorem e_r_throw {z ik is ic j ix : Nat} {rx : ByteArray} {text : String} {names : List String} (hsj : e_str[j]? = some (Y.2.2.2.2.1, is, text)) (htb : Y.2.2.2.2.2 = []) (hfit : Bundle.fit (e_xn z) = true) (hnames : ∀ n ∈ names, Bundle.fit n = true) (hnl : names.length ≤ 4) (x0 : decode rx 0 = .ok (.aload_n 0, 1)) (x1 : decode rx 1 = .ok (.aload_n 1, 1)) (x2 : decode rx 2 = .ok (.invokespecial ix, 3)) (x5 : decode rx 5 = .ok (.return_, 1))
    (hk : Cond.classLink Y.2.2.2.2.1 ik (e_xn z) ∈ e_gw) (hini : Cond.initialized (e_xn z) ∈ e_gw) (hat : ∀ w ∈ vx_atSX Y.2.2.2.2.1 ic (e_xn z) ix rx names, w ∈ e_gw ∨ w ∈ e_nw)
    (d0 : decode Y.2.1 pc = .ok (.new ik, 3)) (d3 : decode Y.2.1 (pc + 3) = .ok (.dup, 1)) (d4 : decode Y.2.1 (pc + 4) = .ok (.ldc_w is, 3)) (d7 : decode Y.2.1 (pc + 7) = .ok (.invokespecial ic, 3)) (d10 : decode Y.2.1 (pc + 10) = .ok (.athrow, 1))
    (ho : o = (.inr z, (cn, gn + 1, R, M))) : e_G X (d + 8) Y pc loc [] (cn, gn, R, M) o := by
  subst ho
  intro p e Rm s m args below meth c ls H locs cells slots ad ad0 k0 c0 s0 C P Z L hs hA hk0 hc hn hR1 hR2
  intro T hT Xs
  have hts := C.2.2.2.2.2.1
  have hF := C.2.2.2.2.2.2.2.1
  have hS0 := C.2.2.2.2.2.2.2.2.2.2.2.2.2
  have f1 := C.2.2.2.2.2.2.2.2.2.2.1
  have f2 := C.2.2.2.2.2.2.2.2.2.2.2.1
  have hsz : s.heap.size ≤ H.size := by rw [← hT]; exact (vx_frame Xs.same).1
  have hS : va_S (e_A X) s.heap H locs := by
    refine ⟨hsz, fun q hq hA9 => ?_, Z.2.2⟩
    have hq0 : q < (e_H0 X).size := Nat.not_le.mp hA9
    rw [Z.2.1 q hq0 hA9, hS0.2.1 q hq0 hA9]
  have hkp : ∀ a : Nat, a < (e_H0 X).size → ¬ e_A X a → s.heap[a]? = (e_H0 X)[a]? := fun a h1 h2 => hS0.2.1 a h1 h2
  have hR3 : cn + (gn + 1) ≤ Rm.cells + c0 := hR1.1
  have hR4 : e_slc cn + 6 * (gn + 1) ≤ Rm.slots + s0 := hR2.1
  have hc9 : cells + c0 = cn + gn := hc
  have hn9 : slots + s0 = e_slc cn + 6 * gn := hn
  have e1 : e_cn ((cn, gn + 1, R, M) : e_S) - c0 = cells + 1 := by show cn + (gn + 1) - c0 = cells + 1; omega
  have e2 : e_sn ((cn, gn + 1, R, M) : e_S) - s0 = slots + 6 := by show e_slc cn + 6 * (gn + 1) - s0 = slots + 6; omega
  rw [e1, e2]
  refine vx_throwSWX (names := names) (sa := X.2.2.2.2.2.2.2 j) (A := e_A X) (cls := e_xn z) (rest := []) x0 x1 x2 x5 C.1 C.2.1 C.2.2.2.2.2.2.2.2.2.2.2.2.1 C.2.2.2.2.1 hfit hnames (hts _ hk) (hts _ hini) (hF.2.2.2.2.2.1 j _ hsj) (fun w hw => (hat w hw).elim (hts w) (fun h => va_Nw.use (e_nw_tab h) (hF.2.1 w h))) (fun w hw => ?_) (hF.2.2.2.2.2.2.1.kept hkp) (hF.2.2.2.2.2.2.2.1.kept hkp) hS (L.2.1.trans C.2.2.2.1.symm) d0 d3 d4 d7 d10 (fun x hx => ?_) (by omega) (by simp; omega) (by omega) (by omega) C.2.2.2.2.2.2.1 (fun t hvm hge hsm => ?_) Z.2.2 (by omega) (by omega) T hT Xs
  · have hg : goodWord w = true ∨ w.onTables = true := by
      rcases List.mem_cons.mp hw with e | h
      · rw [e]; exact Or.inl (e_gw_good _ hk)
      · rcases List.mem_cons.mp h with e | h
        · rw [e]; exact Or.inl (e_gw_good _ hini)
        · exact (hat w h).imp (e_gw_good _) e_nw_tab
    unfold vx_ot
    rcases hg with hg | hg
    · rw [hg, Bool.or_true]
    · rw [hg, Bool.true_or]
  · rw [C.2.2.2.2.2.2.2.2.1, htb] at hx
    cases hx
  · refine ⟨z, ad, rfl, rfl, hA, ⟨fun k q hq => ?_, P.2.1, P.2.2⟩, ⟨Nat.le_trans Z.1 hge, fun q h1 h2 => ?_, fun _ h => by cases h⟩⟩
    · exact (P.1 k q hq).kept (hsm q.1 (P.1 k q hq).lt)
    · rw [hsm q (Nat.lt_of_lt_of_le h1 Z.1)]
      exact Z.2.1 q h1 h2
end ET
