/-! indexAmong, readWord -/
def e_sg (j i : Nat) : Int := if i < e_sln.getD j 0 then e_chI j i else 32
def f_ia (j : Nat) : Nat → Int → Int → Int → Int → Int → Nat → e_M → Option (Int × e_M)
  | 0, _, _, _, _, _, _, _ => none
  | n + 1, p2, p3, v4, v5, v6, i, M => if e_sln.getD j 0 < i then some (-1, M) else if e_sg j i = 32 then (if v6 = 0 then f_ia j n p2 p3 (e_w (v4 + 1)) p2 1 (i + 1) M else if v5 = p3 then some (v4, M) else f_ia j n p2 p3 (e_w (v4 + 1)) p2 1 (i + 1) M) else if v5 < p3 then (if (0 ≤ v5 ∧ v5 < 600) then (if M 3 v5.toNat = e_sg j i then f_ia j n p2 p3 v4 (e_w (v5 + 1)) v6 (i + 1) M else f_ia j n p2 p3 v4 v5 0 (i + 1) M) else none) else f_ia j n p2 p3 v4 v5 0 (i + 1) M
theorem s_ia {X : e_X} {d gn j : Nat} (hj : j < 5) : ∀ (n : Nat) (p2 p3 v4 v5 v6 : Int) (i : Nat) (M M' : e_M) (v : Int), f_ia j n p2 p3 v4 v5 v6 i M = some (v, M') → e_G X (d + 4) YX7_indexAmong 12 [some (.inr (.inr 2)), some (.inr (.inr (1000000 + j))), some (.inl p2), some (.inl p3), some (.inl v4), some (.inl v5), some (.inl v6), some (.inl (i : Int)), none] [] (557, gn, e_RF, M) (.inl (some (.inl v)), (557, gn, e_RF, M')) := by
  intro n
  have hb := e_slnb j hj
  induction n with
  | zero => intro p2 p3 v4 v5 v6 i M M' v h; cases h
  | succ n ih =>
    intro p2 p3 v4 v5 v6 i M M' v h
    rw [f_ia] at h
    have h103 : ∀ (w4 w5 w6 x : Int), i ≤ 100 → f_ia j n p2 p3 w4 w5 w6 (i + 1) M = some (v, M') → e_G X (d + 4) YX7_indexAmong 103 [some (.inr (.inr 2)), some (.inr (.inr (1000000 + j))), some (.inl p2), some (.inl p3), some (.inl w4), some (.inl w5), some (.inl w6), some (.inl (i : Int)), some (.inl x)] [] (557, gn, e_RF, M) (.inl (some (.inl v)), (557, gn, e_RF, M')) := by
      intro w4 w5 w6 x hi hh
      have e1 : e_w ((i : Int) + 1) = ((i + 1 : Nat) : Int) := by rw [e_ws_ (by omega) (by omega)]; omega
      refine e_r_iinc (pc' := 106) (loc' := [some (.inr (.inr 2)), some (.inr (.inr (1000000 + j))), some (.inl p2), some (.inl p3), some (.inl w4), some (.inl w5), some (.inl w6), some (.inl ((i + 1 : Nat) : Int)), some (.inl x)]) dX7_indexAmong_103 rfl rfl rfl rfl (by rw [e1]; rfl) ?_
      refine e_r_goto (pc' := 12) dX7_indexAmong_106 rfl ?_
      exact e_forget (m := [true, true, true, true, true, true, true, true, false]) (ih _ _ _ _ _ _ _ _ _ hh) rfl
    refine e_r_iload (pc' := 14) dX7_indexAmong_12 rfl rfl ?_
    refine e_r_aload_n (pc' := 15) (by omega) dX7_indexAmong_14 rfl rfl rfl ?_
    refine e_r_callVS (av := []) (st := [.inl (i : Int)]) mqYJ0_length_8abf5 rfl hj ml_RX7_64 (by simp) rfl rfl rfl dX7_indexAmong_15 (pc' := 18) rfl (c_slen (d := d + 2) hj) ⟨Nat.le_refl _, Nat.le_refl _⟩ ⟨Nat.le_refl _, Nat.le_refl _⟩ ?_
    refine e_r_icmp_gt (tgt := 109) (pc' := 21) dX7_indexAmong_18 rfl rfl (fun c => ?_) (fun c => ?_)
    · rw [if_pos (by omega)] at h
      refine e_r_iconst (pc' := 110) dX7_indexAmong_109 rfl (by decide) ?_
      exact e_r_iret (ty := .int) rfl (e_nI _) dX7_indexAmong_110 (by cases h; rfl)
    · rw [if_neg (by omega)] at h
      have h41 : e_G X (d + 4) YX7_indexAmong 41 [some (.inr (.inr 2)), some (.inr (.inr (1000000 + j))), some (.inl p2), some (.inl p3), some (.inl v4), some (.inl v5), some (.inl v6), some (.inl (i : Int)), none] [.inl (e_sg j i)] (557, gn, e_RF, M) (.inl (some (.inl v)), (557, gn, e_RF, M')) := by
        refine e_r_istore (pc' := 43) (loc' := [some (.inr (.inr 2)), some (.inr (.inr (1000000 + j))), some (.inl p2), some (.inl p3), some (.inl v4), some (.inl v5), some (.inl v6), some (.inl (i : Int)), some (.inl (e_sg j i))]) dX7_indexAmong_41 rfl rfl rfl rfl ?_
        refine e_r_iload (pc' := 45) dX7_indexAmong_43 rfl rfl ?_
        refine e_r_bipush (pc' := 47) dX7_indexAmong_45 rfl (by decide) ?_
        have h64 : f_ia j n p2 p3 (e_w (v4 + 1)) p2 1 (i + 1) M = some (v, M') → e_G X (d + 4) YX7_indexAmong 64 [some (.inr (.inr 2)), some (.inr (.inr (1000000 + j))), some (.inl p2), some (.inl p3), some (.inl v4), some (.inl v5), some (.inl v6), some (.inl (i : Int)), some (.inl (e_sg j i))] [] (557, gn, e_RF, M) (.inl (some (.inl v)), (557, gn, e_RF, M')) := by
          intro hh
          refine e_r_iinc (pc' := 67) (loc' := [some (.inr (.inr 2)), some (.inr (.inr (1000000 + j))), some (.inl p2), some (.inl p3), some (.inl (e_w (v4 + 1))), some (.inl v5), some (.inl v6), some (.inl (i : Int)), some (.inl (e_sg j i))]) dX7_indexAmong_64 rfl rfl rfl rfl rfl ?_
          refine e_r_iload_n (pc' := 68) dX7_indexAmong_67 rfl rfl rfl ?_
          refine e_r_istore (pc' := 70) (loc' := [some (.inr (.inr 2)), some (.inr (.inr (1000000 + j))), some (.inl p2), some (.inl p3), some (.inl (e_w (v4 + 1))), some (.inl p2), some (.inl v6), some (.inl (i : Int)), some (.inl (e_sg j i))]) dX7_indexAmong_68 rfl rfl rfl rfl ?_
          refine e_r_iconst (pc' := 71) dX7_indexAmong_70 rfl (by decide) ?_
          refine e_r_istore (pc' := 73) (loc' := [some (.inr (.inr 2)), some (.inr (.inr (1000000 + j))), some (.inl p2), some (.inl p3), some (.inl (e_w (v4 + 1))), some (.inl p2), some (.inl 1), some (.inl (i : Int)), some (.inl (e_sg j i))]) dX7_indexAmong_71 rfl rfl rfl rfl ?_
          refine e_r_goto (pc' := 103) dX7_indexAmong_73 rfl ?_
          exact h103 _ _ _ _ (by omega) hh
        have h100 : f_ia j n p2 p3 v4 v5 0 (i + 1) M = some (v, M') → e_G X (d + 4) YX7_indexAmong 100 [some (.inr (.inr 2)), some (.inr (.inr (1000000 + j))), some (.inl p2), some (.inl p3), some (.inl v4), some (.inl v5), some (.inl v6), some (.inl (i : Int)), some (.inl (e_sg j i))] [] (557, gn, e_RF, M) (.inl (some (.inl v)), (557, gn, e_RF, M')) := by
          intro hh
          refine e_r_iconst (pc' := 101) dX7_indexAmong_100 rfl (by decide) ?_
          refine e_r_istore (pc' := 103) (loc' := [some (.inr (.inr 2)), some (.inr (.inr (1000000 + j))), some (.inl p2), some (.inl p3), some (.inl v4), some (.inl v5), some (.inl 0), some (.inl (i : Int)), some (.inl (e_sg j i))]) dX7_indexAmong_101 rfl rfl rfl rfl ?_
          exact h103 _ _ _ _ (by omega) hh
        refine e_r_icmp_ne (tgt := 76) (pc' := 50) dX7_indexAmong_47 rfl rfl (fun c => ?_) (fun c => ?_)
        · rw [if_neg c] at h
          refine e_r_iload (pc' := 78) dX7_indexAmong_76 rfl rfl ?_
          refine e_r_iload_n (pc' := 79) dX7_indexAmong_78 rfl rfl rfl ?_
          refine e_r_icmp_ge (tgt := 100) (pc' := 82) dX7_indexAmong_79 rfl rfl (fun c => ?_) (fun c => ?_)
          · rw [if_neg (by omega)] at h
            exact h100 h
          · rw [if_pos (by omega)] at h
            obtain ⟨c1, h⟩ := f_gd h
            refine e_r_aload_n (pc' := 83) (by decide) dX7_indexAmong_82 rfl rfl rfl ?_
            refine e_r_getr (k := 0) (q := 3) (pc' := 86) cl_7 rfl (Nat.le_of_ble_eq_true rfl) rfl rfl fl_RX7_9 rfl (Nat.le_of_ble_eq_true rfl) dX7_indexAmong_83 rfl ?_
            refine e_r_iload (pc' := 88) dX7_indexAmong_86 rfl rfl ?_
            refine e_r_bald (j9 := v5.toNat) (pc' := 89) rfl (Nat.le_of_ble_eq_true rfl) c1.1 c1.2 rfl dX7_indexAmong_88 rfl ?_
            refine e_r_iload (pc' := 91) dX7_indexAmong_89 rfl rfl ?_
            refine e_r_icmp_ne (tgt := 100) (pc' := 94) dX7_indexAmong_91 rfl rfl (fun c => ?_) (fun c => ?_)
            · rw [if_neg c] at h
              exact h100 h
            · rw [if_pos c] at h
              refine e_r_iinc (pc' := 97) (loc' := [some (.inr (.inr 2)), some (.inr (.inr (1000000 + j))), some (.inl p2), some (.inl p3), some (.inl v4), some (.inl (e_w (v5 + 1))), some (.inl v6), some (.inl (i : Int)), some (.inl (e_sg j i))]) dX7_indexAmong_94 rfl rfl rfl rfl rfl ?_
              refine e_r_goto (pc' := 103) dX7_indexAmong_97 rfl ?_
              exact h103 _ _ _ _ (by omega) h
        · rw [if_pos c] at h
          refine e_r_iload (pc' := 52) dX7_indexAmong_50 rfl rfl ?_
          refine e_r_if_eq (tgt := 64) (pc' := 55) dX7_indexAmong_52 rfl rfl (fun c => ?_) (fun c => ?_)
          · rw [if_pos c] at h
            exact h64 h
          · rw [if_neg c] at h
            refine e_r_iload (pc' := 57) dX7_indexAmong_55 rfl rfl ?_
            refine e_r_iload_n (pc' := 58) dX7_indexAmong_57 rfl rfl rfl ?_
            refine e_r_icmp_ne (tgt := 64) (pc' := 61) dX7_indexAmong_58 rfl rfl (fun c => ?_) (fun c => ?_)
            · rw [if_neg c] at h
              exact h64 h
            · rw [if_pos c] at h
              refine e_r_iload (pc' := 63) dX7_indexAmong_61 rfl rfl ?_
              exact e_r_iret (ty := .int) rfl (e_nI _) dX7_indexAmong_63 (by cases h; rfl)
      refine e_r_iload (pc' := 23) dX7_indexAmong_21 rfl rfl ?_
      refine e_r_aload_n (pc' := 24) (by omega) dX7_indexAmong_23 rfl rfl rfl ?_
      refine e_r_callVS (av := []) (st := [.inl (i : Int)]) mqYJ0_length_8abf5 rfl hj ml_RX7_64 (by simp) rfl rfl rfl dX7_indexAmong_24 (pc' := 27) rfl (c_slen (d := d + 2) hj) ⟨Nat.le_refl _, Nat.le_refl _⟩ ⟨Nat.le_refl _, Nat.le_refl _⟩ ?_
      refine e_r_icmp_ge (tgt := 39) (pc' := 30) dX7_indexAmong_27 rfl rfl (fun c2 => ?_) (fun c2 => ?_)
      · refine e_r_bipush (pc' := 41) dX7_indexAmong_39 rfl (by decide) ?_
        rw [show e_sg j i = 32 by unfold e_sg; rw [if_neg (by omega)]] at h41
        exact h41
      · refine e_r_aload_n (pc' := 31) (by omega) dX7_indexAmong_30 rfl rfl rfl ?_
        refine e_r_iload (pc' := 33) dX7_indexAmong_31 rfl rfl ?_
        refine e_r_callVS (av := [.inl (i : Int)]) (st := []) mqYJ0_charAt_5068e rfl hj ml_RX7_69 (by simp [e_cat]) rfl rfl rfl dX7_indexAmong_33 (pc' := 36) rfl (c_sch (d := d) hj (show i < e_sln.getD j 0 by omega)) ⟨Nat.le_refl _, Nat.le_refl _⟩ ⟨Nat.le_refl _, Nat.le_refl _⟩ ?_
        refine e_r_goto (pc' := 41) dX7_indexAmong_36 rfl ?_
        rw [show e_sg j i = e_chI j i by unfold e_sg; rw [if_pos (by omega)]] at h41
        exact h41
theorem s_X7_indexAmong {X : e_X} {d gn j n : Nat} (hj : j < 5) {p2 p3 : Int} {M M' : e_M} {v : Int} (h : f_ia j n p2 p3 0 p2 1 0 M = some (v, M')) : e_E X (d + 4) YX7_indexAmong [.inr (.inr 2), .inr (.inr (1000000 + j)), .inl p2, .inl p3] (557, gn, e_RF, M) (.inl (some (.inl v)), (557, gn, e_RF, M')) := by
  show e_G X (d + 4) YX7_indexAmong 0 [some (.inr (.inr 2)), some (.inr (.inr (1000000 + j))), some (.inl p2), some (.inl p3), none, none, none, none, none] [] (557, gn, e_RF, M) _
  refine e_r_iconst (pc' := 1) dX7_indexAmong_0 rfl (by decide) ?_
  refine e_r_istore (pc' := 3) (loc' := [some (.inr (.inr 2)), some (.inr (.inr (1000000 + j))), some (.inl p2), some (.inl p3), some (.inl 0), none, none, none, none]) dX7_indexAmong_1 rfl rfl rfl rfl ?_
  refine e_r_iload_n (pc' := 4) dX7_indexAmong_3 rfl rfl rfl ?_
  refine e_r_istore (pc' := 6) (loc' := [some (.inr (.inr 2)), some (.inr (.inr (1000000 + j))), some (.inl p2), some (.inl p3), some (.inl 0), some (.inl p2), none, none, none]) dX7_indexAmong_4 rfl rfl rfl rfl ?_
  refine e_r_iconst (pc' := 7) dX7_indexAmong_6 rfl (by decide) ?_
  refine e_r_istore (pc' := 9) (loc' := [some (.inr (.inr 2)), some (.inr (.inr (1000000 + j))), some (.inl p2), some (.inl p3), some (.inl 0), some (.inl p2), some (.inl 1), none, none]) dX7_indexAmong_7 rfl rfl rfl rfl ?_
  refine e_r_iconst (pc' := 10) dX7_indexAmong_9 rfl (by decide) ?_
  refine e_r_istore (pc' := 12) (loc' := [some (.inr (.inr 2)), some (.inr (.inr (1000000 + j))), some (.inl p2), some (.inl p3), some (.inl 0), some (.inl p2), some (.inl 1), some (.inl ((0 : Nat) : Int)), none]) dX7_indexAmong_10 rfl rfl rfl rfl ?_
  exact s_ia hj n _ _ _ _ _ _ _ _ _ h
def f_rw63 (j n : Nat) (v2 : Int) (M : e_M) : Option (Int × e_M) := f_b (f_ia j n (M 2 3) v2 0 (M 2 3) 1 0 M) fun r N => if r = -1 then f_b (f_X7_noteFlaw 1 (N 2 3) N) fun _ N2 => some (r, N2) else some (r, e_up N 2 3 v2)
def f_rw27 (j : Nat) : Nat → Int → e_M → Option (Int × e_M)
  | 0, _, _ => none
  | n + 1, v2, M => if M 2 2 ≤ v2 then f_rw63 j n v2 M else if (0 ≤ v2 ∧ v2 < 600) then (if M 3 v2.toNat < 97 then f_rw63 j n v2 M else if 122 < M 3 v2.toNat then f_rw63 j n v2 M else f_rw27 j n (e_w (v2 + 1)) M) else none
def f_X7_readWord (j n : Nat) (M : e_M) : Option (Int × e_M) := if M 2 4 = 0 then f_b (f_X7_peekSign n M) fun _ N => f_rw27 j n (N 2 3) (e_up N 2 6 (N 2 3)) else some (-1, M)
section RW
variable {X : e_X} {d gn j : Nat}
theorem s_rw63 {n : Nat} {v2 v : Int} {M M' : e_M} (hj : j < 5) (h : f_rw63 j n v2 M = some (v, M')) : e_G X (d + 5) YX7_readWord 63 [some (.inr (.inr 2)), some (.inr (.inr (1000000 + j))), some (.inl v2), none] [] (557, gn, e_RF, M) (.inl (some (.inl v)), (557, gn, e_RF, M')) := by
  obtain ⟨r, N, h1, h2⟩ := f_bd h
  refine e_r_aload_n (pc' := 64) (by decide) dX7_readWord_63 rfl rfl rfl ?_
  refine e_r_aload_n (pc' := 65) (by omega) dX7_readWord_64 rfl rfl rfl ?_
  refine e_r_aload_n (pc' := 66) (by decide) dX7_readWord_65 rfl rfl rfl ?_
  refine e_r_geti (k := 3) (pc' := 69) cl_7 rfl (Nat.le_of_ble_eq_true rfl) rfl rfl fl_RX7_22 dX7_readWord_66 rfl ?_
  refine e_r_iload_n (pc' := 70) dX7_readWord_69 rfl rfl rfl ?_
  refine e_r_callV (a := 2) (av := [.inr (.inr (1000000 + j)), .inl (M 2 3), .inl v2]) (st := []) mqYX7_indexAmong ml_RX7_60 cl_7 rfl (Nat.le_of_ble_eq_true rfl) (by simp [e_cat]) rfl rfl rfl dX7_readWord_70 (pc' := 73) rfl (s_X7_indexAmong (d := d) hj h1) ⟨Nat.le_refl _, Nat.le_refl _⟩ ⟨Nat.le_refl _, Nat.le_refl _⟩ ?_
  refine e_r_istore_n (pc' := 74) (loc' := [some (.inr (.inr 2)), some (.inr (.inr (1000000 + j))), some (.inl v2), some (.inl r)]) dX7_readWord_73 rfl rfl rfl rfl rfl ?_
  refine e_r_iload_n (pc' := 75) dX7_readWord_74 rfl rfl rfl ?_
  refine e_r_iconst (pc' := 76) dX7_readWord_75 rfl (by decide) ?_
  refine e_r_icmp_ne (tgt := 91) (pc' := 79) dX7_readWord_76 rfl rfl (fun c => ?_) (fun c => ?_)
  · rw [if_neg c] at h2
    refine e_r_aload_n (pc' := 92) (by decide) dX7_readWord_91 rfl rfl rfl ?_
    refine e_r_iload_n (pc' := 93) dX7_readWord_92 rfl rfl rfl ?_
    refine e_r_puti (k := 3) (pc' := 96) cl_7 rfl (Nat.le_of_ble_eq_true rfl) rfl rfl fl_RX7_22 rfl (by decide +kernel) dX7_readWord_93 rfl ?_
    refine e_r_iload_n (pc' := 97) dX7_readWord_96 rfl rfl rfl ?_
    exact e_r_iret (ty := .int) rfl (e_nI _) dX7_readWord_97 (by cases h2; rfl)
  · rw [if_pos c] at h2
    obtain ⟨r2, N2, h3, h4⟩ := f_bd h2
    refine e_r_aload_n (pc' := 80) (by decide) dX7_readWord_79 rfl rfl rfl ?_
    refine e_r_iconst (pc' := 81) dX7_readWord_80 rfl (by decide) ?_
    refine e_r_aload_n (pc' := 82) (by decide) dX7_readWord_81 rfl rfl rfl ?_
    refine e_r_geti (k := 3) (pc' := 85) cl_7 rfl (Nat.le_of_ble_eq_true rfl) rfl rfl fl_RX7_22 dX7_readWord_82 rfl ?_
    refine e_r_callV (a := 2) (av := [.inl 1, .inl (N 2 3)]) (st := []) mqYX7_noteFlaw ml_RX7_42 cl_7 rfl (Nat.le_of_ble_eq_true rfl) (by simp [e_cat]) rfl rfl rfl dX7_readWord_85 (pc' := 88) rfl (s_X7_noteFlaw (d := d + 4) h3) ⟨Nat.le_refl _, Nat.le_refl _⟩ ⟨Nat.le_refl _, Nat.le_refl _⟩ ?_
    refine e_r_goto (pc' := 96) dX7_readWord_88 rfl ?_
    refine e_r_iload_n (pc' := 97) dX7_readWord_96 rfl rfl rfl ?_
    exact e_r_iret (ty := .int) rfl (e_nI _) dX7_readWord_97 (by cases h4; rfl)
theorem s_rw27 (hj : j < 5) : ∀ (n : Nat) (v2 : Int) (M M' : e_M) (v : Int), f_rw27 j n v2 M = some (v, M') → e_G X (d + 5) YX7_readWord 27 [some (.inr (.inr 2)), some (.inr (.inr (1000000 + j))), some (.inl v2), none] [] (557, gn, e_RF, M) (.inl (some (.inl v)), (557, gn, e_RF, M')) := by
  intro n
  induction n with
  | zero => intro v2 M M' v h; cases h
  | succ n ih =>
    intro v2 M M' v h
    rw [f_rw27] at h
    refine e_r_iload_n (pc' := 28) dX7_readWord_27 rfl rfl rfl ?_
    refine e_r_aload_n (pc' := 29) (by decide) dX7_readWord_28 rfl rfl rfl ?_
    refine e_r_geti (k := 2) (pc' := 32) cl_7 rfl (Nat.le_of_ble_eq_true rfl) rfl rfl fl_RX7_19 dX7_readWord_29 rfl ?_
    refine e_r_icmp_ge (tgt := 63) (pc' := 35) dX7_readWord_32 rfl rfl (fun c => ?_) (fun c => ?_)
    · rw [if_pos c] at h
      exact s_rw63 hj h
    · rw [if_neg c] at h
      obtain ⟨c1, h⟩ := f_gd h
      refine e_r_aload_n (pc' := 36) (by decide) dX7_readWord_35 rfl rfl rfl ?_
      refine e_r_getr (k := 0) (q := 3) (pc' := 39) cl_7 rfl (Nat.le_of_ble_eq_true rfl) rfl rfl fl_RX7_9 rfl (Nat.le_of_ble_eq_true rfl) dX7_readWord_36 rfl ?_
      refine e_r_iload_n (pc' := 40) dX7_readWord_39 rfl rfl rfl ?_
      refine e_r_bald (j9 := v2.toNat) (pc' := 41) rfl (Nat.le_of_ble_eq_true rfl) c1.1 c1.2 rfl dX7_readWord_40 rfl ?_
      refine e_r_bipush (pc' := 43) dX7_readWord_41 rfl (by decide) ?_
      refine e_r_icmp_lt (tgt := 63) (pc' := 46) dX7_readWord_43 rfl rfl (fun c => ?_) (fun c => ?_)
      · rw [if_pos c] at h
        exact s_rw63 hj h
      · rw [if_neg c] at h
        refine e_r_aload_n (pc' := 47) (by decide) dX7_readWord_46 rfl rfl rfl ?_
        refine e_r_getr (k := 0) (q := 3) (pc' := 50) cl_7 rfl (Nat.le_of_ble_eq_true rfl) rfl rfl fl_RX7_9 rfl (Nat.le_of_ble_eq_true rfl) dX7_readWord_47 rfl ?_
        refine e_r_iload_n (pc' := 51) dX7_readWord_50 rfl rfl rfl ?_
        refine e_r_bald (j9 := v2.toNat) (pc' := 52) rfl (Nat.le_of_ble_eq_true rfl) c1.1 c1.2 rfl dX7_readWord_51 rfl ?_
        refine e_r_bipush (pc' := 54) dX7_readWord_52 rfl (by decide) ?_
        refine e_r_icmp_gt (tgt := 63) (pc' := 57) dX7_readWord_54 rfl rfl (fun c => ?_) (fun c => ?_)
        · rw [if_pos c] at h
          exact s_rw63 hj h
        · rw [if_neg c] at h
          refine e_r_iinc (pc' := 60) (loc' := [some (.inr (.inr 2)), some (.inr (.inr (1000000 + j))), some (.inl (e_w (v2 + 1))), none]) dX7_readWord_57 rfl rfl rfl rfl rfl ?_
          refine e_r_goto (pc' := 27) dX7_readWord_60 rfl ?_
          exact ih _ _ _ _ h
theorem s_X7_readWord {n : Nat} {M M' : e_M} {v : Int} (hj : j < 5) (h : f_X7_readWord j n M = some (v, M')) : e_E X (d + 5) YX7_readWord [.inr (.inr 2), .inr (.inr (1000000 + j))] (557, gn, e_RF, M) (.inl (some (.inl v)), (557, gn, e_RF, M')) := by
  show e_G X (d + 5) YX7_readWord 0 [some (.inr (.inr 2)), some (.inr (.inr (1000000 + j))), none, none] [] (557, gn, e_RF, M) _
  unfold f_X7_readWord at h
  refine e_r_aload_n (pc' := 1) (by decide) dX7_readWord_0 rfl rfl rfl ?_
  refine e_r_geti (k := 4) (pc' := 4) cl_7 rfl (Nat.le_of_ble_eq_true rfl) rfl rfl fl_RX7_25 dX7_readWord_1 rfl ?_
  refine e_r_if_eq (tgt := 9) (pc' := 7) dX7_readWord_4 rfl rfl (fun c => ?_) (fun c => ?_)
  · rw [if_pos c] at h
    obtain ⟨r, N, h1, h2⟩ := f_bd h
    refine e_r_aload_n (pc' := 10) (by decide) dX7_readWord_9 rfl rfl rfl ?_
    refine e_r_callV (a := 2) (av := []) (st := []) mqYX7_peekSign ml_RX7_34 cl_7 rfl (Nat.le_of_ble_eq_true rfl) (by simp) rfl rfl rfl dX7_readWord_10 (pc' := 13) rfl (s_X7_peekSign (d := d + 4) h1) ⟨Nat.le_refl _, Nat.le_refl _⟩ ⟨Nat.le_refl _, Nat.le_refl _⟩ ?_
    refine e_r_pop (pc' := 14) rfl dX7_readWord_13 rfl ?_
    refine e_r_aload_n (pc' := 15) (by decide) dX7_readWord_14 rfl rfl rfl ?_
    refine e_r_aload_n (pc' := 16) (by decide) dX7_readWord_15 rfl rfl rfl ?_
    refine e_r_geti (k := 3) (pc' := 19) cl_7 rfl (Nat.le_of_ble_eq_true rfl) rfl rfl fl_RX7_22 dX7_readWord_16 rfl ?_
    refine e_r_puti (k := 6) (pc' := 22) cl_7 rfl (Nat.le_of_ble_eq_true rfl) rfl rfl fl_RX7_31 rfl (by decide +kernel) dX7_readWord_19 rfl ?_
    refine e_r_aload_n (pc' := 23) (by decide) dX7_readWord_22 rfl rfl rfl ?_
    refine e_r_geti (k := 3) (pc' := 26) cl_7 rfl (Nat.le_of_ble_eq_true rfl) rfl rfl fl_RX7_22 dX7_readWord_23 rfl ?_
    refine e_r_istore_n (pc' := 27) (loc' := [some (.inr (.inr 2)), some (.inr (.inr (1000000 + j))), some (.inl (N 2 3)), none]) dX7_readWord_26 rfl rfl rfl rfl rfl ?_
    exact s_rw27 hj n _ _ _ _ h2
  · rw [if_neg c] at h
    refine e_r_iconst (pc' := 8) dX7_readWord_7 rfl (by decide) ?_
    exact e_r_iret (ty := .int) rfl (e_nI _) dX7_readWord_8 (by cases h; rfl)
end RW
def f_X7_readWord_1 (n : Nat) (M : e_M) : Option (Int × e_M) := f_X7_readWord 1 n M
def f_X7_readWord_2 (n : Nat) (M : e_M) : Option (Int × e_M) := f_X7_readWord 2 n M
def f_X7_readWord_3 (n : Nat) (M : e_M) : Option (Int × e_M) := f_X7_readWord 3 n M
theorem s_X7_readWord_1 {X : e_X} {d gn n : Nat} {M M' : e_M} {v : Int} (h : f_X7_readWord_1 n M = some (v, M')) : e_E X (d + 5) YX7_readWord [.inr (.inr 2), .inr (.inr 1000001)] (557, gn, e_RF, M) (.inl (some (.inl v)), (557, gn, e_RF, M')) := s_X7_readWord (j := 1) (by decide) h
theorem s_X7_readWord_2 {X : e_X} {d gn n : Nat} {M M' : e_M} {v : Int} (h : f_X7_readWord_2 n M = some (v, M')) : e_E X (d + 5) YX7_readWord [.inr (.inr 2), .inr (.inr 1000002)] (557, gn, e_RF, M) (.inl (some (.inl v)), (557, gn, e_RF, M')) := s_X7_readWord (j := 2) (by decide) h
theorem s_X7_readWord_3 {X : e_X} {d gn n : Nat} {M M' : e_M} {v : Int} (h : f_X7_readWord_3 n M = some (v, M')) : e_E X (d + 5) YX7_readWord [.inr (.inr 2), .inr (.inr 1000003)] (557, gn, e_RF, M) (.inl (some (.inl v)), (557, gn, e_RF, M')) := s_X7_readWord (j := 3) (by decide) h
