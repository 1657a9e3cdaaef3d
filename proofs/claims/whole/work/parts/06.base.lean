/-! THE ENGINE, 1: numbers. Values of the engine are whole numbers of Lean; e_w wraps to 32 bits, e_wl to 64 -/
def e_w (x : Int) : Int := (x + 2147483648) % 4294967296 - 2147483648
def e_wl (x : Int) : Int := (x + 9223372036854775808) % 18446744073709551616 - 9223372036854775808
def e_i32 (x : Int) : Prop := -2147483648 ≤ x ∧ x < 2147483648
def e_i64 (x : Int) : Prop := -9223372036854775808 ≤ x ∧ x < 9223372036854775808
theorem e_w_r (x : Int) : e_i32 (e_w x) := by unfold e_i32 e_w; omega
theorem e_wl_r (x : Int) : e_i64 (e_wl x) := by unfold e_i64 e_wl; omega
theorem e_w_id {x : Int} (h : e_i32 x) : e_w x = x := by unfold e_i32 at h; unfold e_w; omega
theorem e_wl_id {x : Int} (h : e_i64 x) : e_wl x = x := by unfold e_i64 at h; unfold e_wl; omega
theorem e_bm32 (x : Int) : x.bmod 4294967296 = e_w x := by rw [Int.bmod_def]; unfold e_w; split <;> omega
theorem e_bm64 (x : Int) : x.bmod 18446744073709551616 = e_wl x := by rw [Int.bmod_def]; unfold e_wl; split <;> omega
theorem e_tI (x : Int) : (Int32.ofInt x).toInt = e_w x := by rw [Int32.toInt_ofInt]; exact e_bm32 x
theorem e_tL (x : Int) : (Int64.ofInt x).toInt = e_wl x := by rw [Int64.toInt_ofInt]; exact e_bm64 x
theorem e_tIr {x : Int} (h : e_i32 x) : (Int32.ofInt x).toInt = x := by rw [e_tI, e_w_id h]
theorem e_tLr {x : Int} (h : e_i64 x) : (Int64.ofInt x).toInt = x := by rw [e_tL, e_wl_id h]
theorem e_r32 (x : Int32) : e_i32 x.toInt := by
  have h1 := Int32.le_toInt x
  have h2 := Int32.toInt_lt x
  constructor <;> omega
theorem e_r64 (x : Int64) : e_i64 x.toInt := by
  have h1 := Int64.le_toInt x
  have h2 := Int64.toInt_lt x
  constructor <;> omega
theorem e_ofI (x : Int32) : Int32.ofInt x.toInt = x := Int32.ofInt_toInt x
theorem e_ofL (x : Int64) : Int64.ofInt x.toInt = x := Int64.ofInt_toInt x
theorem e_eqI {x : Int} {y : Int32} (h : e_w x = y.toInt) : Int32.ofInt x = y := Int32.toInt_inj.mp (by rw [e_tI]; exact h)
theorem e_eqL {x : Int} {y : Int64} (h : e_wl x = y.toInt) : Int64.ofInt x = y := Int64.toInt_inj.mp (by rw [e_tL]; exact h)
theorem e_w_w (x : Int) : e_w (e_w x) = e_w x := e_w_id (e_w_r x)
theorem e_wl_wl (x : Int) : e_wl (e_wl x) = e_wl x := e_wl_id (e_wl_r x)
theorem e_ofw (x : Int) : Int32.ofInt (e_w x) = Int32.ofInt x := e_eqI (by rw [e_w_w, e_tI])
theorem e_ofwl (x : Int) : Int64.ofInt (e_wl x) = Int64.ofInt x := e_eqL (by rw [e_wl_wl, e_tL])
theorem e_iadd (a b : Int) : Int32.ofInt (e_w (a + b)) = Int32.ofInt a + Int32.ofInt b := by rw [e_ofw, Int32.ofInt_add]
theorem e_isub (a b : Int) : Int32.ofInt (e_w (a - b)) = Int32.ofInt a - Int32.ofInt b := by rw [e_ofw, Int32.ofInt_sub]
theorem e_imul (a b : Int) : Int32.ofInt (e_w (a * b)) = Int32.ofInt a * Int32.ofInt b := by rw [e_ofw, Int32.ofInt_mul]
theorem e_ineg (a : Int) : Int32.ofInt (e_w (-a)) = -Int32.ofInt a := by rw [e_ofw, Int32.ofInt_neg]
theorem e_ladd (a b : Int) : Int64.ofInt (e_wl (a + b)) = Int64.ofInt a + Int64.ofInt b := by rw [e_ofwl, Int64.ofInt_add]
theorem e_lsub (a b : Int) : Int64.ofInt (e_wl (a - b)) = Int64.ofInt a - Int64.ofInt b := by rw [e_ofwl, Int64.ofInt_sub]
theorem e_lmul (a b : Int) : Int64.ofInt (e_wl (a * b)) = Int64.ofInt a * Int64.ofInt b := by rw [e_ofwl, Int64.ofInt_mul]
theorem e_idiv {a b : Int} (ha : e_i32 a) (hb : e_i32 b) : Int32.ofInt (e_w (a.tdiv b)) = Int32.ofInt a / Int32.ofInt b := by
  rw [e_ofw]
  apply e_eqI
  rw [Int32.toInt_div, e_tIr ha, e_tIr hb, e_bm32]
theorem e_ldiv {a b : Int} (ha : e_i64 a) (hb : e_i64 b) : Int64.ofInt (e_wl (a.tdiv b)) = Int64.ofInt a / Int64.ofInt b := by
  rw [e_ofwl]
  apply e_eqL
  rw [Int64.toInt_div, e_tLr ha, e_tLr hb, e_bm64]
theorem e_irem {a b : Int} (ha : e_i32 a) (hb : e_i32 b) : Int32.ofInt (e_w (a.tmod b)) = Int32.ofInt a - Int32.ofInt a / Int32.ofInt b * Int32.ofInt b := by
  rw [← e_idiv ha hb, e_ofw, e_ofw, ← Int32.ofInt_mul, ← Int32.ofInt_sub]
  congr 1
  have h := Int.mul_tdiv_add_tmod a b
  rw [Int.mul_comm] at h
  omega
theorem e_lrem {a b : Int} (ha : e_i64 a) (hb : e_i64 b) : Int64.ofInt (e_wl (a.tmod b)) = Int64.ofInt a - Int64.ofInt a / Int64.ofInt b * Int64.ofInt b := by
  rw [← e_ldiv ha hb, e_ofwl, e_ofwl, ← Int64.ofInt_mul, ← Int64.ofInt_sub]
  congr 1
  have h := Int.mul_tdiv_add_tmod a b
  rw [Int.mul_comm] at h
  omega
/-- bits: by the words of 32 and 64 bits -/
def e_and (a b : Int) : Int := (Int32.ofInt a &&& Int32.ofInt b).toInt
def e_or (a b : Int) : Int := (Int32.ofInt a ||| Int32.ofInt b).toInt
def e_xor (a b : Int) : Int := (Int32.ofInt a ^^^ Int32.ofInt b).toInt
def e_shl (a b : Int) : Int := (Int32.ofInt a <<< (Int32.ofInt b &&& 31)).toInt
def e_shr (a b : Int) : Int := (Int32.ofInt a >>> (Int32.ofInt b &&& 31)).toInt
def e_ushr (a b : Int) : Int := ((Int32.ofInt a).toUInt32 >>> ((Int32.ofInt b).toUInt32 &&& Int32.toUInt32 31)).toInt32.toInt
def e_lshl (a b : Int) : Int := (Int64.ofInt a <<< ((Int32.ofInt b).toInt64 &&& 63)).toInt
def e_i2b (a : Int) : Int := (Int32.ofInt a).toInt8.toInt32.toInt
def e_cmp (a b : Int) : Int := if b < a then 1 else if a = b then 0 else -1
theorem e_lt {a b : Int} (ha : e_i32 a) (hb : e_i32 b) : Int32.ofInt a < Int32.ofInt b ↔ a < b := by rw [Int32.lt_iff_toInt_lt, e_tIr ha, e_tIr hb]
theorem e_le {a b : Int} (ha : e_i32 a) (hb : e_i32 b) : Int32.ofInt a ≤ Int32.ofInt b ↔ a ≤ b := by rw [Int32.le_iff_toInt_le, e_tIr ha, e_tIr hb]
theorem e_eq {a b : Int} (ha : e_i32 a) (hb : e_i32 b) : Int32.ofInt a = Int32.ofInt b ↔ a = b := by rw [← Int32.toInt_inj, e_tIr ha, e_tIr hb]
theorem e_0 : (0 : Int32) = Int32.ofInt 0 := by decide
theorem e_0L : (0 : Int64) = Int64.ofInt 0 := by decide
theorem e_00 : e_i32 0 := by unfold e_i32; omega
theorem e_lcmp {a b : Int} (ha : e_i64 a) (hb : e_i64 b) : Int32.ofInt (e_cmp a b) = lg_cmp (Int64.ofInt a) (Int64.ofInt b) := by
  unfold e_cmp lg_cmp
  simp only [gt_iff_lt, Int64.lt_iff_toInt_lt, ← Int64.toInt_inj, e_tLr ha, e_tLr hb]
  repeat' split
  all_goals first | rfl | omega
theorem e_cmp_r (a b : Int) : e_i32 (e_cmp a b) := by unfold e_cmp e_i32; repeat' split <;> omega
theorem e_i2l {a : Int} (ha : e_i32 a) : (Int32.ofInt a).toInt64 = Int64.ofInt a := Int64.toInt_inj.mp (by
  rw [Int32.toInt_toInt64, e_tIr ha, e_tLr]
  unfold e_i32 at ha; unfold e_i64; omega)
theorem e_l2i (a : Int) : (Int64.ofInt a).toInt32 = Int32.ofInt (e_w a) := by rw [e_ofw, Int64.toInt32_ofInt]
theorem e_clamp {i : Int} (hi : e_i32 i) : (Int32.ofInt i).toNatClampNeg = i.toNat := by
  show (Int32.ofInt i).toInt.toNat = i.toNat
  rw [e_tIr hi]
theorem e_in {i : Int} {n : Nat} (hi : e_i32 i) (h0 : 0 ≤ i) (hn : i < (n : Int)) : vp_in (Int32.ofInt i) n := by
  rw [vp_in_iff, e_tIr hi]
  exact ⟨h0, hn⟩
