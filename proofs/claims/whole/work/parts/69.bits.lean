/-! bits of ints, as natural numbers -/
def un (z : Int32) : Nat := z.toBitVec.toNat
theorem un_lt (z : Int32) : un z < 4294967296 := z.toBitVec.isLt
theorem un_inj {x y : Int32} (h : un x = un y) : x = y := Int32.toBitVec_inj.mp (BitVec.eq_of_toNat_eq h)
theorem un_and (x y : Int32) : un (x &&& y) = un x &&& un y := by unfold un; rw [Int32.toBitVec_and, BitVec.toNat_and]
theorem un_or (x y : Int32) : un (x ||| y) = un x ||| un y := by unfold un; rw [Int32.toBitVec_or, BitVec.toNat_or]
theorem un_xor (x y : Int32) : un (x ^^^ y) = un x ^^^ un y := by unfold un; rw [Int32.toBitVec_xor, BitVec.toNat_xor]
theorem un_mask (x m : Int32) (k : Nat) (hm : un m = 2 ^ k - 1) : un (x &&& m) = un x % 2 ^ k := by
  rw [un_and, hm, Nat.and_two_pow_sub_one_eq_mod]
theorem un_255 (x : Int32) : un (x &&& 255) = un x % 256 := un_mask x 255 8 rfl
theorem un_shl (x c : Int32) (k : Nat) (hk : k < 32) (hc : c = Int32.ofNat k) : un (x <<< c) = un x * 2 ^ k % 4294967296 := by
  subst hc
  have h1 : (x <<< Int32.ofNat k).toBitVec = x.toBitVec <<< ((Int32.ofNat k).toBitVec.smod 32) := rfl
  have h2 : ∀ k : Fin 32, ((Int32.ofNat k.1).toBitVec.smod 32).toNat = k.1 := by decide
  unfold un
  rw [h1, show x.toBitVec <<< ((Int32.ofNat k).toBitVec.smod 32) = x.toBitVec <<< ((Int32.ofNat k).toBitVec.smod 32).toNat from rfl, h2 ⟨k, hk⟩, BitVec.toNat_shiftLeft, Nat.shiftLeft_eq]
theorem un_us (x y : Int32) (k : Nat) (hk : k < 32) (hy : y = Int32.ofNat k) : un (mm_us x y) = un x / 2 ^ k := by
  subst hy
  unfold mm_us
  have h2 : ∀ k : Fin 32, ((Int32.ofNat k.1).toUInt32 &&& Int32.toUInt32 31) = UInt32.ofNat k.1 := by decide
  rw [h2 ⟨k, hk⟩]
  show (x.toUInt32 >>> UInt32.ofNat k).toBitVec.toNat = _
  have h3 : ∀ k : Fin 32, ((UInt32.ofNat k.1).toBitVec % 32).toNat = k.1 := by decide
  rw [show (x.toUInt32 >>> UInt32.ofNat k).toBitVec = x.toUInt32.toBitVec >>> ((UInt32.ofNat k).toBitVec % 32) from rfl, show x.toUInt32.toBitVec >>> ((UInt32.ofNat k).toBitVec % 32) = x.toUInt32.toBitVec >>> ((UInt32.ofNat k).toBitVec % 32).toNat from rfl, h3 ⟨k, hk⟩, BitVec.toNat_ushiftRight, Nat.shiftRight_eq_div_pow]
  rfl
/-- bits that do not meet are added -/
theorem or_add (a b k : Nat) (h : b < 2 ^ k) : a * 2 ^ k ||| b = a * 2 ^ k + b := by
  rw [Nat.mul_comm a, Nat.two_pow_add_eq_or_of_lt h]
theorem add_or (a b k : Nat) (h : b < 2 ^ k) : b ||| a * 2 ^ k = b + a * 2 ^ k := by
  rw [Nat.or_comm, or_add a b k h, Nat.add_comm]
/-- an unsigned byte -/
def ub (z : Int32) : Nat := un z % 256
theorem ub_lt (z : Int32) : ub z < 256 := Nat.mod_lt _ (by decide)
theorem un_word (a b c d : Int32) : un ((((a &&& (255 : Int32)) ||| ((b &&& (255 : Int32)) <<< ((8 : Int32) &&& 31))) ||| ((c &&& (255 : Int32)) <<< ((16 : Int32) &&& 31))) ||| ((d &&& (255 : Int32)) <<< ((24 : Int32) &&& 31))) = ub a + ub b * 256 + ub c * 65536 + ub d * 16777216 := by
  have ha := ub_lt a
  have hb := ub_lt b
  have hc := ub_lt c
  have hd := ub_lt d
  rw [un_or, un_or, un_or, un_255, un_shl _ _ 8 (by decide) (by decide), un_shl _ _ 16 (by decide) (by decide), un_shl _ _ 24 (by decide) (by decide), un_255, un_255, un_255]
  show ((ub a ||| ub b * 2 ^ 8 % 4294967296) ||| ub c * 2 ^ 16 % 4294967296) ||| ub d * 2 ^ 24 % 4294967296 = _
  rw [Nat.mod_eq_of_lt (by omega), Nat.mod_eq_of_lt (by omega), Nat.mod_eq_of_lt (by omega), add_or _ _ 8 (by omega), add_or _ _ 16 (by omega), add_or _ _ 24 (by omega)]
theorem un_wordB (a b c d : Int32) : un (((((a &&& (255 : Int32)) <<< ((24 : Int32) &&& 31)) ||| ((b &&& (255 : Int32)) <<< ((16 : Int32) &&& 31))) ||| ((c &&& (255 : Int32)) <<< ((8 : Int32) &&& 31))) ||| (d &&& (255 : Int32))) = ub d + ub c * 256 + ub b * 65536 + ub a * 16777216 := by
  have ha := ub_lt a
  have hb := ub_lt b
  have hc := ub_lt c
  have hd := ub_lt d
  rw [un_or, un_or, un_or, un_shl _ _ 24 (by decide) (by decide), un_shl _ _ 16 (by decide) (by decide), un_shl _ _ 8 (by decide) (by decide), un_255, un_255, un_255, un_255]
  show ((ub a * 2 ^ 24 % 4294967296 ||| ub b * 2 ^ 16 % 4294967296) ||| ub c * 2 ^ 8 % 4294967296) ||| ub d = _
  rw [Nat.mod_eq_of_lt (by omega), Nat.mod_eq_of_lt (by omega), Nat.mod_eq_of_lt (by omega), or_add _ _ 24 (by omega), show ub a * 2 ^ 24 + ub b * 2 ^ 16 = (ub a * 2 ^ 8 + ub b) * 2 ^ 16 from by omega, or_add _ _ 16 (by omega), show (ub a * 2 ^ 8 + ub b) * 2 ^ 16 + ub c * 2 ^ 8 = (ub a * 2 ^ 16 + ub b * 2 ^ 8 + ub c) * 2 ^ 8 from by omega, or_add _ _ 8 (by omega)]
  omega
theorem un_toInt {z : Int32} (h : un z < 2147483648) : z.toInt = un z := by
  show z.toBitVec.toInt = _
  rw [BitVec.toInt_eq_toNat_of_lt]
  · rfl
  · show 2 * un z < 2 ^ 32
    omega
theorem toI64 (z : Int32) : z.toInt64.toInt = z.toInt := Int32.toInt_toInt64 z
/-- the byte that is kept -/
theorem mm_b_un (z : Int32) : un (mm_b z) % 256 = un z % 256 := by
  unfold mm_b un
  rw [Int8.toBitVec_toInt32, Int32.toBitVec_toInt8, BitVec.signExtend_eq_setWidth_of_le z.toBitVec (by decide)]
  have h : (BitVec.setWidth 8 (BitVec.signExtend 32 (BitVec.setWidth 8 z.toBitVec))) = BitVec.setWidth 8 z.toBitVec := by
    ext i hi
    simp [BitVec.getLsbD_signExtend, hi]
    omega
  have h2 := congrArg BitVec.toNat h
  rw [BitVec.toNat_setWidth, BitVec.toNat_setWidth] at h2
  exact h2
theorem mm_b_eq {x y : Int32} (h : un x % 256 = un y % 256) : mm_b x = mm_b y := by
  have h8 : x.toInt8 = y.toInt8 := by
    apply Int8.toBitVec_inj.mp
    apply BitVec.eq_of_toNat_eq
    rw [Int32.toBitVec_toInt8, Int32.toBitVec_toInt8, BitVec.signExtend_eq_setWidth_of_le x.toBitVec (by decide), BitVec.signExtend_eq_setWidth_of_le y.toBitVec (by decide), BitVec.toNat_setWidth, BitVec.toNat_setWidth]
    exact h
  unfold mm_b
  rw [h8]
/-- bytes alike where their unsigned values are -/
theorem by_eq {x y : Int32} (hx : x.toInt8.toInt32 = x) (hy : y.toInt8.toInt32 = y) (h : ub x = ub y) : x = y := by
  rw [← hx, ← hy]
  exact mm_b_eq h
theorem ub_b (z : Int32) : ub (mm_b z) = ub z := mm_b_un z
