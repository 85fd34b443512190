/-! digits: bytes of a number, and the curve's point read from them -/
def w8 (i : Nat) : Int := 256 ^ i
theorem w8_add (a b : Nat) : w8 (a + b) = w8 a * w8 b := by unfold w8; rw [Int.pow_add]
theorem w8_1 (t : Nat) : w8 (t + 1) = w8 t * 256 := by unfold w8; rw [Int.pow_succ]
theorem w8_pos (t : Nat) : 0 < w8 t := Int.pow_pos (by decide)
theorem ws8_split (a : Nat → Int) (m : Nat) : ∀ n, ws w8 a (m + n) = ws w8 a m + w8 m * ws w8 (fun i => a (m + i)) n
  | 0 => by simp [ws]
  | n + 1 => by
    rw [show m + (n + 1) = m + n + 1 from by omega, ws, ws, ws8_split a m n, w8_add]
    grind
theorem ws8_lo (a : Nat → Int) : ∀ n, (∀ i, i < n → 0 ≤ a i ∧ a i ≤ 255) → 0 ≤ ws w8 a n ∧ ws w8 a n < w8 n
  | 0, _ => ⟨Int.le_refl _, (show (0 : Int) < 1 from by decide)⟩
  | n + 1, h => by
    obtain ⟨h1, h2⟩ := ws8_lo a n (fun i hi => h i (by omega))
    obtain ⟨h3, h4⟩ := h n (by omega)
    rw [ws, w8_1]
    have h5 : 0 ≤ a n * w8 n := Int.mul_nonneg h3 (by omega)
    have h6 : a n * w8 n ≤ 255 * w8 n := Int.mul_le_mul_of_nonneg_right h4 (by omega)
    constructor <;> omega
theorem div_lo {lo W X : Int} (h0 : 0 ≤ lo) (h1 : lo < W) : (lo + W * X) / W = X := by
  rw [Int.add_mul_ediv_left _ _ (by omega), Int.ediv_eq_zero_of_lt h0 h1]
  omega
theorem ws8_div (a : Nat → Int) (m n : Nat) (h : ∀ i, i < m → 0 ≤ a i ∧ a i ≤ 255) : ws w8 a (m + n) / w8 m = ws w8 (fun i => a (m + i)) n := by
  rw [ws8_split]
  obtain ⟨h1, h2⟩ := ws8_lo a m h
  exact div_lo h1 h2
theorem ws8_get (a : Nat → Int) (j n : Nat) (hj : j < n) (h : ∀ i, i < n → 0 ≤ a i ∧ a i ≤ 255) : ws w8 a n / w8 j % 256 = a j := by
  rw [show n = j + (n - j) from by omega, ws8_div a j (n - j) (fun i hi => h i (by omega)), show n - j = 1 + (n - j - 1) from by omega, ws8_split]
  have h1 := h j hj
  have e : ws w8 (fun i => a (j + i)) 1 = a j := by
    show 0 + a (j + 0) * w8 0 = a j
    rw [show w8 0 = 1 from rfl, Nat.add_zero]; omega
  rw [e, show w8 1 = 256 from rfl]
  generalize ws w8 _ _ = Z
  omega
theorem ws8_four (a : Nat → Int) (j : Nat) : ws w8 (fun i => a (j + i)) 4 = a j + a (j + 1) * 256 + a (j + 2) * 65536 + a (j + 3) * 16777216 := by
  show 0 + a (j + 0) * w8 0 + a (j + 1) * w8 1 + a (j + 2) * w8 2 + a (j + 3) * w8 3 = _
  rw [show w8 0 = 1 from rfl, show w8 1 = 256 from rfl, show w8 2 = 65536 from rfl, show w8 3 = 16777216 from rfl, Nat.add_zero]
  omega
theorem ws8_word (a : Nat → Int) (j n : Nat) (hj : j + 4 ≤ n) (h : ∀ i, i < n → 0 ≤ a i ∧ a i ≤ 255) : ws w8 a n / w8 j % 4294967296 = a j + a (j + 1) * 256 + a (j + 2) * 65536 + a (j + 3) * 16777216 := by
  rw [show n = j + (n - j) from by omega, ws8_div a j (n - j) (fun i hi => h i (by omega)), show n - j = 4 + (n - j - 4) from by omega, ws8_split, ws8_four, show w8 4 = 4294967296 from rfl]
  have h0 := h j (by omega)
  have h1 := h (j + 1) (by omega)
  have h2 := h (j + 2) (by omega)
  have h3 := h (j + 3) (by omega)
  generalize ws w8 _ _ = Z
  omega
theorem emod_two (N a b : Int) (ha : 0 < a) (hb : 0 < b) : N % (a * b) = N % a + a * (N / a % b) := by
  have h1 := Int.mul_ediv_add_emod N a
  have h2 := Int.mul_ediv_add_emod (N / a) b
  have h3 := Int.emod_nonneg N (show a ≠ 0 by omega)
  have h4 := Int.emod_lt_of_pos N ha
  have h5 := Int.emod_nonneg (N / a) (show b ≠ 0 by omega)
  have h6 := Int.emod_lt_of_pos (N / a) hb
  have e : N = (N % a + a * (N / a % b)) + a * b * (N / a / b) := by
    have : a * (b * (N / a / b) + N / a % b) = a * (N / a) := by rw [h2]
    grind
  have l1 : 0 ≤ a * (N / a % b) := Int.mul_nonneg (by omega) h5
  have l2 : a * (N / a % b) ≤ a * (b - 1) := Int.mul_le_mul_of_nonneg_left (by omega) (by omega)
  have l3 : a * (b - 1) = a * b - a := by rw [Int.mul_sub, Int.mul_one]
  conv => lhs; rw [e]
  rw [Int.add_mul_emod_self_left]
  exact Int.emod_eq_of_lt (by omega) (by omega)
/-- the bytes of a row from p on, as a number -/
def bv (s : Nat → Int32) (p n : Nat) : Int := ws w8 (fun j => (ub (s (p + j)) : Int)) n
theorem ub_in (s : Nat → Int32) (p : Nat) : ∀ i : Nat, 0 ≤ (ub (s (p + i)) : Int) ∧ (ub (s (p + i)) : Int) ≤ 255 := fun i => by
  have := ub_lt (s (p + i))
  omega
theorem bv_word (s : Nat → Int32) (p j n : Nat) (hj : j + 4 ≤ n) : bv s p n / w8 j % 4294967296 = ub (s (p + j)) + ub (s (p + (j + 1))) * 256 + ub (s (p + (j + 2))) * 65536 + ub (s (p + (j + 3))) * 16777216 := ws8_word _ j n hj (fun i _ => ub_in s p i)
theorem un_load (k p : Nat) (M : mm_M) : un (f_X1_loadLittle k p M) = ub (M.1 k p) + ub (M.1 k (p + 1)) * 256 + ub (M.1 k (p + 2)) * 65536 + ub (M.1 k (p + 3)) * 16777216 := un_word _ _ _ _
theorem e_decL (k : Nat) (σ : mm_M) : ∀ t, f_X4_decodePoint_L2 k σ t = pwl 16 (fun M t => (((mm_us (f_X1_loadLittle k ((mm_lim t) / 8) M) (nI ((mm_lim t) % 8))) &&& (((1 : Int32) <<< ((f_X4_limbBits t) &&& 31)) - (1 : Int32))) : Int32).toInt64) σ t
  | 0 => rfl
  | t + 1 => by rw [f_X4_decodePoint_L2, pwl, e_decL k σ t]
theorem e_dec1 (k at' sh b : Nat) (M : mm_M) (m : Int32) (D : Int) (hb : b ≤ 26) (hsb : sh + b ≤ 32) (hm : un m = 2 ^ b - 1) (hs : sh < 8) (ha : at' + 4 ≤ 32) (hD : w8 at' * 2 ^ sh = D) :
    ((mm_us (f_X1_loadLittle k at' M) (nI sh) &&& m) : Int32).toInt64.toInt = bv (M.1 k) 0 32 / D % 2 ^ b := by
  have h1 : un (mm_us (f_X1_loadLittle k at' M) (nI sh) &&& m) = un (f_X1_loadLittle k at' M) / 2 ^ sh % 2 ^ b := by
    rw [un_mask _ m b hm, un_us _ (nI sh) sh (by omega) rfl]
  have h2 : 2 ^ b ≤ 67108864 := Nat.pow_le_pow_right (n := 2) (by decide) hb
  have h3 : un (f_X1_loadLittle k at' M) / 2 ^ sh % 2 ^ b < 2 ^ b := Nat.mod_lt _ (Nat.pow_pos (by decide))
  rw [toI64, un_toInt (by rw [h1]; omega), h1]
  have h4 : ((un (f_X1_loadLittle k at' M) : Nat) : Int) = bv (M.1 k) 0 32 / w8 at' % 4294967296 := by
    rw [bv_word (M.1 k) 0 at' 32 ha, un_load]
    simp only [Nat.zero_add]
    omega
  have h5 : ((un (f_X1_loadLittle k at' M) / 2 ^ sh % 2 ^ b : Nat) : Int) = (un (f_X1_loadLittle k at' M) : Int) / 2 ^ sh % 2 ^ b := by
    rw [Int.natCast_emod, Int.natCast_ediv]
    simp
  rw [h5, h4, ← hD, ← Int.ediv_ediv_of_nonneg (by have := w8_pos at'; omega)]
  generalize bv (M.1 k) 0 32 / w8 at' = X
  have hp : (0 : Int) < 2 ^ sh := Int.pow_pos (by decide)
  have hq : (0 : Int) < 2 ^ b := Int.pow_pos (by decide)
  have hr : (0 : Int) < 2 ^ (32 - sh - b) := Int.pow_pos (by decide)
  have e1 : (4294967296 : Int) = 2 ^ sh * (2 ^ b * 2 ^ (32 - sh - b)) := by
    rw [← Int.pow_add, ← Int.pow_add, show sh + (b + (32 - sh - b)) = 32 from by omega]
    rfl
  rw [e1, emod_two X (2 ^ sh) _ hp (Int.mul_pos hq hr), div_lo (Int.emod_nonneg _ (by omega)) (Int.emod_lt_of_pos _ hp), emod_two _ (2 ^ b) _ hq hr, Int.add_mul_emod_self_left]
  exact Int.emod_eq_of_lt (Int.emod_nonneg _ (by omega)) (Int.emod_lt_of_pos _ hq)
def b10 (t : Nat) : Nat := 26 - t % 2
theorem w10_s (t : Nat) : w10 (t + 1) = w10 t * 2 ^ b10 t := by
  unfold w10 b10
  rw [← Int.pow_add]
  congr 1
  omega
theorem w10_pos (t : Nat) : 0 < w10 t := Int.pow_pos (by decide)
theorem ws10_dig (N : Int) : ∀ n, ws w10 (fun i => N / w10 i % 2 ^ b10 i) n = N % w10 n
  | 0 => by show 0 = N % 1; omega
  | n + 1 => by
    rw [ws, ws10_dig N n, w10_s, emod_two N (w10 n) _ (w10_pos n) (Int.pow_pos (by decide))]
    grind

theorem e_decV (k : Nat) (M : mm_M) (t : Nat) (ht : t < 10) : lg (f_X4_decodePoint k M) 16 t = bv (M.1 k) 0 32 / w10 t % 2 ^ b10 t := by
  have e0 : (f_X4_decodePoint k M).2 16 t = (((mm_us (f_X1_loadLittle k ((mm_lim t) / 8) M) (nI ((mm_lim t) % 8))) &&& (((1 : Int32) <<< ((f_X4_limbBits t) &&& 31)) - (1 : Int32))) : Int32).toInt64 := by
    unfold f_X4_decodePoint
    rw [e_decL]
    exact pwl_lo 16 _ M (fun N t e _ => by unfold f_X1_loadLittle; rw [e]) 10 t ht
  show ((f_X4_decodePoint k M).2 16 t).toInt = _
  rw [e0]
  have : t = 0 ∨ t = 1 ∨ t = 2 ∨ t = 3 ∨ t = 4 ∨ t = 5 ∨ t = 6 ∨ t = 7 ∨ t = 8 ∨ t = 9 := by omega
  rcases this with h | h | h | h | h | h | h | h | h | h <;> subst h
  · exact e_dec1 k 0 0 26 M _ (w10 0) (by decide) (by decide) (by decide) (by decide) (by decide) (by decide)
  · exact e_dec1 k 3 2 25 M _ (w10 1) (by decide) (by decide) (by decide) (by decide) (by decide) (by decide)
  · exact e_dec1 k 6 3 26 M _ (w10 2) (by decide) (by decide) (by decide) (by decide) (by decide) (by decide)
  · exact e_dec1 k 9 5 25 M _ (w10 3) (by decide) (by decide) (by decide) (by decide) (by decide) (by decide)
  · exact e_dec1 k 12 6 26 M _ (w10 4) (by decide) (by decide) (by decide) (by decide) (by decide) (by decide)
  · exact e_dec1 k 16 0 25 M _ (w10 5) (by decide) (by decide) (by decide) (by decide) (by decide) (by decide)
  · exact e_dec1 k 19 1 26 M _ (w10 6) (by decide) (by decide) (by decide) (by decide) (by decide) (by decide)
  · exact e_dec1 k 22 3 25 M _ (w10 7) (by decide) (by decide) (by decide) (by decide) (by decide) (by decide)
  · exact e_dec1 k 25 4 26 M _ (w10 8) (by decide) (by decide) (by decide) (by decide) (by decide) (by decide)
  · exact e_dec1 k 28 6 25 M _ (w10 9) (by decide) (by decide) (by decide) (by decide) (by decide) (by decide)

theorem e_dec (k : Nat) (M : mm_M) : e_is (f_X4_decodePoint k M) 16 67108863 (bv (M.1 k) 0 32 % w10 10) := by
  refine ⟨fun i hi => ?_, 0, ?_⟩
  · rw [e_decV k M i hi]
    have hq : (0 : Int) < 2 ^ b10 i := Int.pow_pos (by decide)
    have h1 := Int.emod_nonneg (bv (M.1 k) 0 32 / w10 i) (show (2 : Int) ^ b10 i ≠ 0 by omega)
    have h2 := Int.emod_lt_of_pos (bv (M.1 k) 0 32 / w10 i) hq
    have h3 : (2 : Int) ^ b10 i ≤ 67108864 := by
      unfold b10
      rcases Nat.mod_two_eq_zero_or_one i with m | m <;> rw [m] <;> decide
    omega
  · unfold v10
    rw [ws_congr (fun i hi => e_decV k M i hi), ws10_dig]
    omega
