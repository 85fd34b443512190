/-! the engine's bytes of a number -/
theorem un_l2i (x : Int64) (h0 : 0 ≤ x.toInt) (h1 : x.toInt < 4294967296) : (un x.toInt32 : Int) = x.toInt := by
  have e : x.toInt32.toBitVec = x.toBitVec.setWidth 32 := by
    rw [Int64.toBitVec_toInt32, BitVec.signExtend_eq_setWidth_of_le x.toBitVec (by decide)]
  have e2 : x.toInt % 2 ^ 32 = ((x.toBitVec.toNat % 2 ^ 32 : Nat) : Int) := l_emod x 32 (by decide)
  unfold un
  rw [e, BitVec.toNat_setWidth, ← e2]
  exact Int.emod_eq_of_lt h0 h1
theorem ub_st0 (v : Int32) : ub (mm_b v) = un v % 256 := ub_b v
theorem ub_st (v : Int32) (c : Int32) (k : Nat) (hk : k < 32) (hc : c = Int32.ofNat k) : ub (mm_b (mm_us v c)) = un v / 2 ^ k % 256 := by
  rw [ub_b]
  unfold ub
  rw [un_us v c k hk hc]
theorem isb_b (v : Int32) : (mm_b v).toInt8.toInt32 = mm_b v := mm_bb v
/-- storeLittle, byte by byte -/
theorem rd_store (v : Int32) (k p : Nat) (M : mm_M) (j : Nat) : (f_X1_storeLittle v k p M).1 k j = if j = p then mm_b v else if j = p + 1 then mm_b (mm_us v 8) else if j = p + 2 then mm_b (mm_us v 16) else if j = p + 3 then mm_b (mm_us v 24) else M.1 k j := by
  unfold f_X1_storeLittle
  dsimp only
  by_cases h0 : j = p
  · subst h0
    rw [if_pos rfl, rd_wN _ _ _ _ (Or.inr (by omega)), rd_wN _ _ _ _ (Or.inr (by omega)), rd_wN _ _ _ _ (Or.inr (by omega)), rd_wS]
  · rw [if_neg h0]
    by_cases h1 : j = p + 1
    · subst h1
      rw [if_pos rfl, rd_wN _ _ _ _ (Or.inr (by omega)), rd_wN _ _ _ _ (Or.inr (by omega)), rd_wS]
    · rw [if_neg h1]
      by_cases h2 : j = p + 2
      · subst h2
        rw [if_pos rfl, rd_wN _ _ _ _ (Or.inr (by omega)), rd_wS]
      · rw [if_neg h2]
        by_cases h3 : j = p + 3
        · subst h3
          rw [if_pos rfl, rd_wS]
        · rw [if_neg h3, rd_wN _ _ _ _ (Or.inr h3), rd_wN _ _ _ _ (Or.inr h2), rd_wN _ _ _ _ (Or.inr h1), rd_wN _ _ _ _ (Or.inr h0)]
theorem ub_four (v : Int32) : (un v % 256 + un v / 256 % 256 * 256 + un v / 65536 % 256 * 65536 + un v / 16777216 % 256 * 16777216) = un v := by
  have := un_lt v
  omega
/-- a word put in the midst of a row of bytes -/
theorem bv_store (v : Int32) (k p n : Nat) (M : mm_M) (hp : p + 4 ≤ n) : bv ((f_X1_storeLittle v k p M).1 k) 0 n = bv (M.1 k) 0 n + ((un v : Int) - (un (f_X1_loadLittle k p M) : Int)) * w8 p := by
  have hs := rd_store v k p M
  have e : ∀ s : Nat → Int32, bv s 0 n = ws w8 (fun j => (ub (s (0 + j)) : Int)) p + w8 p * (((ub (s p) : Int) + ub (s (p + 1)) * 256 + ub (s (p + 2)) * 65536 + ub (s (p + 3)) * 16777216) + w8 4 * ws w8 (fun j => (ub (s (p + (4 + j))) : Int)) (n - p - 4)) := fun s => by
    unfold bv
    rw [show n = p + (4 + (n - p - 4)) from by omega, ws8_split, ws8_split, show p + (4 + (n - p - 4)) - p - 4 = n - p - 4 from by omega]
    rw [ws8_four (fun i => (ub (s (0 + i)) : Int)) p]
    simp only [Nat.zero_add]
  rw [e, e]
  rw [ws_congr (a := fun j => (ub ((f_X1_storeLittle v k p M).1 k (0 + j)) : Int)) (b := fun j => (ub (M.1 k (0 + j)) : Int)) (fun i hi => by
      rw [hs (0 + i), if_neg (by omega), if_neg (by omega), if_neg (by omega), if_neg (by omega)]),
    ws_congr (a := fun j => (ub ((f_X1_storeLittle v k p M).1 k (p + (4 + j))) : Int)) (b := fun j => (ub (M.1 k (p + (4 + j))) : Int)) (fun i hi => by
      rw [hs (p + (4 + i)), if_neg (by omega), if_neg (by omega), if_neg (by omega), if_neg (by omega)])]
  have u0 : ub ((f_X1_storeLittle v k p M).1 k p) = un v % 256 := by rw [hs p, if_pos rfl, ub_st0]
  have u1 : ub ((f_X1_storeLittle v k p M).1 k (p + 1)) = un v / 256 % 256 := by rw [hs (p + 1), if_neg (by omega), if_pos rfl, ub_st v 8 8 (by decide) (by decide)]
  have u2 : ub ((f_X1_storeLittle v k p M).1 k (p + 2)) = un v / 65536 % 256 := by rw [hs (p + 2), if_neg (by omega), if_neg (by omega), if_pos rfl, ub_st v 16 16 (by decide) (by decide)]
  have u3 : ub ((f_X1_storeLittle v k p M).1 k (p + 3)) = un v / 16777216 % 256 := by rw [hs (p + 3), if_neg (by omega), if_neg (by omega), if_neg (by omega), if_pos rfl, ub_st v 24 24 (by decide) (by decide)]
  rw [u0, u1, u2, u3, un_load]
  have h4 := ub_four v
  have h5 : ((un v % 256 : Nat) : Int) + (un v / 256 % 256 : Nat) * 256 + (un v / 65536 % 256 : Nat) * 65536 + (un v / 16777216 % 256 : Nat) * 16777216 = un v := by omega
  rw [h5]
  have h6 : ((ub (M.1 k p) + ub (M.1 k (p + 1)) * 256 + ub (M.1 k (p + 2)) * 65536 + ub (M.1 k (p + 3)) * 16777216 : Nat) : Int) = (ub (M.1 k p) : Int) + (ub (M.1 k (p + 1)) : Int) * 256 + (ub (M.1 k (p + 2)) : Int) * 65536 + (ub (M.1 k (p + 3)) : Int) * 16777216 := by omega
  rw [h6]
  generalize ws w8 _ _ = A
  generalize w8 p = B
  generalize (ub (M.1 k p) : Int) = b0
  generalize (ub (M.1 k (p + 1)) : Int) = b1
  generalize (ub (M.1 k (p + 2)) : Int) = b2
  generalize (ub (M.1 k (p + 3)) : Int) = b3
  generalize (un v : Int) = U
  grind
theorem isb_store (v : Int32) (k p : Nat) (M : mm_M) (j : Nat) (h : (M.1 k j).toInt8.toInt32 = M.1 k j) : ((f_X1_storeLittle v k p M).1 k j).toInt8.toInt32 = (f_X1_storeLittle v k p M).1 k j := by
  rw [rd_store]
  by_cases h0 : j = p
  · rw [if_pos h0]; exact mm_bb _
  · rw [if_neg h0]
    by_cases h1 : j = p + 1
    · rw [if_pos h1]; exact mm_bb _
    · rw [if_neg h1]
      by_cases h2 : j = p + 2
      · rw [if_pos h2]; exact mm_bb _
      · rw [if_neg h2]
        by_cases h3 : j = p + 3
        · rw [if_pos h3]; exact mm_bb _
        · rw [if_neg h3]; exact h
theorem e_zero (σ : mm_M) : ∀ t, (f_X4_encode_L6 σ t).2 = σ.2 ∧ ∀ j, j < t → (f_X4_encode_L6 σ t).1 15 j = 0
  | 0 => ⟨rfl, fun j hj => absurd hj (by omega)⟩
  | t + 1 => by
    obtain ⟨h1, h2⟩ := e_zero σ t
    rw [f_X4_encode_L6]
    refine ⟨h1, fun j hj => ?_⟩
    by_cases e : j = t
    · rw [e, rd_wS]
    · rw [rd_wN _ _ _ _ (Or.inr e)]; exact h2 j (by omega)
/-- a limb put to its place -/
theorem e_put1 (k at' sh b : Nat) (N : mm_M) (h : Int) (D : Int) (hat : at' + 4 ≤ 32) (hsb : sh + b ≤ 32) (hs : sh < 8) (hD : w8 at' * 2 ^ sh = D) (hv : (N.2 k 0).toInt = (N.2 k 0).toInt) (x : Int64) (hx : x.toInt = h) (h0 : 0 ≤ h) (h1 : h < 2 ^ b) (h2 : bv (N.1 15) 0 32 < D) (h3 : 0 ≤ bv (N.1 15) 0 32) :
    bv ((f_X1_storeLittle ((f_X1_loadLittle 15 at' N) ||| ((x.toInt32) <<< ((nI sh) &&& 31))) 15 at' N).1 15) 0 32 = bv (N.1 15) 0 32 + h * D := by
  rw [bv_store _ 15 at' 32 N hat]
  have hb : (2 : Int) ^ b ≤ 4294967296 := by
    have : (2 : Int) ^ b ≤ 2 ^ 32 := by
      have h9 := Nat.pow_le_pow_right (n := 2) (by decide) (show b ≤ 32 by omega)
      have h8 : ((2 ^ b : Nat) : Int) ≤ ((2 ^ 32 : Nat) : Int) := Int.ofNat_le.mpr h9
      simpa using h8
    exact this
  have ux : (un x.toInt32 : Int) = h := by rw [un_l2i x (by omega) (by omega)]; exact hx
  have hp8 := w8_pos at'
  have hps : (0 : Int) < 2 ^ sh := Int.pow_pos (by decide)
  have hw : ((un (f_X1_loadLittle 15 at' N) : Nat) : Int) = bv (N.1 15) 0 32 / w8 at' % 4294967296 := by
    rw [bv_word (N.1 15) 0 at' 32 hat, un_load]
    simp only [Nat.zero_add]
    omega
  have hl : un (f_X1_loadLittle 15 at' N) < 2 ^ sh := by
    have q1 : bv (N.1 15) 0 32 / w8 at' < 2 ^ sh := by
      apply Int.ediv_lt_of_lt_mul hp8
      rw [Int.mul_comm, hD]
      exact h2
    have q2 : 0 ≤ bv (N.1 15) 0 32 / w8 at' := Int.ediv_nonneg h3 (by omega)
    have q3 : (2 : Int) ^ sh ≤ 128 := by
      have h9 := Nat.pow_le_pow_right (n := 2) (by decide) (show sh ≤ 7 by omega)
      have h8 : ((2 ^ sh : Nat) : Int) ≤ ((2 ^ 7 : Nat) : Int) := Int.ofNat_le.mpr h9
      simpa using h8
    have q4 : bv (N.1 15) 0 32 / w8 at' % 4294967296 = bv (N.1 15) 0 32 / w8 at' := Int.emod_eq_of_lt q2 (by omega)
    rw [q4] at hw
    have q5 : ((un (f_X1_loadLittle 15 at' N) : Nat) : Int) < ((2 ^ sh : Nat) : Int) := by rw [hw]; simpa using q1
    exact Int.ofNat_lt.mp q5
  have hfit : un x.toInt32 * 2 ^ sh < 4294967296 := by
    have u1 : ((un x.toInt32 : Nat) : Int) < ((2 ^ b : Nat) : Int) := by rw [ux]; simpa using h1
    have u2 : un x.toInt32 < 2 ^ b := Int.ofNat_lt.mp u1
    have u3 : un x.toInt32 * 2 ^ sh < 2 ^ b * 2 ^ sh := Nat.mul_lt_mul_of_pos_right u2 (Nat.pow_pos (by decide))
    have u4 : 2 ^ b * 2 ^ sh ≤ 4294967296 := by
      rw [← Nat.pow_add]
      exact Nat.pow_le_pow_right (n := 2) (by decide) (show b + sh ≤ 32 by omega)
    omega
  have hc : ∀ sh : Fin 8, ((nI sh.1) &&& 31) = Int32.ofNat sh.1 := by decide
  have hu : un ((f_X1_loadLittle 15 at' N) ||| ((x.toInt32) <<< ((nI sh) &&& 31))) = un (f_X1_loadLittle 15 at' N) + un x.toInt32 * 2 ^ sh := by
    rw [un_or, un_shl _ _ sh (by omega) (hc ⟨sh, hs⟩), Nat.mod_eq_of_lt hfit, add_or _ _ sh hl]
  rw [hu]
  have e9 : ((un (f_X1_loadLittle 15 at' N) + un x.toInt32 * 2 ^ sh : Nat) : Int) = un (f_X1_loadLittle 15 at' N) + h * 2 ^ sh := by
    rw [← ux]
    simp
  rw [e9, ← hD]
  generalize (un (f_X1_loadLittle 15 at' N) : Int) = A
  generalize w8 at' = B
  generalize (2 : Int) ^ sh = C
  grind

theorem ws10_lo (a : Nat → Int) : ∀ n, (∀ i, i < n → 0 ≤ a i ∧ a i < 2 ^ b10 i) → 0 ≤ ws w10 a n ∧ ws w10 a n < w10 n
  | 0, _ => ⟨Int.le_refl _, (show (0 : Int) < 1 from by decide)⟩
  | n + 1, h => by
    obtain ⟨u1, u2⟩ := ws10_lo a n (fun i hi => h i (by omega))
    obtain ⟨u3, u4⟩ := h n (by omega)
    rw [ws, w10_s]
    have hW := w10_pos n
    generalize w10 n = W at *
    generalize (2 : Int) ^ b10 n = D at *
    generalize a n = A at *
    have u5 : 0 ≤ A * W := Int.mul_nonneg u3 (by omega)
    have u6 : (A + 1) * W ≤ D * W := Int.mul_le_mul_of_nonneg_right (by omega) (by omega)
    have u7 : (A + 1) * W = A * W + W := by rw [Int.add_mul, Int.one_mul]
    have u8 : W * D = D * W := Int.mul_comm _ _
    omega

theorem e_encL (k : Nat) (σ : mm_M) (hd : ∀ i, i < 10 → 0 ≤ lg σ k i ∧ lg σ k i < 2 ^ b10 i) (hz : ∀ j, j < 32 → σ.1 15 j = 0) : ∀ t, t ≤ 10 → (f_X4_encode_L27 k σ t).2 = σ.2 ∧ (∀ j, j < 32 → ((f_X4_encode_L27 k σ t).1 15 j).toInt8.toInt32 = (f_X4_encode_L27 k σ t).1 15 j) ∧ bv ((f_X4_encode_L27 k σ t).1 15) 0 32 = ws w10 (lg σ k) t
  | 0, _ => ⟨rfl, fun j hj => by rw [f_X4_encode_L27, hz j hj]; decide, by
      show ws w8 (fun j => (ub (σ.1 15 (0 + j)) : Int)) 32 = 0
      exact ws_zero (fun i hi => by rw [hz (0 + i) (by omega)]; decide)⟩
  | t + 1, ht => by
    obtain ⟨h1, h2, h3⟩ := e_encL k σ hd hz t (by omega)
    have hlo : 0 ≤ ws w10 (lg σ k) t ∧ ws w10 (lg σ k) t < w10 t := ws10_lo (lg σ k) t (fun i hi => hd i (by omega))
    rw [f_X4_encode_L27]
    generalize f_X4_encode_L27 k σ t = N at *
    refine ⟨h1, fun j hj => isb_store _ _ _ _ _ (h2 j hj), ?_⟩
    rw [ws, ← h3]
    obtain ⟨d0, d1⟩ := hd t (by omega)
    rw [← h3] at hlo
    have hx : (N.2 k t).toInt = lg σ k t := by rw [h1]; rfl
    have : t = 0 ∨ t = 1 ∨ t = 2 ∨ t = 3 ∨ t = 4 ∨ t = 5 ∨ t = 6 ∨ t = 7 ∨ t = 8 ∨ t = 9 := by omega
    rcases this with h | h | h | h | h | h | h | h | h | h <;> subst h
    · exact e_put1 k 0 0 26 N _ (w10 0) (by decide) (by decide) (by decide) (by decide) rfl _ hx d0 d1 hlo.2 hlo.1
    · exact e_put1 k 3 2 25 N _ (w10 1) (by decide) (by decide) (by decide) (by decide) rfl _ hx d0 d1 hlo.2 hlo.1
    · exact e_put1 k 6 3 26 N _ (w10 2) (by decide) (by decide) (by decide) (by decide) rfl _ hx d0 d1 hlo.2 hlo.1
    · exact e_put1 k 9 5 25 N _ (w10 3) (by decide) (by decide) (by decide) (by decide) rfl _ hx d0 d1 hlo.2 hlo.1
    · exact e_put1 k 12 6 26 N _ (w10 4) (by decide) (by decide) (by decide) (by decide) rfl _ hx d0 d1 hlo.2 hlo.1
    · exact e_put1 k 16 0 25 N _ (w10 5) (by decide) (by decide) (by decide) (by decide) rfl _ hx d0 d1 hlo.2 hlo.1
    · exact e_put1 k 19 1 26 N _ (w10 6) (by decide) (by decide) (by decide) (by decide) rfl _ hx d0 d1 hlo.2 hlo.1
    · exact e_put1 k 22 3 25 N _ (w10 7) (by decide) (by decide) (by decide) (by decide) rfl _ hx d0 d1 hlo.2 hlo.1
    · exact e_put1 k 25 4 26 N _ (w10 8) (by decide) (by decide) (by decide) (by decide) rfl _ hx d0 d1 hlo.2 hlo.1
    · exact e_put1 k 28 6 25 N _ (w10 9) (by decide) (by decide) (by decide) (by decide) rfl _ hx d0 d1 hlo.2 hlo.1

/-- the engine's bytes -/
theorem e_encode (k : Nat) (M : mm_M) (hb : ∀ i, i < 10 → (lg M k i).natAbs ≤ 33554432) (ho : ∀ i, i < 5 → (lg M k (2 * i + 1)).natAbs ≤ 17039360) : (∀ j, j < 32 → ((f_X4_encode k M).1 15 j).toInt8.toInt32 = (f_X4_encode k M).1 15 j) ∧ bv ((f_X4_encode k M).1 15) 0 32 = v10 M k % pP := by
  obtain ⟨h1, h2⟩ := e_reduce k M hb ho
  unfold f_X4_encode
  dsimp only
  generalize f_X4_reduce k M = M1 at *
  obtain ⟨z1, z2⟩ := e_zero M1 32
  generalize f_X4_encode_L6 M1 32 = M2 at *
  have el : lg M2 k = lg M1 k := by unfold lg; rw [z1]
  obtain ⟨-, g2, g3⟩ := e_encL k M2 (by rw [el]; exact h1) z2 10 (by decide)
  refine ⟨g2, ?_⟩
  rw [g3, el]
  exact h2
