/-! the engine's last reduction -/
theorem lb_c (t : Nat) : ((f_X4_limbBits t)).toInt64 &&& 63 = Int64.ofNat (b10 t) := by
  unfold f_X4_limbBits b10
  rcases Nat.mod_two_eq_zero_or_one t with m | m <;> rw [m] <;> decide
theorem b10_le (t : Nat) : b10 t ≤ 26 ∧ 25 ≤ b10 t := by unfold b10; omega
theorem e_r18 (k : Nat) (M : mm_M) (x : Int64) (hb : ∀ i, i < 10 → (lg M k i).natAbs ≤ 33554432) (hx : x.toInt.natAbs ≤ 1024) : ∀ t, t ≤ 10 → (f_X4_reduce_L18 k M x t).toInt.natAbs ≤ 1024 ∧ ∃ r, 0 ≤ r ∧ r < w10 t ∧ ws w10 (lg M k) t + x.toInt = (f_X4_reduce_L18 k M x t).toInt * w10 t + r
  | 0, _ => ⟨hx, 0, by decide, by decide, by show 0 + x.toInt = x.toInt * 1 + 0; omega⟩
  | t + 1, ht => by
    obtain ⟨h1, r, h2, h3, h4⟩ := e_r18 k M x hb hx t (by omega)
    rw [f_X4_reduce_L18]
    generalize f_X4_reduce_L18 k M x t = y at *
    have i1 := (ib.of (M.2 k t) (hb t (by omega))).add (ib.of y h1) (by decide)
    have i2 := i1.shr _ (b10 t) (by have := b10_le t; omega) (lb_c t)
    have hD : (33554432 : Int) ≤ 2 ^ b10 t := by
      unfold b10
      rcases Nat.mod_two_eq_zero_or_one t with m | m <;> rw [m] <;> decide
    have hl := hb t (by omega)
    rw [i2.1]
    have hW := w10_pos t
    rw [w10_s]
    have hg : lg M k t = (M.2 k t).toInt := rfl
    rw [ws, hg]
    rw [hg] at hl
    generalize ws w10 (lg M k) t = S at *
    generalize (M.2 k t).toInt = A at *
    generalize y.toInt = Y at *
    generalize w10 t = W at *
    generalize (2 : Int) ^ b10 t = D at *
    have d1 := Int.mul_ediv_add_emod (A + Y) D
    have d2 := Int.emod_nonneg (A + Y) (show D ≠ 0 by omega)
    have d3 := Int.emod_lt_of_pos (A + Y) (show 0 < D by omega)
    generalize (A + Y) / D = Q at *
    generalize (A + Y) % D = R at *
    have d4 : -2 ≤ Q := by
      apply Int.not_lt.mp
      intro q
      have : D * Q ≤ D * (-3) := Int.mul_le_mul_of_nonneg_left (by omega) (by omega)
      omega
    have d5 : Q ≤ 2 := by
      apply Int.not_lt.mp
      intro q
      have : D * 3 ≤ D * Q := Int.mul_le_mul_of_nonneg_left (by omega) (by omega)
      omega
    refine ⟨by omega, r + R * W, ?_, ?_, ?_⟩
    · have := Int.mul_nonneg d2 (show (0 : Int) ≤ W by omega)
      omega
    · have h5 : (R + 1) * W ≤ D * W := Int.mul_le_mul_of_nonneg_right (by omega) (by omega)
      have h6 : (R + 1) * W = R * W + W := by rw [Int.add_mul, Int.one_mul]
      have h7 : W * D = D * W := Int.mul_comm _ _
      omega
    · have h5 : (D * Q + R) * W = (A + Y) * W := by rw [d1]
      grind
theorem e_r49 (k : Nat) (M : mm_M) (x : Int64) (hb : ∀ i, i < 10 → (lg M k i).natAbs ≤ 33554432) (hx : x.toInt.natAbs ≤ 1024) : ∀ t, t ≤ 10 → (f_X4_reduce_L49 k (M, x) t).2.toInt.natAbs ≤ 1024 ∧ (∀ i, t ≤ i → (f_X4_reduce_L49 k (M, x) t).1.2 k i = M.2 k i) ∧ (∀ i, i < t → 0 ≤ lg (f_X4_reduce_L49 k (M, x) t).1 k i ∧ lg (f_X4_reduce_L49 k (M, x) t).1 k i < 2 ^ b10 i) ∧
    ws w10 (lg (f_X4_reduce_L49 k (M, x) t).1 k) t + (f_X4_reduce_L49 k (M, x) t).2.toInt * w10 t = ws w10 (lg M k) t + x.toInt
  | 0, _ => ⟨hx, fun _ _ => rfl, fun i hi => absurd hi (by omega), by show 0 + x.toInt * 1 = 0 + x.toInt; omega⟩
  | t + 1, ht => by
    obtain ⟨h1, h2, h3, h4⟩ := e_r49 k M x hb hx t (by omega)
    rw [f_X4_reduce_L49]
    generalize f_X4_reduce_L49 k (M, x) t = R at *
    obtain ⟨R, y⟩ := R
    dsimp only at h1 h2 h3 h4 ⊢
    rw [h2 t (Nat.le_refl _)]
    have i1 := (ib.of (M.2 k t) (hb t (by omega))).add (ib.of y h1) (by decide)
    have hl := hb t (by omega)
    have hg : lg M k t = (M.2 k t).toInt := rfl
    rw [hg] at hl
    have hD : (33554432 : Int) ≤ 2 ^ b10 t ∧ (2 : Int) ^ b10 t ≤ 67108864 := by
      unfold b10
      rcases Nat.mod_two_eq_zero_or_one t with m | m <;> rw [m] <;> decide
    have i2 := i1.shr _ (b10 t) (by have := b10_le t; omega) (lb_c t)
    have d1 := Int.mul_ediv_add_emod ((M.2 k t).toInt + y.toInt) (2 ^ b10 t)
    have d2 := Int.emod_nonneg ((M.2 k t).toInt + y.toInt) (show (2 : Int) ^ b10 t ≠ 0 by omega)
    have d3 := Int.emod_lt_of_pos ((M.2 k t).toInt + y.toInt) (show (0 : Int) < 2 ^ b10 t by omega)
    have d4 : -2 ≤ ((M.2 k t).toInt + y.toInt) / 2 ^ b10 t := by
      apply Int.not_lt.mp
      intro q
      have : (2 : Int) ^ b10 t * (((M.2 k t).toInt + y.toInt) / 2 ^ b10 t) ≤ 2 ^ b10 t * (-3) := Int.mul_le_mul_of_nonneg_left (by omega) (by omega)
      omega
    have d5 : ((M.2 k t).toInt + y.toInt) / 2 ^ b10 t ≤ 2 := by
      apply Int.not_lt.mp
      intro q
      have : (2 : Int) ^ b10 t * 3 ≤ 2 ^ b10 t * (((M.2 k t).toInt + y.toInt) / 2 ^ b10 t) := Int.mul_le_mul_of_nonneg_left (by omega) (by omega)
      omega
    have i2 : ib _ _ 2 := ⟨i2.1, by omega⟩
    have hp : (2 : Nat) * 2 ^ b10 t ≤ 134217728 := by
      unfold b10
      rcases Nat.mod_two_eq_zero_or_one t with m | m <;> rw [m] <;> decide
    have i3 := i1.sub ((i2.shl _ (b10 t) (by have := b10_le t; omega) (lb_c t) (by omega)).le hp) (by decide)
    generalize M.2 k t + y - (M.2 k t + y) >>> ((f_X4_limbBits t).toInt64 &&& 63) <<< ((f_X4_limbBits t).toInt64 &&& 63) = Z at *
    generalize (M.2 k t + y) >>> ((f_X4_limbBits t).toInt64 &&& 63) = C at *
    have z1 : Z.toInt = ((M.2 k t).toInt + y.toInt) % 2 ^ b10 t := by
      rw [i3.1]
      have : ((M.2 k t).toInt + y.toInt) / 2 ^ b10 t * 2 ^ b10 t = 2 ^ b10 t * (((M.2 k t).toInt + y.toInt) / 2 ^ b10 t) := Int.mul_comm _ _
      omega
    have rt : lg (mm_wl R k t Z) k t = Z.toInt := by unfold lg; rw [rd_wlS]
    have ro : ∀ i, i ≠ t → lg (mm_wl R k t Z) k i = lg R k i := fun i hi => by unfold lg; rw [rd_wlN _ _ _ _ (Or.inr hi)]
    refine ⟨?_, fun i hi => ?_, fun i hi => ?_, ?_⟩
    · rw [i2.1]; omega
    · rw [rd_wlN _ _ _ _ (Or.inr (by omega))]; exact h2 i (by omega)
    · by_cases e : i = t
      · subst e
        rw [rt, z1]
        exact ⟨d2, d3⟩
      · rw [ro i e]; exact h3 i (by omega)
    · rw [ws, ws, ws_congr (a := lg (mm_wl R k t Z) k) (b := lg R k) (fun i hi => ro i (by omega)), rt, z1, i2.1, hg, w10_s]
      generalize ws w10 (lg M k) t = S at *
      generalize ws w10 (lg R k) t = S2 at *
      generalize ((M.2 k t).toInt + y.toInt) % 2 ^ b10 t = Rm at *
      generalize ((M.2 k t).toInt + y.toInt) / 2 ^ b10 t = Q at *
      generalize (2 : Int) ^ b10 t = D at *
      generalize w10 t = W at *
      have : (D * Q + Rm) * W = ((M.2 k t).toInt + y.toInt) * W := by rw [d1]
      grind
theorem e_lowA (a0 a1 a2 a3 a4 a5 a6 a7 a8 : Int) (h0 : -33554432 ≤ a0) (g0 : a0 ≤ 33554432) (h1 : -33554432 ≤ a1) (g1 : a1 ≤ 33554432) (h2 : -33554432 ≤ a2) (g2 : a2 ≤ 33554432) (h3 : -33554432 ≤ a3) (g3 : a3 ≤ 33554432) (h4 : -33554432 ≤ a4) (g4 : a4 ≤ 33554432) (h5 : -33554432 ≤ a5) (g5 : a5 ≤ 33554432) (h6 : -33554432 ≤ a6) (g6 : a6 ≤ 33554432) (h7 : -33554432 ≤ a7) (g7 : a7 ≤ 33554432) (h8 : -33554432 ≤ a8) (g8 : a8 ≤ 33554432) : -1725436586697640946858688965569256363112777243042596638790631055949824 < a0 * 1 + a1 * 67108864 + a2 * 2251799813685248 + a3 * 151115727451828646838272 + a4 * 5070602400912917605986812821504 + a5 * 340282366920938463463374607431768211456 + a6 * 11417981541647679048466287755595961091061972992 + a7 * 766247770432944429179173513575154591809369561091801088 + a8 * 25711008708143844408671393477458601640355247900524685364822016 ∧ a0 * 1 + a1 * 67108864 + a2 * 2251799813685248 + a3 * 151115727451828646838272 + a4 * 5070602400912917605986812821504 + a5 * 340282366920938463463374607431768211456 + a6 * 11417981541647679048466287755595961091061972992 + a7 * 766247770432944429179173513575154591809369561091801088 + a8 * 25711008708143844408671393477458601640355247900524685364822016 < 1725436586697640946858688965569256363112777243042596638790631055949824 := by
  constructor <;> omega
theorem e_lowb (a : Nat → Int) (h : ∀ i, i < 9 → (a i).natAbs ≤ 33554432) : -1725436586697640946858688965569256363112777243042596638790631055949824 < ws w10 a 9 ∧ ws w10 a 9 < 1725436586697640946858688965569256363112777243042596638790631055949824 := by
  have e : ws w10 a 9 = a 0 * 1 + a 1 * 67108864 + a 2 * 2251799813685248 + a 3 * 151115727451828646838272 + a 4 * 5070602400912917605986812821504 + a 5 * 340282366920938463463374607431768211456 + a 6 * 11417981541647679048466287755595961091061972992 + a 7 * 766247770432944429179173513575154591809369561091801088 + a 8 * 25711008708143844408671393477458601640355247900524685364822016 := by
    simp only [ws, w10]
    grind
  rw [e]
  exact e_lowA _ _ _ _ _ _ _ _ _ (by have := h 0 (by decide); omega) (by have := h 0 (by decide); omega) (by have := h 1 (by decide); omega) (by have := h 1 (by decide); omega) (by have := h 2 (by decide); omega) (by have := h 2 (by decide); omega) (by have := h 3 (by decide); omega) (by have := h 3 (by decide); omega) (by have := h 4 (by decide); omega) (by have := h 4 (by decide); omega) (by have := h 5 (by decide); omega) (by have := h 5 (by decide); omega) (by have := h 6 (by decide); omega) (by have := h 6 (by decide); omega) (by have := h 7 (by decide); omega) (by have := h 7 (by decide); omega) (by have := h 8 (by decide); omega) (by have := h 8 (by decide); omega)
/-- what reduce leaves: the digits of the number modulo p -/
theorem e_reduce (k : Nat) (M : mm_M) (hb : ∀ i, i < 10 → (lg M k i).natAbs ≤ 33554432) (ho : ∀ i, i < 5 → (lg M k (2 * i + 1)).natAbs ≤ 17039360) : (∀ i, i < 10 → 0 ≤ lg (f_X4_reduce k M) k i ∧ lg (f_X4_reduce k M) k i < 2 ^ b10 i) ∧ v10 (f_X4_reduce k M) k = v10 M k % pP := by
  unfold f_X4_reduce
  dsimp only
  have i1 := (((ib_c 19 19 19 rfl (by decide)).mul (ib.of (M.2 k 9) (ho 4 (by decide))) (by decide)).add (ib_c 16777216 16777216 16777216 rfl (by decide)) (by decide)).sr (((25 : Int32)).toInt64 &&& 63) 25 33554432 64 (by decide) (by decide) (by decide) (by decide)
  generalize (19 * M.2 k 9 + 16777216) >>> (Int32.toInt64 25 &&& 63) = x at *
  obtain ⟨a1, r, a2, a3, a4⟩ := e_r18 k M x hb (by rw [i1.1]; exact Nat.le_trans i1.2 (by decide)) 10 (by decide)
  generalize f_X4_reduce_L18 k M x 10 = y at *
  have eW : w10 10 = 57896044618658097711785492504343953926634992332820282019728792003956564819968 := by decide
  have eP : pP = 57896044618658097711785492504343953926634992332820282019728792003956564819949 := by decide
  rw [eW] at a3 a4
  have hv : v10 M k = ws w10 (lg M k) 10 := rfl
  have h9 : lg M k 9 = (M.2 k 9).toInt := rfl
  have x1 := i1.1
  rw [← h9] at x1
  have c9 : (lg M k 9).natAbs ≤ 17039360 := ho 4 (by decide)
  obtain ⟨l1, l3⟩ := e_lowb (lg M k) (fun i hi => hb i (by omega))
  have l2 : ws w10 (lg M k) 10 = ws w10 (lg M k) 9 + lg M k 9 * 1725436586697640946858688965569256363112777243042596638790631055949824 := by
    rw [show ws w10 (lg M k) 10 = ws w10 (lg M k) 9 + lg M k 9 * w10 9 from rfl, show w10 9 = 1725436586697640946858688965569256363112777243042596638790631055949824 from by decide]
  have hq : (v10 M k ≥ 0 ∧ v10 M k < pP ∧ y.toInt = 0) ∨ (v10 M k < 0 ∧ -pP ≤ v10 M k ∧ y.toInt = -1) := by
    rw [hv, eP]
    rw [x1] at a4
    clear i1 a1 x1 h9 hv eW eP hb ho
    generalize ws w10 (lg M k) 10 = H at *
    generalize ws w10 (lg M k) 9 = Lw at *
    generalize lg M k 9 = A9 at *
    generalize y.toInt = Y at *
    omega
  have i2 := (ib.of y (b := 1) (by rcases hq with q | q <;> omega)).mul (ib_c 19 19 19 rfl (by decide)) (by decide)
  obtain ⟨-, -, f3, f4⟩ := e_r49 k M (y * 19) hb (by rw [i2.1]; exact Nat.le_trans i2.2 (by decide)) 10 (by decide)
  generalize f_X4_reduce_L49 k (M, y * 19) 10 = R at *
  obtain ⟨R, z⟩ := R
  dsimp only at f3 f4 ⊢
  refine ⟨f3, ?_⟩
  have hlo : 0 ≤ ws w10 (lg R k) 10 ∧ ws w10 (lg R k) 10 < w10 10 := by
    have : ∀ n, n ≤ 10 → 0 ≤ ws w10 (lg R k) n ∧ ws w10 (lg R k) n < w10 n := by
      intro n
      induction n with
      | zero => intro _; exact ⟨Int.le_refl _, (show (0 : Int) < 1 from by decide)⟩
      | succ n ih =>
        intro hn
        obtain ⟨u1, u2⟩ := ih (by omega)
        obtain ⟨u3, u4⟩ := f3 n (by omega)
        rw [ws, w10_s]
        have hW := w10_pos n
        generalize w10 n = W at *
        generalize (2 : Int) ^ b10 n = D at *
        generalize lg R k n = A at *
        have u5 : 0 ≤ A * W := Int.mul_nonneg u3 (by omega)
        have u6 : (A + 1) * W ≤ D * W := Int.mul_le_mul_of_nonneg_right (by omega) (by omega)
        have u7 : (A + 1) * W = A * W + W := by rw [Int.add_mul, Int.one_mul]
        have u8 : W * D = D * W := Int.mul_comm _ _
        omega
    exact this 10 (by decide)
  show ws w10 (lg R k) 10 = _
  rw [i2.1, eW] at f4
  rw [eW] at hlo
  rw [← hv] at f4
  have hr : (v10 M k % pP = v10 M k ∧ y.toInt = 0 ∧ 0 ≤ v10 M k ∧ v10 M k < pP) ∨ (v10 M k % pP = v10 M k + pP ∧ y.toInt = -1 ∧ v10 M k < 0 ∧ -pP ≤ v10 M k) := by
    rcases hq with ⟨q1, q2, q3⟩ | ⟨q1, q2, q3⟩
    · exact Or.inl ⟨Int.emod_eq_of_lt q1 q2, q3, q1, q2⟩
    · refine Or.inr ⟨?_, q3, q1, q2⟩
      rw [← Int.add_emod_right]
      exact Int.emod_eq_of_lt (by omega) (by omega)
  rcases hr with ⟨q1, q2, q3, q4⟩ | ⟨q1, q2, q3, q4⟩ <;> rw [q1] <;> rw [q2] at f4 <;> rw [eP] at * <;> omega
