/-! Poly1305 in the engine: five limbs of 26 bits -/
def w26 (i : Nat) : Int := 67108864 ^ i
theorem w26_s (t : Nat) : w26 (t + 1) = w26 t * 67108864 := by unfold w26; rw [Int.pow_succ]
def pQ : Int := 1361129467683753853853498429727072845819
theorem eQ : w26 5 - 5 = pQ := by decide
theorem w26n : w26 0 = 1 ∧ w26 1 = 67108864 ∧ w26 2 = 4503599627370496 ∧ w26 3 = 302231454903657293676544 ∧ w26 4 = 20282409603651670423947251286016 := by decide
def nb (x : Int64) (v : Int) (b : Nat) : Prop := x.toInt = v ∧ 0 ≤ v ∧ v ≤ b
theorem nb.ib {x : Int64} {v : Int} {b : Nat} (h : nb x v b) : ib x v b := ⟨h.1, by have := h.2; omega⟩
theorem nb.add {x y : Int64} {v u : Int} {b c : Nat} (h : nb x v b) (g : nb y u c) (hb : b + c < 2 ^ 63) : nb (x + y) (v + u) (b + c) := ⟨(h.ib.add g.ib hb).1, by have := h.2; have := g.2; omega, by have := h.2; have := g.2; omega⟩
theorem nb.mul {x y : Int64} {v u : Int} {b c : Nat} (h : nb x v b) (g : nb y u c) (hb : b * c < 2 ^ 63) : nb (x * y) (v * u) (b * c) := by
  refine ⟨(h.ib.mul g.ib hb).1, Int.mul_nonneg h.2.1 g.2.1, ?_⟩
  have a := Int.mul_le_mul_of_nonneg_right h.2.2 g.2.1
  have b' := Int.mul_le_mul_of_nonneg_left g.2.2 (show (0 : Int) ≤ b by omega)
  rw [Int.natCast_mul]
  omega
theorem nb.le {x : Int64} {v : Int} {b c : Nat} (h : nb x v b) (hb : b ≤ c) : nb x v c := ⟨h.1, h.2.1, by have := h.2.2; omega⟩
theorem nb_i (z : Int32) (n b : Nat) (h : un z = n) (hn : n < 2147483648) (hb : n ≤ b) : nb z.toInt64 n b := ⟨by rw [toI64, un_toInt (by omega), h], by omega, by omega⟩
theorem l_ul {x : Int64} (c : Int32) (k : Nat) (hk : k < 64) (hc : c = Int32.ofNat k) (h : 0 ≤ x.toInt) : (mm_ul x c).toInt = x.toInt / 2 ^ k := by
  have a := un_ul x c k hk hc
  have hx : x.toBitVec.toNat = x.toInt.toNat := l_nat (by omega)
  have hlt : x.toInt < 9223372036854775808 := Int64.toInt_lt x
  have e : (mm_ul x c).toInt = (mm_ul x c).toBitVec.toInt := rfl
  have le : x.toInt.toNat / 2 ^ k ≤ x.toInt.toNat := Nat.div_le_self _ _
  rw [e, BitVec.toInt_eq_toNat_of_lt (by rw [a, hx]; omega), a, hx, Int.natCast_ediv, Int.toNat_of_nonneg h, Int.natCast_pow]
  rfl
theorem p_cL (M : mm_M) (hb : ∀ i, i < 5 → 0 ≤ lg M 38 i ∧ lg M 38 i ≤ 1152921504606846976) : ∀ t, t ≤ 5 → (0 ≤ (f_X6_carry_L4 (M, 0) t).2.toInt ∧ (f_X6_carry_L4 (M, 0) t).2.toInt ≤ 34359738368) ∧ (∀ i, t ≤ i → (f_X6_carry_L4 (M, 0) t).1.2 38 i = M.2 38 i) ∧ (∀ i, i < t → 0 ≤ lg (f_X6_carry_L4 (M, 0) t).1 38 i ∧ lg (f_X6_carry_L4 (M, 0) t).1 38 i ≤ 67108863) ∧ ws w26 (lg (f_X6_carry_L4 (M, 0) t).1 38) t + (f_X6_carry_L4 (M, 0) t).2.toInt * w26 t = ws w26 (lg M 38) t ∧ (∀ j, t = j + 1 → (f_X6_carry_L4 (M, 0) t).2.toInt * 67108864 ≤ lg M 38 j + 34359738368)
  | 0, _ => ⟨⟨show 0 ≤ (0 : Int64).toInt by decide, show (0 : Int64).toInt ≤ 34359738368 by decide⟩, fun _ _ => rfl, fun i hi => absurd hi (by omega), by show 0 + (0 : Int64).toInt * 1 = 0; decide, fun j hj => absurd hj (by omega)⟩
  | t + 1, ht => by
    obtain ⟨h1, h2, h3, h4, -⟩ := p_cL M hb t (by omega)
    rw [f_X6_carry_L4]
    generalize f_X6_carry_L4 (M, 0) t = R at *
    obtain ⟨R, y⟩ := R
    dsimp only at h1 h2 h3 h4 ⊢
    rw [h2 t (Nat.le_refl _)]
    have hl := hb t (by omega)
    have hg : lg M 38 t = (M.2 38 t).toInt := rfl
    rw [hg] at hl
    have i1 := (show nb (M.2 38 t) _ 1152921504606846976 from ⟨rfl, hl.1, hl.2⟩).add (show nb y _ 34359738368 from ⟨rfl, h1.1, h1.2⟩) (by decide)
    have i2 := l_ul (x := M.2 38 t + y) 26 26 (by decide) (by decide) (by rw [i1.1]; omega)
    have i3 := l_and (M.2 38 t + y) 67108863 26 (by decide) (by decide)
    rw [i1.1, show (2 : Int) ^ 26 = 67108864 from by decide] at i2 i3
    generalize mm_ul (M.2 38 t + y) 26 = C at *
    generalize (M.2 38 t + y) &&& 67108863 = Z at *
    have rt : lg (mm_wl R 38 t Z) 38 t = Z.toInt := by unfold lg; rw [rd_wlS]
    have ro : ∀ i, i ≠ t → lg (mm_wl R 38 t Z) 38 i = lg R 38 i := fun i hi => by unfold lg; rw [rd_wlN _ _ _ _ (Or.inr hi)]
    refine ⟨?_, fun i hi => ?_, fun i hi => ?_, ?_, fun j hj => ?_⟩
    · rw [i2]; omega
    · rw [rd_wlN _ _ _ _ (Or.inr (by omega))]; exact h2 i (by omega)
    · by_cases e : i = t
      · subst e
        rw [rt, i3]; omega
      · rw [ro i e]; exact h3 i (by omega)
    · rw [ws, ws, ws_congr (a := lg (mm_wl R 38 t Z) 38) (b := lg R 38) (fun i hi => ro i (by omega)), rt, i3, i2, hg, w26_s]
      have d1 := Int.mul_ediv_add_emod ((M.2 38 t).toInt + y.toInt) 67108864
      generalize ws w26 (lg M 38) t = S at *
      generalize ws w26 (lg R 38) t = S2 at *
      generalize ((M.2 38 t).toInt + y.toInt) % 67108864 = Rm at *
      generalize ((M.2 38 t).toInt + y.toInt) / 67108864 = Q at *
      generalize w26 t = W at *
      clear i1 i2 i3 rt ro h2 h3 hb
      have : (67108864 * Q + Rm) * W = ((M.2 38 t).toInt + y.toInt) * W := by rw [d1]
      grind
    · rw [show j = t from by omega, i2, hg]; omega
theorem p_carry (M : mm_M) (hb : ∀ i, i < 5 → 0 ≤ lg M 38 i ∧ lg M 38 i ≤ 1152921504606846976) (h4 : lg M 38 4 ≤ 41000000000000000) : (0 ≤ lg (f_X6_carry M) 38 0 ∧ lg (f_X6_carry M) 38 0 ≤ 4294967296) ∧ (∀ i, 1 ≤ i → i < 5 → 0 ≤ lg (f_X6_carry M) 38 i ∧ lg (f_X6_carry M) 38 i ≤ 67108863) ∧ ∃ q, ws w26 (lg (f_X6_carry M) 38) 5 = ws w26 (lg M 38) 5 + q * pQ := by
  obtain ⟨g1, -, g3, g4, g5⟩ := p_cL M hb 5 (by decide)
  have g5 := g5 4 rfl
  unfold f_X6_carry
  try dsimp only
  generalize f_X6_carry_L4 (M, 0) 5 = R at *
  obtain ⟨R, y⟩ := R
  dsimp only at *
  have g30 := g3 0 (by decide)
  have i1 := (show nb (R.2 38 0) _ 67108863 from ⟨rfl, g30.1, g30.2⟩).add ((show nb 5 5 5 from ⟨rfl, by decide, by decide⟩).mul (show nb y _ 34359738368 from ⟨rfl, g1.1, g1.2⟩) (by decide)) (by decide)
  generalize R.2 38 0 + 5 * y = Z at *
  have hg : lg R 38 0 = (R.2 38 0).toInt := rfl
  have r0 : lg (mm_wl R 38 0 Z) 38 0 = lg R 38 0 + 5 * y.toInt := by unfold lg; rw [rd_wlS]; exact i1.1
  have ro : ∀ i, i ≠ 0 → lg (mm_wl R 38 0 Z) 38 i = lg R 38 i := fun i hi => by unfold lg; rw [rd_wlN _ _ _ _ (Or.inr hi)]
  refine ⟨?_, fun i h1 h5 => ?_, -y.toInt, ?_⟩
  · rw [r0]
    constructor
    · omega
    · omega
  · rw [ro i (by omega)]; exact g3 i h5
  · rw [ws_upd (w := w26) (a := lg R 38) (k := 0) (x := 5 * y.toInt) (n := 5) (by decide) (fun i hi => by
      by_cases e : i = 0
      · rw [if_pos e, e, r0]
      · rw [if_neg e, ro i e]), ← g4, ← eQ, show w26 0 = 1 from rfl]
    generalize ws w26 (lg R 38) 5 = S
    generalize w26 5 = W
    grind
theorem ws26_5 (a : Nat → Int) : ws w26 a 5 = a 0 + a 1 * 67108864 + a 2 * 4503599627370496 + a 3 * 302231454903657293676544 + a 4 * 20282409603651670423947251286016 := by
  show 0 + a 0 * w26 0 + a 1 * w26 1 + a 2 * w26 2 + a 3 * w26 3 + a 4 * w26 4 = _
  rw [w26n.1, w26n.2.1, w26n.2.2.1, w26n.2.2.2.1, w26n.2.2.2.2]
  omega
theorem p_ring (W x0 x1 x2 x3 x4 r0 r1 r2 r3 r4 : Int) : (x0 + x1 * W + x2 * W ^ 2 + x3 * W ^ 3 + x4 * W ^ 4) * (r0 + r1 * W + r2 * W ^ 2 + r3 * W ^ 3 + r4 * W ^ 4) = ((x0 * r0 + x1 * (5 * r4) + x2 * (5 * r3) + x3 * (5 * r2) + x4 * (5 * r1)) + (x0 * r1 + x1 * r0 + x2 * (5 * r4) + x3 * (5 * r3) + x4 * (5 * r2)) * W + (x0 * r2 + x1 * r1 + x2 * r0 + x3 * (5 * r4) + x4 * (5 * r3)) * W ^ 2 + (x0 * r3 + x1 * r2 + x2 * r1 + x3 * r0 + x4 * (5 * r4)) * W ^ 3 + (x0 * r4 + x1 * r3 + x2 * r2 + x3 * r1 + x4 * r0) * W ^ 4) + (x1 * r4 + x2 * r3 + x3 * r2 + x4 * r1 + (x2 * r4 + x3 * r3 + x4 * r2) * W + (x3 * r4 + x4 * r3) * W ^ 2 + x4 * r4 * W ^ 3) * (W ^ 5 - 5) := by
  grind
theorem bv16 (s : Nat → Int32) (p : Nat) : bv s p 16 = (ub (s (p + 0)) : Int) * 1 + (ub (s (p + 1)) : Int) * 256 + (ub (s (p + 2)) : Int) * 65536 + (ub (s (p + 3)) : Int) * 16777216 + (ub (s (p + 4)) : Int) * 4294967296 + (ub (s (p + 5)) : Int) * 1099511627776 + (ub (s (p + 6)) : Int) * 281474976710656 + (ub (s (p + 7)) : Int) * 72057594037927936 + (ub (s (p + 8)) : Int) * 18446744073709551616 + (ub (s (p + 9)) : Int) * 4722366482869645213696 + (ub (s (p + 10)) : Int) * 1208925819614629174706176 + (ub (s (p + 11)) : Int) * 309485009821345068724781056 + (ub (s (p + 12)) : Int) * 79228162514264337593543950336 + (ub (s (p + 13)) : Int) * 20282409603651670423947251286016 + (ub (s (p + 14)) : Int) * 5192296858534827628530496329220096 + (ub (s (p + 15)) : Int) * 1329227995784915872903807060280344576 := by
  show 0 + (ub (s (p + 0)) : Int) * w8 0 + (ub (s (p + 1)) : Int) * w8 1 + (ub (s (p + 2)) : Int) * w8 2 + (ub (s (p + 3)) : Int) * w8 3 + (ub (s (p + 4)) : Int) * w8 4 + (ub (s (p + 5)) : Int) * w8 5 + (ub (s (p + 6)) : Int) * w8 6 + (ub (s (p + 7)) : Int) * w8 7 + (ub (s (p + 8)) : Int) * w8 8 + (ub (s (p + 9)) : Int) * w8 9 + (ub (s (p + 10)) : Int) * w8 10 + (ub (s (p + 11)) : Int) * w8 11 + (ub (s (p + 12)) : Int) * w8 12 + (ub (s (p + 13)) : Int) * w8 13 + (ub (s (p + 14)) : Int) * w8 14 + (ub (s (p + 15)) : Int) * w8 15 = _
  rw [show w8 0 = 1 from by decide, show w8 1 = 256 from by decide, show w8 2 = 65536 from by decide, show w8 3 = 16777216 from by decide, show w8 4 = 4294967296 from by decide, show w8 5 = 1099511627776 from by decide, show w8 6 = 281474976710656 from by decide, show w8 7 = 72057594037927936 from by decide, show w8 8 = 18446744073709551616 from by decide, show w8 9 = 4722366482869645213696 from by decide, show w8 10 = 1208925819614629174706176 from by decide, show w8 11 = 309485009821345068724781056 from by decide, show w8 12 = 79228162514264337593543950336 from by decide, show w8 13 = 20282409603651670423947251286016 from by decide, show w8 14 = 5192296858534827628530496329220096 from by decide, show w8 15 = 1329227995784915872903807060280344576 from by decide]
  omega
theorem p_dig (b0 b1 b2 b3 b4 b5 b6 b7 b8 b9 b10 b11 b12 b13 b14 b15 : Nat) (h0 : b0 < 256) (h1 : b1 < 256) (h2 : b2 < 256) (h3 : b3 < 256) (h4 : b4 < 256) (h5 : b5 < 256) (h6 : b6 < 256) (h7 : b7 < 256) (h8 : b8 < 256) (h9 : b9 < 256) (h10 : b10 < 256) (h11 : b11 < 256) (h12 : b12 < 256) (h13 : b13 < 256) (h14 : b14 < 256) (h15 : b15 < 256) : (b0 + b1 * 256 + b2 * 65536 + b3 * 16777216) % 67108864 = b0 + b1 * 256 + b2 * 65536 + b3 % 4 * 16777216 ∧ (b3 + b4 * 256 + b5 * 65536 + b6 * 16777216) / 4 % 67108864 = b3 / 4 + b4 * 64 + b5 * 16384 + b6 % 16 * 4194304 ∧ (b6 + b7 * 256 + b8 * 65536 + b9 * 16777216) / 16 % 67108864 = b6 / 16 + b7 * 16 + b8 * 4096 + b9 % 64 * 1048576 ∧ (b9 + b10 * 256 + b11 * 65536 + b12 * 16777216) / 64 % 67108864 = b9 / 64 + b10 * 4 + b11 * 1024 + b12 * 262144 ∧ (b12 + b13 * 256 + b14 * 65536 + b15 * 16777216) / 256 = b13 + b14 * 256 + b15 * 65536 := by
  refine ⟨?_, ?_, ?_, ?_, ?_⟩ <;> omega
theorem p_blk (k : Nat) (M : mm_M) : ∃ c0 c1 c2 c3 c4 : Int, nb (((f_X1_loadLittle k 0 M) &&& 67108863).toInt64) c0 67108863 ∧ nb (((mm_us (f_X1_loadLittle k 3 M) 2) &&& 67108863).toInt64) c1 67108863 ∧ nb (((mm_us (f_X1_loadLittle k 6 M) 4) &&& 67108863).toInt64) c2 67108863 ∧ nb (((mm_us (f_X1_loadLittle k 9 M) 6) &&& 67108863).toInt64) c3 67108863 ∧ nb (((mm_us (f_X1_loadLittle k 12 M) 8) ||| 16777216).toInt64) c4 33554431 ∧ c0 + c1 * 67108864 + c2 * 4503599627370496 + c3 * 302231454903657293676544 + c4 * 20282409603651670423947251286016 = bv (M.1 k) 0 16 + 340282366920938463463374607431768211456 := by
  rw [bv16]
  simp only [Nat.zero_add]
  have u0 := ub_lt (M.1 k 0)
  have u1 := ub_lt (M.1 k 1)
  have u2 := ub_lt (M.1 k 2)
  have u3 := ub_lt (M.1 k 3)
  have u4 := ub_lt (M.1 k 4)
  have u5 := ub_lt (M.1 k 5)
  have u6 := ub_lt (M.1 k 6)
  have u7 := ub_lt (M.1 k 7)
  have u8 := ub_lt (M.1 k 8)
  have u9 := ub_lt (M.1 k 9)
  have u10 := ub_lt (M.1 k 10)
  have u11 := ub_lt (M.1 k 11)
  have u12 := ub_lt (M.1 k 12)
  have u13 := ub_lt (M.1 k 13)
  have u14 := ub_lt (M.1 k 14)
  have u15 := ub_lt (M.1 k 15)
  have l0 := un_load k 0 M
  have l3 := un_load k 3 M
  have l6 := un_load k 6 M
  have l9 := un_load k 9 M
  have l12 := un_load k 12 M
  simp only [Nat.zero_add, Nat.reduceAdd] at l0 l3 l6 l9 l12
  generalize ub (M.1 k 0) = b0 at *
  generalize ub (M.1 k 1) = b1 at *
  generalize ub (M.1 k 2) = b2 at *
  generalize ub (M.1 k 3) = b3 at *
  generalize ub (M.1 k 4) = b4 at *
  generalize ub (M.1 k 5) = b5 at *
  generalize ub (M.1 k 6) = b6 at *
  generalize ub (M.1 k 7) = b7 at *
  generalize ub (M.1 k 8) = b8 at *
  generalize ub (M.1 k 9) = b9 at *
  generalize ub (M.1 k 10) = b10 at *
  generalize ub (M.1 k 11) = b11 at *
  generalize ub (M.1 k 12) = b12 at *
  generalize ub (M.1 k 13) = b13 at *
  generalize ub (M.1 k 14) = b14 at *
  generalize ub (M.1 k 15) = b15 at *
  obtain ⟨d0, d1, d2, d3, d4⟩ := p_dig b0 b1 b2 b3 b4 b5 b6 b7 b8 b9 b10 b11 b12 b13 b14 b15 u0 u1 u2 u3 u4 u5 u6 u7 u8 u9 u10 u11 u12 u13 u14 u15
  have m0 : un ((f_X1_loadLittle k 0 M) &&& 67108863) = b0 + b1 * 256 + b2 * 65536 + b3 % 4 * 16777216 := by
    rw [un_mask _ _ 26 (by decide), l0]; exact d0
  have m1 : un ((mm_us (f_X1_loadLittle k 3 M) 2) &&& 67108863) = b3 / 4 + b4 * 64 + b5 * 16384 + b6 % 16 * 4194304 := by
    rw [un_mask _ _ 26 (by decide), un_us _ _ 2 (by decide) (by decide), l3]; exact d1
  have m2 : un ((mm_us (f_X1_loadLittle k 6 M) 4) &&& 67108863) = b6 / 16 + b7 * 16 + b8 * 4096 + b9 % 64 * 1048576 := by
    rw [un_mask _ _ 26 (by decide), un_us _ _ 4 (by decide) (by decide), l6]; exact d2
  have m3 : un ((mm_us (f_X1_loadLittle k 9 M) 6) &&& 67108863) = b9 / 64 + b10 * 4 + b11 * 1024 + b12 * 262144 := by
    rw [un_mask _ _ 26 (by decide), un_us _ _ 6 (by decide) (by decide), l9]; exact d3
  have m4 : un ((mm_us (f_X1_loadLittle k 12 M) 8) ||| 16777216) = b13 + b14 * 256 + b15 * 65536 + 16777216 := by
    rw [un_or, un_us _ _ 8 (by decide) (by decide), l12, show un (16777216 : Int32) = 1 * 2 ^ 24 from by decide, show (2 : Nat) ^ 8 = 256 from rfl, d4, add_or 1 _ 24 (by omega)]
  clear d0 d1 d2 d3 d4 l0 l3 l6 l9 l12
  refine ⟨_, _, _, _, _, nb_i _ _ 67108863 m0 (by omega) (by omega), nb_i _ _ 67108863 m1 (by omega) (by omega), nb_i _ _ 67108863 m2 (by omega) (by omega), nb_i _ _ 67108863 m3 (by omega) (by omega), nb_i _ _ 33554431 m4 (by omega) (by omega), ?_⟩
  omega
/-- the engine's tag in the middle of its message: the multiplier is ρ, the sum is a -/
def po_is (M : mm_M) (ρ a : Int) : Prop := ((∀ i, i < 5 → 0 ≤ lg M 37 i ∧ lg M 37 i ≤ 67108863) ∧ lg M 37 4 ≤ 1048575 ∧ ws w26 (lg M 37) 5 = ρ) ∧ (0 ≤ lg M 38 0 ∧ lg M 38 0 ≤ 4294967296) ∧ (∀ i, 1 ≤ i → i < 5 → 0 ≤ lg M 38 i ∧ lg M 38 i ≤ 67108863) ∧ ∃ q, ws w26 (lg M 38) 5 = a + q * pQ
