/-! the field of the curve: whole numbers modulo 2^255 - 19, on ten limbs (the engine's) and on sixteen (the reference's) -/
theorem fe_mul10 (f0 f1 f2 f3 f4 f5 f6 f7 f8 f9 g0 g1 g2 g3 g4 g5 g6 g7 g8 g9 : Int) :
  (f0*g0 + (2*f1)*(19*g9) + f2*(19*g8) + (2*f3)*(19*g7) + f4*(19*g6) + (2*f5)*(19*g5) + f6*(19*g4) + (2*f7)*(19*g3) + f8*(19*g2) + (2*f9)*(19*g1))
  + 2^26*(f0*g1 + f1*g0 + f2*(19*g9) + f3*(19*g8) + f4*(19*g7) + f5*(19*g6)+f6*(19*g5)+f7*(19*g4)+f8*(19*g3)+f9*(19*g2))
  + 2^51*(f0*g2 + (2*f1)*g1 + f2*g0 + (2*f3)*(19*g9) + f4*(19*g8) + (2*f5)*(19*g7) + f6*(19*g6)+(2*f7)*(19*g5)+f8*(19*g4)+(2*f9)*(19*g3))
  + 2^77*(f0*g3 + f1*g2 + f2*g1 + f3*g0 + f4*(19*g9) + f5*(19*g8)+f6*(19*g7)+f7*(19*g6)+f8*(19*g5)+f9*(19*g4))
  + 2^102*(f0*g4+(2*f1)*g3+f2*g2+(2*f3)*g1+f4*g0+(2*f5)*(19*g9)+f6*(19*g8)+(2*f7)*(19*g7)+f8*(19*g6)+(2*f9)*(19*g5))
  + 2^128*(f0*g5+f1*g4+f2*g3+f3*g2+f4*g1+f5*g0+f6*(19*g9)+f7*(19*g8)+f8*(19*g7)+f9*(19*g6))
  + 2^153*(f0*g6+(2*f1)*g5+f2*g4+(2*f3)*g3+f4*g2+(2*f5)*g1+f6*g0+(2*f7)*(19*g9)+f8*(19*g8)+(2*f9)*(19*g7))
  + 2^179*(f0*g7+f1*g6+f2*g5+f3*g4+f4*g3+f5*g2+f6*g1+f7*g0+f8*(19*g9)+f9*(19*g8))
  + 2^204*(f0*g8+(2*f1)*g7+f2*g6+(2*f3)*g5+f4*g4+(2*f5)*g3+f6*g2+(2*f7)*g1+f8*g0+(2*f9)*(19*g9))
  + 2^230*(f0*g9+f1*g8+f2*g7+f3*g6+f4*g5+f5*g4+f6*g3+f7*g2+f8*g1+f9*g0)
  = (f0+2^26*f1+2^51*f2+2^77*f3+2^102*f4+2^128*f5+2^153*f6+2^179*f7+2^204*f8+2^230*f9)*(g0+2^26*g1+2^51*g2+2^77*g3+2^102*g4+2^128*g5+2^153*g6+2^179*g7+2^204*g8+2^230*g9)
   - (2^255-19)*(
     (2*f1*g9+f2*g8+2*f3*g7+f4*g6+2*f5*g5+f6*g4+2*f7*g3+f8*g2+2*f9*g1)
     + 2^26*(f2*g9+f3*g8+f4*g7+f5*g6+f6*g5+f7*g4+f8*g3+f9*g2)
     + 2^51*(2*f3*g9+f4*g8+2*f5*g7+f6*g6+2*f7*g5+f8*g4+2*f9*g3)
     + 2^77*(f4*g9+f5*g8+f6*g7+f7*g6+f8*g5+f9*g4)
     + 2^102*(2*f5*g9+f6*g8+2*f7*g7+f8*g6+2*f9*g5)
     + 2^128*(f6*g9+f7*g8+f8*g7+f9*g6)
     + 2^153*(2*f7*g9+f8*g8+2*f9*g7)
     + 2^179*(f8*g9+f9*g8)
     + 2^204*(2*f9*g9)) := by grind

theorem v10_eq (a : Nat → Int) : ws w10 a 10 = a 0 + 2^26 * a 1 + 2^51 * a 2 + 2^77 * a 3 + 2^102 * a 4 + 2^128 * a 5 + 2^153 * a 6 + 2^179 * a 7 + 2^204 * a 8 + 2^230 * a 9 := by
  simp only [ws, w10]
  grind

theorem e_carry (k : Nat) (M : mm_M) (hb : ∀ i, i < 10 → (lg M k i).natAbs ≤ 2305843009213693952) :
    (∀ i, i < 10 → (lg (f_X4_carry k M) k i).natAbs ≤ 33554432) ∧ (∀ i, i < 5 → (lg (f_X4_carry k M) k (2 * i + 1)).natAbs ≤ 17039360) ∧ ∃ q, v10 (f_X4_carry k M) k = v10 M k + q * pP := by
  obtain ⟨-, h2, h3, h4⟩ := e_carryL k M hb 5 (by decide)
  unfold f_X4_carry
  dsimp only
  generalize f_X4_carry_L4 k (M, 0) 5 = R at *
  obtain ⟨R1, y⟩ := R
  dsimp only at h2 h3 h4 ⊢
  have b0 := (h2 0 (by decide)).1
  have b1 := (h2 0 (by decide)).2
  rw [rd_wlS, rd_wlN _ _ _ _ (show k ≠ k ∨ 1 ≠ 0 from Or.inr (by decide)), rd_wlN _ _ _ _ (show k ≠ k ∨ 1 ≠ 0 from Or.inr (by decide))]
  have i1 := (ib.of (R1.2 k 0) b0).add ((ib_c 19 19 19 rfl (by decide)).mul (ib.of y h3) (by decide)) (by decide)
  have i2 := (i1.add (ib_c 33554432 33554432 33554432 rfl (by decide)) (by decide)).sr (((26 : Int32)).toInt64 &&& 63) 26 67108864 131072 (by decide) (by decide) (by decide) (by decide)
  have i3 := i1.sub (i2.sl (((26 : Int32)).toInt64 &&& 63) 26 67108864 8796093022208 (by decide) (by decide) (by decide) (by decide) (by decide)) (by decide)
  have i4 := (ib.of (R1.2 k 1) b1).add i2 (by decide)
  generalize R1.2 k 0 + 19 * y - (R1.2 k 0 + 19 * y + 33554432) >>> (Int32.toInt64 26 &&& 63) <<< (Int32.toInt64 26 &&& 63) = Z0 at *
  generalize R1.2 k 1 + (R1.2 k 0 + 19 * y + 33554432) >>> (Int32.toInt64 26 &&& 63) = Z1 at *
  generalize hN : mm_wl (mm_wl (mm_wl R1 k 0 (R1.2 k 0 + 19 * y)) k 0 Z0) k 1 Z1 = N
  have e0 : lg N k 0 = Z0.toInt := by
    rw [← hN]; unfold lg; rw [rd_wlN _ _ _ _ (Or.inr (by decide)), rd_wlS]
  have e1 : lg N k 1 = Z1.toInt := by
    rw [← hN]; unfold lg; rw [rd_wlS]
  have e2 : ∀ i, 2 ≤ i → lg N k i = lg R1 k i := fun i hi => by
    rw [← hN]; unfold lg; rw [rd_wlN _ _ _ _ (Or.inr (by omega)), rd_wlN _ _ _ _ (Or.inr (by omega)), rd_wlN _ _ _ _ (Or.inr (by omega))]
  have g0 := i3.1
  have g1 := i4.1
  have l2 := i2.2
  have lz : lg R1 k 0 = (R1.2 k 0).toInt := rfl
  have lo : lg R1 k 1 = (R1.2 k 1).toInt := rfl
  have hall : ∀ i, i < 10 → (lg N k i).natAbs ≤ 33554432 ∧ (i % 2 = 1 → (lg N k i).natAbs ≤ 17039360) := by
    intro i hi
    rcases Nat.lt_or_ge i 2 with q | q
    · rcases (show i = 0 ∨ i = 1 by omega) with rfl | rfl
      · rw [e0, g0]
        refine ⟨?_, fun z => absurd z (by decide)⟩
        clear e0 e1 e2 g0 g1 i1 i2 i3 i4 l2 hN h2 h4 hb
        generalize (R1.2 k 0).toInt = A at *
        generalize y.toInt = B at *
        omega
      · rw [e1, g1]
        have b1 : (R1.2 k 1).toInt.natAbs ≤ 16777216 := b1
        generalize ((R1.2 k 0).toInt + 19 * y.toInt + 33554432) / 67108864 = X at *
        generalize (R1.2 k 1).toInt = A at *
        refine ⟨?_, fun _ => ?_⟩ <;> omega
    · rw [e2 i q]
      have := h2 (i / 2) (by omega)
      rcases Nat.mod_two_eq_zero_or_one i with m | m
      · rw [show i = 2 * (i / 2) from by omega]
        exact ⟨this.1, fun z => absurd z (by omega)⟩
      · rw [show i = 2 * (i / 2) + 1 from by omega]
        exact ⟨by omega, fun _ => by omega⟩
  refine ⟨fun i hi => (hall i hi).1, fun i hi => (hall _ (by omega)).2 (by omega), -y.toInt, ?_⟩
  unfold v10
  rw [← h4]
  rw [show (2 * 5 : Nat) = 10 from rfl, v10_eq, v10_eq, show w10 10 = 2 ^ 255 from rfl, e0, e1, g0, g1, e2 2 (by decide), e2 3 (by decide), e2 4 (by decide), e2 5 (by decide), e2 6 (by decide), e2 7 (by decide), e2 8 (by decide), e2 9 (by decide), lz, lo]
  unfold pP
  generalize ((R1.2 k 0).toInt + 19 * y.toInt + 33554432) / 67108864 = X
  grind

def e_mc (M : mm_M) (k2 k3 : Nat) : Nat → Int64
  | 0 => (((((((((((M.2 k2 0) * (M.2 k3 0)) + ((2 * (M.2 k2 1)) * (19 * (M.2 k3 9)))) + ((M.2 k2 2) * (19 * (M.2 k3 8)))) + ((2 * (M.2 k2 3)) * (19 * (M.2 k3 7)))) + ((M.2 k2 4) * (19 * (M.2 k3 6)))) + ((2 * (M.2 k2 5)) * (19 * (M.2 k3 5)))) + ((M.2 k2 6) * (19 * (M.2 k3 4)))) + ((2 * (M.2 k2 7)) * (19 * (M.2 k3 3)))) + ((M.2 k2 8) * (19 * (M.2 k3 2)))) + ((2 * (M.2 k2 9)) * (19 * (M.2 k3 1))))
  | 1 => (((((((((((M.2 k2 0) * (M.2 k3 1)) + ((M.2 k2 1) * (M.2 k3 0))) + ((M.2 k2 2) * (19 * (M.2 k3 9)))) + ((M.2 k2 3) * (19 * (M.2 k3 8)))) + ((M.2 k2 4) * (19 * (M.2 k3 7)))) + ((M.2 k2 5) * (19 * (M.2 k3 6)))) + ((M.2 k2 6) * (19 * (M.2 k3 5)))) + ((M.2 k2 7) * (19 * (M.2 k3 4)))) + ((M.2 k2 8) * (19 * (M.2 k3 3)))) + ((M.2 k2 9) * (19 * (M.2 k3 2))))
  | 2 => (((((((((((M.2 k2 0) * (M.2 k3 2)) + ((2 * (M.2 k2 1)) * (M.2 k3 1))) + ((M.2 k2 2) * (M.2 k3 0))) + ((2 * (M.2 k2 3)) * (19 * (M.2 k3 9)))) + ((M.2 k2 4) * (19 * (M.2 k3 8)))) + ((2 * (M.2 k2 5)) * (19 * (M.2 k3 7)))) + ((M.2 k2 6) * (19 * (M.2 k3 6)))) + ((2 * (M.2 k2 7)) * (19 * (M.2 k3 5)))) + ((M.2 k2 8) * (19 * (M.2 k3 4)))) + ((2 * (M.2 k2 9)) * (19 * (M.2 k3 3))))
  | 3 => (((((((((((M.2 k2 0) * (M.2 k3 3)) + ((M.2 k2 1) * (M.2 k3 2))) + ((M.2 k2 2) * (M.2 k3 1))) + ((M.2 k2 3) * (M.2 k3 0))) + ((M.2 k2 4) * (19 * (M.2 k3 9)))) + ((M.2 k2 5) * (19 * (M.2 k3 8)))) + ((M.2 k2 6) * (19 * (M.2 k3 7)))) + ((M.2 k2 7) * (19 * (M.2 k3 6)))) + ((M.2 k2 8) * (19 * (M.2 k3 5)))) + ((M.2 k2 9) * (19 * (M.2 k3 4))))
  | 4 => (((((((((((M.2 k2 0) * (M.2 k3 4)) + ((2 * (M.2 k2 1)) * (M.2 k3 3))) + ((M.2 k2 2) * (M.2 k3 2))) + ((2 * (M.2 k2 3)) * (M.2 k3 1))) + ((M.2 k2 4) * (M.2 k3 0))) + ((2 * (M.2 k2 5)) * (19 * (M.2 k3 9)))) + ((M.2 k2 6) * (19 * (M.2 k3 8)))) + ((2 * (M.2 k2 7)) * (19 * (M.2 k3 7)))) + ((M.2 k2 8) * (19 * (M.2 k3 6)))) + ((2 * (M.2 k2 9)) * (19 * (M.2 k3 5))))
  | 5 => (((((((((((M.2 k2 0) * (M.2 k3 5)) + ((M.2 k2 1) * (M.2 k3 4))) + ((M.2 k2 2) * (M.2 k3 3))) + ((M.2 k2 3) * (M.2 k3 2))) + ((M.2 k2 4) * (M.2 k3 1))) + ((M.2 k2 5) * (M.2 k3 0))) + ((M.2 k2 6) * (19 * (M.2 k3 9)))) + ((M.2 k2 7) * (19 * (M.2 k3 8)))) + ((M.2 k2 8) * (19 * (M.2 k3 7)))) + ((M.2 k2 9) * (19 * (M.2 k3 6))))
  | 6 => (((((((((((M.2 k2 0) * (M.2 k3 6)) + ((2 * (M.2 k2 1)) * (M.2 k3 5))) + ((M.2 k2 2) * (M.2 k3 4))) + ((2 * (M.2 k2 3)) * (M.2 k3 3))) + ((M.2 k2 4) * (M.2 k3 2))) + ((2 * (M.2 k2 5)) * (M.2 k3 1))) + ((M.2 k2 6) * (M.2 k3 0))) + ((2 * (M.2 k2 7)) * (19 * (M.2 k3 9)))) + ((M.2 k2 8) * (19 * (M.2 k3 8)))) + ((2 * (M.2 k2 9)) * (19 * (M.2 k3 7))))
  | 7 => (((((((((((M.2 k2 0) * (M.2 k3 7)) + ((M.2 k2 1) * (M.2 k3 6))) + ((M.2 k2 2) * (M.2 k3 5))) + ((M.2 k2 3) * (M.2 k3 4))) + ((M.2 k2 4) * (M.2 k3 3))) + ((M.2 k2 5) * (M.2 k3 2))) + ((M.2 k2 6) * (M.2 k3 1))) + ((M.2 k2 7) * (M.2 k3 0))) + ((M.2 k2 8) * (19 * (M.2 k3 9)))) + ((M.2 k2 9) * (19 * (M.2 k3 8))))
  | 8 => (((((((((((M.2 k2 0) * (M.2 k3 8)) + ((2 * (M.2 k2 1)) * (M.2 k3 7))) + ((M.2 k2 2) * (M.2 k3 6))) + ((2 * (M.2 k2 3)) * (M.2 k3 5))) + ((M.2 k2 4) * (M.2 k3 4))) + ((2 * (M.2 k2 5)) * (M.2 k3 3))) + ((M.2 k2 6) * (M.2 k3 2))) + ((2 * (M.2 k2 7)) * (M.2 k3 1))) + ((M.2 k2 8) * (M.2 k3 0))) + ((2 * (M.2 k2 9)) * (19 * (M.2 k3 9))))
  | 9 => (((((((((((M.2 k2 0) * (M.2 k3 9)) + ((M.2 k2 1) * (M.2 k3 8))) + ((M.2 k2 2) * (M.2 k3 7))) + ((M.2 k2 3) * (M.2 k3 6))) + ((M.2 k2 4) * (M.2 k3 5))) + ((M.2 k2 5) * (M.2 k3 4))) + ((M.2 k2 6) * (M.2 k3 3))) + ((M.2 k2 7) * (M.2 k3 2))) + ((M.2 k2 8) * (M.2 k3 1))) + ((M.2 k2 9) * (M.2 k3 0)))
  | _ => 0

theorem e_mrow (k1 k2 k3 : Nat) (M : mm_M) : ∃ N : mm_M, f_X4_multiplyLimbs k1 k2 k3 M = f_X4_carry k1 N ∧ ∀ i, i < 10 → N.2 k1 i = e_mc M k2 k3 i := by
  refine ⟨_, rfl, fun i hi => ?_⟩
  have : i = 0 ∨ i = 1 ∨ i = 2 ∨ i = 3 ∨ i = 4 ∨ i = 5 ∨ i = 6 ∨ i = 7 ∨ i = 8 ∨ i = 9 := by omega
  rcases this with h | h | h | h | h | h | h | h | h | h <;> subst h
  · rw [rd_wlN _ _ _ _ (Or.inr (by decide)), rd_wlN _ _ _ _ (Or.inr (by decide)), rd_wlN _ _ _ _ (Or.inr (by decide)), rd_wlN _ _ _ _ (Or.inr (by decide)), rd_wlN _ _ _ _ (Or.inr (by decide)), rd_wlN _ _ _ _ (Or.inr (by decide)), rd_wlN _ _ _ _ (Or.inr (by decide)), rd_wlN _ _ _ _ (Or.inr (by decide)), rd_wlN _ _ _ _ (Or.inr (by decide)), rd_wlS]; rfl
  · rw [rd_wlN _ _ _ _ (Or.inr (by decide)), rd_wlN _ _ _ _ (Or.inr (by decide)), rd_wlN _ _ _ _ (Or.inr (by decide)), rd_wlN _ _ _ _ (Or.inr (by decide)), rd_wlN _ _ _ _ (Or.inr (by decide)), rd_wlN _ _ _ _ (Or.inr (by decide)), rd_wlN _ _ _ _ (Or.inr (by decide)), rd_wlN _ _ _ _ (Or.inr (by decide)), rd_wlS]; rfl
  · rw [rd_wlN _ _ _ _ (Or.inr (by decide)), rd_wlN _ _ _ _ (Or.inr (by decide)), rd_wlN _ _ _ _ (Or.inr (by decide)), rd_wlN _ _ _ _ (Or.inr (by decide)), rd_wlN _ _ _ _ (Or.inr (by decide)), rd_wlN _ _ _ _ (Or.inr (by decide)), rd_wlN _ _ _ _ (Or.inr (by decide)), rd_wlS]; rfl
  · rw [rd_wlN _ _ _ _ (Or.inr (by decide)), rd_wlN _ _ _ _ (Or.inr (by decide)), rd_wlN _ _ _ _ (Or.inr (by decide)), rd_wlN _ _ _ _ (Or.inr (by decide)), rd_wlN _ _ _ _ (Or.inr (by decide)), rd_wlN _ _ _ _ (Or.inr (by decide)), rd_wlS]; rfl
  · rw [rd_wlN _ _ _ _ (Or.inr (by decide)), rd_wlN _ _ _ _ (Or.inr (by decide)), rd_wlN _ _ _ _ (Or.inr (by decide)), rd_wlN _ _ _ _ (Or.inr (by decide)), rd_wlN _ _ _ _ (Or.inr (by decide)), rd_wlS]; rfl
  · rw [rd_wlN _ _ _ _ (Or.inr (by decide)), rd_wlN _ _ _ _ (Or.inr (by decide)), rd_wlN _ _ _ _ (Or.inr (by decide)), rd_wlN _ _ _ _ (Or.inr (by decide)), rd_wlS]; rfl
  · rw [rd_wlN _ _ _ _ (Or.inr (by decide)), rd_wlN _ _ _ _ (Or.inr (by decide)), rd_wlN _ _ _ _ (Or.inr (by decide)), rd_wlS]; rfl
  · rw [rd_wlN _ _ _ _ (Or.inr (by decide)), rd_wlN _ _ _ _ (Or.inr (by decide)), rd_wlS]; rfl
  · rw [rd_wlN _ _ _ _ (Or.inr (by decide)), rd_wlS]; rfl
  · rw [rd_wlS]; rfl

theorem e_mul (k1 k2 k3 : Nat) (M : mm_M) (hf : ∀ i, i < 10 → (lg M k2 i).natAbs ≤ 67108864) (hg : ∀ i, i < 10 → (lg M k3 i).natAbs ≤ 67108864) :
    (∀ i, i < 10 → (lg (f_X4_multiplyLimbs k1 k2 k3 M) k1 i).natAbs ≤ 33554432) ∧ (∀ i, i < 5 → (lg (f_X4_multiplyLimbs k1 k2 k3 M) k1 (2 * i + 1)).natAbs ≤ 17039360) ∧ ∃ q, v10 (f_X4_multiplyLimbs k1 k2 k3 M) k1 = v10 M k2 * v10 M k3 + q * pP := by
  obtain ⟨N, e, hN⟩ := e_mrow k1 k2 k3 M
  rw [e]
  have F0 := ib.of (M.2 k2 0) (hf 0 (by decide))
  have G0 := ib.of (M.2 k3 0) (hg 0 (by decide))
  have F1 := ib.of (M.2 k2 1) (hf 1 (by decide))
  have G1 := ib.of (M.2 k3 1) (hg 1 (by decide))
  have F2 := ib.of (M.2 k2 2) (hf 2 (by decide))
  have G2 := ib.of (M.2 k3 2) (hg 2 (by decide))
  have F3 := ib.of (M.2 k2 3) (hf 3 (by decide))
  have G3 := ib.of (M.2 k3 3) (hg 3 (by decide))
  have F4 := ib.of (M.2 k2 4) (hf 4 (by decide))
  have G4 := ib.of (M.2 k3 4) (hg 4 (by decide))
  have F5 := ib.of (M.2 k2 5) (hf 5 (by decide))
  have G5 := ib.of (M.2 k3 5) (hg 5 (by decide))
  have F6 := ib.of (M.2 k2 6) (hf 6 (by decide))
  have G6 := ib.of (M.2 k3 6) (hg 6 (by decide))
  have F7 := ib.of (M.2 k2 7) (hf 7 (by decide))
  have G7 := ib.of (M.2 k3 7) (hg 7 (by decide))
  have F8 := ib.of (M.2 k2 8) (hf 8 (by decide))
  have G8 := ib.of (M.2 k3 8) (hg 8 (by decide))
  have F9 := ib.of (M.2 k2 9) (hf 9 (by decide))
  have G9 := ib.of (M.2 k3 9) (hg 9 (by decide))
  have D1 := (ib_c 2 2 2 rfl (by decide)).mul F1 (by decide)
  have D3 := (ib_c 2 2 2 rfl (by decide)).mul F3 (by decide)
  have D5 := (ib_c 2 2 2 rfl (by decide)).mul F5 (by decide)
  have D7 := (ib_c 2 2 2 rfl (by decide)).mul F7 (by decide)
  have D9 := (ib_c 2 2 2 rfl (by decide)).mul F9 (by decide)
  have U1 := (ib_c 19 19 19 rfl (by decide)).mul G1 (by decide)
  have U2 := (ib_c 19 19 19 rfl (by decide)).mul G2 (by decide)
  have U3 := (ib_c 19 19 19 rfl (by decide)).mul G3 (by decide)
  have U4 := (ib_c 19 19 19 rfl (by decide)).mul G4 (by decide)
  have U5 := (ib_c 19 19 19 rfl (by decide)).mul G5 (by decide)
  have U6 := (ib_c 19 19 19 rfl (by decide)).mul G6 (by decide)
  have U7 := (ib_c 19 19 19 rfl (by decide)).mul G7 (by decide)
  have U8 := (ib_c 19 19 19 rfl (by decide)).mul G8 (by decide)
  have U9 := (ib_c 19 19 19 rfl (by decide)).mul G9 (by decide)
  have P0 := (((((((((((F0).mul (G0) (by decide)).add ((D1).mul (U9) (by decide)) (by decide)).add ((F2).mul (U8) (by decide)) (by decide)).add ((D3).mul (U7) (by decide)) (by decide)).add ((F4).mul (U6) (by decide)) (by decide)).add ((D5).mul (U5) (by decide)) (by decide)).add ((F6).mul (U4) (by decide)) (by decide)).add ((D7).mul (U3) (by decide)) (by decide)).add ((F8).mul (U2) (by decide)) (by decide)).add ((D9).mul (U1) (by decide)) (by decide))
  have P1 := (((((((((((F0).mul (G1) (by decide)).add ((F1).mul (G0) (by decide)) (by decide)).add ((F2).mul (U9) (by decide)) (by decide)).add ((F3).mul (U8) (by decide)) (by decide)).add ((F4).mul (U7) (by decide)) (by decide)).add ((F5).mul (U6) (by decide)) (by decide)).add ((F6).mul (U5) (by decide)) (by decide)).add ((F7).mul (U4) (by decide)) (by decide)).add ((F8).mul (U3) (by decide)) (by decide)).add ((F9).mul (U2) (by decide)) (by decide))
  have P2 := (((((((((((F0).mul (G2) (by decide)).add ((D1).mul (G1) (by decide)) (by decide)).add ((F2).mul (G0) (by decide)) (by decide)).add ((D3).mul (U9) (by decide)) (by decide)).add ((F4).mul (U8) (by decide)) (by decide)).add ((D5).mul (U7) (by decide)) (by decide)).add ((F6).mul (U6) (by decide)) (by decide)).add ((D7).mul (U5) (by decide)) (by decide)).add ((F8).mul (U4) (by decide)) (by decide)).add ((D9).mul (U3) (by decide)) (by decide))
  have P3 := (((((((((((F0).mul (G3) (by decide)).add ((F1).mul (G2) (by decide)) (by decide)).add ((F2).mul (G1) (by decide)) (by decide)).add ((F3).mul (G0) (by decide)) (by decide)).add ((F4).mul (U9) (by decide)) (by decide)).add ((F5).mul (U8) (by decide)) (by decide)).add ((F6).mul (U7) (by decide)) (by decide)).add ((F7).mul (U6) (by decide)) (by decide)).add ((F8).mul (U5) (by decide)) (by decide)).add ((F9).mul (U4) (by decide)) (by decide))
  have P4 := (((((((((((F0).mul (G4) (by decide)).add ((D1).mul (G3) (by decide)) (by decide)).add ((F2).mul (G2) (by decide)) (by decide)).add ((D3).mul (G1) (by decide)) (by decide)).add ((F4).mul (G0) (by decide)) (by decide)).add ((D5).mul (U9) (by decide)) (by decide)).add ((F6).mul (U8) (by decide)) (by decide)).add ((D7).mul (U7) (by decide)) (by decide)).add ((F8).mul (U6) (by decide)) (by decide)).add ((D9).mul (U5) (by decide)) (by decide))
  have P5 := (((((((((((F0).mul (G5) (by decide)).add ((F1).mul (G4) (by decide)) (by decide)).add ((F2).mul (G3) (by decide)) (by decide)).add ((F3).mul (G2) (by decide)) (by decide)).add ((F4).mul (G1) (by decide)) (by decide)).add ((F5).mul (G0) (by decide)) (by decide)).add ((F6).mul (U9) (by decide)) (by decide)).add ((F7).mul (U8) (by decide)) (by decide)).add ((F8).mul (U7) (by decide)) (by decide)).add ((F9).mul (U6) (by decide)) (by decide))
  have P6 := (((((((((((F0).mul (G6) (by decide)).add ((D1).mul (G5) (by decide)) (by decide)).add ((F2).mul (G4) (by decide)) (by decide)).add ((D3).mul (G3) (by decide)) (by decide)).add ((F4).mul (G2) (by decide)) (by decide)).add ((D5).mul (G1) (by decide)) (by decide)).add ((F6).mul (G0) (by decide)) (by decide)).add ((D7).mul (U9) (by decide)) (by decide)).add ((F8).mul (U8) (by decide)) (by decide)).add ((D9).mul (U7) (by decide)) (by decide))
  have P7 := (((((((((((F0).mul (G7) (by decide)).add ((F1).mul (G6) (by decide)) (by decide)).add ((F2).mul (G5) (by decide)) (by decide)).add ((F3).mul (G4) (by decide)) (by decide)).add ((F4).mul (G3) (by decide)) (by decide)).add ((F5).mul (G2) (by decide)) (by decide)).add ((F6).mul (G1) (by decide)) (by decide)).add ((F7).mul (G0) (by decide)) (by decide)).add ((F8).mul (U9) (by decide)) (by decide)).add ((F9).mul (U8) (by decide)) (by decide))
  have P8 := (((((((((((F0).mul (G8) (by decide)).add ((D1).mul (G7) (by decide)) (by decide)).add ((F2).mul (G6) (by decide)) (by decide)).add ((D3).mul (G5) (by decide)) (by decide)).add ((F4).mul (G4) (by decide)) (by decide)).add ((D5).mul (G3) (by decide)) (by decide)).add ((F6).mul (G2) (by decide)) (by decide)).add ((D7).mul (G1) (by decide)) (by decide)).add ((F8).mul (G0) (by decide)) (by decide)).add ((D9).mul (U9) (by decide)) (by decide))
  have P9 := (((((((((((F0).mul (G9) (by decide)).add ((F1).mul (G8) (by decide)) (by decide)).add ((F2).mul (G7) (by decide)) (by decide)).add ((F3).mul (G6) (by decide)) (by decide)).add ((F4).mul (G5) (by decide)) (by decide)).add ((F5).mul (G4) (by decide)) (by decide)).add ((F6).mul (G3) (by decide)) (by decide)).add ((F7).mul (G2) (by decide)) (by decide)).add ((F8).mul (G1) (by decide)) (by decide)).add ((F9).mul (G0) (by decide)) (by decide))
  have E0 : lg N k1 0 = (lg M k2 0)*(lg M k3 0) + (2*(lg M k2 1))*(19*(lg M k3 9)) + (lg M k2 2)*(19*(lg M k3 8)) + (2*(lg M k2 3))*(19*(lg M k3 7)) + (lg M k2 4)*(19*(lg M k3 6)) + (2*(lg M k2 5))*(19*(lg M k3 5)) + (lg M k2 6)*(19*(lg M k3 4)) + (2*(lg M k2 7))*(19*(lg M k3 3)) + (lg M k2 8)*(19*(lg M k3 2)) + (2*(lg M k2 9))*(19*(lg M k3 1)) := by unfold lg; rw [hN 0 (by decide)]; exact P0.1
  have E1 : lg N k1 1 = (lg M k2 0)*(lg M k3 1) + (lg M k2 1)*(lg M k3 0) + (lg M k2 2)*(19*(lg M k3 9)) + (lg M k2 3)*(19*(lg M k3 8)) + (lg M k2 4)*(19*(lg M k3 7)) + (lg M k2 5)*(19*(lg M k3 6)) + (lg M k2 6)*(19*(lg M k3 5)) + (lg M k2 7)*(19*(lg M k3 4)) + (lg M k2 8)*(19*(lg M k3 3)) + (lg M k2 9)*(19*(lg M k3 2)) := by unfold lg; rw [hN 1 (by decide)]; exact P1.1
  have E2 : lg N k1 2 = (lg M k2 0)*(lg M k3 2) + (2*(lg M k2 1))*(lg M k3 1) + (lg M k2 2)*(lg M k3 0) + (2*(lg M k2 3))*(19*(lg M k3 9)) + (lg M k2 4)*(19*(lg M k3 8)) + (2*(lg M k2 5))*(19*(lg M k3 7)) + (lg M k2 6)*(19*(lg M k3 6)) + (2*(lg M k2 7))*(19*(lg M k3 5)) + (lg M k2 8)*(19*(lg M k3 4)) + (2*(lg M k2 9))*(19*(lg M k3 3)) := by unfold lg; rw [hN 2 (by decide)]; exact P2.1
  have E3 : lg N k1 3 = (lg M k2 0)*(lg M k3 3) + (lg M k2 1)*(lg M k3 2) + (lg M k2 2)*(lg M k3 1) + (lg M k2 3)*(lg M k3 0) + (lg M k2 4)*(19*(lg M k3 9)) + (lg M k2 5)*(19*(lg M k3 8)) + (lg M k2 6)*(19*(lg M k3 7)) + (lg M k2 7)*(19*(lg M k3 6)) + (lg M k2 8)*(19*(lg M k3 5)) + (lg M k2 9)*(19*(lg M k3 4)) := by unfold lg; rw [hN 3 (by decide)]; exact P3.1
  have E4 : lg N k1 4 = (lg M k2 0)*(lg M k3 4) + (2*(lg M k2 1))*(lg M k3 3) + (lg M k2 2)*(lg M k3 2) + (2*(lg M k2 3))*(lg M k3 1) + (lg M k2 4)*(lg M k3 0) + (2*(lg M k2 5))*(19*(lg M k3 9)) + (lg M k2 6)*(19*(lg M k3 8)) + (2*(lg M k2 7))*(19*(lg M k3 7)) + (lg M k2 8)*(19*(lg M k3 6)) + (2*(lg M k2 9))*(19*(lg M k3 5)) := by unfold lg; rw [hN 4 (by decide)]; exact P4.1
  have E5 : lg N k1 5 = (lg M k2 0)*(lg M k3 5) + (lg M k2 1)*(lg M k3 4) + (lg M k2 2)*(lg M k3 3) + (lg M k2 3)*(lg M k3 2) + (lg M k2 4)*(lg M k3 1) + (lg M k2 5)*(lg M k3 0) + (lg M k2 6)*(19*(lg M k3 9)) + (lg M k2 7)*(19*(lg M k3 8)) + (lg M k2 8)*(19*(lg M k3 7)) + (lg M k2 9)*(19*(lg M k3 6)) := by unfold lg; rw [hN 5 (by decide)]; exact P5.1
  have E6 : lg N k1 6 = (lg M k2 0)*(lg M k3 6) + (2*(lg M k2 1))*(lg M k3 5) + (lg M k2 2)*(lg M k3 4) + (2*(lg M k2 3))*(lg M k3 3) + (lg M k2 4)*(lg M k3 2) + (2*(lg M k2 5))*(lg M k3 1) + (lg M k2 6)*(lg M k3 0) + (2*(lg M k2 7))*(19*(lg M k3 9)) + (lg M k2 8)*(19*(lg M k3 8)) + (2*(lg M k2 9))*(19*(lg M k3 7)) := by unfold lg; rw [hN 6 (by decide)]; exact P6.1
  have E7 : lg N k1 7 = (lg M k2 0)*(lg M k3 7) + (lg M k2 1)*(lg M k3 6) + (lg M k2 2)*(lg M k3 5) + (lg M k2 3)*(lg M k3 4) + (lg M k2 4)*(lg M k3 3) + (lg M k2 5)*(lg M k3 2) + (lg M k2 6)*(lg M k3 1) + (lg M k2 7)*(lg M k3 0) + (lg M k2 8)*(19*(lg M k3 9)) + (lg M k2 9)*(19*(lg M k3 8)) := by unfold lg; rw [hN 7 (by decide)]; exact P7.1
  have E8 : lg N k1 8 = (lg M k2 0)*(lg M k3 8) + (2*(lg M k2 1))*(lg M k3 7) + (lg M k2 2)*(lg M k3 6) + (2*(lg M k2 3))*(lg M k3 5) + (lg M k2 4)*(lg M k3 4) + (2*(lg M k2 5))*(lg M k3 3) + (lg M k2 6)*(lg M k3 2) + (2*(lg M k2 7))*(lg M k3 1) + (lg M k2 8)*(lg M k3 0) + (2*(lg M k2 9))*(19*(lg M k3 9)) := by unfold lg; rw [hN 8 (by decide)]; exact P8.1
  have E9 : lg N k1 9 = (lg M k2 0)*(lg M k3 9) + (lg M k2 1)*(lg M k3 8) + (lg M k2 2)*(lg M k3 7) + (lg M k2 3)*(lg M k3 6) + (lg M k2 4)*(lg M k3 5) + (lg M k2 5)*(lg M k3 4) + (lg M k2 6)*(lg M k3 3) + (lg M k2 7)*(lg M k3 2) + (lg M k2 8)*(lg M k3 1) + (lg M k2 9)*(lg M k3 0) := by unfold lg; rw [hN 9 (by decide)]; exact P9.1
  have L0 : (lg N k1 0).natAbs ≤ 2305843009213693952 := by rw [E0]; exact Nat.le_trans P0.2 (by decide)
  have L1 : (lg N k1 1).natAbs ≤ 2305843009213693952 := by rw [E1]; exact Nat.le_trans P1.2 (by decide)
  have L2 : (lg N k1 2).natAbs ≤ 2305843009213693952 := by rw [E2]; exact Nat.le_trans P2.2 (by decide)
  have L3 : (lg N k1 3).natAbs ≤ 2305843009213693952 := by rw [E3]; exact Nat.le_trans P3.2 (by decide)
  have L4 : (lg N k1 4).natAbs ≤ 2305843009213693952 := by rw [E4]; exact Nat.le_trans P4.2 (by decide)
  have L5 : (lg N k1 5).natAbs ≤ 2305843009213693952 := by rw [E5]; exact Nat.le_trans P5.2 (by decide)
  have L6 : (lg N k1 6).natAbs ≤ 2305843009213693952 := by rw [E6]; exact Nat.le_trans P6.2 (by decide)
  have L7 : (lg N k1 7).natAbs ≤ 2305843009213693952 := by rw [E7]; exact Nat.le_trans P7.2 (by decide)
  have L8 : (lg N k1 8).natAbs ≤ 2305843009213693952 := by rw [E8]; exact Nat.le_trans P8.2 (by decide)
  have L9 : (lg N k1 9).natAbs ≤ 2305843009213693952 := by rw [E9]; exact Nat.le_trans P9.2 (by decide)
  have hb : ∀ i, i < 10 → (lg N k1 i).natAbs ≤ 2305843009213693952 := by
    intro i hi
    have : i = 0 ∨ i = 1 ∨ i = 2 ∨ i = 3 ∨ i = 4 ∨ i = 5 ∨ i = 6 ∨ i = 7 ∨ i = 8 ∨ i = 9 := by omega
    rcases this with h | h | h | h | h | h | h | h | h | h <;> subst h
    · exact L0
    · exact L1
    · exact L2
    · exact L3
    · exact L4
    · exact L5
    · exact L6
    · exact L7
    · exact L8
    · exact L9
  obtain ⟨c1, c2, q, c3⟩ := e_carry k1 N hb
  refine ⟨c1, c2, ?_⟩
  have hv : v10 N k1 = v10 M k2 * v10 M k3 - pP * (((2*(lg M k2 1)*(lg M k3 9)+(lg M k2 2)*(lg M k3 8)+2*(lg M k2 3)*(lg M k3 7)+(lg M k2 4)*(lg M k3 6)+2*(lg M k2 5)*(lg M k3 5)+(lg M k2 6)*(lg M k3 4)+2*(lg M k2 7)*(lg M k3 3)+(lg M k2 8)*(lg M k3 2)+2*(lg M k2 9)*(lg M k3 1)) + 2^26*((lg M k2 2)*(lg M k3 9)+(lg M k2 3)*(lg M k3 8)+(lg M k2 4)*(lg M k3 7)+(lg M k2 5)*(lg M k3 6)+(lg M k2 6)*(lg M k3 5)+(lg M k2 7)*(lg M k3 4)+(lg M k2 8)*(lg M k3 3)+(lg M k2 9)*(lg M k3 2)) + 2^51*(2*(lg M k2 3)*(lg M k3 9)+(lg M k2 4)*(lg M k3 8)+2*(lg M k2 5)*(lg M k3 7)+(lg M k2 6)*(lg M k3 6)+2*(lg M k2 7)*(lg M k3 5)+(lg M k2 8)*(lg M k3 4)+2*(lg M k2 9)*(lg M k3 3)) + 2^77*((lg M k2 4)*(lg M k3 9)+(lg M k2 5)*(lg M k3 8)+(lg M k2 6)*(lg M k3 7)+(lg M k2 7)*(lg M k3 6)+(lg M k2 8)*(lg M k3 5)+(lg M k2 9)*(lg M k3 4)) + 2^102*(2*(lg M k2 5)*(lg M k3 9)+(lg M k2 6)*(lg M k3 8)+2*(lg M k2 7)*(lg M k3 7)+(lg M k2 8)*(lg M k3 6)+2*(lg M k2 9)*(lg M k3 5)) + 2^128*((lg M k2 6)*(lg M k3 9)+(lg M k2 7)*(lg M k3 8)+(lg M k2 8)*(lg M k3 7)+(lg M k2 9)*(lg M k3 6)) + 2^153*(2*(lg M k2 7)*(lg M k3 9)+(lg M k2 8)*(lg M k3 8)+2*(lg M k2 9)*(lg M k3 7)) + 2^179*((lg M k2 8)*(lg M k3 9)+(lg M k2 9)*(lg M k3 8)) + 2^204*(2*(lg M k2 9)*(lg M k3 9)))) := by
    unfold v10
    rw [v10_eq, v10_eq, v10_eq, E0, E1, E2, E3, E4, E5, E6, E7, E8, E9]
    exact fe_mul10 _ _ _ _ _ _ _ _ _ _ _ _ _ _ _ _ _ _ _ _
  rw [c3, hv]
  generalize ((2*(lg M k2 1)*(lg M k3 9)+(lg M k2 2)*(lg M k3 8)+2*(lg M k2 3)*(lg M k3 7)+(lg M k2 4)*(lg M k3 6)+2*(lg M k2 5)*(lg M k3 5)+(lg M k2 6)*(lg M k3 4)+2*(lg M k2 7)*(lg M k3 3)+(lg M k2 8)*(lg M k3 2)+2*(lg M k2 9)*(lg M k3 1)) + 2^26*((lg M k2 2)*(lg M k3 9)+(lg M k2 3)*(lg M k3 8)+(lg M k2 4)*(lg M k3 7)+(lg M k2 5)*(lg M k3 6)+(lg M k2 6)*(lg M k3 5)+(lg M k2 7)*(lg M k3 4)+(lg M k2 8)*(lg M k3 3)+(lg M k2 9)*(lg M k3 2)) + 2^51*(2*(lg M k2 3)*(lg M k3 9)+(lg M k2 4)*(lg M k3 8)+2*(lg M k2 5)*(lg M k3 7)+(lg M k2 6)*(lg M k3 6)+2*(lg M k2 7)*(lg M k3 5)+(lg M k2 8)*(lg M k3 4)+2*(lg M k2 9)*(lg M k3 3)) + 2^77*((lg M k2 4)*(lg M k3 9)+(lg M k2 5)*(lg M k3 8)+(lg M k2 6)*(lg M k3 7)+(lg M k2 7)*(lg M k3 6)+(lg M k2 8)*(lg M k3 5)+(lg M k2 9)*(lg M k3 4)) + 2^102*(2*(lg M k2 5)*(lg M k3 9)+(lg M k2 6)*(lg M k3 8)+2*(lg M k2 7)*(lg M k3 7)+(lg M k2 8)*(lg M k3 6)+2*(lg M k2 9)*(lg M k3 5)) + 2^128*((lg M k2 6)*(lg M k3 9)+(lg M k2 7)*(lg M k3 8)+(lg M k2 8)*(lg M k3 7)+(lg M k2 9)*(lg M k3 6)) + 2^153*(2*(lg M k2 7)*(lg M k3 9)+(lg M k2 8)*(lg M k3 8)+2*(lg M k2 9)*(lg M k3 7)) + 2^179*((lg M k2 8)*(lg M k3 9)+(lg M k2 9)*(lg M k3 8)) + 2^204*(2*(lg M k2 9)*(lg M k3 9))) = Z
  exact ⟨q - Z, by grind⟩
