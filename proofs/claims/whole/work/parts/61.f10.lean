/-! the engine's field: ten limbs -/
def w10 (i : Nat) : Int := 2 ^ (25 * i + (i + 1) / 2)
def v10 (M : mm_M) (k : Nat) : Int := ws w10 (lg M k) 10
def pP : Int := 2 ^ 255 - 19
/-- one round of carry's loop, on its three longs -/
def e_ca (a y : Int64) : Int64 := ((a + y) + (33554432)) >>> (((26 : Int32)).toInt64 &&& 63)
def e_c0 (a y : Int64) : Int64 := (a + y) - ((e_ca a y) <<< (((26 : Int32)).toInt64 &&& 63))
def e_c2 (a b y : Int64) : Int64 := ((b + e_ca a y) + (16777216)) >>> (((25 : Int32)).toInt64 &&& 63)
def e_c1 (a b y : Int64) : Int64 := (b + e_ca a y) - ((e_c2 a b y) <<< (((25 : Int32)).toInt64 &&& 63))
theorem e_cs_eq (k : Nat) (σ : mm_M × Int64) (t : Nat) : f_X4_carry_L4 k σ (t + 1) = (mm_wl (mm_wl (f_X4_carry_L4 k σ t).1 k (t * 2) (e_c0 ((f_X4_carry_L4 k σ t).1.2 k (t * 2)) (f_X4_carry_L4 k σ t).2)) k (t * 2 + 1) (e_c1 ((f_X4_carry_L4 k σ t).1.2 k (t * 2)) ((f_X4_carry_L4 k σ t).1.2 k (t * 2 + 1)) (f_X4_carry_L4 k σ t).2), e_c2 ((f_X4_carry_L4 k σ t).1.2 k (t * 2)) ((f_X4_carry_L4 k σ t).1.2 k (t * 2 + 1)) (f_X4_carry_L4 k σ t).2) := by
  rw [f_X4_carry_L4]
  rw [rd_wlN (b := t * 2 + 1) (h := Or.inr (by omega))]
  rfl
theorem e_cs1 (a b y : Int64) (h0 : a.toInt.natAbs ≤ 2305843009213693952) (h1 : b.toInt.natAbs ≤ 2305843009213693952) (hy : y.toInt.natAbs ≤ 274877906944) :
    (e_c0 a y).toInt.natAbs ≤ 33554432 ∧ (e_c1 a b y).toInt.natAbs ≤ 16777216 ∧ (e_c2 a b y).toInt.natAbs ≤ 274877906944 ∧ (e_c0 a y).toInt + (e_c1 a b y).toInt * 67108864 + (e_c2 a b y).toInt * 2251799813685248 = a.toInt + y.toInt + b.toInt * 67108864 := by
  have i1 := (ib.of a h0).add (ib.of y hy) (by decide)
  have i2 := (i1.add (ib_c 33554432 33554432 33554432 rfl (by decide)) (by decide)).sr (((26 : Int32)).toInt64 &&& 63) 26 67108864 68719476736 (by decide) (by decide) (by decide) (by decide)
  have i3 := i1.sub (i2.sl (((26 : Int32)).toInt64 &&& 63) 26 67108864 4611686018427387904 (by decide) (by decide) (by decide) (by decide) (by decide)) (by decide)
  have i4 := (ib.of b h1).add i2 (by decide)
  have i5 := (i4.add (ib_c 16777216 16777216 16777216 rfl (by decide)) (by decide)).sr (((25 : Int32)).toInt64 &&& 63) 25 33554432 137438953472 (by decide) (by decide) (by decide) (by decide)
  have i6 := i4.sub (i5.sl (((25 : Int32)).toInt64 &&& 63) 25 33554432 4611686018427387904 (by decide) (by decide) (by decide) (by decide) (by decide)) (by decide)
  have e0 : (e_c0 a y).toInt = _ := i3.1
  have e1 : (e_c1 a b y).toInt = _ := i6.1
  have e2 : (e_c2 a b y).toInt = _ := i5.1
  have l2 := i5.2
  rw [e0, e1, e2]
  clear e0 e1 e2 i1 i2 i3 i4 i5 i6
  generalize a.toInt = A at *
  generalize b.toInt = B at *
  generalize y.toInt = Y at *
  refine ⟨?_, ?_, ?_, ?_⟩
  · omega
  · omega
  · omega
  · omega
theorem w10_1 (t : Nat) : w10 (2 * t + 1) = w10 (2 * t) * 67108864 := by
  unfold w10
  rw [show 25 * (2 * t + 1) + (2 * t + 1 + 1) / 2 = 25 * (2 * t) + (2 * t + 1) / 2 + 26 from by omega, Int.pow_add]; rfl
theorem w10_2 (t : Nat) : w10 (2 * (t + 1)) = w10 (2 * t) * 2251799813685248 := by
  unfold w10
  rw [show 25 * (2 * (t + 1)) + (2 * (t + 1) + 1) / 2 = 25 * (2 * t) + (2 * t + 1) / 2 + 51 from by omega, Int.pow_add]; rfl
theorem e_carryL (k : Nat) (M : mm_M) (hb : ∀ i, i < 10 → (lg M k i).natAbs ≤ 2305843009213693952) : ∀ t, t ≤ 5 →
    (∀ i, 2 * t ≤ i → (f_X4_carry_L4 k (M, 0) t).1.2 k i = M.2 k i) ∧ (∀ i, i < t → (lg (f_X4_carry_L4 k (M, 0) t).1 k (2 * i)).natAbs ≤ 33554432 ∧ (lg (f_X4_carry_L4 k (M, 0) t).1 k (2 * i + 1)).natAbs ≤ 16777216) ∧ (f_X4_carry_L4 k (M, 0) t).2.toInt.natAbs ≤ 274877906944 ∧
    ws w10 (lg (f_X4_carry_L4 k (M, 0) t).1 k) (2 * t) + (f_X4_carry_L4 k (M, 0) t).2.toInt * w10 (2 * t) = ws w10 (lg M k) (2 * t)
  | 0, _ => ⟨fun _ _ => rfl, fun i hi => absurd hi (by omega), (show (0 : Int64).toInt.natAbs ≤ _ from by decide), by show (0 : Int) + (0 : Int64).toInt * _ = 0; rw [show (0 : Int64).toInt = 0 from rfl]; simp⟩
  | t + 1, ht => by
    obtain ⟨h1, h2, h3, h4⟩ := e_carryL k M hb t (by omega)
    rw [e_cs_eq]
    generalize f_X4_carry_L4 k (M, 0) t = R at *
    obtain ⟨R1, y⟩ := R
    dsimp only at h1 h2 h3 h4 ⊢
    have ea : R1.2 k (t * 2) = M.2 k (2 * t) := by rw [Nat.mul_comm t 2]; exact h1 _ (Nat.le_refl _)
    have eb : R1.2 k (t * 2 + 1) = M.2 k (2 * t + 1) := by rw [Nat.mul_comm t 2]; exact h1 _ (by omega)
    obtain ⟨c0, c1, c2, c3⟩ := e_cs1 (R1.2 k (t * 2)) (R1.2 k (t * 2 + 1)) y (by rw [ea]; exact hb _ (by omega)) (by rw [eb]; exact hb _ (by omega)) h3
    generalize hA : e_c0 (R1.2 k (t * 2)) y = A at *
    generalize hB : e_c1 (R1.2 k (t * 2)) (R1.2 k (t * 2 + 1)) y = B at *
    generalize hC : e_c2 (R1.2 k (t * 2)) (R1.2 k (t * 2 + 1)) y = C at *
    have r1 : ∀ i, i < 2 * t → lg (mm_wl (mm_wl R1 k (t * 2) A) k (t * 2 + 1) B) k i = lg R1 k i := fun i hi => by
      unfold lg
      rw [rd_wlN _ _ _ _ (Or.inr (by omega)), rd_wlN _ _ _ _ (Or.inr (by omega))]
    have r2 : lg (mm_wl (mm_wl R1 k (t * 2) A) k (t * 2 + 1) B) k (2 * t) = A.toInt := by
      unfold lg
      rw [rd_wlN _ _ _ _ (Or.inr (by omega)), Nat.mul_comm 2 t, rd_wlS]
    have r3 : lg (mm_wl (mm_wl R1 k (t * 2) A) k (t * 2 + 1) B) k (2 * t + 1) = B.toInt := by
      unfold lg
      rw [Nat.mul_comm 2 t, rd_wlS]
    refine ⟨fun i hi => ?_, fun i hi => ?_, c2, ?_⟩
    · rw [rd_wlN _ _ _ _ (Or.inr (by omega)), rd_wlN _ _ _ _ (Or.inr (by omega))]
      exact h1 i (by omega)
    · rcases Nat.lt_or_ge i t with q | q
      · rw [r1 _ (by omega), r1 _ (by omega)]; exact h2 i q
      · rw [show i = t from by omega, r2, r3]
        exact ⟨c0, c1⟩
    · rw [w10_2, show 2 * (t + 1) = 2 * t + 1 + 1 from by omega, ws, ws, ws, ws, ws_congr r1, r2, r3, w10_1, show lg M k (2 * t) = (R1.2 k (t * 2)).toInt from by rw [ea]; rfl, show lg M k (2 * t + 1) = (R1.2 k (t * 2 + 1)).toInt from by rw [eb]; rfl]
      rw [← h4]
      generalize w10 (2 * t) = W
      generalize ws w10 (lg R1 k) (2 * t) = S
      have : (A.toInt + B.toInt * 67108864 + C.toInt * 2251799813685248) * W = ((R1.2 k (t * 2)).toInt + y.toInt + (R1.2 k (t * 2 + 1)).toInt * 67108864) * W := by rw [c3]
      grind
