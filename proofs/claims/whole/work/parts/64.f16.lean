/-! the reference's field: sixteen limbs -/
def w16 (i : Nat) : Int := 65536 ^ i
def v16 (M : mm_M) (k : Nat) : Int := ws w16 (lg M k) 16
theorem w16_1 (t : Nat) : w16 (t + 1) = w16 t * 65536 := by unfold w16; rw [Int.pow_succ]
def r_lo (a : Int64) : Int64 := (a + 65536) - (((a + 65536) >>> (((16 : Int32)).toInt64 &&& 63)) <<< (((16 : Int32)).toInt64 &&& 63))
def r_up (a : Int64) : Int64 := ((a + 65536) >>> (((16 : Int32)).toInt64 &&& 63)) - 1
theorem r_lu (a : Int64) (h : a.toInt.natAbs ≤ 1152921504606846976) : (r_lo a).toInt = a.toInt % 65536 ∧ (r_up a).toInt = a.toInt / 65536 := by
  have i1 := (ib.of a h).add (ib_c 65536 65536 65536 rfl (by decide)) (by decide)
  have i2 := i1.sr (((16 : Int32)).toInt64 &&& 63) 16 65536 17592186044418 (by decide) (by decide) (by decide) (by decide)
  have i3 := i1.sub (i2.sl (((16 : Int32)).toInt64 &&& 63) 16 65536 2305843009213693952 (by decide) (by decide) (by decide) (by decide) (by decide)) (by decide)
  have i4 := i2.sub (ib_c 1 1 1 rfl (by decide)) (by decide)
  have e0 : (r_lo a).toInt = _ := i3.1
  have e1 : (r_up a).toInt = _ := i4.1
  rw [e0, e1]
  clear e0 e1 i1 i2 i3 i4
  generalize a.toInt = A at *
  constructor <;> omega
theorem r_cs (k : Nat) (σ : mm_M) (t : Nat) (ht : t < 15) (i : Nat) : (f_X12_carried_L2 k σ (t + 1)).2 k i = if i = t then r_lo ((f_X12_carried_L2 k σ t).2 k t) else if i = t + 1 then (f_X12_carried_L2 k σ t).2 k (t + 1) + r_up ((f_X12_carried_L2 k σ t).2 k t) else (f_X12_carried_L2 k σ t).2 k i := by
  rw [f_X12_carried_L2]
  generalize f_X12_carried_L2 k σ t = R
  unfold f_X12_carried_B1
  rw [if_neg (by omega), rd_wlS]
  by_cases h1 : i = t
  · subst h1
    rw [if_pos rfl, rd_wlS, rd_wlN _ _ _ _ (Or.inr (by omega)), rd_wlS]
    rfl
  · rw [if_neg h1, rd_wlN _ _ _ _ (Or.inr h1)]
    by_cases h2 : i = t + 1
    · subst h2
      rw [if_pos rfl, rd_wlS, rd_wlN _ _ _ _ (Or.inr (by omega))]
      rfl
    · rw [if_neg h2, rd_wlN _ _ _ _ (Or.inr h2), rd_wlN _ _ _ _ (Or.inr h1)]
theorem r_cs15 (k : Nat) (σ : mm_M) (i : Nat) : (f_X12_carried_L2 k σ (15 + 1)).2 k i = if i = 15 then r_lo ((f_X12_carried_L2 k σ 15).2 k 15) else if i = 0 then (f_X12_carried_L2 k σ 15).2 k 0 + 38 * r_up ((f_X12_carried_L2 k σ 15).2 k 15) else (f_X12_carried_L2 k σ 15).2 k i := by
  rw [f_X12_carried_L2]
  generalize f_X12_carried_L2 k σ 15 = R
  unfold f_X12_carried_B1
  rw [if_pos (by omega), rd_wlS]
  by_cases h1 : i = 15
  · subst h1
    rw [if_pos rfl, rd_wlS, rd_wlN _ _ _ _ (Or.inr (by omega)), rd_wlS]
    rfl
  · rw [if_neg h1, rd_wlN _ _ _ _ (Or.inr h1)]
    by_cases h2 : i = 0
    · subst h2
      rw [if_pos rfl, rd_wlS, rd_wlN _ _ _ _ (Or.inr (by omega))]
      rfl
    · rw [if_neg h2, rd_wlN _ _ _ _ (Or.inr h2), rd_wlN _ _ _ _ (Or.inr h1)]
theorem ws_two {w a b : Nat → Int} {k n : Nat} {x y : Int} (hk : k + 1 < n) (h : ∀ i, i < n → b i = if i = k then a i + x else if i = k + 1 then a i + y else a i) : ws w b n = ws w a n + x * w k + y * w (k + 1) := by
  rw [ws_upd (w := w) (a := fun i => if i = k then a i + x else a i) (b := b) (k := k + 1) (x := y) hk (fun i hi => by
    rw [h i hi]
    by_cases e : i = k
    · rw [if_pos e, if_neg (by omega), if_pos e]
    · rw [if_neg e]
      by_cases e2 : i = k + 1
      · rw [if_pos e2, if_pos e2, if_neg e]
      · rw [if_neg e2, if_neg e2, if_neg e]), ws_upd (w := w) (a := a) (b := fun i => if i = k then a i + x else a i) (k := k) (x := x) (by omega) (fun i hi => rfl)]
theorem r_carryL (k : Nat) (M : mm_M) (hb : ∀ i, i < 16 → (lg M k i).natAbs ≤ 70368744177664) : ∀ t, t ≤ 15 →
    (∀ i, i < t → 0 ≤ lg (f_X12_carried_L2 k M t) k i ∧ lg (f_X12_carried_L2 k M t) k i ≤ 65535) ∧ (∀ i, t < i → lg (f_X12_carried_L2 k M t) k i = lg M k i) ∧ (lg (f_X12_carried_L2 k M t) k t).natAbs ≤ 140737488355328 ∧ ws w16 (lg (f_X12_carried_L2 k M t) k) 16 = ws w16 (lg M k) 16
  | 0, _ => ⟨fun i hi => absurd hi (by omega), fun _ _ => rfl, Nat.le_trans (hb 0 (by decide)) (by decide), rfl⟩
  | t + 1, ht => by
    obtain ⟨h1, h2, h3, h4⟩ := r_carryL k M hb t (by omega)
    have hr := r_cs k M t (by omega)
    generalize f_X12_carried_L2 k M (t + 1) = N at *
    generalize f_X12_carried_L2 k M t = R at *
    obtain ⟨c0, c1⟩ := r_lu (R.2 k t) (Nat.le_trans h3 (by decide))
    have hbt : (lg M k (t + 1)).natAbs ≤ 70368744177664 := hb (t + 1) (by omega)
    have e2 : lg R k (t + 1) = lg M k (t + 1) := h2 (t + 1) (by omega)
    have rt : lg N k t = lg R k t % 65536 := by unfold lg; rw [hr t, if_pos rfl]; exact c0
    have ru : lg N k (t + 1) = lg R k (t + 1) + lg R k t / 65536 := by
      have e3 : (R.2 k (t + 1)).toInt.natAbs ≤ 70368744177664 := by rw [show (R.2 k (t + 1)).toInt = lg M k (t + 1) from e2]; exact hbt
      have h3' : (R.2 k t).toInt.natAbs ≤ 140737488355328 := h3
      have hu : (r_up (R.2 k t)).toInt.natAbs ≤ 2147483649 := by
        rw [c1]
        generalize (R.2 k t).toInt = A at *
        omega
      show (N.2 k (t + 1)).toInt = (R.2 k (t + 1)).toInt + (R.2 k t).toInt / 65536
      rw [hr (t + 1), if_neg (by omega), if_pos rfl, ← c1]
      exact ((ib.of _ e3).add (ib.of _ hu) (by decide)).1
    have ro : ∀ i, i ≠ t → i ≠ t + 1 → lg N k i = lg R k i := fun i a b => by unfold lg; rw [hr i, if_neg a, if_neg b]
    refine ⟨fun i hi => ?_, fun i hi => ?_, ?_, ?_⟩
    · by_cases e : i = t
      · subst e
        rw [rt]
        generalize lg R k i = A
        omega
      · rw [ro i e (by omega)]; exact h1 i (by omega)
    · rw [ro i (by omega) (by omega)]; exact h2 i (by omega)
    · rw [ru, e2]
      generalize lg R k t = A at *
      generalize lg M k (t + 1) = B at *
      omega
    · rw [← h4]
      rw [ws_two (w := w16) (a := lg R k) (b := lg N k) (k := t) (n := 16) (x := -(lg R k t / 65536 * 65536)) (y := lg R k t / 65536) (by omega) (fun i hi => by
        by_cases e : i = t
        · subst e
          rw [if_pos rfl, rt]
          generalize lg R k i = A
          omega
        · rw [if_neg e]
          by_cases e9 : i = t + 1
          · subst e9; rw [if_pos rfl, ru]
          · rw [if_neg e9, ro i e e9]), w16_1]
      generalize lg R k t / 65536 = Q
      generalize w16 t = W
      grind
theorem ws16_lo (a : Nat → Int) : ∀ n, (∀ i, i < n → 0 ≤ a i ∧ a i ≤ 65535) → 0 ≤ ws w16 a n ∧ ws w16 a n < w16 n
  | 0, _ => ⟨Int.le_refl _, (show (0 : Int) < 1 from by decide)⟩
  | n + 1, h => by
    obtain ⟨h1, h2⟩ := ws16_lo a n (fun i hi => h i (by omega))
    obtain ⟨h3, h4⟩ := h n (by omega)
    rw [ws, w16_1]
    have h5 : 0 ≤ a n * w16 n := Int.mul_nonneg h3 (by omega)
    have h6 : a n * w16 n ≤ 65535 * w16 n := Int.mul_le_mul_of_nonneg_right h4 (by omega)
    constructor <;> omega
def r_dg (R : mm_M) (k i : Nat) : Int := if i = 15 then lg R k 15 % 65536 else lg R k i
theorem r_dg15 (R : mm_M) (k : Nat) : r_dg R k 15 = lg R k 15 % 65536 := if_pos rfl
theorem r_dgN (R : mm_M) (k : Nat) {i : Nat} (h : i ≠ 15) : r_dg R k i = lg R k i := if_neg h
/-- what carried does: the digits of v, and what passes the top comes back 38 times -/
theorem r_carry (k : Nat) (M : mm_M) (hb : ∀ i, i < 16 → (lg M k i).natAbs ≤ 70368744177664) : ∃ d : Nat → Int, ∃ q : Int,
    (∀ i, i < 16 → 0 ≤ d i ∧ d i ≤ 65535) ∧ (∀ i, i < 16 → lg (f_X12_carried k M) k i = if i = 0 then d 0 + 38 * q else d i) ∧ q.natAbs ≤ 2147483649 ∧ v16 M k = ws w16 d 16 + q * w16 16 := by
  obtain ⟨h1, h2, h3, h4⟩ := r_carryL k M hb 15 (by decide)
  have hr := r_cs15 k M
  unfold f_X12_carried
  unfold v16
  rw [← h4]
  generalize f_X12_carried_L2 k M (15 + 1) = N at *
  generalize f_X12_carried_L2 k M 15 = R at *
  obtain ⟨c0, c1⟩ := r_lu (R.2 k 15) (Nat.le_trans h3 (by decide))
  have hq : (lg R k 15 / 65536).natAbs ≤ 2147483649 := by
    generalize lg R k 15 = A at *
    omega
  refine ⟨r_dg R k, lg R k 15 / 65536, fun i hi => ?_, fun i hi => ?_, hq, ?_⟩
  · by_cases e : i = 15
    · rw [e, r_dg15]
      generalize lg R k 15 = A
      omega
    · rw [r_dgN R k e]; exact h1 i (by omega)
  · by_cases e : i = 15
    · subst e
      rw [if_neg (by decide), r_dg15]
      show (N.2 k 15).toInt = (R.2 k 15).toInt % 65536
      rw [hr 15, if_pos rfl]; exact c0
    · by_cases e0 : i = 0
      · subst e0
        rw [if_pos rfl, r_dgN R k (by decide)]
        have b0 := h1 0 (by decide)
        have hu : (r_up (R.2 k 15)).toInt.natAbs ≤ 2147483649 := by rw [c1]; exact hq
        show (N.2 k 0).toInt = (R.2 k 0).toInt + 38 * ((R.2 k 15).toInt / 65536)
        rw [hr 0, if_neg (by decide), if_pos rfl, ← c1]
        exact ((ib.of (R.2 k 0) (b := 65535) (by have : lg R k 0 = (R.2 k 0).toInt := rfl; omega)).add ((ib_c 38 38 38 rfl (by decide)).mul (ib.of _ hu) (by decide)) (by decide)).1
      · rw [if_neg e0, r_dgN R k e]
        show (N.2 k i).toInt = (R.2 k i).toInt
        rw [hr i, if_neg e, if_neg e0]
  · rw [ws_upd (w := w16) (a := lg R k) (b := r_dg R k) (k := 15) (x := -(lg R k 15 / 65536 * 65536)) (n := 16) (by decide) (fun i hi => by
      by_cases e : i = 15
      · rw [if_pos e, e, r_dg15]
        generalize lg R k 15 = A
        omega
      · rw [if_neg e, r_dgN R k e]), show w16 16 = w16 15 * 65536 from w16_1 15]
    generalize lg R k 15 / 65536 = Q
    generalize w16 15 = W
    grind
