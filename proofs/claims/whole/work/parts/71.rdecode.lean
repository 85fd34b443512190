/-! the reference's point -/
theorem l_emod (x : Int64) (k : Nat) (hk : k ≤ 62) : x.toInt % 2 ^ k = ((x.toBitVec.toNat % 2 ^ k : Nat) : Int) := by
  have e : x.toInt = x.toBitVec.toInt := rfl
  rw [e, BitVec.toInt_eq_toNat_bmod]
  have h : ((x.toBitVec.toNat : Int).bmod (2 ^ 64)) % 2 ^ k = (x.toBitVec.toNat : Int) % 2 ^ k := by
    have hd : ((2 : Int) ^ k) ∣ ((2 ^ 64 : Nat) : Int) := by
      refine ⟨2 ^ (64 - k), ?_⟩
      rw [← Int.pow_add, show k + (64 - k) = 64 from by omega]
      rfl
    have := Int.bmod_emod (x := (x.toBitVec.toNat : Int)) (m := 2 ^ 64)
    obtain ⟨c, hc⟩ := hd
    have h1 : ((x.toBitVec.toNat : Int).bmod (2 ^ 64)) % (2 ^ k * c) = (x.toBitVec.toNat : Int) % (2 ^ k * c) := by rw [← hc]; exact this
    have h2 : ((x.toBitVec.toNat : Int).bmod (2 ^ 64)) % (2 ^ k * c) % 2 ^ k = (x.toBitVec.toNat : Int) % (2 ^ k * c) % 2 ^ k := by rw [h1]
    rw [Int.emod_emod_of_dvd _ (Int.dvd_mul_right _ c), Int.emod_emod_of_dvd _ (Int.dvd_mul_right _ c)] at h2
    exact h2
  rw [h]
  rw [Int.natCast_emod]
  simp
theorem l_and (x m : Int64) (k : Nat) (hk : k ≤ 62) (hm : m.toBitVec.toNat = 2 ^ k - 1) : (x &&& m).toInt = x.toInt % 2 ^ k := by
  rw [l_emod x k hk]
  have h1 : (x &&& m).toBitVec.toNat = x.toBitVec.toNat % 2 ^ k := by
    rw [Int64.toBitVec_and, BitVec.toNat_and, hm, Nat.and_two_pow_sub_one_eq_mod]
  have h2 : x.toBitVec.toNat % 2 ^ k < 2 ^ k := Nat.mod_lt _ (Nat.pow_pos (by decide))
  have h3 : 2 ^ k ≤ 4611686018427387904 := Nat.pow_le_pow_right (n := 2) (by decide) hk
  show (x &&& m).toBitVec.toInt = _
  rw [BitVec.toInt_eq_toNat_of_lt (by rw [h1]; omega), h1]
theorem l_255 (z : Int32) : (z.toInt64 &&& 255).toInt = ub z := by
  rw [l_and z.toInt64 255 8 (by decide) rfl, l_emod _ 8 (by decide)]
  have h : BitVec.setWidth 8 (BitVec.signExtend 64 z.toBitVec) = BitVec.setWidth 8 z.toBitVec := by
    ext i hi
    rw [BitVec.getElem_setWidth, BitVec.getElem_setWidth, BitVec.getLsbD_signExtend, if_pos (by omega), decide_eq_true (by omega), Bool.true_and]
  have h2 := congrArg BitVec.toNat h
  rw [BitVec.toNat_setWidth, BitVec.toNat_setWidth] at h2
  exact congrArg Nat.cast h2
def r_x (s : Nat → Int32) (p i : Nat) : Int64 := (((s (p + 2 * i)).toInt64) &&& (255)) + ((((s (p + 2 * i + 1)).toInt64) &&& (255)) <<< (((8 : Int32)).toInt64 &&& 63))
theorem r_x1 (s : Nat → Int32) (p i : Nat) : (r_x s p i).toInt = ub (s (p + 2 * i)) + 256 * ub (s (p + (2 * i + 1))) := by
  have h1 := ub_lt (s (p + 2 * i))
  have h2 := ub_lt (s (p + 2 * i + 1))
  have a := ib_c _ _ 255 (l_255 (s (p + 2 * i))) (by omega)
  have b := ib_c _ _ 255 (l_255 (s (p + 2 * i + 1))) (by omega)
  have c := a.add (b.sl (((8 : Int32)).toInt64 &&& 63) 8 256 65280 (by decide) (by decide) (by decide) (by decide) (by decide)) (by decide)
  unfold r_x
  rw [c.1, show p + (2 * i + 1) = p + 2 * i + 1 from by omega]
  omega
theorem r_decL (k p : Nat) (σ : mm_M) : ∀ t, (f_X12_curved_L53 k p σ t).1 = σ.1 ∧ ∀ i, i < t → (f_X12_curved_L53 k p σ t).2 132 i = r_x (σ.1 k) p i ∧ (f_X12_curved_L53 k p σ t).2 133 i = 0 ∧ (f_X12_curved_L53 k p σ t).2 135 i = 0 ∧ (f_X12_curved_L53 k p σ t).2 136 i = 0 ∧ (f_X12_curved_L53 k p σ t).2 140 i = 0
  | 0 => ⟨rfl, fun i hi => absurd hi (by omega)⟩
  | t + 1 => by
    obtain ⟨h1, h2⟩ := r_decL k p σ t
    rw [f_X12_curved_L53]
    generalize f_X12_curved_L53 k p σ t = R at *
    refine ⟨h1, fun i hi => ?_⟩
    by_cases e : i = t
    · subst e
      refine ⟨?_, ?_, ?_, ?_, ?_⟩
      · rw [rd_wlN _ _ _ _ (Or.inl (by decide)), rd_wlN _ _ _ _ (Or.inl (by decide)), rd_wlN _ _ _ _ (Or.inl (by decide)), rd_wlN _ _ _ _ (Or.inl (by decide)), rd_wlN _ _ _ _ (Or.inl (by decide)), rd_wlS, h1]
        rfl
      · rw [rd_wlN _ _ _ _ (Or.inl (by decide)), rd_wlN _ _ _ _ (Or.inl (by decide)), rd_wlN _ _ _ _ (Or.inl (by decide)), rd_wlS]
      · rw [rd_wlN _ _ _ _ (Or.inl (by decide)), rd_wlN _ _ _ _ (Or.inl (by decide)), rd_wlS]
      · rw [rd_wlN _ _ _ _ (Or.inl (by decide)), rd_wlS]
      · rw [rd_wlS]
    · obtain ⟨g1, g2, g3, g4, g5⟩ := h2 i (by omega)
      refine ⟨?_, ?_, ?_, ?_, ?_⟩
      all_goals rw [rd_wlN _ _ _ _ (Or.inr e), rd_wlN _ _ _ _ (Or.inr e), rd_wlN _ _ _ _ (Or.inr e), rd_wlN _ _ _ _ (Or.inr e), rd_wlN _ _ _ _ (Or.inr e), rd_wlN _ _ _ _ (Or.inr e)]
      · exact g1
      · exact g2
      · exact g3
      · exact g4
      · exact g5
theorem ws16_8 (d : Nat → Int) : ∀ n, ws w16 (fun i => d (2 * i) + 256 * d (2 * i + 1)) n = ws w8 d (2 * n)
  | 0 => rfl
  | n + 1 => by
    rw [show 2 * (n + 1) = 2 * n + 1 + 1 from by omega, ws, ws, ws, ws16_8 d n, w8_1, show w16 n = w8 (2 * n) from by unfold w16 w8; rw [Int.pow_mul]; rfl]
    grind
theorem ws_zero {w a : Nat → Int} : ∀ {n : Nat}, (∀ i, i < n → a i = 0) → ws w a n = 0
  | 0, _ => rfl
  | n + 1, h => by rw [ws, ws_zero (fun i hi => h i (by omega)), h n (by omega)]; omega
theorem r_one {M : mm_M} {k : Nat} {x : Int} (h : ∀ i, i < 16 → lg M k i = if i = 0 then x else 0) (hx : x.natAbs ≤ 131072) : r_is M k 131072 x := by
  refine ⟨fun i hi => ?_, 0, ?_⟩
  · rw [h i hi]
    by_cases e : i = 0
    · rw [if_pos e]; exact hx
    · rw [if_neg e]; decide
  · unfold v16
    rw [ws_upd (w := w16) (a := fun _ => 0) (k := 0) (x := x) (n := 16) (by decide) (fun i hi => by
      rw [h i hi]
      by_cases e : i = 0
      · rw [if_pos e, if_pos e]; omega
      · rw [if_neg e, if_neg e]), ws_zero (fun _ _ => rfl), show w16 0 = 1 from rfl]
    omega
/-- the reference at the head of its ladder -/
def r_set (k2 p2 : Nat) (M_3 : mm_M) : mm_M :=
  let M_4 := f_X12_curved_L53 k2 p2 M_3 16
  let M_6 := mm_wl M_4 132 15 ((M_4.2 132 15) &&& (32767))
  let M_7 := f_X12_same 134 132 M_6
  let M_8 := mm_wl M_7 133 0 (1)
  let M_9 := mm_wl M_8 136 0 (1)
  let M_10 := mm_wl M_9 140 0 (56129)
  let M_11 := mm_wl M_10 140 1 (1)
  M_11
theorem e15 : w16 15 * 32768 = w10 10 := by decide
theorem r_decx (M6 : mm_M) (s : Nat → Int32) (p : Nat) (x6 : ∀ i, i < 16 → lg M6 132 i = if i = 15 then (ub (s (p + 2 * 15)) + 256 * ub (s (p + (2 * 15 + 1))) : Int) % 32768 else ub (s (p + 2 * i)) + 256 * ub (s (p + (2 * i + 1)))) : r_is M6 132 131072 (bv s p 32 % w10 10) := by
  refine ⟨fun i hi => ?_, 0, ?_⟩
  · rw [x6 i hi]
    have u1 := ub_lt (s (p + 2 * i))
    have u2 := ub_lt (s (p + (2 * i + 1)))
    by_cases e : i = 15
    · rw [if_pos e]; omega
    · rw [if_neg e]; omega
  · have v1 : v16 M6 132 = bv (s) p 32 + (-((ub (s (p + 2 * 15)) + 256 * ub (s (p + (2 * 15 + 1))) : Int) / 32768 * 32768)) * w16 15 := by
      have e1 := ws16_8 (fun j => (ub (s (p + j)) : Int)) 16
      unfold v16 bv
      rw [show (32 : Nat) = 2 * 16 from rfl, ← e1]
      exact ws_upd (by decide) (fun i hi => by
        rw [x6 i hi]
        by_cases e : i = 15
        · rw [if_pos e, if_pos e, e]
          omega
        · rw [if_neg e, if_neg e])
    have v2 : v16 M6 132 = bv (s) p 32 - (ub (s (p + 2 * 15)) + 256 * ub (s (p + (2 * 15 + 1))) : Int) / 32768 * w10 10 := by
      rw [v1, ← e15]
      generalize (ub (s (p + 2 * 15)) + 256 * ub (s (p + (2 * 15 + 1))) : Int) / 32768 = Q
      generalize w16 15 = W
      generalize bv (s) p 32 = B
      grind
    have v3 : 0 ≤ v16 M6 132 ∧ v16 M6 132 < w10 10 := by
      obtain ⟨l1, l2⟩ := ws16_lo (lg M6 132) 15 (fun i hi => by
        rw [x6 i (by omega), if_neg (by omega)]
        have u1 := ub_lt (s (p + 2 * i))
        have u2 := ub_lt (s (p + (2 * i + 1)))
        omega)
      have l3 : v16 M6 132 = ws w16 (lg M6 132) 15 + lg M6 132 15 * w16 15 := rfl
      have l4 : 0 ≤ lg M6 132 15 ∧ lg M6 132 15 ≤ 32767 := by
        rw [x6 15 (by decide), if_pos rfl]
        omega
      rw [l3, ← e15]
      have l5 : 0 ≤ lg M6 132 15 * w16 15 := Int.mul_nonneg l4.1 (by omega)
      have l6 : lg M6 132 15 * w16 15 ≤ 32767 * w16 15 := Int.mul_le_mul_of_nonneg_right l4.2 (by omega)
      constructor <;> omega
    have v4 : bv (s) p 32 % w10 10 = v16 M6 132 := by
      rw [← Int.emod_eq_of_lt v3.1 v3.2, v2, Int.sub_mul_emod_self_right]
    rw [v4]
    omega
theorem r_dec7 (M7 : mm_M) (X : Int) (hx : r_is M7 132 131072 X) (hb : r_is M7 134 131072 X) (z : ∀ (i : Nat) (c : Nat), (c = 133 ∨ c = 135 ∨ c = 136 ∨ c = 140) → i < 16 → M7.2 c i = 0) : r_at (mm_wl (mm_wl (mm_wl (mm_wl M7 133 0 1) 136 0 1) 140 0 56129) 140 1 1) X (1, 0, X, 1) := by
  have w11 : mm_fr [133, 136, 140] M7 (mm_wl (mm_wl (mm_wl (mm_wl M7 133 0 1) 136 0 1) 140 0 56129) 140 1 1) := mm_fr_wl (by decide) (mm_fr_wl (by decide) (mm_fr_wl (by decide) (mm_fr_wl (by decide) (mm_fr_refl _ _))))
  refine ⟨hx.fr w11 (by decide), ?_, ?_, ?_, hb.fr w11 (by decide), ?_⟩
  · have h0 : ∀ i, i < 16 → lg (mm_wl (mm_wl (mm_wl (mm_wl M7 133 0 1) 136 0 1) 140 0 56129) 140 1 1) 140 i = if i = 0 then 56129 else if i = 0 + 1 then 1 else 0 := fun i hi => by
      show (_ : Int64).toInt = _
      by_cases e1 : i = 1
      · subst e1; rw [rd_wlS, if_neg (by decide), if_pos rfl]; decide
      · rw [rd_wlN _ _ _ _ (Or.inr e1)]
        by_cases e0 : i = 0
        · subst e0; rw [rd_wlS, if_pos rfl]; decide
        · rw [rd_wlN _ _ _ _ (Or.inr e0), rd_wlN _ _ _ _ (Or.inl (by decide)), rd_wlN _ _ _ _ (Or.inl (by decide)), z i 140 (by decide) hi, if_neg e0, if_neg e1]
          rfl
    refine ⟨fun i hi => ?_, 0, ?_⟩
    · rw [h0 i hi]
      by_cases e0 : i = 0
      · rw [if_pos e0]; decide
      · rw [if_neg e0]
        by_cases e1 : i = 0 + 1
        · rw [if_pos e1]; decide
        · rw [if_neg e1]; decide
    · unfold v16
      rw [ws_two (w := w16) (a := fun _ => 0) (k := 0) (n := 16) (x := 56129) (y := 1) (by decide) (fun i hi => by
        rw [h0 i hi]
        by_cases e0 : i = 0
        · rw [if_pos e0, if_pos e0]; show (56129 : Int) = 0 + 56129; omega
        · rw [if_neg e0, if_neg e0]
          by_cases e1 : i = 0 + 1
          · rw [if_pos e1, if_pos e1]; show (1 : Int) = 0 + 1; omega
          · rw [if_neg e1, if_neg e1]), ws_zero (fun _ _ => rfl), show w16 0 = 1 from rfl, show w16 (0 + 1) = 65536 from rfl]
      omega
  · refine r_one (x := 1) (fun i hi => ?_) (by decide)
    show (_ : Int64).toInt = _
    rw [rd_wlN _ _ _ _ (Or.inl (by decide)), rd_wlN _ _ _ _ (Or.inl (by decide)), rd_wlN _ _ _ _ (Or.inl (by decide))]
    by_cases e : i = 0
    · subst e; rw [rd_wlS]; rfl
    · rw [rd_wlN _ _ _ _ (Or.inr e), z i 133 (by decide) hi, if_neg e]; rfl
  · refine r_one (x := 0) (fun i hi => ?_) (by decide)
    show (_ : Int64).toInt = _
    rw [rd_wlN _ _ _ _ (Or.inl (by decide)), rd_wlN _ _ _ _ (Or.inl (by decide)), rd_wlN _ _ _ _ (Or.inl (by decide)), rd_wlN _ _ _ _ (Or.inl (by decide)), z i 135 (by decide) hi]
    by_cases e : i = 0
    · rw [if_pos e]; rfl
    · rw [if_neg e]; rfl
  · refine r_one (x := 1) (fun i hi => ?_) (by decide)
    show (_ : Int64).toInt = _
    rw [rd_wlN _ _ _ _ (Or.inl (by decide)), rd_wlN _ _ _ _ (Or.inl (by decide))]
    by_cases e : i = 0
    · subst e; rw [rd_wlS]; rfl
    · rw [rd_wlN _ _ _ _ (Or.inr e), rd_wlN _ _ _ _ (Or.inl (by decide)), z i 136 (by decide) hi, if_neg e]; rfl
def mm_f1 (M : mm_M) : Nat → Nat → Int32 := M.1
theorem r_dec (k p : Nat) (M : mm_M) : mm_f1 (r_set k p M) = M.1 ∧ r_at (r_set k p M) (bv (M.1 k) p 32 % w10 10) (1, 0, bv (M.1 k) p 32 % w10 10, 1) := by
  unfold r_set
  dsimp only
  obtain ⟨h1, h2⟩ := r_decL k p M 16
  generalize f_X12_curved_L53 k p M 16 = M4 at *
  have x6 : ∀ i, i < 16 → lg (mm_wl M4 132 15 (M4.2 132 15 &&& 32767)) 132 i = if i = 15 then (ub (M.1 k (p + 2 * 15)) + 256 * ub (M.1 k (p + (2 * 15 + 1))) : Int) % 32768 else ub (M.1 k (p + 2 * i)) + 256 * ub (M.1 k (p + (2 * i + 1))) := fun i hi => by
    by_cases e : i = 15
    · rw [if_pos e, e]
      show (_ : Int64).toInt = _
      rw [rd_wlS, l_and _ 32767 15 (by decide) (by decide), (h2 15 (by decide)).1, r_x1, show (2 : Int) ^ 15 = 32768 from by decide]
    · rw [if_neg e]
      show (_ : Int64).toInt = _
      rw [rd_wlN _ _ _ _ (Or.inr e), (h2 i hi).1, r_x1]
  have w6 : mm_fr [132] M4 (mm_wl M4 132 15 (M4.2 132 15 &&& 32767)) := mm_fr_wl (by decide) (mm_fr_refl _ _)
  have f133 := (w6 133 (by decide)).2
  have f135 := (w6 135 (by decide)).2
  have f136 := (w6 136 (by decide)).2
  have f140 := (w6 140 (by decide)).2
  have f1 : (mm_wl M4 132 15 (M4.2 132 15 &&& 32767)).1 = M.1 := h1
  generalize mm_wl M4 132 15 (M4.2 132 15 &&& 32767) = M6 at *
  have hx : r_is M6 132 131072 (bv (M.1 k) p 32 % w10 10) := r_decx M6 (M.1 k) p x6
  have hb : r_is (f_X12_same 134 132 M6) 134 131072 (bv (M.1 k) p 32 % w10 10) := r_sameI 134 hx
  have w7 := w_f_X12_same 134 132 M6
  replace hx := hx.fr w7 (by decide)
  have g133 := (w7 133 (by decide)).2.trans f133
  have g135 := (w7 135 (by decide)).2.trans f135
  have g136 := (w7 136 (by decide)).2.trans f136
  have g140 := (w7 140 (by decide)).2.trans f140
  have g1 : (f_X12_same 134 132 M6).1 = M.1 := by
    rw [← f1]
    unfold f_X12_same
    rw [r_sameL]
    exact pwl_1 _ _ _ _
  generalize f_X12_same 134 132 M6 = M7 at *
  have z : ∀ (i : Nat) (c : Nat), (c = 133 ∨ c = 135 ∨ c = 136 ∨ c = 140) → i < 16 → M7.2 c i = 0 := fun i c hc hi => by
    obtain ⟨-, q1, q2, q3, q4⟩ := h2 i hi
    rcases hc with rfl | rfl | rfl | rfl
    · rw [g133]; exact q1
    · rw [g135]; exact q2
    · rw [g136]; exact q3
    · rw [g140]; exact q4
  exact ⟨g1, r_dec7 M7 _ hx hb z⟩
