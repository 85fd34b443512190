theorem e_smallL (k : Nat) (σ : mm_M) : ∀ t i, (f_X4_setSmall_L7 k σ t).2 k i = if 1 ≤ i ∧ i < 1 + t then 0 else σ.2 k i
  | 0, i => by rw [if_neg (by omega)]; rfl
  | t + 1, i => by
    rw [f_X4_setSmall_L7]
    by_cases e : i = 1 + t
    · subst e
      rw [rd_wlS, if_pos (by omega)]
    · rw [rd_wlN _ _ _ _ (Or.inr e), e_smallL k σ t i]
      by_cases q : 1 ≤ i ∧ i < 1 + t
      · rw [if_pos q, if_pos (by omega)]
      · rw [if_neg q, if_neg (by omega)]
theorem e_small (k : Nat) (M : mm_M) (v : Int32) (x : Int) (hv : v.toInt64.toInt = x) (hx : x.natAbs ≤ 1) : e_is (f_X4_setSmall k v M) k 1 x := by
  have e0 : lg (f_X4_setSmall k v M) k 0 = x := by
    show ((f_X4_setSmall_L7 k (mm_wl M k 0 v.toInt64) 9).2 k 0).toInt = x
    rw [e_smallL, if_neg (by omega), rd_wlS, hv]
  have e1 : ∀ i, 1 ≤ i → i < 10 → lg (f_X4_setSmall k v M) k i = 0 := fun i h1 h2 => by
    show ((f_X4_setSmall_L7 k (mm_wl M k 0 v.toInt64) 9).2 k i).toInt = 0
    rw [e_smallL, if_pos (by omega)]
    rfl
  refine ⟨fun i hi => ?_, 0, ?_⟩
  · rcases Nat.eq_zero_or_pos i with q | q
    · rw [q, e0]; exact hx
    · rw [e1 i q hi]; decide
  · unfold v10
    rw [v10_eq, e0, e1 1 (by decide) (by decide), e1 2 (by decide) (by decide), e1 3 (by decide) (by decide), e1 4 (by decide) (by decide), e1 5 (by decide) (by decide), e1 6 (by decide) (by decide), e1 7 (by decide) (by decide), e1 8 (by decide) (by decide), e1 9 (by decide) (by decide)]
    omega
/-- the ladder's state in the engine: straight, or crossed over -/
def e_at (R : mm_M) (x a c b d : Int) : Prop := e_is R 16 67108864 x ∧ ∃ ba bc bb bd : Nat, ba + bc ≤ 67108864 ∧ bb + bd ≤ 67108864 ∧ e_is R 17 ba a ∧ e_is R 18 bc c ∧ e_is R 19 bb b ∧ e_is R 20 bd d
theorem e_at_sw0 {R : mm_M} {x a c b d : Int} (h : e_at R x a c b d) : e_at (f_X4_swapIf 0 18 20 (f_X4_swapIf 0 17 19 R)) x a c b d := by
  obtain ⟨hx, ba, bc, bb, bd, s1, s2, h1, h2, h3, h4⟩ := h
  have w1 := w_f_X4_swapIf 0 17 19 R
  have g1 := h1.row (fun i hi => (e_swap0 17 19 (by decide) R i hi).1)
  have g3 := h3.row (fun i hi => (e_swap0 17 19 (by decide) R i hi).2)
  have g2 := h2.fr w1 (by decide)
  have g4 := h4.fr w1 (by decide)
  have gx := hx.fr w1 (by decide)
  generalize f_X4_swapIf 0 17 19 R = N at *
  have w2 := w_f_X4_swapIf 0 18 20 N
  exact ⟨gx.fr w2 (by decide), ba, bc, bb, bd, s1, s2, g1.fr w2 (by decide), g2.row (fun i hi => (e_swap0 18 20 (by decide) N i hi).1), g3.fr w2 (by decide), g4.row (fun i hi => (e_swap0 18 20 (by decide) N i hi).2)⟩
theorem e_at_sw1 {R : mm_M} {x a c b d : Int} (h : e_at R x a c b d) : e_at (f_X4_swapIf 1 18 20 (f_X4_swapIf 1 17 19 R)) x b d a c := by
  obtain ⟨hx, ba, bc, bb, bd, s1, s2, h1, h2, h3, h4⟩ := h
  have w1 := w_f_X4_swapIf 1 17 19 R
  have g1 := h1.row (fun i hi => (e_swap1 17 19 (by decide) R i hi).2)
  have g3 := h3.row (fun i hi => (e_swap1 17 19 (by decide) R i hi).1)
  have g2 := h2.fr w1 (by decide)
  have g4 := h4.fr w1 (by decide)
  have gx := hx.fr w1 (by decide)
  generalize f_X4_swapIf 1 17 19 R = N at *
  have w2 := w_f_X4_swapIf 1 18 20 N
  exact ⟨gx.fr w2 (by decide), bb, bd, ba, bc, s2, s1, g3.fr w2 (by decide), g4.row (fun i hi => (e_swap1 18 20 (by decide) N i hi).1), g1.fr w2 (by decide), g2.row (fun i hi => (e_swap1 18 20 (by decide) N i hi).2)⟩
theorem e_at_st {R : mm_M} {x a c b d : Int} (h : e_at R x a c b d) : e_at (f_X4_step R) x (st_a a c) (st_c a c) (st_b a c b d) (st_d x a c b d) := by
  obtain ⟨hx, ba, bc, bb, bd, s1, s2, h1, h2, h3, h4⟩ := h
  obtain ⟨t0, t1, t2, t3, t4⟩ := e_step hx h1 h2 h3 h4 s1 s2
  exact ⟨t0, _, _, _, _, by decide, by decide, t1, t2, t3, t4⟩
/-- what the engine holds where the numbers are s and the last bit was y -/
def e_inv4 (R : mm_M) (x : Int) (y : Int32) (s : Int × Int × Int × Int) : Prop := (y = 0 ∧ e_at R x s.1 s.2.1 s.2.2.1 s.2.2.2) ∨ (y = 1 ∧ e_at R x s.2.2.1 s.2.2.2 s.1 s.2.1)
theorem e_climbL (M4 : mm_M) (x : Int) (h : e_at M4 x 1 0 x 1) : ∀ t, (f_X4_climb_L45 (M4, 0) t).1.1 14 = M4.1 14 ∧ e_inv4 (f_X4_climb_L45 (M4, 0) t).1 x (f_X4_climb_L45 (M4, 0) t).2 (lad x (sbit (M4.1 14)) t)
  | 0 => ⟨rfl, Or.inl ⟨rfl, h⟩⟩
  | t + 1 => by
    obtain ⟨h0, h1⟩ := e_climbL M4 x h t
    refine ⟨((w_f_X4_climb_L45 (M4, 0) (t + 1)).m 14 (by decide)).1, ?_⟩
    rw [f_X4_climb_L45, lad]
    generalize f_X4_climb_L45 (M4, 0) t = R at *
    obtain ⟨R, y⟩ := R
    dsimp only at h0 h1 ⊢
    rw [h0]
    have hb : ((M4.1 14 ((254 - t) / 8)) >>> ((nI ((254 - t) % 8)) &&& 31)) &&& (1 : Int32) = sbit (M4.1 14) t := rfl
    rw [hb]
    generalize lad x (sbit (M4.1 14)) t = s at *
    obtain ⟨a, c, b, d⟩ := s
    rcases sbit01 (M4.1 14) t with q | q <;> rw [q]
    · rw [if_neg (by decide)]
      refine Or.inl ⟨rfl, ?_⟩
      dsimp only
      rcases h1 with ⟨hy, h1⟩ | ⟨hy, h1⟩ <;> rw [hy]
      · exact e_at_st (e_at_sw0 h1)
      · exact e_at_st (e_at_sw1 h1)
    · rw [if_pos rfl]
      refine Or.inr ⟨rfl, ?_⟩
      dsimp only
      rcases h1 with ⟨hy, h1⟩ | ⟨hy, h1⟩ <;> rw [hy]
      · exact e_at_st (e_at_sw1 h1)
      · exact e_at_st (e_at_sw0 h1)
theorem e_climb (M : mm_M) (x : Int) (hx : e_is M 16 67108863 x) : e_is (f_X4_climb M) 17 67108864 (lad x (sbit (M.1 14)) 255).1 ∧ e_is (f_X4_climb M) 18 67108864 (lad x (sbit (M.1 14)) 255).2.1 := by
  unfold f_X4_climb
  dsimp only
  have a1 := e_small 17 M 1 1 (by decide) (by decide)
  have w1 := w_f_X4_setSmall 17 1 M
  replace hx := hx.fr w1 (by decide)
  have k1 := (w1 14 (by decide)).1
  generalize f_X4_setSmall 17 1 M = M1 at *
  have a2 := e_small 18 M1 0 0 (by decide) (by decide)
  have w2 := w_f_X4_setSmall 18 0 M1
  replace hx := hx.fr w2 (by decide)
  replace a1 := a1.fr w2 (by decide)
  have k2 := (w2 14 (by decide)).1
  generalize f_X4_setSmall 18 0 M1 = M2 at *
  have a3 : e_is (mm_cpl M2 16 0 19 0 10) 19 67108863 x := hx.row (fun i hi => by
    unfold mm_cpl
    dsimp only
    rw [if_pos ⟨rfl, Nat.zero_le _, by omega⟩, show 0 + (i - 0) = i from by omega])
  have w3 : mm_fr [19] M2 (mm_cpl M2 16 0 19 0 10) := mm_fr_cpl (by decide) (mm_fr_refl _ _)
  replace hx := hx.fr w3 (by decide)
  replace a1 := a1.fr w3 (by decide)
  replace a2 := a2.fr w3 (by decide)
  have k3 := (w3 14 (by decide)).1
  generalize mm_cpl M2 16 0 19 0 10 = M3 at *
  have a4 := e_small 20 M3 1 1 (by decide) (by decide)
  have w4 := w_f_X4_setSmall 20 1 M3
  replace hx := hx.fr w4 (by decide)
  replace a1 := a1.fr w4 (by decide)
  replace a2 := a2.fr w4 (by decide)
  replace a3 := a3.fr w4 (by decide)
  have k4 := (w4 14 (by decide)).1
  generalize f_X4_setSmall 20 1 M3 = M4 at *
  have ek : M4.1 14 = M.1 14 := by rw [k4, k3, k2, k1]
  obtain ⟨-, h5⟩ := e_climbL M4 x ⟨hx.le (by decide), _, _, _, _, by decide, by decide, a1, a2, a3, a4⟩ 255
  rw [ek] at h5
  generalize f_X4_climb_L45 (M4, 0) 255 = R at *
  obtain ⟨R, y⟩ := R
  dsimp only at h5 ⊢
  generalize lad x (sbit (M.1 14)) 255 = s at *
  obtain ⟨a, c, b, d⟩ := s
  rcases h5 with ⟨hy, h5⟩ | ⟨hy, h5⟩ <;> rw [hy]
  · obtain ⟨-, ba, bc, bb, bd, s1, s2, h1, h2, h3, h4⟩ := e_at_sw0 h5
    exact ⟨h1.le (by omega), h2.le (by omega)⟩
  · obtain ⟨-, ba, bc, bb, bd, s1, s2, h1, h2, h3, h4⟩ := e_at_sw1 h5
    exact ⟨h1.le (by omega), h2.le (by omega)⟩
/-- the reference's ladder -/
def r_at (R : mm_M) (x : Int) (s : Int × Int × Int × Int) : Prop := r_is R 132 131072 x ∧ r_is R 140 131072 121665 ∧ r_is R 133 131072 s.1 ∧ r_is R 135 131072 s.2.1 ∧ r_is R 134 131072 s.2.2.1 ∧ r_is R 136 131072 s.2.2.2
theorem r_at_sw {R : mm_M} {x a c b d : Int} (v : Int32) (hv : v = 0 ∨ v = 1) (h : r_at R x (a, c, b, d)) : r_at (f_X12_swapped 135 136 v (f_X12_swapped 133 134 v R)) x (if v = 1 then (b, d, a, c) else (a, c, b, d)) := by
  obtain ⟨h0, h9, h1, h2, h3, h4⟩ := h
  rcases hv with hv | hv
  · rw [hv, if_neg (by decide)]
    unfold f_X12_swapped
    rw [if_neg (by decide), if_neg (by decide)]
    exact ⟨h0, h9, h1, h2, h3, h4⟩
  · rw [hv, if_pos rfl]
    have w1 := w_f_X12_swapped 133 134 1 R
    have e1 : ∀ i, i < 16 → (f_X12_swapped 133 134 1 R).2 133 i = R.2 134 i ∧ (f_X12_swapped 133 134 1 R).2 134 i = R.2 133 i := fun i hi => by
      unfold f_X12_swapped
      rw [if_pos rfl]
      exact (r_swapL 133 134 (by decide) R 16).2 i hi
    have g1 := h1.row (fun i hi => (e1 i hi).2)
    have g3 := h3.row (fun i hi => (e1 i hi).1)
    replace h0 := h0.fr w1 (by decide)
    replace h9 := h9.fr w1 (by decide)
    replace h2 := h2.fr w1 (by decide)
    replace h4 := h4.fr w1 (by decide)
    generalize f_X12_swapped 133 134 1 R = N at *
    have w2 := w_f_X12_swapped 135 136 1 N
    have e2 : ∀ i, i < 16 → (f_X12_swapped 135 136 1 N).2 135 i = N.2 136 i ∧ (f_X12_swapped 135 136 1 N).2 136 i = N.2 135 i := fun i hi => by
      unfold f_X12_swapped
      rw [if_pos rfl]
      exact (r_swapL 135 136 (by decide) N 16).2 i hi
    exact ⟨h0.fr w2 (by decide), h9.fr w2 (by decide), g3.fr w2 (by decide), h4.row (fun i hi => (e2 i hi).1), g1.fr w2 (by decide), h2.row (fun i hi => (e2 i hi).2)⟩
theorem r_climbL (M : mm_M) (x : Int) (h : r_at M x (1, 0, x, 1)) : ∀ t, (f_X12_curved_L206 M t).1 144 = M.1 144 ∧ r_at (f_X12_curved_L206 M t) x (lad x (sbit (M.1 144)) t)
  | 0 => ⟨rfl, h⟩
  | t + 1 => by
    obtain ⟨h0, h1⟩ := r_climbL M x h t
    refine ⟨((w_f_X12_curved_L206 M (t + 1)) 144 (by decide)).1, ?_⟩
    rw [f_X12_curved_L206, lad]
    generalize f_X12_curved_L206 M t = R at *
    have hb : ((R.1 144 ((254 - t) / 8)) >>> ((nI ((254 - t) % 8)) &&& 31)) &&& (1 : Int32) = sbit (M.1 144) t := by rw [h0]; rfl
    rw [hb]
    have hv := sbit01 (M.1 144) t
    generalize sbit (M.1 144) t = v at *
    generalize lad x (sbit (M.1 144)) t = s at *
    obtain ⟨a, c, b, d⟩ := s
    have h2 := r_at_sw v hv h1
    show r_at (f_X12_swapped 135 136 v (f_X12_swapped 133 134 v (r_st (f_X12_swapped 135 136 v (f_X12_swapped 133 134 v R))))) x _
    generalize f_X12_swapped 135 136 v (f_X12_swapped 133 134 v R) = N at *
    rcases hv with q | q
    · rw [if_neg (by rw [q]; decide)] at h2 ⊢
      obtain ⟨k0, k9, k1, k2, k3, k4⟩ := h2
      obtain ⟨t0, t9, t1, t2, t3, t4⟩ := r_step k0 k9 k1 k2 k3 k4
      have h3 := r_at_sw v (Or.inl q) (show r_at (r_st N) x (_, _, _, _) from ⟨t0, t9, t1, t2, t3, t4⟩)
      rw [if_neg (by rw [q]; decide)] at h3
      exact h3
    · rw [if_pos q] at h2 ⊢
      obtain ⟨k0, k9, k1, k2, k3, k4⟩ := h2
      obtain ⟨t0, t9, t1, t2, t3, t4⟩ := r_step k0 k9 k1 k2 k3 k4
      have h3 := r_at_sw v (Or.inr q) (show r_at (r_st N) x (_, _, _, _) from ⟨t0, t9, t1, t2, t3, t4⟩)
      rw [if_pos q] at h3
      exact h3
