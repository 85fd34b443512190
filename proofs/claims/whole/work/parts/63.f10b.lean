/-! loops that write a row place by place; the engine's field, operation by operation -/
def pwl (k : Nat) (g : mm_M → Nat → Int64) (σ : mm_M) : Nat → mm_M
  | 0 => σ
  | t + 1 => mm_wl (pwl k g σ t) k t (g (pwl k g σ t) t)
theorem pwl_hi (k : Nat) (g : mm_M → Nat → Int64) (σ : mm_M) : ∀ t a i, (a ≠ k ∨ t ≤ i) → (pwl k g σ t).2 a i = σ.2 a i
  | 0, _, _, _ => rfl
  | t + 1, a, i, h => by
    rw [pwl, rd_wlN _ _ _ _ (by rcases h with h | h; exact Or.inl h; exact Or.inr (by omega))]
    exact pwl_hi k g σ t a i (by rcases h with h | h; exact Or.inl h; exact Or.inr (by omega))
theorem pwl_1 (k : Nat) (g : mm_M → Nat → Int64) (σ : mm_M) : ∀ t, (pwl k g σ t).1 = σ.1
  | 0 => rfl
  | t + 1 => pwl_1 k g σ t
theorem pwl_lo (k : Nat) (g : mm_M → Nat → Int64) (σ : mm_M) (hg : ∀ (N : mm_M) (t : Nat), N.1 = σ.1 → (∀ a, N.2 a t = σ.2 a t) → g N t = g σ t) : ∀ t i, i < t → (pwl k g σ t).2 k i = g σ i
  | 0, _, h => absurd h (by omega)
  | t + 1, i, h => by
    rw [pwl]
    by_cases e : i = t
    · subst e
      rw [rd_wlS]
      exact hg _ _ (pwl_1 k g σ _) (fun a => pwl_hi k g σ _ a _ (Or.inr (Nat.le_refl _)))
    · rw [rd_wlN _ _ _ _ (Or.inr e)]
      exact pwl_lo k g σ hg t i (by omega)
theorem e_addL (k1 k2 k3 : Nat) (σ : mm_M) : ∀ t, f_X4_add_L2 k1 k2 k3 σ t = pwl k1 (fun M t => M.2 k2 t + M.2 k3 t) σ t
  | 0 => rfl
  | t + 1 => by rw [f_X4_add_L2, pwl, e_addL k1 k2 k3 σ t]
theorem e_subL (k1 k2 k3 : Nat) (σ : mm_M) : ∀ t, f_X4_subtract_L2 k1 k2 k3 σ t = pwl k1 (fun M t => M.2 k2 t - M.2 k3 t) σ t
  | 0 => rfl
  | t + 1 => by rw [f_X4_subtract_L2, pwl, e_subL k1 k2 k3 σ t]
theorem e_scaleL (k1 k2 : Nat) (v : Int64) (σ : mm_M) : ∀ t, f_X4_scale_L3 k1 k2 v σ t = pwl k1 (fun M t => M.2 k2 t * v) σ t
  | 0 => rfl
  | t + 1 => by rw [f_X4_scale_L3, pwl, e_scaleL k1 k2 v σ t]
/-- a cell holds, modulo p, the number x in ten limbs of at most b -/
def e_is (M : mm_M) (k b : Nat) (x : Int) : Prop := (∀ i, i < 10 → (lg M k i).natAbs ≤ b) ∧ ∃ q, v10 M k = x + q * pP
theorem e_is.le {M : mm_M} {k b c : Nat} {x : Int} (h : e_is M k b x) (hb : b ≤ c) : e_is M k c x := ⟨fun i hi => Nat.le_trans (h.1 i hi) hb, h.2⟩
theorem e_is.same {M N : mm_M} {k b : Nat} {x : Int} (h : e_is M k b x) (e : N.2 k = M.2 k) : e_is N k b x := by
  have e2 : lg N k = lg M k := by unfold lg; rw [e]
  unfold e_is v10 at *
  rw [e2]
  exact h
theorem e_is.fr {M N : mm_M} {k b : Nat} {x : Int} {L : List Nat} (h : e_is M k b x) (w : mm_fr L M N) (hk : k ∉ L) : e_is N k b x := h.same (w k hk).2
theorem e_is.eq {M : mm_M} {k b : Nat} {x y : Int} (h : e_is M k b x) (e : x = y) : e_is M k b y := e ▸ h
theorem e_add {M : mm_M} {k2 k3 b c : Nat} {x y : Int} (k1 : Nat) (h : e_is M k2 b x) (g : e_is M k3 c y) (hb : b + c ≤ 67108864) : e_is (f_X4_add k1 k2 k3 M) k1 (b + c) (x + y) := by
  have er : ∀ i, i < 10 → (f_X4_add k1 k2 k3 M).2 k1 i = M.2 k2 i + M.2 k3 i := fun i hi => by
    unfold f_X4_add
    rw [e_addL]
    exact pwl_lo k1 _ M (fun N t _ e => by rw [e, e]) 10 i hi
  obtain ⟨h1, q1, h2⟩ := h
  obtain ⟨g1, q2, g2⟩ := g
  have ei : ∀ i, i < 10 → ib (M.2 k2 i + M.2 k3 i) (lg M k2 i + lg M k3 i) (b + c) := fun i hi => (ib.of _ (h1 i hi)).add (ib.of _ (g1 i hi)) (by omega)
  have ej : ∀ i, i < 10 → lg (f_X4_add k1 k2 k3 M) k1 i = lg M k2 i + lg M k3 i := fun i hi => by
    rw [show lg (f_X4_add k1 k2 k3 M) k1 i = ((f_X4_add k1 k2 k3 M).2 k1 i).toInt from rfl, er i hi]; exact (ei i hi).1
  refine ⟨fun i hi => by rw [ej i hi]; exact (ei i hi).2, q1 + q2, ?_⟩
  unfold v10 at *
  rw [v10_eq] at h2 g2 ⊢
  rw [ej 0 (by decide), ej 1 (by decide), ej 2 (by decide), ej 3 (by decide), ej 4 (by decide), ej 5 (by decide), ej 6 (by decide), ej 7 (by decide), ej 8 (by decide), ej 9 (by decide)]
  grind
theorem e_sub {M : mm_M} {k2 k3 b c : Nat} {x y : Int} (k1 : Nat) (h : e_is M k2 b x) (g : e_is M k3 c y) (hb : b + c ≤ 67108864) : e_is (f_X4_subtract k1 k2 k3 M) k1 (b + c) (x - y) := by
  have er : ∀ i, i < 10 → (f_X4_subtract k1 k2 k3 M).2 k1 i = M.2 k2 i - M.2 k3 i := fun i hi => by
    unfold f_X4_subtract
    rw [e_subL]
    exact pwl_lo k1 _ M (fun N t _ e => by rw [e, e]) 10 i hi
  obtain ⟨h1, q1, h2⟩ := h
  obtain ⟨g1, q2, g2⟩ := g
  have ei : ∀ i, i < 10 → ib (M.2 k2 i - M.2 k3 i) (lg M k2 i - lg M k3 i) (b + c) := fun i hi => (ib.of _ (h1 i hi)).sub (ib.of _ (g1 i hi)) (by omega)
  have ej : ∀ i, i < 10 → lg (f_X4_subtract k1 k2 k3 M) k1 i = lg M k2 i - lg M k3 i := fun i hi => by
    rw [show lg (f_X4_subtract k1 k2 k3 M) k1 i = ((f_X4_subtract k1 k2 k3 M).2 k1 i).toInt from rfl, er i hi]; exact (ei i hi).1
  refine ⟨fun i hi => by rw [ej i hi]; exact (ei i hi).2, q1 - q2, ?_⟩
  unfold v10 at *
  rw [v10_eq] at h2 g2 ⊢
  rw [ej 0 (by decide), ej 1 (by decide), ej 2 (by decide), ej 3 (by decide), ej 4 (by decide), ej 5 (by decide), ej 6 (by decide), ej 7 (by decide), ej 8 (by decide), ej 9 (by decide)]
  grind
theorem e_scale {M : mm_M} {k2 b : Nat} {x : Int} (k1 : Nat) (h : e_is M k2 b x) (hb : b ≤ 67108864) : e_is (f_X4_scale k1 k2 121665 M) k1 33554432 (x * 121665) := by
  obtain ⟨h1, q1, h2⟩ := h
  have er : ∀ i, i < 10 → (f_X4_scale_L3 k1 k2 121665 M 10).2 k1 i = M.2 k2 i * 121665 := fun i hi => by
    rw [e_scaleL]
    exact pwl_lo k1 _ M (fun N t _ e => by rw [e]) 10 i hi
  have ei : ∀ i, i < 10 → ib (M.2 k2 i * 121665) (lg M k2 i * 121665) (67108864 * 121665) := fun i hi => (ib.of _ (Nat.le_trans (h1 i hi) hb)).mul (ib_c 121665 121665 121665 rfl (by decide)) (by decide)
  have ej : ∀ i, i < 10 → lg (f_X4_scale_L3 k1 k2 121665 M 10) k1 i = lg M k2 i * 121665 := fun i hi => by
    rw [show lg (f_X4_scale_L3 k1 k2 121665 M 10) k1 i = ((f_X4_scale_L3 k1 k2 121665 M 10).2 k1 i).toInt from rfl, er i hi]; exact (ei i hi).1
  obtain ⟨c1, -, q, c3⟩ := e_carry k1 (f_X4_scale_L3 k1 k2 121665 M 10) (fun i hi => by rw [ej i hi]; exact Nat.le_trans (ei i hi).2 (by decide))
  refine ⟨c1, q + q1 * 121665, ?_⟩
  show v10 (f_X4_carry k1 (f_X4_scale_L3 k1 k2 121665 M 10)) k1 = _
  rw [c3]
  unfold v10 at *
  rw [v10_eq] at h2 ⊢
  rw [ej 0 (by decide), ej 1 (by decide), ej 2 (by decide), ej 3 (by decide), ej 4 (by decide), ej 5 (by decide), ej 6 (by decide), ej 7 (by decide), ej 8 (by decide), ej 9 (by decide)]
  grind
theorem e_mulI {M : mm_M} {k2 k3 b c : Nat} {x y : Int} (k1 : Nat) (h : e_is M k2 b x) (g : e_is M k3 c y) (hb : b ≤ 67108864) (hc : c ≤ 67108864) : e_is (f_X4_multiplyLimbs k1 k2 k3 M) k1 33554432 (x * y) := by
  obtain ⟨c1, -, q, c3⟩ := e_mul k1 k2 k3 M (h.le hb).1 (g.le hc).1
  obtain ⟨h1, q1, h2⟩ := h
  obtain ⟨g1, q2, g2⟩ := g
  refine ⟨c1, q + q1 * y + q2 * x + q1 * q2 * pP, ?_⟩
  rw [c3, h2, g2]
  grind
/-- a step of the ladder on whole numbers: x2, z2, x3, z3 -/
def st_a (a c : Int) : Int := (a + c) * (a + c) * ((a - c) * (a - c))
def st_e (a c : Int) : Int := (a + c) * (a + c) - (a - c) * (a - c)
def st_c (a c : Int) : Int := (st_e a c * 121665 + (a + c) * (a + c)) * st_e a c
def st_b (a c b d : Int) : Int := ((b - d) * (a + c) + (b + d) * (a - c)) * ((b - d) * (a + c) + (b + d) * (a - c))
def st_d (x a c b d : Int) : Int := ((b - d) * (a + c) - (b + d) * (a - c)) * ((b - d) * (a + c) - (b + d) * (a - c)) * x
theorem e_step {M : mm_M} {x a c b d : Int} {ba bc bb bd : Nat} (hx : e_is M 16 67108864 x) (ha : e_is M 17 ba a) (hc : e_is M 18 bc c) (hb : e_is M 19 bb b) (hd : e_is M 20 bd d) (h1 : ba + bc ≤ 67108864) (h2 : bb + bd ≤ 67108864) :
    e_is (f_X4_step M) 16 67108864 x ∧ e_is (f_X4_step M) 17 33554432 (st_a a c) ∧ e_is (f_X4_step M) 18 33554432 (st_c a c) ∧ e_is (f_X4_step M) 19 33554432 (st_b a c b d) ∧ e_is (f_X4_step M) 20 33554432 (st_d x a c b d) := by
  unfold f_X4_step
  dsimp only
  generalize e1 : f_X4_subtract 22 17 18 M = M1
  have w := w_f_X4_subtract 22 17 18 M
  have s1 := e_sub 22 ha hc h1
  rw [e1] at w s1
  replace hx := hx.fr w (by decide)
  replace ha := ha.fr w (by decide)
  replace hc := hc.fr w (by decide)
  replace hb := hb.fr w (by decide)
  replace hd := hd.fr w (by decide)
  generalize e2 : f_X4_add 21 17 18 M1 = M2
  have w := w_f_X4_add 21 17 18 M1
  have s2 := e_add 21 ha hc h1
  rw [e2] at w s2
  replace hx := hx.fr w (by decide)
  replace hb := hb.fr w (by decide)
  replace hd := hd.fr w (by decide)
  replace s1 := s1.fr w (by decide)
  generalize e3 : f_X4_add 17 19 20 M2 = M3
  have w := w_f_X4_add 17 19 20 M2
  have s3 := e_add 17 hb hd h2
  rw [e3] at w s3
  replace hx := hx.fr w (by decide)
  replace hb := hb.fr w (by decide)
  replace hd := hd.fr w (by decide)
  replace s1 := s1.fr w (by decide)
  replace s2 := s2.fr w (by decide)
  generalize e4 : f_X4_subtract 20 19 20 M3 = M4
  have w := w_f_X4_subtract 20 19 20 M3
  have s4 := e_sub 20 hb hd h2
  rw [e4] at w s4
  replace hx := hx.fr w (by decide)
  replace s1 := s1.fr w (by decide)
  replace s2 := s2.fr w (by decide)
  replace s3 := s3.fr w (by decide)
  generalize e5 : f_X4_multiplyLimbs 19 20 21 M4 = M5
  have w := w_f_X4_multiplyLimbs 19 20 21 M4
  have s5 := e_mulI 19 s4 s2 h2 h1
  rw [e5] at w s5
  replace hx := hx.fr w (by decide)
  replace s1 := s1.fr w (by decide)
  replace s2 := s2.fr w (by decide)
  replace s3 := s3.fr w (by decide)
  generalize e6 : f_X4_multiplyLimbs 20 17 22 M5 = M6
  have w := w_f_X4_multiplyLimbs 20 17 22 M5
  have s6 := e_mulI 20 s3 s1 h2 h1
  rw [e6] at w s6
  replace hx := hx.fr w (by decide)
  replace s1 := s1.fr w (by decide)
  replace s2 := s2.fr w (by decide)
  replace s5 := s5.fr w (by decide)
  generalize e7 : f_X4_multiplyLimbs 21 21 21 M6 = M7
  have w := w_f_X4_multiplyLimbs 21 21 21 M6
  have s7 := e_mulI 21 s2 s2 h1 h1
  rw [e7] at w s7
  replace hx := hx.fr w (by decide)
  replace s1 := s1.fr w (by decide)
  replace s5 := s5.fr w (by decide)
  replace s6 := s6.fr w (by decide)
  generalize e8 : f_X4_multiplyLimbs 22 22 22 M7 = M8
  have w := w_f_X4_multiplyLimbs 22 22 22 M7
  have s8 := e_mulI 22 s1 s1 h1 h1
  rw [e8] at w s8
  replace hx := hx.fr w (by decide)
  replace s5 := s5.fr w (by decide)
  replace s6 := s6.fr w (by decide)
  replace s7 := s7.fr w (by decide)
  generalize e9 : f_X4_multiplyLimbs 17 21 22 M8 = M9
  have w := w_f_X4_multiplyLimbs 17 21 22 M8
  have s9 := e_mulI 17 s7 s8 (by decide) (by decide)
  rw [e9] at w s9
  replace hx := hx.fr w (by decide)
  replace s5 := s5.fr w (by decide)
  replace s6 := s6.fr w (by decide)
  replace s7 := s7.fr w (by decide)
  replace s8 := s8.fr w (by decide)
  generalize e10 : f_X4_subtract 22 21 22 M9 = M10
  have w := w_f_X4_subtract 22 21 22 M9
  have s10 := e_sub 22 s7 s8 (by decide)
  rw [e10] at w s10
  replace hx := hx.fr w (by decide)
  replace s5 := s5.fr w (by decide)
  replace s6 := s6.fr w (by decide)
  replace s7 := s7.fr w (by decide)
  replace s9 := s9.fr w (by decide)
  generalize e11 : f_X4_scale 18 22 121665 M10 = M11
  have w := w_f_X4_scale 18 22 121665 M10
  have s11 := e_scale 18 s10 (by decide)
  rw [e11] at w s11
  replace hx := hx.fr w (by decide)
  replace s5 := s5.fr w (by decide)
  replace s6 := s6.fr w (by decide)
  replace s7 := s7.fr w (by decide)
  replace s9 := s9.fr w (by decide)
  replace s10 := s10.fr w (by decide)
  generalize e12 : f_X4_add 18 18 21 M11 = M12
  have w := w_f_X4_add 18 18 21 M11
  have s12 := e_add 18 s11 s7 (by decide)
  rw [e12] at w s12
  replace hx := hx.fr w (by decide)
  replace s5 := s5.fr w (by decide)
  replace s6 := s6.fr w (by decide)
  replace s9 := s9.fr w (by decide)
  replace s10 := s10.fr w (by decide)
  generalize e13 : f_X4_multiplyLimbs 18 18 22 M12 = M13
  have w := w_f_X4_multiplyLimbs 18 18 22 M12
  have s13 := e_mulI 18 s12 s10 (by decide) (by decide)
  rw [e13] at w s13
  replace hx := hx.fr w (by decide)
  replace s5 := s5.fr w (by decide)
  replace s6 := s6.fr w (by decide)
  replace s9 := s9.fr w (by decide)
  generalize e14 : f_X4_add 21 19 20 M13 = M14
  have w := w_f_X4_add 21 19 20 M13
  have s14 := e_add 21 s5 s6 (by decide)
  rw [e14] at w s14
  replace hx := hx.fr w (by decide)
  replace s5 := s5.fr w (by decide)
  replace s6 := s6.fr w (by decide)
  replace s9 := s9.fr w (by decide)
  replace s13 := s13.fr w (by decide)
  generalize e15 : f_X4_subtract 20 19 20 M14 = M15
  have w := w_f_X4_subtract 20 19 20 M14
  have s15 := e_sub 20 s5 s6 (by decide)
  rw [e15] at w s15
  replace hx := hx.fr w (by decide)
  replace s9 := s9.fr w (by decide)
  replace s13 := s13.fr w (by decide)
  replace s14 := s14.fr w (by decide)
  generalize e16 : f_X4_multiplyLimbs 19 21 21 M15 = M16
  have w := w_f_X4_multiplyLimbs 19 21 21 M15
  have s16 := e_mulI 19 s14 s14 (by decide) (by decide)
  rw [e16] at w s16
  replace hx := hx.fr w (by decide)
  replace s9 := s9.fr w (by decide)
  replace s13 := s13.fr w (by decide)
  replace s15 := s15.fr w (by decide)
  generalize e17 : f_X4_multiplyLimbs 20 20 20 M16 = M17
  have w := w_f_X4_multiplyLimbs 20 20 20 M16
  have s17 := e_mulI 20 s15 s15 (by decide) (by decide)
  rw [e17] at w s17
  replace hx := hx.fr w (by decide)
  replace s9 := s9.fr w (by decide)
  replace s13 := s13.fr w (by decide)
  replace s16 := s16.fr w (by decide)
  generalize e18 : f_X4_multiplyLimbs 20 20 16 M17 = M18
  have w := w_f_X4_multiplyLimbs 20 20 16 M17
  have s18 := e_mulI 20 s17 hx (by decide) (by decide)
  rw [e18] at w s18
  exact ⟨hx.fr w (by decide), s9.fr w (by decide), s13.fr w (by decide), s16.fr w (by decide), s18⟩
