theorem w16_add (a b : Nat) : w16 (a + b) = w16 a * w16 b := by unfold w16; rw [Int.pow_add]
theorem ws_lin {w a b c : Nat → Int} {z : Int} : ∀ {n : Nat}, (∀ i, i < n → c i = a i + z * b i) → ws w c n = ws w a n + z * ws w b n
  | 0, _ => by simp [ws]
  | n + 1, h => by
    rw [ws, ws, ws, ws_lin (fun i hi => h i (by omega)), h n (by omega)]
    grind
theorem ws_split (a : Nat → Int) (m : Nat) : ∀ n, ws w16 a (m + n) = ws w16 a m + w16 m * ws w16 (fun i => a (m + i)) n
  | 0 => by simp [ws]
  | n + 1 => by
    rw [show m + (n + 1) = m + n + 1 from by omega, ws, ws, ws_split a m n, w16_add]
    grind
theorem rg1 (S a w B b v : Int) : S + a * w * B + a * b * (w * v) = S + a * w * (B + b * v) := by grind
/-- a row of the table of products -/
theorem r_L37 (k2 k3 t : Nat) (σ : mm_M) (h2 : k2 ≠ 143) (h3 : k3 ≠ 143) (ht : t < 16) (ha : (lg σ k2 t).natAbs ≤ 262144) (hb : ∀ i, i < 16 → (lg σ k3 i).natAbs ≤ 262144) (hw : ∀ n, n < 31 → (lg σ 143 n).natAbs ≤ t * 68719476736) : ∀ u, u ≤ 16 →
    (∀ a, a ≠ 143 → (f_X12_times_L37 k2 k3 t σ u).2 a = σ.2 a) ∧ (∀ n, t + u ≤ n → lg (f_X12_times_L37 k2 k3 t σ u) 143 n = lg σ 143 n) ∧ (∀ n, n < 31 → (lg (f_X12_times_L37 k2 k3 t σ u) 143 n).natAbs ≤ (t + 1) * 68719476736) ∧
    ws w16 (lg (f_X12_times_L37 k2 k3 t σ u) 143) 31 = ws w16 (lg σ 143) 31 + lg σ k2 t * w16 t * ws w16 (lg σ k3) u
  | 0, _ => ⟨fun _ _ => rfl, fun _ _ => rfl, fun n hn => Nat.le_trans (hw n hn) (by omega), by simp [ws]; rfl⟩
  | u + 1, hu => by
    obtain ⟨g1, g2, g3, g4⟩ := r_L37 k2 k3 t σ h2 h3 ht ha hb hw u (by omega)
    rw [f_X12_times_L37]
    generalize f_X12_times_L37 k2 k3 t σ u = R at *
    rw [g1 k2 h2, g1 k3 h3]
    have p := (ib.of (σ.2 k2 t) ha).mul (ib.of (σ.2 k3 u) (hb u (by omega))) (by decide)
    have hR : lg R 143 (t + u) = lg σ 143 (t + u) := g2 _ (Nat.le_refl _)
    have q := (ib.of (R.2 143 (t + u)) (b := 1099511627776) (by rw [show (R.2 143 (t + u)).toInt = lg R 143 (t + u) from rfl, hR]; exact Nat.le_trans (hw _ (by omega)) (by omega))).add p (by decide)
    have eN : lg (mm_wl R 143 (t + u) (R.2 143 (t + u) + σ.2 k2 t * σ.2 k3 u)) 143 (t + u) = lg R 143 (t + u) + lg σ k2 t * lg σ k3 u := by
      show (_ : Int64).toInt = _
      rw [rd_wlS]
      exact q.1
    have eO : ∀ n, n ≠ t + u → lg (mm_wl R 143 (t + u) (R.2 143 (t + u) + σ.2 k2 t * σ.2 k3 u)) 143 n = lg R 143 n := fun n hn => by
      show (_ : Int64).toInt = _
      rw [rd_wlN _ _ _ _ (Or.inr hn)]
      rfl
    refine ⟨fun a ha => ?_, fun n hn => ?_, fun n hn => ?_, ?_⟩
    · rw [← g1 a ha]
      funext j
      rw [rd_wlN _ _ _ _ (Or.inl ha)]
    · rw [eO n (by omega)]; exact g2 n (by omega)
    · by_cases e : n = t + u
      · rw [e, eN, hR]
        have h5 := hw (t + u) (by omega)
        have h6 : (lg σ k2 t * lg σ k3 u).natAbs ≤ 68719476736 := Nat.le_trans p.2 (by decide)
        generalize lg σ k2 t * lg σ k3 u = X at *
        omega
      · rw [eO n e]; exact g3 n hn
    · rw [ws_upd (w := w16) (a := lg R 143) (k := t + u) (x := lg σ k2 t * lg σ k3 u) (n := 31) (by omega) (fun i hi => by
        by_cases e : i = t + u
        · rw [if_pos e, e, eN]
        · rw [if_neg e, eO i e]), g4, show ws w16 (lg σ k3) (u + 1) = ws w16 (lg σ k3) u + lg σ k3 u * w16 u from rfl, w16_add]
      exact rg1 _ _ _ _ _ _
theorem r_L27 (k2 k3 : Nat) (σ : mm_M) (h2 : k2 ≠ 143) (h3 : k3 ≠ 143) (ha : ∀ i, i < 16 → (lg σ k2 i).natAbs ≤ 262144) (hb : ∀ i, i < 16 → (lg σ k3 i).natAbs ≤ 262144) (hw : ∀ n, n < 31 → lg σ 143 n = 0) : ∀ t, t ≤ 16 →
    (∀ a, a ≠ 143 → (f_X12_times_L27 k2 k3 σ t).2 a = σ.2 a) ∧ (∀ n, n < 31 → (lg (f_X12_times_L27 k2 k3 σ t) 143 n).natAbs ≤ t * 68719476736) ∧
    ws w16 (lg (f_X12_times_L27 k2 k3 σ t) 143) 31 = ws w16 (lg σ k2) t * ws w16 (lg σ k3) 16
  | 0, _ => ⟨fun _ _ => rfl, fun n hn => by rw [f_X12_times_L27, hw n hn]; decide, by
      rw [f_X12_times_L27, ws_lin (w := w16) (a := fun _ => 0) (b := fun _ => 0) (c := lg σ 143) (z := 0) (n := 31) (fun i hi => by rw [hw i hi]; rfl)]
      rw [show ws w16 (fun _ => (0 : Int)) 31 = 0 from by simp [ws], show ws w16 (lg σ k2) 0 = 0 from rfl]
      simp⟩
  | t + 1, ht => by
    obtain ⟨g1, g2, g3⟩ := r_L27 k2 k3 σ h2 h3 ha hb hw t (by omega)
    rw [f_X12_times_L27]
    generalize f_X12_times_L27 k2 k3 σ t = R at *
    have e2 : lg R k2 = lg σ k2 := by unfold lg; rw [g1 k2 h2]
    have e3 : lg R k3 = lg σ k3 := by unfold lg; rw [g1 k3 h3]
    obtain ⟨f1, -, f3, f4⟩ := r_L37 k2 k3 t R h2 h3 (by omega) (by rw [e2]; exact ha t (by omega)) (by rw [e3]; exact hb) g2 16 (by decide)
    refine ⟨fun a q => (f1 a q).trans (g1 a q), f3, ?_⟩
    rw [f4, g3, e2, e3, show ws w16 (lg σ k2) (t + 1) = ws w16 (lg σ k2) t + lg σ k2 t * w16 t from rfl]
    exact (Int.add_mul _ _ _).symm
theorem r_L81 (σ : mm_M) (hw : ∀ n, n < 31 → (lg σ 143 n).natAbs ≤ 1099511627776) : ∀ t, t ≤ 15 →
    (∀ a, a ≠ 143 → (f_X12_times_L81 σ t).2 a = σ.2 a) ∧ (∀ n, t ≤ n → lg (f_X12_times_L81 σ t) 143 n = lg σ 143 n) ∧ (∀ n, n < t → lg (f_X12_times_L81 σ t) 143 n = lg σ 143 n + 38 * lg σ 143 (n + 16))
  | 0, _ => ⟨fun _ _ => rfl, fun _ _ => rfl, fun n hn => absurd hn (by omega)⟩
  | t + 1, ht => by
    obtain ⟨g1, g2, g3⟩ := r_L81 σ hw t (by omega)
    rw [f_X12_times_L81]
    generalize f_X12_times_L81 σ t = R at *
    have a1 : lg R 143 t = lg σ 143 t := g2 t (Nat.le_refl _)
    have a2 : lg R 143 (t + 16) = lg σ 143 (t + 16) := g2 _ (by omega)
    have q := (ib.of (R.2 143 t) (by rw [show (R.2 143 t).toInt = lg σ 143 t from a1]; exact hw t (by omega))).add ((ib_c 38 38 38 rfl (by decide)).mul (ib.of (R.2 143 (t + 16)) (by rw [show (R.2 143 (t + 16)).toInt = lg σ 143 (t + 16) from a2]; exact hw (t + 16) (by omega))) (by decide)) (by decide)
    refine ⟨fun a ha => ?_, fun n hn => ?_, fun n hn => ?_⟩
    · rw [← g1 a ha]
      funext j
      rw [rd_wlN _ _ _ _ (Or.inl ha)]
    · show (_ : Int64).toInt = _
      rw [rd_wlN _ _ _ _ (Or.inr (by omega))]
      exact g2 n (by omega)
    · by_cases e : n = t
      · subst e
        show (_ : Int64).toInt = _
        rw [rd_wlS, q.1, show (R.2 143 n).toInt = lg σ 143 n from a1, show (R.2 143 (n + 16)).toInt = lg σ 143 (n + 16) from a2]
      · show (_ : Int64).toInt = _
        rw [rd_wlN _ _ _ _ (Or.inr e)]
        exact g3 n (by omega)
theorem r_L3 (σ : mm_M) : ∀ t, f_X12_times_L3 σ t = pwl 143 (fun _ _ => 0) σ t
  | 0 => rfl
  | t + 1 => by rw [f_X12_times_L3, pwl, r_L3 σ t]
theorem r_L121 (k1 : Nat) (σ : mm_M) : ∀ t, f_X12_times_L121 k1 σ t = pwl k1 (fun M t => M.2 143 t) σ t
  | 0 => rfl
  | t + 1 => by rw [f_X12_times_L121, pwl, r_L121 k1 σ t]
/-- two carries -/
theorem r_carry2 (k : Nat) (M : mm_M) (hb : ∀ i, i < 16 → (lg M k i).natAbs ≤ 70368744177664) : ∃ d : Nat → Int, ∃ q : Int,
    (∀ i, i < 16 → 0 ≤ d i ∧ d i ≤ 65535) ∧ (∀ i, i < 16 → lg (f_X12_carried k (f_X12_carried k M)) k i = if i = 0 then d 0 + 38 * q else d i) ∧ -1 ≤ q ∧ q ≤ 1 ∧ ∃ z, v16 (f_X12_carried k (f_X12_carried k M)) k = v16 M k + z * pP := by
  obtain ⟨d, q, a1, a2, a3, a4⟩ := r_carry k M hb
  have v1 : v16 (f_X12_carried k M) k = ws w16 d 16 + 38 * q * w16 0 := by
    unfold v16
    exact ws_upd (w := w16) (a := d) (k := 0) (x := 38 * q) (n := 16) (by decide) (fun i hi => by
      rw [a2 i hi]
      by_cases e : i = 0
      · rw [if_pos e, if_pos e, e]
      · rw [if_neg e, if_neg e])
  have b1 : ∀ i, i < 16 → (lg (f_X12_carried k M) k i).natAbs ≤ 70368744177664 := fun i hi => by
    rw [a2 i hi]
    by_cases e : i = 0
    · rw [if_pos e]
      have := a1 0 (by decide)
      omega
    · rw [if_neg e]
      have := a1 i hi
      omega
  obtain ⟨d2, q2, c1, c2, c3, c4⟩ := r_carry k (f_X12_carried k M) b1
  have v2 : v16 (f_X12_carried k (f_X12_carried k M)) k = ws w16 d2 16 + 38 * q2 * w16 0 := by
    unfold v16
    exact ws_upd (w := w16) (a := d2) (k := 0) (x := 38 * q2) (n := 16) (by decide) (fun i hi => by
      rw [c2 i hi]
      by_cases e : i = 0
      · rw [if_pos e, if_pos e, e]
      · rw [if_neg e, if_neg e])
  have e0 : w16 0 = 1 := rfl
  have e16 : w16 16 = 115792089237316195423570985008687907853269984665640564039457584007913129639936 := by decide
  obtain ⟨l1, l2⟩ := ws16_lo d 16 a1
  obtain ⟨m1, m2⟩ := ws16_lo d2 16 c1
  rw [e0] at v1 v2
  rw [e16] at l2 m2 a4 c4
  have eP : pP = 57896044618658097711785492504343953926634992332820282019728792003956564819949 := by decide
  have hq : -1 ≤ q2 ∧ q2 ≤ 1 := by
    generalize ws w16 d 16 = A at *
    generalize ws w16 d2 16 = B at *
    generalize v16 (f_X12_carried k M) k = C at *
    omega
  refine ⟨d2, q2, c1, c2, hq.1, hq.2, -(2 * q + 2 * q2), ?_⟩
  rw [eP]
  generalize ws w16 d 16 = A at *
  generalize ws w16 d2 16 = B at *
  generalize v16 (f_X12_carried k M) k = C at *
  omega

/-- a cell holds, modulo p, the number x in sixteen limbs of at most b -/
def r_is (M : mm_M) (k b : Nat) (x : Int) : Prop := (∀ i, i < 16 → (lg M k i).natAbs ≤ b) ∧ ∃ q, v16 M k = x + q * pP
theorem r_is.le {M : mm_M} {k b c : Nat} {x : Int} (h : r_is M k b x) (hb : b ≤ c) : r_is M k c x := ⟨fun i hi => Nat.le_trans (h.1 i hi) hb, h.2⟩
theorem r_is.same {M N : mm_M} {k b : Nat} {x : Int} (h : r_is M k b x) (e : N.2 k = M.2 k) : r_is N k b x := by
  have e2 : lg N k = lg M k := by unfold lg; rw [e]
  unfold r_is v16 at *
  rw [e2]
  exact h
theorem r_is.fr {M N : mm_M} {k b : Nat} {x : Int} {L : List Nat} (h : r_is M k b x) (w : mm_fr L M N) (hk : k ∉ L) : r_is N k b x := h.same (w k hk).2
theorem r_is.eq {M : mm_M} {k b : Nat} {x y : Int} (h : r_is M k b x) (e : x = y) : r_is M k b y := e ▸ h
theorem r_addL (k1 k2 k3 : Nat) (σ : mm_M) : ∀ t, f_X12_added_L2 k1 k2 k3 σ t = pwl k1 (fun M t => M.2 k2 t + M.2 k3 t) σ t
  | 0 => rfl
  | t + 1 => by rw [f_X12_added_L2, pwl, r_addL k1 k2 k3 σ t]
theorem r_subL (k1 k2 k3 : Nat) (σ : mm_M) : ∀ t, f_X12_less_L2 k1 k2 k3 σ t = pwl k1 (fun M t => M.2 k2 t - M.2 k3 t) σ t
  | 0 => rfl
  | t + 1 => by rw [f_X12_less_L2, pwl, r_subL k1 k2 k3 σ t]
theorem r_sameL (k1 k2 : Nat) (σ : mm_M) : ∀ t, f_X12_same_L2 k1 k2 σ t = pwl k1 (fun M t => M.2 k2 t) σ t
  | 0 => rfl
  | t + 1 => by rw [f_X12_same_L2, pwl, r_sameL k1 k2 σ t]
theorem r_same {M : mm_M} (k1 k2 : Nat) {i : Nat} (hi : i < 16) : (f_X12_same k1 k2 M).2 k1 i = M.2 k2 i := by
  unfold f_X12_same
  rw [r_sameL]
  exact pwl_lo k1 _ M (fun N t _ e => by rw [e]) 16 i hi
theorem r_sameI {M : mm_M} {k2 b : Nat} {x : Int} (k1 : Nat) (h : r_is M k2 b x) : r_is (f_X12_same k1 k2 M) k1 b x := by
  have ej : ∀ i, i < 16 → lg (f_X12_same k1 k2 M) k1 i = lg M k2 i := fun i hi => by unfold lg; rw [r_same k1 k2 hi]
  refine ⟨fun i hi => by rw [ej i hi]; exact h.1 i hi, ?_⟩
  unfold v16
  rw [ws_congr ej]
  exact h.2
theorem r_add {M : mm_M} {k2 k3 b c : Nat} {x y : Int} (k1 : Nat) (h : r_is M k2 b x) (g : r_is M k3 c y) (hb : b + c ≤ 262144) : r_is (f_X12_added k1 k2 k3 M) k1 (b + c) (x + y) := by
  have er : ∀ i, i < 16 → (f_X12_added k1 k2 k3 M).2 k1 i = M.2 k2 i + M.2 k3 i := fun i hi => by
    unfold f_X12_added
    rw [r_addL]
    exact pwl_lo k1 _ M (fun N t _ e => by rw [e, e]) 16 i hi
  obtain ⟨h1, q1, h2⟩ := h
  obtain ⟨g1, q2, g2⟩ := g
  have ei : ∀ i, i < 16 → ib (M.2 k2 i + M.2 k3 i) (lg M k2 i + lg M k3 i) (b + c) := fun i hi => (ib.of _ (h1 i hi)).add (ib.of _ (g1 i hi)) (by omega)
  have ej : ∀ i, i < 16 → lg (f_X12_added k1 k2 k3 M) k1 i = lg M k2 i + 1 * lg M k3 i := fun i hi => by
    rw [show lg (f_X12_added k1 k2 k3 M) k1 i = ((f_X12_added k1 k2 k3 M).2 k1 i).toInt from rfl, er i hi, Int.one_mul]; exact (ei i hi).1
  refine ⟨fun i hi => by rw [ej i hi, Int.one_mul]; exact (ei i hi).2, q1 + q2, ?_⟩
  unfold v16 at *
  rw [ws_lin ej, h2, g2]
  grind
theorem r_sub {M : mm_M} {k2 k3 b c : Nat} {x y : Int} (k1 : Nat) (h : r_is M k2 b x) (g : r_is M k3 c y) (hb : b + c ≤ 262144) : r_is (f_X12_less k1 k2 k3 M) k1 (b + c) (x - y) := by
  have er : ∀ i, i < 16 → (f_X12_less k1 k2 k3 M).2 k1 i = M.2 k2 i - M.2 k3 i := fun i hi => by
    unfold f_X12_less
    rw [r_subL]
    exact pwl_lo k1 _ M (fun N t _ e => by rw [e, e]) 16 i hi
  obtain ⟨h1, q1, h2⟩ := h
  obtain ⟨g1, q2, g2⟩ := g
  have ei : ∀ i, i < 16 → ib (M.2 k2 i - M.2 k3 i) (lg M k2 i - lg M k3 i) (b + c) := fun i hi => (ib.of _ (h1 i hi)).sub (ib.of _ (g1 i hi)) (by omega)
  have ej : ∀ i, i < 16 → lg (f_X12_less k1 k2 k3 M) k1 i = lg M k2 i + (-1) * lg M k3 i := fun i hi => by
    rw [show lg (f_X12_less k1 k2 k3 M) k1 i = ((f_X12_less k1 k2 k3 M).2 k1 i).toInt from rfl, er i hi, (ei i hi).1]; omega
  refine ⟨fun i hi => by rw [show lg (f_X12_less k1 k2 k3 M) k1 i = ((f_X12_less k1 k2 k3 M).2 k1 i).toInt from rfl, er i hi, (ei i hi).1]; exact (ei i hi).2, q1 - q2, ?_⟩
  unfold v16 at *
  rw [ws_lin ej, h2, g2]
  grind
theorem r_mulI {M : mm_M} {k2 k3 b c : Nat} {x y : Int} (k1 : Nat) (h : r_is M k2 b x) (g : r_is M k3 c y) (hb : b ≤ 262144) (hc : c ≤ 262144) (n2 : k2 ≠ 143) (n3 : k3 ≠ 143) (n1 : k1 ≠ 143) : r_is (f_X12_times k1 k2 k3 M) k1 131072 (x * y) := by
  have h1 := (h.le hb).1
  have g1 := (g.le hc).1
  obtain ⟨-, q1, h2⟩ := h
  obtain ⟨-, q2, g2⟩ := g
  unfold f_X12_times
  dsimp only
  have z1 : ∀ n, n < 31 → lg (f_X12_times_L3 M 31) 143 n = 0 := fun n hn => by
    unfold lg
    rw [r_L3, pwl_lo 143 _ M (fun _ _ _ _ => rfl) 31 n hn]
    rfl
  have z2 : ∀ a, a ≠ 143 → (f_X12_times_L3 M 31).2 a = M.2 a := fun a ha => by
    rw [r_L3]; funext j; exact pwl_hi 143 _ M 31 a j (Or.inl ha)
  generalize f_X12_times_L3 M 31 = M1 at *
  have a2 : lg M1 k2 = lg M k2 := by unfold lg; rw [z2 k2 n2]
  have a3 : lg M1 k3 = lg M k3 := by unfold lg; rw [z2 k3 n3]
  obtain ⟨-, b2, b3⟩ := r_L27 k2 k3 M1 n2 n3 (by rw [a2]; exact h1) (by rw [a3]; exact g1) z1 16 (by decide)
  generalize f_X12_times_L27 k2 k3 M1 16 = M3 at *
  obtain ⟨-, c2, c3⟩ := r_L81 M3 (fun n hn => b2 n hn) 15 (by decide)
  generalize f_X12_times_L81 M3 15 = M5 at *
  have d1 : ∀ i, i < 16 → lg (f_X12_times_L121 k1 M5 16) k1 i = lg M5 143 i := fun i hi => by
    have e0 : (f_X12_times_L121 k1 M5 16).2 k1 i = M5.2 143 i := by
      rw [r_L121]
      exact pwl_lo k1 _ M5 (fun N t _ e => by rw [e]) 16 i hi
    unfold lg
    rw [e0]
  generalize f_X12_times_L121 k1 M5 16 = M7 at *
  have e1 : ∀ i, i < 16 → lg M7 k1 i = lg M3 143 i + 38 * (if i < 15 then lg M3 143 (16 + i) else 0) := fun i hi => by
    rw [d1 i hi]
    by_cases e : i < 15
    · rw [if_pos e, c3 i e, Nat.add_comm i 16]
    · rw [if_neg e, c2 i (by omega)]; omega
  have e2 : ∀ i, i < 16 → (lg M7 k1 i).natAbs ≤ 70368744177664 := fun i hi => by
    rw [e1 i hi]
    have f1 := b2 i (by omega)
    by_cases e : i < 15
    · rw [if_pos e]
      have f2 := b2 (16 + i) (by omega)
      generalize lg M3 143 i = A at *
      generalize lg M3 143 (16 + i) = B at *
      omega
    · rw [if_neg e]
      generalize lg M3 143 i = A at *
      omega
  have e3 : v16 M7 k1 = ws w16 (lg M3 143) 16 + 38 * ws w16 (fun i => if i < 15 then lg M3 143 (16 + i) else 0) 16 := ws_lin e1
  have e4 : ws w16 (fun i => if i < 15 then lg M3 143 (16 + i) else 0) 16 = ws w16 (fun i => lg M3 143 (16 + i)) 15 := by
    rw [show ws w16 (fun i => if i < 15 then lg M3 143 (16 + i) else 0) 16 = ws w16 (fun i => if i < 15 then lg M3 143 (16 + i) else 0) 15 + (if 15 < 15 then lg M3 143 (16 + 15) else 0) * w16 15 from rfl, if_neg (by decide), ws_congr (a := fun i => if i < 15 then lg M3 143 (16 + i) else 0) (b := fun i => lg M3 143 (16 + i)) (fun i hi => if_pos hi)]
    simp
  have e5 := ws_split (lg M3 143) 16 15
  rw [show (16 + 15 : Nat) = 31 from rfl, b3, a2, a3] at e5
  obtain ⟨d, q, m1, m2, m3, m4, z, m5⟩ := r_carry2 k1 M7 e2
  refine ⟨fun i hi => ?_, ?_⟩
  · rw [m2 i hi]
    by_cases e : i = 0
    · rw [if_pos e]
      have := m1 0 (by decide)
      omega
    · rw [if_neg e]
      have := m1 i hi
      omega
  · rw [m5, e3, e4]
    unfold v16 at h2 g2
    rw [h2, g2] at e5
    have e16 : w16 16 = 2 * pP + 38 := by decide
    rw [e16] at e5
    generalize ws w16 (fun i => lg M3 143 (16 + i)) 15 = A at *
    generalize ws w16 (lg M3 143) 16 = B at *
    exact ⟨z - 2 * A + q1 * y + q2 * x + q1 * q2 * pP, by clear m1 m2 m5 e1 e2 e3 c2 c3 b2 h1 g1; grind⟩
