/-! the reference's sum -/
theorem rd_put (v : Int32) (q : Nat) (M : mm_M) (j : Nat) : (f_X12_put v q M).1 128 j = if j = q then mm_b v else M.1 128 j := by
  unfold f_X12_put
  try dsimp only
  rw [rd_wN _ _ _ _ (Or.inl (by decide)), rd_w]
  by_cases e : j = q
  · rw [if_pos ⟨rfl, e⟩, if_pos e]
  · rw [if_neg (fun q => e q.2), if_neg e]
theorem rd_putRow (k1 p1 q : Nat) (M : mm_M) (hk : k1 ≠ 128 ∧ k1 ≠ 117) (n j : Nat) : (f_X12_putRow k1 p1 n q M).1 128 j = if q ≤ j ∧ j < q + n then mm_b (M.1 k1 (p1 + (j - q))) else M.1 128 j := by
  have h : ∀ t, (f_X12_putRow_L3 k1 p1 q M t).1 128 j = if q ≤ j ∧ j < q + t then mm_b (M.1 k1 (p1 + (j - q))) else M.1 128 j := by
    intro t
    induction t with
    | zero => rw [if_neg (by omega)]; rfl
    | succ t ih =>
      have f := (w_f_X12_putRow_L3 k1 p1 q M t k1 (by simp; omega)).1
      rw [f_X12_putRow_L3]
      generalize f_X12_putRow_L3 k1 p1 q M t = R at *
      try dsimp only
      rw [rd_put]
      by_cases e : j = q + t
      · rw [if_pos e, if_pos (by omega), f, show j - q = t from by omega]
      · rw [if_neg e, ih]
        by_cases c : q ≤ j ∧ j < q + t
        · rw [if_pos c, if_pos (by omega)]
        · rw [if_neg c, if_neg (by omega)]
  unfold f_X12_putRow
  exact h n
theorem r_p15 (q : Nat) (M : mm_M) (j : Nat) : ∀ t, (f_X12_sums_L15 q M t).1 128 j = if q + 1 ≤ j ∧ j < q + 1 + t then 0 else M.1 128 j
  | 0 => by rw [if_neg (by omega)]; rfl
  | t + 1 => by
    have ih := r_p15 q M j t
    rw [f_X12_sums_L15]
    generalize f_X12_sums_L15 q M t = R at *
    try dsimp only
    rw [rd_put]
    by_cases e : j = q + 1 + t
    · rw [if_pos e, if_pos (by omega)]; decide
    · rw [if_neg e, ih]
      by_cases c : q + 1 ≤ j ∧ j < q + 1 + t
      · rw [if_pos c, if_pos (by omega)]
      · rw [if_neg c, if_neg (by omega)]
theorem r_p37 (q : Nat) (M : mm_M) (j : Nat) : ∀ t, (f_X12_sums_L37 q M t).1 128 j = if sm_p q ≤ j ∧ j < sm_p q + t then 0 else M.1 128 j
  | 0 => by rw [if_neg (by omega)]; rfl
  | t + 1 => by
    have ih := r_p37 q M j t
    rw [f_X12_sums_L37]
    generalize f_X12_sums_L37 q M t = R at *
    try dsimp only
    rw [rd_put]
    by_cases e : j = sm_p q + t
    · rw [if_pos e, if_pos (by omega)]; decide
    · rw [if_neg e, ih]
      by_cases c : sm_p q ≤ j ∧ j < sm_p q + t
      · rw [if_pos c, if_pos (by omega)]
      · rw [if_neg c, if_neg (by omega)]
theorem r_p56 (q : Nat) (M : mm_M) (j : Nat) : ∀ t, (f_X12_sums_L56 q M t).1 128 j = if sm_p q + 4 ≤ j ∧ j < sm_p q + 4 + t then mm_b ((nI (8 * q)) >>> ((nI (24 - 8 * (j - (sm_p q + 4)))) &&& 31)) else M.1 128 j
  | 0 => by rw [if_neg (by omega)]; rfl
  | t + 1 => by
    have ih := r_p56 q M j t
    rw [f_X12_sums_L56]
    generalize f_X12_sums_L56 q M t = R at *
    try dsimp only
    rw [rd_put]
    by_cases e : j = sm_p q + 4 + t
    · rw [if_pos e, if_pos (by omega), show j - (sm_p q + 4) = t from by omega]
    · rw [if_neg e, ih]
      by_cases c : sm_p q + 4 ≤ j ∧ j < sm_p q + 4 + t
      · rw [if_pos c, if_pos (by omega)]
      · rw [if_neg c, if_neg (by omega)]
theorem r_bits (q : Nat) (hq : q < 268435456) (i : Nat) (hi : i < 4) : ub (mm_b ((nI (8 * q)) >>> ((nI (24 - 8 * i)) &&& 31))) = 8 * q / 256 ^ (3 - i) % 256 := by
  rw [b_sr _ _ (by omega), ub_b]
  unfold ub
  have u : un (nI (8 * q)) = 8 * q := un_ofNat _ (by omega)
  have : i = 0 ∨ i = 1 ∨ i = 2 ∨ i = 3 := by omega
  rcases this with rfl | rfl | rfl | rfl
  · rw [un_us _ _ 24 (by decide) (by decide), u]
  · rw [un_us _ _ 16 (by decide) (by decide), u]
  · rw [un_us _ _ 8 (by decide) (by decide), u]
  · rw [un_us _ _ 0 (by decide) (by decide), u]
theorem r_blocks (σ : mm_M) (m : Nat → Nat) (K : Nat) (hT : ∀ j, j < 64 → σ.1 123 j = mm_tab 176 j) (h0 : ∀ i, i < 8 → σ.1 126 i = mm_tab 175 i) (hm : ∀ j, j < 64 * K → ub (σ.1 128 j) = m j) : ∀ t, t ≤ K → ∀ i, i < 8 → (f_X12_sums_L101 σ t).1 126 i = shF m t i
  | 0, _, i, hi => h0 i hi
  | t + 1, ht, i, hi => by
    have ih := r_blocks σ m K hT h0 hm t (by omega)
    have f := w_f_X12_sums_L101 σ t
    rw [f_X12_sums_L101]
    generalize f_X12_sums_L101 σ t = R at *
    try dsimp only
    have f128 : R.1 128 = σ.1 128 := (f 128 (by decide)).1
    have f123 : R.1 123 = σ.1 123 := (f 123 (by decide)).1
    rw [r_shB (t * 64) R (by rw [f123]; exact hT) i hi, shF]
    exact shB_congr ih (fun j hj => by
      show ub (R.1 128 (t * 64 + j)) = _
      rw [f128, hm _ (by omega), show t * 64 + j = 64 * t + j from by omega]) i hi
theorem r_out (σ : mm_M) (i : Nat) : ∀ t, t ≤ 32 → (f_X12_sums_L122 σ t).1 129 i = if i < t then mm_b (mm_us (σ.1 126 (i / 4)) (nI (24 - 8 * (i % 4)))) else σ.1 129 i
  | 0, _ => by rw [if_neg (by omega)]; rfl
  | t + 1, ht => by
    have ih := r_out σ i t (by omega)
    have f := (w_f_X12_sums_L122 σ t 126 (by decide)).1
    rw [f_X12_sums_L122]
    generalize f_X12_sums_L122 σ t = R at *
    try dsimp only
    rw [rd_w]
    by_cases e : i = t
    · rw [if_pos ⟨rfl, e⟩, if_pos (by omega), f, b_sr _ _ (by omega), e]
    · rw [if_neg (fun q => e q.2), ih]
      by_cases c : i < t
      · rw [if_pos c, if_pos (by omega)]
      · rw [if_neg c, if_neg (by omega)]
theorem r_iv (σ : mm_M) : ∀ t, t ≤ 8 → ∀ i, i < t → (f_X12_sums_L75 σ t).1 126 i = σ.1 124 i
  | 0, _, i, hi => absurd hi (by omega)
  | t + 1, ht, i, hi => by
    have ih := r_iv σ t (by omega)
    have f := (w_f_X12_sums_L75 σ t 124 (by decide)).1
    rw [f_X12_sums_L75]
    generalize f_X12_sums_L75 σ t = R at *
    try dsimp only
    rw [rd_w]
    by_cases e : i = t
    · rw [if_pos ⟨rfl, e⟩, f, e]
    · rw [if_neg (fun q => e q.2)]
      exact ih i (by omega)
theorem r_sums (M : mm_M) (m : Nat → Nat) (n : Nat) (hT : ∀ j, j < 64 → M.1 123 j = mm_tab 176 j) (hI : ∀ j, j < 8 → M.1 124 j = mm_tab 175 j) (hs : n < 268435456) (hm : ∀ j, j < n → ub (M.1 128 j) = m j) : ∀ i, i < 32 → (f_X12_sums n M).1 129 i = shD m n i := by
  intro i hi
  unfold f_X12_sums
  try dsimp only
  have a1 := rd_put 128 n M
  have w1 := w_f_X12_put 128 n M
  generalize f_X12_put 128 n M = M1 at *
  have a2 := fun j => r_p15 n M1 j (sm_p n - (n + 1))
  have w2 := w_f_X12_sums_L15 n M1 (sm_p n - (n + 1))
  generalize f_X12_sums_L15 n M1 (sm_p n - (n + 1)) = M2 at *
  have a3 := fun j => r_p37 n M2 j 4
  have w3 := w_f_X12_sums_L37 n M2 4
  generalize f_X12_sums_L37 n M2 4 = M3 at *
  have a4 := fun j => r_p56 n M3 j 4
  have w4 := w_f_X12_sums_L56 n M3 4
  generalize f_X12_sums_L56 n M3 4 = M4 at *
  have b4 : ∀ j, j < sm_p n + 8 → ub (M4.1 128 j) = shPad m n j := by
    intro j hj
    have hp : n + 1 ≤ sm_p n := by unfold sm_p; omega
    unfold shPad
    rw [a4]
    by_cases c1 : j < n
    · rw [if_neg (by omega), if_pos c1, a3, if_neg (by omega), a2, if_neg (by omega), a1, if_neg (by omega)]
      exact hm j c1
    · rw [if_neg c1]
      by_cases c2 : j = n
      · rw [if_neg (by omega), if_pos c2, a3, if_neg (by omega), a2, if_neg (by omega), a1, if_pos c2]
        decide
      · rw [if_neg c2]
        by_cases c3 : j < sm_p n + 4
        · rw [if_neg (by omega), if_pos c3, a3]
          by_cases c4 : j < sm_p n
          · rw [if_neg (by omega), a2, if_pos (by omega)]; decide
          · rw [if_pos (by omega)]; decide
        · rw [if_pos (by omega), if_neg c3, r_bits n hs (j - (sm_p n + 4)) (by omega), show 3 - (j - (sm_p n + 4)) = 7 - (j - sm_p n) from by omega]
  have e123 : M4.1 123 = M.1 123 := by rw [(w4 123 (by decide)).1, (w3 123 (by decide)).1, (w2 123 (by decide)).1, (w1 123 (by decide)).1]
  have e124 : M4.1 124 = M.1 124 := by rw [(w4 124 (by decide)).1, (w3 124 (by decide)).1, (w2 124 (by decide)).1, (w1 124 (by decide)).1]
  have a5 := r_iv M4 8 (by decide)
  have w5 := w_f_X12_sums_L75 M4 8
  generalize f_X12_sums_L75 M4 8 = M5 at *
  have h64 : 64 * ((sm_p n + 4 + 4) / 64) = sm_p n + 8 := by
    by_cases c : n % 64 < 56
    · rw [sm_lo c]; omega
    · rw [sm_hi (by omega)]; omega
  have a6 := r_blocks M5 (shPad m n) ((sm_p n + 4 + 4) / 64) (fun j hj => by rw [(w5 123 (by decide)).1, e123]; exact hT j hj) (fun i hi => by rw [a5 i hi, e124]; exact hI i hi) (fun j hj => by rw [(w5 128 (by decide)).1]; exact b4 j (by omega)) _ (Nat.le_refl _)
  generalize f_X12_sums_L101 M5 ((sm_p n + 4 + 4) / 64) = M6 at *
  rw [r_out M6 i 32 (by decide), if_pos hi, a6 (i / 4) (by omega)]
  unfold shD
  rw [show sm_p n + 8 = sm_p n + 4 + 4 from by omega]
