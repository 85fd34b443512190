/-! the engine's last blocks -/
theorem e_len (N : mm_M) (n : Nat) (hn : (N.2 23 4).toInt = n) (hs : n < 268435456) : ∀ j, j < 64 → ub ((f_X1_storeBig ((N.2 23 4 * 8).toInt32) 26 60 (f_X1_storeBig ((mm_ul (N.2 23 4 * 8) 32).toInt32) 26 56 N)).1 26 j) = if j < 56 then ub (N.1 26 j) else if j < 60 then 0 else 8 * n / 256 ^ (63 - j) % 256 := by
  have a := (ib_c (N.2 23 4) n 268435456 hn (by omega)).mul (ib_c 8 8 8 rfl (by decide)) (by decide)
  have b : (N.2 23 4 * 8).toBitVec.toNat = 8 * n := l_nat (n := 8 * n) (by rw [a.1]; omega)
  generalize N.2 23 4 * 8 = x at *
  have c : un (mm_ul x 32).toInt32 = 0 := by
    rw [un_l2, un_ul x 32 32 (by decide) (by decide), b]
    omega
  have d : un x.toInt32 = 8 * n := by
    rw [un_l2, b]; omega
  generalize (mm_ul x 32).toInt32 = y at *
  generalize x.toInt32 = z at *
  intro j hj
  rw [rd_storeB, rd_storeB]
  by_cases c1 : j < 56
  · rw [if_pos c1, if_neg (by omega), if_neg (by omega), if_neg (by omega), if_neg (by omega), if_neg (by omega), if_neg (by omega), if_neg (by omega), if_neg (by omega)]
  · rw [if_neg c1]
    by_cases c2 : j < 60
    · rw [if_pos c2, if_neg (by omega), if_neg (by omega), if_neg (by omega), if_neg (by omega)]
      have : j = 56 ∨ j = 57 ∨ j = 58 ∨ j = 59 := by omega
      rcases this with rfl | rfl | rfl | rfl
      · rw [if_pos rfl, ub_st y 24 24 (by decide) (by decide), c]
      · rw [if_neg (by decide), if_pos rfl, ub_st y 16 16 (by decide) (by decide), c]
      · rw [if_neg (by decide), if_neg (by decide), if_pos rfl, ub_st y 8 8 (by decide) (by decide), c]
      · rw [if_neg (by decide), if_neg (by decide), if_neg (by decide), if_pos rfl, ub_st0, c]
    · rw [if_neg c2]
      have : j = 60 ∨ j = 61 ∨ j = 62 ∨ j = 63 := by omega
      rcases this with rfl | rfl | rfl | rfl
      · rw [if_pos rfl, ub_st z 24 24 (by decide) (by decide), d]
      · rw [if_neg (by decide), if_pos rfl, ub_st z 16 16 (by decide) (by decide), d]
      · rw [if_neg (by decide), if_neg (by decide), if_pos rfl, ub_st z 8 8 (by decide) (by decide), d]
      · rw [if_neg (by decide), if_neg (by decide), if_neg (by decide), if_pos rfl, ub_st0, d]
        omega
theorem e_out (k1 : Nat) (hk : k1 ≠ 24) (σ : mm_M) : ∀ t, ∀ i, i < 4 * t → (f_X8_finish_L88 k1 σ t).1 k1 i = mm_b (mm_us (σ.1 24 (i / 4)) (nI (24 - 8 * (i % 4))))
  | 0, i, hi => absurd hi (by omega)
  | t + 1, i, hi => by
    have ih := e_out k1 hk σ t
    have f := (w_f_X8_finish_L88 k1 σ t 24 (by simp; omega)).1
    rw [f_X8_finish_L88]
    generalize f_X8_finish_L88 k1 σ t = R at *
    try dsimp only
    rw [rd_storeB, f]
    by_cases e : i < 4 * t
    · rw [if_neg (by omega), if_neg (by omega), if_neg (by omega), if_neg (by omega)]
      exact ih i e
    · have : i = 4 * t ∨ i = 4 * t + 1 ∨ i = 4 * t + 2 ∨ i = 4 * t + 3 := by omega
      rcases this with rfl | rfl | rfl | rfl
      · rw [if_pos rfl, show 4 * t / 4 = t from by omega, show 4 * t % 4 = 0 from by omega]; rfl
      · rw [if_neg (by omega), if_pos rfl, show (4 * t + 1) / 4 = t from by omega, show (4 * t + 1) % 4 = 1 from by omega]; rfl
      · rw [if_neg (by omega), if_neg (by omega), if_pos rfl, show (4 * t + 2) / 4 = t from by omega, show (4 * t + 2) % 4 = 2 from by omega]; rfl
      · rw [if_neg (by omega), if_neg (by omega), if_neg (by omega), if_pos rfl, show (4 * t + 3) / 4 = t from by omega, show (4 * t + 3) % 4 = 3 from by omega]
        refine mm_b_eq ?_
        rw [un_us (σ.1 24 t) (nI (24 - 8 * 3)) 0 (by decide) (by decide)]
        omega
theorem e_last (k1 : Nat) (hk : k1 ≠ 24) (N : mm_M) (m : Nat → Nat) (n K : Nat) (hT : ∀ j, j < 64 → N.1 176 j = mm_tab 176 j) (hn : (N.2 23 4).toInt = n) (hs : n < 268435456) (hc : ∀ i, i < 8 → N.1 24 i = shF (shPad m n) K i) (hK : sm_p n = 64 * K + 56) (hb : ∀ j, j < 56 → ub (N.1 26 j) = shPad m n (64 * K + j)) : ∀ i, i < 32 → (f_X8_finish_L88 k1 (f_X8_compress (f_X8_fillSchedule (f_X1_storeBig ((N.2 23 4 * 8).toInt32) 26 60 (f_X1_storeBig ((mm_ul (N.2 23 4 * 8) 32).toInt32) 26 56 N)))) 8).1 k1 i = shD m n i := by
  intro i hi
  have l := e_len N n hn hs
  have fr : mm_fr [26] N (f_X1_storeBig ((N.2 23 4 * 8).toInt32) 26 60 (f_X1_storeBig ((mm_ul (N.2 23 4 * 8) 32).toInt32) 26 56 N)) := (w_f_X1_storeBig _ _ _ _).on (by simp) (w_f_X1_storeBig _ _ _ _)
  generalize (f_X1_storeBig ((N.2 23 4 * 8).toInt32) 26 60 (f_X1_storeBig ((mm_ul (N.2 23 4 * 8) 32).toInt32) 26 56 N)) = P at *
  have f24 : P.1 24 = N.1 24 := (fr 24 (by decide)).1
  have f176 : P.1 176 = N.1 176 := (fr 176 (by decide)).1
  have b := e_shB P (by rw [f176]; exact hT)
  generalize f_X8_compress (f_X8_fillSchedule P) = S at *
  rw [e_out k1 hk S 8 i (by omega), b (i / 4) (by omega)]
  unfold shD
  rw [show (sm_p n + 8) / 64 = K + 1 from by omega, shF, f24]
  rw [shB_congr (c := N.1 24) (c' := shF (shPad m n) K) (b := fun j => ub (P.1 26 j)) (b' := fun j => shPad m n (64 * K + j)) hc (fun j hj => ?_) (i / 4) (by omega)]
  have q := l j hj
  rw [q]
  by_cases c1 : j < 56
  · rw [if_pos c1]; exact hb j c1
  · rw [if_neg c1]
    have hp : n < 64 * K + 56 := by unfold sm_p at hK; omega
    unfold shPad
    by_cases c2 : j < 60
    · rw [if_pos c2, if_neg (by omega), if_neg (by omega), if_pos (by omega)]
    · rw [if_neg c2, if_neg (by omega), if_neg (by omega), if_neg (by omega), hK, show 7 - (64 * K + j - (64 * K + 56)) = 63 - j from by omega]
theorem e_finish (k1 : Nat) (hk : k1 ≠ 24) (M : mm_M) (m : Nat → Nat) (n : Nat) (hT : ∀ j, j < 64 → M.1 176 j = mm_tab 176 j) (h : sha_is M m n) (hn : (M.2 23 4).toInt = n) (hs : n < 268435456) : ∀ i, i < 32 → (f_X8_finish k1 (n % 64) M).1 k1 i = shD m n i := by
  obtain ⟨-, h2, h3⟩ := h
  unfold f_X8_finish
  try dsimp only
  have b2 : ∀ j, j < 64 → ub ((f_X8_clearBlock (n % 64 + 1) (mm_w M 26 (n % 64) (-128))).1 26 j) = if j < n % 64 then m (64 * (n / 64) + j) else if j = n % 64 then 128 else 0 := by
    intro j hj
    rw [rd_clear]
    by_cases c1 : j < n % 64
    · rw [if_neg (by omega), if_pos c1, rd_wN _ _ _ _ (Or.inr (by omega))]
      exact h3 j c1
    · rw [if_neg c1]
      by_cases c2 : j = n % 64
      · rw [if_neg (by omega), if_pos c2, c2, rd_wS]; decide
      · rw [if_pos (by omega), if_neg c2]; decide
  have fr : mm_fr [26] M (f_X8_clearBlock (n % 64 + 1) (mm_w M 26 (n % 64) (-128))) := (w_f_X8_clearBlock _ _).on (by simp) (mm_fr_w (by decide) (mm_fr_refl _ _))
  generalize f_X8_clearBlock (n % 64 + 1) (mm_w M 26 (n % 64) (-128)) = N at *
  have f24 : N.1 24 = M.1 24 := (fr 24 (by decide)).1
  have f176 : N.1 176 = M.1 176 := (fr 176 (by decide)).1
  have f23 : N.2 23 = M.2 23 := (fr 23 (by decide)).2
  have hcn : ∀ j, j < 64 * (n / 64) → m j = shPad m n j := fun j hj => by
    unfold shPad
    rw [if_pos (by omega)]
  have c0 : ∀ i, i < 8 → N.1 24 i = shF (shPad m n) (n / 64) i := fun i hi => by
    rw [f24, h2 i hi]
    exact shF_congr (n / 64) hcn i hi
  unfold f_X8_finish_B1
  by_cases c : n % 64 < 56
  · rw [if_pos c]
    try dsimp only
    have hp := sm_lo c
    refine e_last k1 hk N m n (n / 64) (by rw [f176]; exact hT) (by rw [f23]; exact hn) hs c0 hp ?_
    intro j hj
    rw [b2 j (by omega)]
    unfold shPad
    by_cases c1 : j < n % 64
    · rw [if_pos c1, if_pos (by omega)]
    · rw [if_neg c1]
      by_cases c2 : j = n % 64
      · rw [if_pos c2, if_neg (by omega), if_pos (by omega)]
      · rw [if_neg c2, if_neg (by omega), if_neg (by omega), if_pos (by omega)]
  · rw [if_neg c]
    try dsimp only
    have hp := sm_hi (n := n) (by omega)
    have b := e_shB N (by rw [f176]; exact hT)
    have g1 := w_f_X8_fillSchedule N
    have g2 := w_f_X8_compress (f_X8_fillSchedule N)
    generalize f_X8_fillSchedule N = N1 at *
    generalize f_X8_compress N1 = N2 at *
    have g3 := w_f_X8_clearBlock 0 N2
    have z := rd_clear 0 N2
    generalize f_X8_clearBlock 0 N2 = N3 at *
    have e24 : N3.1 24 = N2.1 24 := (g3 24 (by decide)).1
    have e176 : N3.1 176 = N.1 176 := by rw [(g3 176 (by decide)).1, (g2 176 (by decide)).1, (g1 176 (by decide)).1]
    have e23 : N3.2 23 = N.2 23 := by rw [(g3 23 (by decide)).2, (g2 23 (by decide)).2, (g1 23 (by decide)).2]
    refine e_last k1 hk N3 m n (n / 64 + 1) (by rw [e176, f176]; exact hT) (by rw [e23, f23]; exact hn) hs ?_ (by omega) ?_
    · intro i hi
      rw [e24, b i hi, shF]
      refine shB_congr c0 (fun j hj => ?_) i hi
      have q := b2 j hj
      rw [q]
      unfold shPad
      by_cases c1 : j < n % 64
      · rw [if_pos c1, if_pos (by omega)]
      · rw [if_neg c1]
        by_cases c2 : j = n % 64
        · rw [if_pos c2, if_neg (by omega), if_pos (by omega)]
        · rw [if_neg c2, if_neg (by omega), if_neg (by omega), if_pos (by omega)]
    · intro j hj
      rw [z, if_pos (by omega)]
      unfold shPad
      rw [if_neg (by omega), if_neg (by omega), if_pos (by omega)]
      decide
