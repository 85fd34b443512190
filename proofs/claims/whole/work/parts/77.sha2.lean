/-! SHA-256: the digest, as a pure function, on both sides -/
def shF (m : Nat → Nat) : Nat → Nat → Int32
  | 0 => mm_tab 175
  | k + 1 => shB (shF m k) (fun j => m (64 * k + j))
theorem shF_congr {m m' : Nat → Nat} : ∀ k, (∀ j, j < 64 * k → m j = m' j) → ∀ i, i < 8 → shF m k i = shF m' k i
  | 0, _, _, _ => rfl
  | k + 1, h, i, hi => by
    rw [shF, shF]
    exact shB_congr (shF_congr k (fun j hj => h j (by omega))) (fun j hj => h _ (by omega)) i hi
def shPad (m : Nat → Nat) (n j : Nat) : Nat := if j < n then m j else if j = n then 128 else if j < sm_p n + 4 then 0 else 8 * n / 256 ^ (7 - (j - sm_p n)) % 256
def shD (m : Nat → Nat) (n i : Nat) : Int32 := mm_b (mm_us (shF (shPad m n) ((sm_p n + 8) / 64) (i / 4)) (nI (24 - 8 * (i % 4))))
theorem shPad_congr {m m' : Nat → Nat} {n : Nat} (h : ∀ j, j < n → m j = m' j) : shPad m n = shPad m' n := by
  funext j
  unfold shPad
  by_cases c : j < n
  · rw [if_pos c, if_pos c, h j c]
  · rw [if_neg c, if_neg c]
theorem shD_congr {m m' : Nat → Nat} {n : Nat} (h : ∀ j, j < n → m j = m' j) : shD m n = shD m' n := by
  funext i
  unfold shD
  rw [shPad_congr h]
theorem shD_b (m : Nat → Nat) (n i : Nat) : (shD m n i).toInt8.toInt32 = shD m n i := isb_b _
theorem sm_lo {n : Nat} (h : n % 64 < 56) : sm_p n = 64 * (n / 64) + 56 := by unfold sm_p; omega
theorem sm_hi {n : Nat} (h : 56 ≤ n % 64) : sm_p n = 64 * (n / 64) + 120 := by unfold sm_p; omega
theorem nI31 : ∀ k : Fin 32, (nI k.1 &&& 31) = Int32.ofNat k.1 := by decide
theorem nIof : ∀ k : Fin 32, nI k.1 = Int32.ofNat k.1 := by decide
theorem un_sr (x c : Int32) (k : Nat) (hk : k ≤ 24) (hc : c = Int32.ofNat k) : un (x >>> c) % 256 = un x / 2 ^ k % 256 := by
  subst hc
  have h1 : (x >>> Int32.ofNat k).toBitVec = x.toBitVec.sshiftRight ((Int32.ofNat k).toBitVec.smod 32).toNat := rfl
  have h2 : ∀ k : Fin 32, ((Int32.ofNat k.1).toBitVec.smod 32).toNat = k.1 := by decide
  rw [h2 ⟨k, by omega⟩] at h1
  have h : BitVec.setWidth 8 (x.toBitVec.sshiftRight k) = BitVec.setWidth 8 (x.toBitVec >>> k) := by
    ext i hi
    rw [BitVec.getElem_setWidth, BitVec.getElem_setWidth, BitVec.getLsbD_sshiftRight, BitVec.getLsbD_ushiftRight, if_pos (by omega), decide_eq_false (by omega), Bool.not_false, Bool.true_and]
  have h3 := congrArg BitVec.toNat h
  rw [BitVec.toNat_setWidth, BitVec.toNat_setWidth, BitVec.toNat_ushiftRight, Nat.shiftRight_eq_div_pow] at h3
  unfold un
  rw [h1]
  exact h3
theorem b_sr (x : Int32) (k : Nat) (hk : k ≤ 24) : mm_b (x >>> (nI k &&& 31)) = mm_b (mm_us x (nI k)) := by
  refine mm_b_eq ?_
  rw [nI31 ⟨k, by omega⟩, un_sr x _ k hk rfl, nIof ⟨k, by omega⟩, un_us x _ k (by omega) rfl]
theorem un_ul (x : Int64) (y : Int32) (k : Nat) (hk : k < 64) (hy : y = Int32.ofNat k) : (mm_ul x y).toBitVec.toNat = x.toBitVec.toNat / 2 ^ k := by
  subst hy
  unfold mm_ul
  have h2 : ∀ k : Fin 64, ((Int32.ofNat k.1).toInt64.toUInt64 &&& Int64.toUInt64 63) = UInt64.ofNat k.1 := by decide
  rw [h2 ⟨k, hk⟩]
  show (x.toUInt64 >>> UInt64.ofNat k).toBitVec.toNat = _
  have h3 : ∀ k : Fin 64, ((UInt64.ofNat k.1).toBitVec % 64).toNat = k.1 := by decide
  rw [show (x.toUInt64 >>> UInt64.ofNat k).toBitVec = x.toUInt64.toBitVec >>> ((UInt64.ofNat k).toBitVec % 64).toNat from rfl, h3 ⟨k, hk⟩, BitVec.toNat_ushiftRight, Nat.shiftRight_eq_div_pow]
  rfl
theorem l_nat {x : Int64} {n : Nat} (h : x.toInt = n) : x.toBitVec.toNat = n := by
  have e : x.toInt = x.toBitVec.toInt := rfl
  rw [e, BitVec.toInt_eq_toNat_cond] at h
  have := x.toBitVec.isLt
  by_cases c : 2 * x.toBitVec.toNat < 2 ^ 64
  · rw [if_pos c] at h; omega
  · rw [if_neg c] at h; omega
theorem un_l2 (x : Int64) : un x.toInt32 = x.toBitVec.toNat % 4294967296 := by
  unfold un
  rw [Int64.toBitVec_toInt32, BitVec.signExtend_eq_setWidth_of_le x.toBitVec (by decide), BitVec.toNat_setWidth]
theorem rd_storeB (v : Int32) (k p : Nat) (M : mm_M) (j : Nat) : (f_X1_storeBig v k p M).1 k j = if j = p then mm_b (mm_us v 24) else if j = p + 1 then mm_b (mm_us v 16) else if j = p + 2 then mm_b (mm_us v 8) else if j = p + 3 then mm_b v else M.1 k j := by
  unfold f_X1_storeBig
  try dsimp only
  rw [rd_w, rd_w, rd_w, rd_w]
  by_cases e0 : j = p
  · rw [if_neg (by omega), if_neg (by omega), if_neg (by omega), if_pos ⟨rfl, e0⟩, if_pos e0]
  · by_cases e1 : j = p + 1
    · rw [if_neg (by omega), if_neg (by omega), if_pos ⟨rfl, e1⟩, if_neg e0, if_pos e1]
    · by_cases e2 : j = p + 2
      · rw [if_neg (by omega), if_pos ⟨rfl, e2⟩, if_neg e0, if_neg e1, if_pos e2]
      · by_cases e3 : j = p + 3
        · rw [if_pos ⟨rfl, e3⟩, if_neg e0, if_neg e1, if_neg e2, if_pos e3]
        · rw [if_neg (fun q => e3 q.2), if_neg (fun q => e2 q.2), if_neg (fun q => e1 q.2), if_neg (fun q => e0 q.2), if_neg e0, if_neg e1, if_neg e2, if_neg e3]
theorem rd_clear (p : Nat) (M : mm_M) (j : Nat) : (f_X8_clearBlock p M).1 26 j = if p ≤ j ∧ j < p + (64 - p) then 0 else M.1 26 j := by
  have h : ∀ t, (f_X8_clearBlock_L2 p M t).1 26 j = if p ≤ j ∧ j < p + t then 0 else M.1 26 j := by
    intro t
    induction t with
    | zero => rw [if_neg (by omega)]; rfl
    | succ t ih =>
      rw [f_X8_clearBlock_L2]
      generalize f_X8_clearBlock_L2 p M t = R at *
      rw [rd_w]
      by_cases e : j = p + t
      · rw [if_pos ⟨rfl, e⟩, if_pos (by omega)]
      · rw [if_neg (fun q => e q.2), ih]
        by_cases c : p ≤ j ∧ j < p + t
        · rw [if_pos c, if_pos (by omega)]
        · rw [if_neg c, if_neg (by omega)]
  unfold f_X8_clearBlock
  exact h (64 - p)
/-! the engine's stream -/
def sha_is (M : mm_M) (m : Nat → Nat) (n : Nat) : Prop := M.1 23 3 = nI (n % 64) ∧ (∀ i, i < 8 → M.1 24 i = shF m (n / 64) i) ∧ (∀ j, j < n % 64 → ub (M.1 26 j) = m (64 * (n / 64) + j))
def sha_t (M : mm_M) : Prop := ∀ k, 173 ≤ k → k < 181 → ∀ j, j < 64 → (k = 176 ∨ (k = 175 ∧ j < 8)) → M.1 k j = mm_tab k j
theorem e_reset (M : mm_M) (m : Nat → Nat) (hT : ∀ j, j < 8 → M.1 175 j = mm_tab 175 j) : sha_is (f_X8_reset M) m 0 ∧ ((f_X8_reset M).2 23 4).toInt = (0 : Nat) := by
  unfold f_X8_reset
  try dsimp only
  refine ⟨⟨?_, fun i hi => ?_, fun j hj => absurd hj (by omega)⟩, ?_⟩
  · rw [rd_wl1, rd_wS]; rfl
  · rw [rd_wl1, rd_wN _ _ _ _ (Or.inl (by decide))]
    have := rd_cpS M 175 0 24 0 8 hi
    simp only [Nat.zero_add] at this
    rw [this, hT i hi]
    rfl
  · rw [rd_wlS]; rfl
theorem e_abL (k1 p1 n : Nat) (σ : mm_M) (m : Nat → Nat) (hT : ∀ j, j < 64 → σ.1 176 j = mm_tab 176 j) (h : sha_is σ m n) (hk : k1 ∉ [23, 24, 25, 26]) (size : Nat) (hm : ∀ i, i < size → m (n + i) = ub (σ.1 k1 (p1 + i))) : ∀ t, t ≤ size → sha_is (f_X8_absorb_L3 k1 p1 (n % 64) σ t) m (n + t)
  | 0, _ => h
  | t + 1, ht => by
    obtain ⟨h1, h2, h3⟩ := e_abL k1 p1 n σ m hT h hk size hm t (by omega)
    have f := w_f_X8_absorb_L3 k1 p1 (n % 64) σ t
    rw [f_X8_absorb_L3]
    generalize f_X8_absorb_L3 k1 p1 (n % 64) σ t = R at *
    try dsimp only
    have fk : R.1 k1 = σ.1 k1 := (f k1 (by simp at hk ⊢; omega)).1
    have f176 : R.1 176 = σ.1 176 := (f 176 (by decide)).1
    have eq : (n % 64 + t) % 64 = (n + t) % 64 := by omega
    rw [eq, fk]
    have hv := hm t (by omega)
    generalize σ.1 k1 (p1 + t) = v at *
    have b8 : ∀ j, j < (n + t) % 64 + 1 → ub ((mm_w (mm_w R 26 ((n + t) % 64) v) 23 3 (nI ((n + t) % 64 + 1))).1 26 j) = m (64 * ((n + t) / 64) + j) := by
      intro j hj
      rw [rd_wN _ _ _ _ (Or.inl (by decide))]
      by_cases e : j = (n + t) % 64
      · rw [e, rd_wS, ← hv, show 64 * ((n + t) / 64) + (n + t) % 64 = n + t from by omega]
      · rw [rd_wN _ _ _ _ (Or.inr e)]
        exact h3 j (by omega)
    have c8 : ∀ i, i < 8 → (mm_w (mm_w R 26 ((n + t) % 64) v) 23 3 (nI ((n + t) % 64 + 1))).1 24 i = shF m ((n + t) / 64) i := by
      intro i hi
      rw [rd_wN _ _ _ _ (Or.inl (by decide)), rd_wN _ _ _ _ (Or.inl (by decide))]
      exact h2 i hi
    have s8 : (mm_w (mm_w R 26 ((n + t) % 64) v) 23 3 (nI ((n + t) % 64 + 1))).1 23 3 = nI ((n + t) % 64 + 1) := rd_wS _ _ _ _
    have t8' : ∀ j, j < 64 → (mm_w (mm_w R 26 ((n + t) % 64) v) 23 3 (nI ((n + t) % 64 + 1))).1 176 j = mm_tab 176 j := by
      intro j hj
      rw [rd_wN _ _ _ _ (Or.inl (by decide)), rd_wN _ _ _ _ (Or.inl (by decide)), f176]
      exact hT j hj
    generalize mm_w (mm_w R 26 ((n + t) % 64) v) 23 3 (nI ((n + t) % 64 + 1)) = N at *
    unfold f_X8_absorb_B1
    rw [eq]
    by_cases c : (n + t) % 64 + 1 = 64
    · rw [if_neg (fun q => q c)]
      try dsimp only
      have b := e_shB N t8'
      generalize f_X8_compress (f_X8_fillSchedule N) = S at *
      refine ⟨?_, fun i hi => ?_, fun j hj => absurd hj (by omega)⟩
      · rw [rd_wS, show (n + (t + 1)) % 64 = 0 from by omega]; rfl
      · rw [rd_wN _ _ _ _ (Or.inl (by decide)), b i hi, show (n + (t + 1)) / 64 = (n + t) / 64 + 1 from by omega, shF]
        exact shB_congr c8 (fun j hj => b8 j (by omega)) i hi
    · rw [if_pos c]
      refine ⟨?_, fun i hi => ?_, fun j hj => ?_⟩
      · rw [s8, show (n + (t + 1)) % 64 = (n + t) % 64 + 1 from by omega]
      · rw [c8 i hi, show (n + (t + 1)) / 64 = (n + t) / 64 from by omega]
      · rw [show (n + (t + 1)) / 64 = (n + t) / 64 from by omega]
        exact b8 j (by omega)
theorem cm_2 (M : mm_M) : (f_X8_compress M).2 = M.2 := by
  unfold f_X8_compress
  dsimp only
  generalize f_X8_compress_L66 M (M.1 24 7, M.1 24 6, M.1 24 5, M.1 24 4, M.1 24 3, M.1 24 2, M.1 24 1, M.1 24 0) 64 = s
  rw [rd_w2, rd_w2, rd_w2, rd_w2, rd_w2, rd_w2, rd_w2, rd_w2]
theorem fs2_2 (N : mm_M) : ∀ t, (f_X8_fillSchedule_L2 N t).2 = N.2
  | 0 => rfl
  | t + 1 => by rw [f_X8_fillSchedule_L2, rd_w2]; exact fs2_2 N t
theorem fs33_2 (N : mm_M) : ∀ t, (f_X8_fillSchedule_L33 N t).2 = N.2
  | 0 => rfl
  | t + 1 => by rw [f_X8_fillSchedule_L33, rd_w2]; exact fs33_2 N t
theorem fs_2 (M : mm_M) : (f_X8_fillSchedule M).2 = M.2 := by
  unfold f_X8_fillSchedule
  rw [fs33_2, fs2_2]
theorem abB_2 (q t : Nat) (M : mm_M) : (f_X8_absorb_B1 q t M).2 = M.2 := by
  unfold f_X8_absorb_B1
  by_cases c : ¬ (q + t) % 64 + 1 = 64
  · rw [if_pos c]
  · rw [if_neg c, rd_w2, cm_2, fs_2]
theorem abL_2 (k1 p1 q : Nat) (M : mm_M) : ∀ t, (f_X8_absorb_L3 k1 p1 q M t).2 = M.2
  | 0 => rfl
  | t + 1 => by rw [f_X8_absorb_L3, abB_2, rd_w2, rd_w2]; exact abL_2 k1 p1 q M t
theorem nIlong (n : Nat) (h : n < 2147483648) : ((nI n).toInt64).toInt = n := by
  rw [toI64, un_toInt (z := nI n) (by rw [show nI n = Int32.ofNat n from rfl, un_ofNat n (by omega)]; exact h), show nI n = Int32.ofNat n from rfl, un_ofNat n (by omega)]
theorem e_absorb (k1 p1 n : Nat) (M : mm_M) (m : Nat → Nat) (hT : ∀ j, j < 64 → M.1 176 j = mm_tab 176 j) (h : sha_is M m n) (hn : (M.2 23 4).toInt = n) (hk : k1 ∉ [23, 24, 25, 26]) (size : Nat) (hs : n + size < 268435456) (hm : ∀ i, i < size → m (n + i) = ub (M.1 k1 (p1 + i))) : sha_is (f_X8_absorb k1 p1 size (n % 64) M) m (n + size) ∧ ((f_X8_absorb k1 p1 size (n % 64) M).2 23 4).toInt = ((n + size : Nat) : Int) := by
  have hL := e_abL k1 p1 n M m hT h hk size hm size (Nat.le_refl _)
  have f := abL_2 k1 p1 (n % 64) M
  unfold f_X8_absorb
  try dsimp only
  have fz := f size
  generalize f_X8_absorb_L3 k1 p1 (n % 64) M size = R at *
  refine ⟨⟨?_, ?_, ?_⟩, ?_⟩
  · rw [rd_wl1]; exact hL.1
  · rw [rd_wl1]; exact hL.2.1
  · rw [rd_wl1]; exact hL.2.2
  · rw [rd_wlS, fz]
    have a := (ib_c (M.2 23 4) n 268435456 hn (by omega)).add (ib_c _ _ 268435456 (nIlong size (by omega)) (by omega)) (by decide)
    rw [a.1]
    omega
