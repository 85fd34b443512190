/-! HMAC and HKDF: the pure functions, and both sides -/
theorem nx_mod (x y : Nat) : (x ^^^ y) % 256 = (x % 256) ^^^ (y % 256) := by
  rw [show (256 : Nat) = 2 ^ 8 from rfl, Nat.xor_mod_two_pow]
theorem ub_xor (x y : Int32) : ub (mm_b (x ^^^ y)) = ub x ^^^ ub y := by
  rw [ub_b]
  unfold ub
  rw [un_xor, nx_mod]
def hmP (key : Nat → Int32) (c j : Nat) : Nat := (if j < 32 then ub (key j) else 0) ^^^ c
def hmM (key : Nat → Int32) (c : Nat) (m : Nat → Nat) (j : Nat) : Nat := if j < 64 then hmP key c j else m (j - 64)
def hmD (key : Nat → Int32) (m : Nat → Nat) (n i : Nat) : Int32 := shD (hmM key 92 (fun j => ub (shD (hmM key 54 m) (64 + n) j))) 96 i
theorem hmM_lo (key : Nat → Int32) (c : Nat) (m : Nat → Nat) {j : Nat} (h : j < 64) : hmM key c m j = hmP key c j := if_pos h
theorem hmM_hi (key : Nat → Int32) (c : Nat) (m : Nat → Nat) {j : Nat} (h : ¬ j < 64) : hmM key c m j = m (j - 64) := if_neg h
theorem hmP_congr {key key' : Nat → Int32} (h : ∀ j, j < 32 → key j = key' j) (c j : Nat) : hmP key c j = hmP key' c j := by
  unfold hmP
  by_cases e : j < 32
  · rw [if_pos e, if_pos e, h j e]
  · rw [if_neg e, if_neg e]
theorem hmM_congr {key key' : Nat → Int32} {m m' : Nat → Nat} {n : Nat} (h : ∀ j, j < 32 → key j = key' j) (hm : ∀ j, j < n → m j = m' j) (c : Nat) : ∀ j, j < 64 + n → hmM key c m j = hmM key' c m' j := by
  intro j hj
  unfold hmM
  rw [hmP_congr h]
  by_cases e : j < 64
  · rw [if_pos e, if_pos e]
  · rw [if_neg e, if_neg e, hm _ (by omega)]
theorem hmD_congr {key key' : Nat → Int32} {m m' : Nat → Nat} {n : Nat} (h : ∀ j, j < 32 → key j = key' j) (hm : ∀ j, j < n → m j = m' j) : hmD key m n = hmD key' m' n := by
  funext i
  unfold hmD
  rw [shD_congr (hmM_congr h hm 54)]
  exact congrFun (shD_congr (n := 96) (hmM_congr (n := 32) h (fun j _ => rfl) 92)) i
theorem hmD_b (key : Nat → Int32) (m : Nat → Nat) (n i : Nat) : (hmD key m n i).toInt8.toInt32 = hmD key m n i := shD_b _ _ _
/-- the tables that the engine's hash reads -/
def eT (M : mm_M) : Prop := (∀ j, j < 64 → M.1 176 j = mm_tab 176 j) ∧ (∀ j, j < 8 → M.1 175 j = mm_tab 175 j)
theorem eT.fr {L : List Nat} {M N : mm_M} (h : eT M) (w : mm_fr L M N) (h1 : 176 ∉ L) (h2 : 175 ∉ L) : eT N := ⟨fun j hj => by rw [(w 176 h1).1]; exact h.1 j hj, fun j hj => by rw [(w 175 h2).1]; exact h.2 j hj⟩
theorem e_padL (k1 : Nat) (hk : k1 ≠ 28) (σ : mm_M) : ∀ t, t ≤ 64 → ∀ j, j < t → ub ((f_X5_begin_L2 k1 σ t).1 28 j) = hmP (σ.1 k1) 54 j
  | 0, _, j, hj => absurd hj (by omega)
  | t + 1, ht, j, hj => by
    have ih := e_padL k1 hk σ t (by omega)
    have f := (w_f_X5_begin_L2 k1 σ t k1 (by simp; omega)).1
    rw [f_X5_begin_L2]
    generalize f_X5_begin_L2 k1 σ t = R at *
    unfold f_X5_begin_B1
    unfold hmP at *
    by_cases c : 32 ≤ t
    · rw [if_pos c]
      try dsimp only
      rw [rd_w]
      by_cases e : j = t
      · rw [if_pos ⟨rfl, e⟩, if_neg (by omega)]; decide
      · rw [if_neg (fun q => e q.2)]; exact ih j (by omega)
    · rw [if_neg c]
      try dsimp only
      rw [rd_w]
      by_cases e : j = t
      · rw [if_pos ⟨rfl, e⟩, if_pos (by omega), f, ub_xor, e]; rfl
      · rw [if_neg (fun q => e q.2)]; exact ih j (by omega)
/-- the engine's HMAC in the middle of its message -/
def hm_is (M : mm_M) (key : Nat → Int32) (m : Nat → Nat) (n : Nat) : Prop := sha_is M (hmM key 54 m) (64 + n) ∧ (M.2 23 4).toInt = ((64 + n : Nat) : Int) ∧ ∀ j, j < 64 → ub (M.1 28 j) = hmP key 54 j
theorem e_hbegin (k1 : Nat) (hk : k1 ≠ 28) (M : mm_M) (m : Nat → Nat) (hT : eT M) : hm_is (f_X5_begin k1 M) (M.1 k1) m 0 := by
  unfold f_X5_begin
  try dsimp only
  have p := e_padL k1 hk M 64 (by decide)
  have w1 := w_f_X5_begin_L2 k1 M 64
  generalize f_X5_begin_L2 k1 M 64 = M1 at *
  have hT1 := hT.fr w1 (by decide) (by decide)
  obtain ⟨r1, r2⟩ := e_reset M1 (hmM (M.1 k1) 54 m) hT1.2
  have w2 := w_f_X8_reset M1
  generalize f_X8_reset M1 = M2 at *
  have hT2 := hT1.fr w2 (by decide) (by decide)
  have e28 : M2.1 28 = M1.1 28 := (w2 28 (by decide)).1
  obtain ⟨a1, a2⟩ := e_absorb 28 0 0 M2 (hmM (M.1 k1) 54 m) hT2.1 r1 r2 (by decide) 64 (by decide) (fun i hi => by
    simp only [Nat.zero_add]
    rw [e28, p i hi]
    unfold hmM
    rw [if_pos hi])
  have w3 := w_f_X8_absorb 28 0 64 0 M2
  rw [Nat.zero_mod, Nat.zero_add] at a1 a2
  refine ⟨by rw [Nat.add_zero]; exact a1, by rw [Nat.add_zero]; exact a2, fun j hj => ?_⟩
  rw [(w3 28 (by decide)).1, e28]
  exact p j hj
theorem e_habsorb (k1 p1 n size q : Nat) (M : mm_M) (key : Nat → Int32) (m : Nat → Nat) (hT : eT M) (h : hm_is M key m n) (hk : k1 ∉ [23, 24, 25, 26]) (hs : n + size < 100000) (hq : q = n % 64) (hm : ∀ i, i < size → m (n + i) = ub (M.1 k1 (p1 + i))) : hm_is (f_X5_absorb k1 p1 size q M) key m (n + size) := by
  obtain ⟨h1, h2, h3⟩ := h
  unfold f_X5_absorb
  try dsimp only
  obtain ⟨a1, a2⟩ := e_absorb k1 p1 (64 + n) M (hmM key 54 m) hT.1 h1 h2 hk size (by omega) (fun i hi => by
    unfold hmM
    rw [if_neg (by omega), ← hm i hi, show 64 + n + i - 64 = n + i from by omega])
  have w3 := w_f_X8_absorb k1 p1 size q M
  rw [show (64 + n) % 64 = q from by omega] at a1 a2
  refine ⟨by rw [show 64 + (n + size) = 64 + n + size from by omega]; exact a1, by rw [show 64 + (n + size) = 64 + n + size from by omega]; exact a2, fun j hj => ?_⟩
  rw [(w3 28 (by decide)).1]
  exact h3 j hj
theorem xor_3 (x : Nat) : x ^^^ 54 ^^^ 106 = x ^^^ 92 := by
  rw [Nat.xor_assoc]; rfl
theorem e_pad2 (σ : mm_M) : ∀ t, t ≤ 64 → ∀ j, ub ((f_X5_finish_L13 σ t).1 28 j) = if j < t then ub (σ.1 28 j) ^^^ 106 else ub (σ.1 28 j)
  | 0, _, j => by rw [if_neg (by omega)]; rfl
  | t + 1, ht, j => by
    have ih := e_pad2 σ t (by omega)
    rw [f_X5_finish_L13]
    generalize f_X5_finish_L13 σ t = R at *
    try dsimp only
    rw [rd_w]
    by_cases e : j = t
    · rw [if_pos ⟨rfl, e⟩, if_pos (by omega), ub_xor, ih, if_neg (by omega), e]; rfl
    · rw [if_neg (fun q => e q.2), ih]
      by_cases c : j < t
      · rw [if_pos c, if_pos (by omega)]
      · rw [if_neg c, if_neg (by omega)]
theorem e_hfinish (k1 n q : Nat) (hk : k1 ≠ 24) (M : mm_M) (key : Nat → Int32) (m : Nat → Nat) (hT : eT M) (h : hm_is M key m n) (hs : n < 100000) (hq : q = n % 64) : ∀ i, i < 32 → (f_X5_finish k1 q M).1 k1 i = hmD key m n i := by
  obtain ⟨h1, h2, h3⟩ := h
  unfold f_X5_finish
  try dsimp only
  have a := e_finish 29 (by decide) M (hmM key 54 m) (64 + n) hT.1 h1 h2 (by omega)
  rw [show (64 + n) % 64 = q from by omega] at a
  have w1 := w_f_X8_finish 29 q M
  generalize f_X8_finish 29 q M = M1 at *
  have hT1 := hT.fr w1 (by decide) (by decide)
  have b := e_pad2 M1 64 (by decide)
  have w2 := w_f_X5_finish_L13 M1 64
  generalize f_X5_finish_L13 M1 64 = M2 at *
  have hT2 := hT1.fr w2 (by decide) (by decide)
  have m0 : ∀ j, ub (M2.1 29 j) = ub (M1.1 29 j) := fun j => by rw [(w2 29 (by decide)).1]
  obtain ⟨r1, r2⟩ := e_reset M2 (hmM key 92 (fun j => ub (shD (hmM key 54 m) (64 + n) j))) hT2.2
  have w3 := w_f_X8_reset M2
  generalize f_X8_reset M2 = M3 at *
  have hT3 := hT2.fr w3 (by decide) (by decide)
  have e28 : M3.1 28 = M2.1 28 := (w3 28 (by decide)).1
  have e29 : M3.1 29 = M2.1 29 := (w3 29 (by decide)).1
  obtain ⟨c1, c2⟩ := e_absorb 28 0 0 M3 _ hT3.1 r1 r2 (by decide) 64 (by decide) (fun i hi => by
    simp only [Nat.zero_add]
    rw [e28, b i, if_pos hi, (w1 28 (by decide)).1, h3 i hi]
    unfold hmM
    rw [if_pos hi]
    unfold hmP
    rw [xor_3])
  have w4 := w_f_X8_absorb 28 0 64 0 M3
  rw [Nat.zero_mod, Nat.zero_add] at c1 c2
  generalize f_X8_absorb 28 0 64 0 M3 = M4 at *
  have hT4 := hT3.fr w4 (by decide) (by decide)
  obtain ⟨d1, d2⟩ := e_absorb 29 0 64 M4 _ hT4.1 c1 c2 (by decide) 32 (by decide) (fun i hi => by
    rw [Nat.zero_add, (w4 29 (by decide)).1, e29, m0, a i hi]
    unfold hmM
    rw [if_neg (by omega), show 64 + i - 64 = i from by omega])
  rw [show 64 % 64 = 0 from rfl, show 64 + 32 = 96 from rfl] at d1 d2
  rw [show (0 + 64) % 64 = 0 from rfl, show (0 + 32) % 64 = 32 from rfl]
  have w5 := w_f_X8_absorb 29 0 32 0 M4
  generalize f_X8_absorb 29 0 32 0 M4 = M5 at *
  have hT5 := hT4.fr w5 (by decide) (by decide)
  have z := e_finish k1 hk M5 _ 96 hT5.1 d1 d2 (by decide)
  rw [show 96 % 64 = 32 from rfl] at z
  exact z
/-! HKDF -/
def hkE (ck : Nat → Int32) (m : Nat → Nat) (n : Nat) : Nat → Int32 := hmD ck m n
def hkA (ck : Nat → Int32) (m : Nat → Nat) (n : Nat) : Nat → Int32 := hmD (hkE ck m n) (fun _ => 1) 1
def hkB (ck : Nat → Int32) (m : Nat → Nat) (n : Nat) : Nat → Int32 := hmD (hkE ck m n) (fun j => if j < 32 then ub (hkA ck m n j) else 2) 33
theorem hkA_congr {ck ck' : Nat → Int32} {m m' : Nat → Nat} {n : Nat} (h : ∀ j, j < 32 → ck j = ck' j) (hm : ∀ j, j < n → m j = m' j) : hkA ck m n = hkA ck' m' n := by
  unfold hkA hkE
  rw [hmD_congr h hm]
theorem hkB_congr {ck ck' : Nat → Int32} {m m' : Nat → Nat} {n : Nat} (h : ∀ j, j < 32 → ck j = ck' j) (hm : ∀ j, j < n → m j = m' j) : hkB ck m n = hkB ck' m' n := by
  unfold hkB
  rw [hkA_congr h hm]
  unfold hkE
  rw [hmD_congr h hm]
theorem e_hkdf (k1 k2 n k3 k4 : Nat) (M : mm_M) (hT : eT M) (hC : ub (M.1 177 0) = 1 ∧ ub (M.1 177 1) = 2) (hs : n < 90000) (h1 : k1 ∉ [23, 24, 25, 26, 28, 29, 30]) (h2 : k2 ∉ [23, 24, 25, 26, 28, 29, 30]) (h3 : k3 ∉ [23, 24, 25, 26, 28, 29, 30, 175, 176, 177]) (h4 : k4 ∉ [23, 24, 25, 26, 28, 29, 30, 175, 176, 177]) (h34 : k3 ≠ k4) : (∀ i, i < 32 → (f_X5_hkdf k1 k2 n k3 k4 M).1 k3 i = hkA (M.1 k1) (fun j => ub (M.1 k2 j)) n i) ∧ (∀ i, i < 32 → (f_X5_hkdf k1 k2 n k3 k4 M).1 k4 i = hkB (M.1 k1) (fun j => ub (M.1 k2 j)) n i) := by
  unfold f_X5_hkdf
  try dsimp only
  have s1 := e_hbegin k1 (by simp at h1; omega) M (fun j => ub (M.1 k2 j)) hT
  have w1 := w_f_X5_begin k1 M
  generalize f_X5_begin k1 M = M1 at *
  have hT1 := hT.fr w1 (by decide) (by decide)
  have s2 := e_habsorb k2 0 0 n 0 M1 _ _ hT1 s1 (by simp at h2 ⊢; omega) (by omega) rfl (fun i hi => by
    rw [Nat.zero_add, (w1 k2 (by simp at h2 ⊢; omega)).1])
  have w2 := w_f_X5_absorb k2 0 n 0 M1
  generalize f_X5_absorb k2 0 n 0 M1 = M2 at *
  have hT2 := hT1.fr w2 (by decide) (by decide)
  rw [Nat.zero_add] at s2
  have s3 := e_hfinish 30 n ((0 + n) % 64) (by decide) M2 _ _ hT2 s2 (by omega) (by omega)
  have w3 := w_f_X5_finish 30 ((0 + n) % 64) M2
  generalize f_X5_finish 30 ((0 + n) % 64) M2 = M3 at *
  have hT3 := hT2.fr w3 (by decide) (by decide)
  -- the first output
  have s4 := e_hbegin 30 (by decide) M3 (fun _ => 1) hT3
  have w4 := w_f_X5_begin 30 M3
  generalize f_X5_begin 30 M3 = M4 at *
  have hT4 := hT3.fr w4 (by decide) (by decide)
  have e177 : M4.1 177 = M.1 177 := by rw [(w4 177 (by decide)).1, (w3 177 (by decide)).1, (w2 177 (by decide)).1, (w1 177 (by decide)).1]
  have s5 := e_habsorb 177 0 0 1 0 M4 _ _ hT4 s4 (by decide) (by decide) rfl (fun i hi => by
    rw [show i = 0 from by omega, e177, hC.1])
  have w5 := w_f_X5_absorb 177 0 1 0 M4
  generalize f_X5_absorb 177 0 1 0 M4 = M5 at *
  have hT5 := hT4.fr w5 (by decide) (by decide)
  have s6 := e_hfinish k3 1 ((0 + 1) % 64) (by simp at h3; omega) M5 _ _ hT5 s5 (by decide) (by decide)
  have w6 := w_f_X5_finish k3 ((0 + 1) % 64) M5
  generalize f_X5_finish k3 ((0 + 1) % 64) M5 = M6 at *
  have hT6 := hT5.fr w6 (by simp at h3 ⊢; omega) (by simp at h3 ⊢; omega)
  have eA : ∀ i, i < 32 → M6.1 k3 i = hkA (M.1 k1) (fun j => ub (M.1 k2 j)) n i := fun i hi => by
    rw [s6 i hi]
    unfold hkA hkE
    exact congrFun (hmD_congr s3 (fun _ _ => rfl)) i
  have e30 : ∀ i, i < 32 → M6.1 30 i = hkE (M.1 k1) (fun j => ub (M.1 k2 j)) n i := fun i hi => by
    rw [(w6 30 (by simp at h3 ⊢; omega)).1, (w5 30 (by decide)).1, (w4 30 (by decide)).1]
    exact s3 i hi
  have e177b : M6.1 177 = M.1 177 := by rw [(w6 177 (by simp at h3 ⊢; omega)).1, (w5 177 (by decide)).1, e177]
  -- the second
  have s7 := e_hbegin 30 (by decide) M6 (fun j => if j < 32 then ub (hkA (M.1 k1) (fun j => ub (M.1 k2 j)) n j) else 2) hT6
  have w7 := w_f_X5_begin 30 M6
  generalize f_X5_begin 30 M6 = M7 at *
  have hT7 := hT6.fr w7 (by decide) (by decide)
  have e3 : M7.1 k3 = M6.1 k3 := (w7 k3 (by simp at h3 ⊢; omega)).1
  have s8 := e_habsorb k3 0 0 32 0 M7 _ _ hT7 s7 (by simp at h3 ⊢; omega) (by decide) rfl (fun i hi => by
    rw [Nat.zero_add]
    show (if i < 32 then _ else 2) = _
    rw [if_pos hi, e3, eA i hi])
  have w8 := w_f_X5_absorb k3 0 32 0 M7
  generalize f_X5_absorb k3 0 32 0 M7 = M8 at *
  have hT8 := hT7.fr w8 (by decide) (by decide)
  have s9 := e_habsorb 177 1 (0 + 32) 1 ((0 + 32) % 64) M8 _ _ hT8 s8 (by decide) (by decide) rfl (fun i hi => by
    rw [show i = 0 from by omega]
    show 2 = ub (M8.1 177 1)
    rw [(w8 177 (by decide)).1, (w7 177 (by decide)).1, e177b, hC.2])
  have w9 := w_f_X5_absorb 177 1 1 ((0 + 32) % 64) M8
  generalize f_X5_absorb 177 1 1 ((0 + 32) % 64) M8 = M9 at *
  have hT9 := hT8.fr w9 (by decide) (by decide)
  have s10 := e_hfinish k4 33 (((0 + 32) % 64 + 1) % 64) (by simp at h4; omega) M9 _ _ hT9 s9 (by decide) (by decide)
  have w10 := w_f_X5_finish k4 (((0 + 32) % 64 + 1) % 64) M9
  generalize f_X5_finish k4 (((0 + 32) % 64 + 1) % 64) M9 = M10 at *
  refine ⟨fun i hi => ?_, fun i hi => ?_⟩
  · rw [(w10 k3 (by simp at h3 ⊢; omega)).1, (w9 k3 (by simp at h3 ⊢; omega)).1, (w8 k3 (by simp at h3 ⊢; omega)).1, e3]
    exact eA i hi
  · rw [s10 i hi]
    unfold hkB
    exact congrFun (hmD_congr e30 (fun _ _ => rfl)) i
/-! the reference -/
def rT (M : mm_M) : Prop := (∀ j, j < 64 → M.1 123 j = mm_tab 176 j) ∧ (∀ j, j < 8 → M.1 124 j = mm_tab 175 j)
theorem rT.fr {L : List Nat} {M N : mm_M} (h : rT M) (w : mm_fr L M N) (h1 : 123 ∉ L) (h2 : 124 ∉ L) : rT N := ⟨fun j hj => by rw [(w 123 h1).1]; exact h.1 j hj, fun j hj => by rw [(w 124 h2).1]; exact h.2 j hj⟩
theorem r_pad1 (σ : mm_M) : ∀ t, t ≤ 64 → ∀ j, ub ((f_X12_macs_L19 σ t).1 128 j) = if j < t then hmP (σ.1 130) 54 j else ub (σ.1 128 j)
  | 0, _, j => by rw [if_neg (by omega)]; rfl
  | t + 1, ht, j => by
    have ih := r_pad1 σ t (by omega) j
    have f := (w_f_X12_macs_L19 σ t 130 (by decide)).1
    rw [f_X12_macs_L19]
    generalize f_X12_macs_L19 σ t = R at *
    unfold f_X12_macs_B2
    by_cases e : j = t
    · rw [if_pos (show j < t + 1 by omega)]
      unfold hmP
      by_cases c : 32 ≤ t
      · rw [if_pos c]
        try dsimp only
        rw [rd_put, if_pos e, if_neg (by omega)]; decide
      · rw [if_neg c]
        try dsimp only
        rw [rd_put, if_pos e, if_pos (by omega), f, ub_xor, e]; rfl
    · have g : (if j < t + 1 then hmP (σ.1 130) 54 j else ub (σ.1 128 j)) = if j < t then hmP (σ.1 130) 54 j else ub (σ.1 128 j) := by
        by_cases c : j < t
        · rw [if_pos c, if_pos (by omega)]
        · rw [if_neg c, if_neg (by omega)]
      rw [g, ← ih]
      by_cases c : 32 ≤ t
      · rw [if_pos c]
        try dsimp only
        rw [rd_put, if_neg e]
      · rw [if_neg c]
        try dsimp only
        rw [rd_put, if_neg e]
theorem r_pad2 (σ : mm_M) : ∀ t, t ≤ 64 → ∀ j, ub ((f_X12_macs_L92 σ t).1 128 j) = if j < t then hmP (σ.1 130) 92 j else ub (σ.1 128 j)
  | 0, _, j => by rw [if_neg (by omega)]; rfl
  | t + 1, ht, j => by
    have ih := r_pad2 σ t (by omega) j
    have f := (w_f_X12_macs_L92 σ t 130 (by decide)).1
    rw [f_X12_macs_L92]
    generalize f_X12_macs_L92 σ t = R at *
    unfold f_X12_macs_B1
    by_cases e : j = t
    · rw [if_pos (show j < t + 1 by omega)]
      unfold hmP
      by_cases c : 32 ≤ t
      · rw [if_pos c]
        try dsimp only
        rw [rd_put, if_pos e, if_neg (by omega)]; decide
      · rw [if_neg c]
        try dsimp only
        rw [rd_put, if_pos e, if_pos (by omega), f, ub_xor, e]; rfl
    · have g : (if j < t + 1 then hmP (σ.1 130) 92 j else ub (σ.1 128 j)) = if j < t then hmP (σ.1 130) 92 j else ub (σ.1 128 j) := by
        by_cases c : j < t
        · rw [if_pos c, if_pos (by omega)]
        · rw [if_neg c, if_neg (by omega)]
      rw [g, ← ih]
      by_cases c : 32 ≤ t
      · rw [if_pos c]
        try dsimp only
        rw [rd_put, if_neg e]
      · rw [if_neg c]
        try dsimp only
        rw [rd_put, if_neg e]
theorem r_macs (k1 p1 k2 p2 n : Nat) (M : mm_M) (hT : rT M) (hs : n < 100000) (h1 : k1 ≠ 130) (h2 : k2 ∉ [117, 128, 130]) : ∀ i, i < 32 → (f_X12_macs k1 p1 k2 p2 n M).1 129 i = hmD (fun i => M.1 k1 (p1 + i)) (fun j => ub (M.1 k2 (p2 + j))) n i := by
  unfold f_X12_macs
  try dsimp only
  rw [copy_cp _ _ _ _ _ h1]
  have a1 : ∀ i, i < 32 → (mm_cp M k1 p1 130 0 32).1 130 i = M.1 k1 (p1 + i) := fun i hi => by
    have := rd_cpS M k1 p1 130 0 32 hi
    rw [Nat.zero_add] at this
    exact this
  have w1 : mm_fr [130] M (mm_cp M k1 p1 130 0 32) := mm_fr_cp (by decide) (mm_fr_refl _ _)
  generalize mm_cp M k1 p1 130 0 32 = M1 at *
  have w2 := w_f_X12_start M1
  generalize f_X12_start M1 = M2 at *
  have a3 := r_pad1 M2 64 (by decide)
  have w3 := w_f_X12_macs_L19 M2 64
  generalize f_X12_macs_L19 M2 64 = M3 at *
  have e130 : M2.1 130 = M1.1 130 := (w2 130 (by decide)).1
  have ek2 : M3.1 k2 = M.1 k2 := by
    rw [(w3 k2 (by simp at h2 ⊢; omega)).1, (w2 k2 (by simp at h2 ⊢; omega)).1, (w1 k2 (by simp at h2 ⊢; omega)).1]
  have a4 := rd_putRow k2 p2 64 M3 (by simp at h2; omega) n
  have w4 := w_f_X12_putRow k2 p2 n 64 M3
  generalize f_X12_putRow k2 p2 n 64 M3 = M4 at *
  have hT4 : rT M4 := (((hT.fr w1 (by decide) (by decide)).fr w2 (by decide) (by decide)).fr w3 (by decide) (by decide)).fr w4 (by decide) (by decide)
  have a5 := r_sums M4 (hmM (fun i => M.1 k1 (p1 + i)) 54 (fun j => ub (M.1 k2 (p2 + j)))) (64 + n) hT4.1 hT4.2 (by omega) (fun j hj => by
    rw [a4]
    unfold hmM
    by_cases c : j < 64
    · rw [if_neg (by omega), if_pos c, a3, if_pos c, e130]
      exact hmP_congr a1 54 j
    · rw [if_pos (by omega), if_neg c, ub_b, ek2])
  have w5 := w_f_X12_sums (64 + n) M4
  generalize f_X12_sums (64 + n) M4 = M5 at *
  have hT5 := hT4.fr w5 (by decide) (by decide)
  rw [copy_cp _ _ _ _ _ (by decide)]
  have a6 : ∀ i, i < 32 → (mm_cp M5 129 0 131 0 32).1 131 i = M5.1 129 i := fun i hi => by
    have := rd_cpS M5 129 0 131 0 32 hi
    simp only [Nat.zero_add] at this
    exact this
  have w6 : mm_fr [131] M5 (mm_cp M5 129 0 131 0 32) := mm_fr_cp (by decide) (mm_fr_refl _ _)
  generalize mm_cp M5 129 0 131 0 32 = M6 at *
  have hT6 := hT5.fr w6 (by decide) (by decide)
  have w7 := w_f_X12_start M6
  generalize f_X12_start M6 = M7 at *
  have hT7 := hT6.fr w7 (by decide) (by decide)
  have a8 := r_pad2 M7 64 (by decide)
  have w8 := w_f_X12_macs_L92 M7 64
  generalize f_X12_macs_L92 M7 64 = M8 at *
  have hT8 := hT7.fr w8 (by decide) (by decide)
  have e130b : M7.1 130 = M1.1 130 := by
    rw [(w7 130 (by decide)).1, (w6 130 (by decide)).1, (w5 130 (by decide)).1, (w4 130 (by decide)).1, (w3 130 (by decide)).1, e130]
  have e131 : M8.1 131 = M6.1 131 := by
    rw [(w8 131 (by decide)).1, (w7 131 (by decide)).1]
  have a9 := rd_putRow 131 0 64 M8 (by decide) 32
  have w9 := w_f_X12_putRow 131 0 32 64 M8
  generalize f_X12_putRow 131 0 32 64 M8 = M9 at *
  have hT9 := hT8.fr w9 (by decide) (by decide)
  exact r_sums M9 _ (64 + 32) hT9.1 hT9.2 (by decide) (fun j hj => by
    rw [a9]
    by_cases c : j < 64
    · rw [if_neg (by omega), hmM_lo _ _ _ c, a8, if_pos c, e130b]
      exact hmP_congr a1 92 j
    · rw [if_pos (by omega), hmM_hi _ _ _ c, ub_b, Nat.zero_add, e131, a6 _ (by omega), a5 _ (by omega)])
theorem r_derived (s k n : Nat) (M : mm_M) (hT : rT M) (hs : n < 100000) (hk : k ∉ [117, 128, 130]) : (∀ i, i < 32 → (f_X12_derived s k n M).1 170 i = hkA (fun i => M.1 157 (352 * s + 32 + i)) (fun j => ub (M.1 k j)) n i) ∧ (∀ i, i < 32 → (f_X12_derived s k n M).1 171 i = hkB (fun i => M.1 157 (352 * s + 32 + i)) (fun j => ub (M.1 k j)) n i) := by
  unfold f_X12_derived
  try dsimp only
  have a1 := r_macs 157 (352 * s + 32) k 0 n M hT hs (by decide) hk
  have w1 := w_f_X12_macs 157 (352 * s + 32) k 0 n M
  generalize f_X12_macs 157 (352 * s + 32) k 0 n M = M1 at *
  have hT1 := hT.fr w1 (by decide) (by decide)
  have z : (fun j => ub (M.1 k (0 + j))) = fun j => ub (M.1 k j) := by funext j; rw [Nat.zero_add]
  rw [z] at a1
  rw [copy_cp _ _ _ _ _ (show 129 ≠ 169 by decide)]
  have a2 : ∀ i, i < 32 → (mm_cp M1 129 0 169 0 32).1 169 i = M1.1 129 i := fun i hi => by
    have := rd_cpS M1 129 0 169 0 32 hi
    simp only [Nat.zero_add] at this
    exact this
  have w2 : mm_fr [169, 172] M1 (mm_w (mm_cp M1 129 0 169 0 32) 172 0 1) := mm_fr_w (by decide) (mm_fr_cp (by decide) (mm_fr_refl _ _))
  have a3 : (mm_w (mm_cp M1 129 0 169 0 32) 172 0 1).1 172 0 = 1 := rd_wS _ _ _ _
  have a3b : ∀ i, (mm_w (mm_cp M1 129 0 169 0 32) 172 0 1).1 169 i = (mm_cp M1 129 0 169 0 32).1 169 i := fun i => rd_wN _ _ _ _ (Or.inl (by decide))
  generalize mm_w (mm_cp M1 129 0 169 0 32) 172 0 1 = M3 at *
  have hT3 := hT1.fr w2 (by decide) (by decide)
  have e169 : ∀ i, i < 32 → M3.1 169 i = hkE (fun i => M.1 157 (352 * s + 32 + i)) (fun j => ub (M.1 k j)) n i := fun i hi => by
    rw [a3b, a2 i hi]
    exact a1 i hi
  have a4 := r_macs 169 0 172 0 1 M3 hT3 (by decide) (by decide) (by decide)
  have w4 := w_f_X12_macs 169 0 172 0 1 M3
  generalize f_X12_macs 169 0 172 0 1 M3 = M4 at *
  have hT4 := hT3.fr w4 (by decide) (by decide)
  have eA : ∀ i, i < 32 → M4.1 129 i = hkA (fun i => M.1 157 (352 * s + 32 + i)) (fun j => ub (M.1 k j)) n i := fun i hi => by
    rw [a4 i hi]
    unfold hkA
    exact congrFun (hmD_congr (fun j hj => by rw [Nat.zero_add]; exact e169 j hj) (fun j hj => by rw [show j = 0 from by omega, a3]; decide)) i
  rw [copy_cp _ _ _ _ _ (show 129 ≠ 170 by decide)]
  have a5 : ∀ i, i < 32 → (mm_cp M4 129 0 170 0 32).1 170 i = M4.1 129 i := fun i hi => by
    have := rd_cpS M4 129 0 170 0 32 hi
    simp only [Nat.zero_add] at this
    exact this
  have w5 : mm_fr [170] M4 (mm_w (mm_cp M4 129 0 170 0 32) 170 32 2) := mm_fr_w (by decide) (mm_fr_cp (by decide) (mm_fr_refl _ _))
  have a6 : (mm_w (mm_cp M4 129 0 170 0 32) 170 32 2).1 170 32 = 2 := rd_wS _ _ _ _
  have a6b : ∀ i, i < 32 → (mm_w (mm_cp M4 129 0 170 0 32) 170 32 2).1 170 i = (mm_cp M4 129 0 170 0 32).1 170 i := fun i hi => rd_wN _ _ _ _ (Or.inr (by omega))
  generalize mm_w (mm_cp M4 129 0 170 0 32) 170 32 2 = M6 at *
  have hT6 := hT4.fr w5 (by decide) (by decide)
  have e169b : M6.1 169 = M3.1 169 := by rw [(w5 169 (by decide)).1, (w4 169 (by decide)).1]
  have a7 := r_macs 169 0 170 0 33 M6 hT6 (by decide) (by decide) (by decide)
  have w7 := w_f_X12_macs 169 0 170 0 33 M6
  generalize f_X12_macs 169 0 170 0 33 M6 = M7 at *
  rw [copy_cp _ _ _ _ _ (show 129 ≠ 171 by decide)]
  refine ⟨fun i hi => ?_, fun i hi => ?_⟩
  · rw [rd_cpN _ _ _ _ _ _ (Or.inl (by decide)), (w7 170 (by decide)).1, a6b i hi, a5 i hi, eA i hi]
  · have := rd_cpS M7 129 0 171 0 32 hi
    simp only [Nat.zero_add] at this
    rw [this, a7 i hi]
    unfold hkB
    refine congrFun (hmD_congr (fun j hj => by rw [Nat.zero_add, e169b]; exact e169 j hj) (fun j hj => ?_)) i
    rw [Nat.zero_add]
    by_cases c : j < 32
    · rw [if_pos c, a6b j c, a5 j c, eA j c]
    · rw [if_neg c, show j = 32 from by omega, a6]; decide
