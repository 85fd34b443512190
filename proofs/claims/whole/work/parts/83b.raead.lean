/-! the AEAD: the reference -/
theorem r_mixL (kk kp k1 p1 k2 p3 : Nat) (u : Int64) (hkk : kk < 147 ∨ 156 < kk) (h1 : k1 < 147 ∨ 156 < k1) (h2 : k2 < 147 ∨ 156 < k2) (hk2 : kk ≠ k2) (h12 : k1 ≠ k2) (σ : mm_M) : ∀ t, (t % 64 ≠ 0 → ∀ i, i < 64 → (f_X12_mixes_L3 kk kp u k1 p1 k2 p3 σ t).1 149 i = ccS (fun i => σ.1 kk (kp + i)) (nI (1 + t / 64)) u i) ∧ (∀ i, (f_X12_mixes_L3 kk kp u k1 p1 k2 p3 σ t).1 k2 i = if p3 ≤ i ∧ i < p3 + t then aeX (fun i => σ.1 kk (kp + i)) u (fun j => σ.1 k1 (p1 + j)) (i - p3) else σ.1 k2 i)
  | 0 => ⟨fun q => absurd rfl q, fun i => by rw [if_neg (by omega)]; rfl⟩
  | t + 1 => by
    obtain ⟨g2, g3⟩ := r_mixL kk kp k1 p1 k2 p3 u hkk h1 h2 hk2 h12 σ t
    have f := (w_f_X12_mixes_L3 kk kp u k1 p1 k2 p3 σ t k1 (by simp; omega)).1
    have fk := (w_f_X12_mixes_L3 kk kp u k1 p1 k2 p3 σ t kk (by simp; omega)).1
    rw [f_X12_mixes_L3]
    generalize f_X12_mixes_L3 kk kp u k1 p1 k2 p3 σ t = R at *
    unfold f_X12_mixes_B1
    by_cases c : t % 64 = 0
    · rw [if_neg (fun q => q c)]
      try dsimp only
      have b1 := r_cc kk kp (by omega) (nI (1 + t / 64)) u R
      rw [fk] at b1
      have w := w_f_X12_streamed kk kp (nI (1 + t / 64)) u R
      generalize f_X12_streamed kk kp (nI (1 + t / 64)) u R = S at *
      have ek : S.1 k1 = σ.1 k1 := by rw [(w k1 (by simp; omega)).1, f]
      have e2 : S.1 k2 = R.1 k2 := (w k2 (by simp; omega)).1
      have wv : mm_fr [k2] S (mm_w S k2 (p3 + t) (mm_b (S.1 k1 (p1 + t) ^^^ S.1 149 (t % 64)))) := mm_fr_w (by simp) (mm_fr_refl _ _)
      refine ⟨fun _ i hi => ?_, fun i => ?_⟩
      · rw [(wv 149 (by simp; omega)).1, b1 i hi, show (t + 1) / 64 = t / 64 from by omega]
      · rw [rd_w, ek, b1 _ (by omega), e2]
        by_cases e : i = p3 + t
        · rw [if_pos ⟨rfl, e⟩, if_pos (by omega), show i - p3 = t from by omega]
          rfl
        · rw [if_neg (fun q => e q.2), g3 i]
          by_cases d : p3 ≤ i ∧ i < p3 + t
          · rw [if_pos d, if_pos (by omega)]
          · rw [if_neg d, if_neg (by omega)]
    · rw [if_pos c]
      try dsimp only
      have b1 := g2 c
      have wv : mm_fr [k2] R (mm_w R k2 (p3 + t) (mm_b (R.1 k1 (p1 + t) ^^^ R.1 149 (t % 64)))) := mm_fr_w (by simp) (mm_fr_refl _ _)
      refine ⟨fun q i hi => ?_, fun i => ?_⟩
      · rw [(wv 149 (by simp; omega)).1, b1 i hi, show (t + 1) / 64 = t / 64 from by omega]
      · rw [rd_w, f, b1 _ (by omega)]
        by_cases e : i = p3 + t
        · rw [if_pos ⟨rfl, e⟩, if_pos (by omega), show i - p3 = t from by omega]
          rfl
        · rw [if_neg (fun q => e q.2), g3 i]
          by_cases d : p3 ≤ i ∧ i < p3 + t
          · rw [if_pos d, if_pos (by omega)]
          · rw [if_neg d, if_neg (by omega)]
theorem r_mix (kk kp k1 p1 n k2 p3 : Nat) (u : Int64) (hkk : kk < 147 ∨ 156 < kk) (h1 : k1 < 147 ∨ 156 < k1) (h2 : k2 < 147 ∨ 156 < k2) (hk2 : kk ≠ k2) (h12 : k1 ≠ k2) (M : mm_M) (i : Nat) : (f_X12_mixes kk kp u k1 p1 n k2 p3 M).1 k2 i = if p3 ≤ i ∧ i < p3 + n then aeX (fun i => M.1 kk (kp + i)) u (fun j => M.1 k1 (p1 + j)) (i - p3) else M.1 k2 i := by
  unfold f_X12_mixes
  exact (r_mixL kk kp k1 p1 k2 p3 u hkk h1 h2 hk2 h12 M n).2 i
/-- the tag over two rows -/
theorem r_tag (kk kp ka ap an k1 p1 n : Nat) (u : Int64) (M : mm_M) (hkk : kk < 147 ∨ 156 < kk) (hka : ka < 147 ∨ 156 < ka) (h1 : k1 < 147 ∨ 156 < k1) (han : an < 4294967296) (hn : n < 4294967296) : ∀ j, j < 16 → (f_X12_tagEnds (nI an) (nI n) (f_X12_tagRow k1 p1 n (f_X12_tagRow ka ap an (f_X12_tagBegins kk kp u M)))).1 156 j = aeT (fun i => M.1 kk (kp + i)) u (fun j => ub (M.1 ka (ap + j))) an (fun j => ub (M.1 k1 (p1 + j))) n j := by
  obtain ⟨a1, a2⟩ := r_begins kk kp (by omega) u M
  have w1 := w_f_X12_tagBegins kk kp u M
  generalize f_X12_tagBegins kk kp u M = M1 at *
  have b1 := r_row ka ap an (by simp; omega) M1 _ _ a1
  have w2 := w_f_X12_tagRow ka ap an M1
  generalize f_X12_tagRow ka ap an M1 = M2 at *
  rw [(w1 ka (by simp; omega)).1] at b1
  have c1 := r_row k1 p1 n (by simp; omega) M2 _ _ b1
  have w3 := w_f_X12_tagRow k1 p1 n M2
  generalize f_X12_tagRow k1 p1 n M2 = M3 at *
  rw [(w2 k1 (by simp; omega)).1, (w1 k1 (by simp; omega)).1] at c1
  intro j hj
  rw [r_ends (nI an) (nI n) M3 _ _ c1 j hj, un_nI han, un_nI hn]
  have e155 : M3.1 155 = M1.1 155 := by rw [(w3 155 (by decide)).1, (w2 155 (by decide)).1]
  rw [e155, bv_congr (s := M1.1 155) (s' := ccS (fun i => M.1 kk (kp + i)) 0 u) (p := 16) (p' := 16) (n := 16) (fun j hj => a2 _ (by omega))]
  rfl
theorem r_seal (kk kp ka ap an k1 p1 n k2 p3 : Nat) (u : Int64) (M : mm_M) (hkk : kk < 147 ∨ 156 < kk) (hka : ka < 147 ∨ 156 < ka) (h1 : k1 < 147 ∨ 156 < k1) (h2 : k2 < 147 ∨ 156 < k2) (hk2 : kk ≠ k2) (ha2 : ka ≠ k2) (h12 : k1 ≠ k2) (han : an < 4294967296) (hn : n < 4294967296) : (∀ i, i < n → (f_X12_seals kk kp u ka ap an k1 p1 n k2 p3 M).1 k2 (p3 + i) = aeX (fun i => M.1 kk (kp + i)) u (fun j => M.1 k1 (p1 + j)) i) ∧ (∀ i, i < 16 → (f_X12_seals kk kp u ka ap an k1 p1 n k2 p3 M).1 k2 (p3 + (n + i)) = aeT (fun i => M.1 kk (kp + i)) u (fun j => ub (M.1 ka (ap + j))) an (fun j => ub (aeX (fun i => M.1 kk (kp + i)) u (fun j => M.1 k1 (p1 + j)) j)) n i) ∧ (∀ i, i < p3 ∨ p3 + (n + 16) ≤ i → (f_X12_seals kk kp u ka ap an k1 p1 n k2 p3 M).1 k2 i = M.1 k2 i) := by
  unfold f_X12_seals
  try dsimp only
  have s := r_mix kk kp k1 p1 n k2 p3 u hkk h1 h2 hk2 h12 M
  have w1 := w_f_X12_mixes kk kp u k1 p1 n k2 p3 M
  generalize f_X12_mixes kk kp u k1 p1 n k2 p3 M = M1 at *
  have t := r_tag kk kp ka ap an k2 p3 n u M1 hkk hka h2 han hn
  have w2 := w_f_X12_tagBegins kk kp u M1
  generalize f_X12_tagBegins kk kp u M1 = M2 at *
  have w3 := w_f_X12_tagRow ka ap an M2
  generalize f_X12_tagRow ka ap an M2 = M3 at *
  have w4 := w_f_X12_tagRow k2 p3 n M3
  generalize f_X12_tagRow k2 p3 n M3 = M4 at *
  have w5 := w_f_X12_tagEnds (nI an) (nI n) M4
  generalize f_X12_tagEnds (nI an) (nI n) M4 = M5 at *
  have e5 : M5.1 k2 = M1.1 k2 := by rw [(w5 k2 (by simp; omega)).1, (w4 k2 (by simp; omega)).1, (w3 k2 (by simp; omega)).1, (w2 k2 (by simp; omega)).1]
  rw [copy_cp _ _ _ _ _ (by omega)]
  refine ⟨fun i hi => ?_, fun i hi => ?_, fun i hi => ?_⟩
  · rw [rd_cpN _ _ _ _ _ _ (Or.inr (Or.inl (by omega))), e5, s, if_pos (by omega), show p3 + i - p3 = i from by omega]
  · have q := rd_cpS M5 156 0 k2 (p3 + n) 16 hi
    rw [Nat.zero_add] at q
    rw [show p3 + (n + i) = p3 + n + i from by omega, q, t i hi, (w1 kk (by simp; omega)).1, (w1 ka (by simp; omega)).1]
    exact aeT_congr (fun _ _ => rfl) (fun _ _ => rfl) (fun j hj => by rw [s, if_pos (by omega), show p3 + j - p3 = j from by omega]) i
  · rw [rd_cpN _ _ _ _ _ _ (Or.inr (by omega)), e5, s, if_neg (by omega)]
theorem op_eq (kk kp ka ap an k1 p1 n k2 p3 : Nat) (u : Int64) (M : mm_M) (h : 16 ≤ n) : f_X12_opens kk kp u ka ap an k1 p1 n k2 p3 M = f_X12_opens_B1 kk kp u k1 p1 n k2 p3 (f_X12_tagEnds (nI an) (nI (n - 16)) (f_X12_tagRow k1 p1 (n - 16) (f_X12_tagRow ka ap an (f_X12_tagBegins kk kp u M)))) := by
  unfold f_X12_opens
  rw [if_pos h]
theorem op_lo (kk kp ka ap an k1 p1 n k2 p3 : Nat) (u : Int64) (M : mm_M) (h : ¬ 16 ≤ n) : f_X12_opens kk kp u ka ap an k1 p1 n k2 p3 M = (0, M) := by
  unfold f_X12_opens
  rw [if_neg h]
theorem opB_pos (kk kp k1 p1 n k2 p3 : Nat) (u : Int64) (M : mm_M) (h : ∀ ii, ii < 16 → M.1 156 ii = M.1 k1 (p1 + n - 16 + ii)) : f_X12_opens_B1 kk kp u k1 p1 n k2 p3 M = (1, f_X12_mixes kk kp u k1 p1 (n - 16) k2 p3 M) := by
  unfold f_X12_opens_B1
  rw [if_pos h]
theorem opB_neg (kk kp k1 p1 n k2 p3 : Nat) (u : Int64) (M : mm_M) (h : ¬ ∀ ii, ii < 16 → M.1 156 ii = M.1 k1 (p1 + n - 16 + ii)) : f_X12_opens_B1 kk kp u k1 p1 n k2 p3 M = (0, M) := by
  unfold f_X12_opens_B1
  rw [if_neg h]
theorem r_open (kk kp ka ap an k1 p1 n k2 p3 : Nat) (u : Int64) (M : mm_M) (hkk : kk < 147 ∨ 156 < kk) (hka : ka < 147 ∨ 156 < ka) (h1 : k1 < 147 ∨ 156 < k1) (h2 : k2 < 147 ∨ 156 < k2) (hk2 : kk ≠ k2) (h12 : k1 ≠ k2) (han : an < 4294967296) (hn : n < 4294967296) (hn16 : 16 ≤ n) : (aeOK (fun i => M.1 kk (kp + i)) u (fun j => ub (M.1 ka (ap + j))) an (fun j => M.1 k1 (p1 + j)) n → (f_X12_opens kk kp u ka ap an k1 p1 n k2 p3 M).1 = 1 ∧ ∀ i, (f_X12_opens kk kp u ka ap an k1 p1 n k2 p3 M).2.1 k2 i = if p3 ≤ i ∧ i < p3 + (n - 16) then aeX (fun i => M.1 kk (kp + i)) u (fun j => M.1 k1 (p1 + j)) (i - p3) else M.1 k2 i) ∧ (¬ aeOK (fun i => M.1 kk (kp + i)) u (fun j => ub (M.1 ka (ap + j))) an (fun j => M.1 k1 (p1 + j)) n → (f_X12_opens kk kp u ka ap an k1 p1 n k2 p3 M).1 = 0 ∧ (f_X12_opens kk kp u ka ap an k1 p1 n k2 p3 M).2.1 k2 = M.1 k2) := by
  rw [op_eq kk kp ka ap an k1 p1 n k2 p3 u M hn16]
  have t := r_tag kk kp ka ap an k1 p1 (n - 16) u M hkk hka h1 han (by omega)
  have w2 := w_f_X12_tagBegins kk kp u M
  generalize f_X12_tagBegins kk kp u M = M2 at *
  have w3 := w_f_X12_tagRow ka ap an M2
  generalize f_X12_tagRow ka ap an M2 = M3 at *
  have w4 := w_f_X12_tagRow k1 p1 (n - 16) M3
  generalize f_X12_tagRow k1 p1 (n - 16) M3 = M4 at *
  have w5 := w_f_X12_tagEnds (nI an) (nI (n - 16)) M4
  generalize f_X12_tagEnds (nI an) (nI (n - 16)) M4 = M5 at *
  have e5 : ∀ k, (k < 147 ∨ 156 < k) → M5.1 k = M.1 k := fun k hk => by rw [(w5 k (by simp; omega)).1, (w4 k (by simp; omega)).1, (w3 k (by simp; omega)).1, (w2 k (by simp; omega)).1]
  have ok : (∀ ii, ii < 16 → M5.1 156 ii = M5.1 k1 (p1 + n - 16 + ii)) ↔ aeOK (fun i => M.1 kk (kp + i)) u (fun j => ub (M.1 ka (ap + j))) an (fun j => M.1 k1 (p1 + j)) n := by
    rw [e5 k1 h1]
    unfold aeOK
    constructor
    · intro q i hi
      have := q i hi
      rw [t i hi, show p1 + n - 16 + i = p1 + (n - 16 + i) from by omega] at this
      exact this
    · intro q i hi
      rw [t i hi, show p1 + n - 16 + i = p1 + (n - 16 + i) from by omega]
      exact q i hi
  refine ⟨fun q => ?_, fun q => ?_⟩
  · rw [opB_pos kk kp k1 p1 n k2 p3 u M5 (ok.mpr q)]
    have s := r_mix kk kp k1 p1 (n - 16) k2 p3 u hkk h1 h2 hk2 h12 M5
    generalize f_X12_mixes kk kp u k1 p1 (n - 16) k2 p3 M5 = X at *
    rw [e5 kk hkk, e5 k1 h1, e5 k2 h2] at s
    exact ⟨rfl, s⟩
  · rw [opB_neg kk kp k1 p1 n k2 p3 u M5 (fun z => q (ok.mp z))]
    exact ⟨rfl, e5 k2 h2⟩
