/-! the symmetric state: pure functions, and the engine -/
abbrev sy := (Nat → Int32) × (Nat → Int32) × (Nat → Int32) × Int32 × Int64
def syHm (h : Nat → Int32) (m : Nat → Nat) (j : Nat) : Nat := if j < 32 then ub (h j) else m (j - 32)
def syH (S : sy) (m : Nat → Nat) (n : Nat) : sy := (shD (syHm S.1 m) (32 + n), S.2)
def syK (S : sy) (sec : Nat → Int32) : sy := (S.1, hkA S.2.1 (fun j => ub (sec j)) 32, hkB S.2.1 (fun j => ub (sec j)) 32, 1, 0)
def syN (S : sy) (n : Nat) : Nat := if S.2.2.2.1 = 0 then n else n + 16
def syO (S : sy) (src : Nat → Int32) (n i : Nat) : Int32 := if S.2.2.2.1 = 0 then src i else if i < n then aeX S.2.2.1 S.2.2.2.2 src i else aeT S.2.2.1 S.2.2.2.2 (fun j => ub (S.1 j)) 32 (fun j => ub (aeX S.2.2.1 S.2.2.2.2 src j)) n (i - n)
def syI (S : sy) : sy := (S.1, S.2.1, S.2.2.1, S.2.2.2.1, if S.2.2.2.1 = 0 then S.2.2.2.2 else S.2.2.2.2 + 1)
def syE (S : sy) (src : Nat → Int32) (n : Nat) : sy := syH (syI S) (fun j => ub (syO S src n j)) (syN S n)
def syG (S : sy) (src : Nat → Int32) (n : Nat) : Prop := S.2.2.2.1 = 0 ∨ (16 ≤ n ∧ aeOK S.2.2.1 S.2.2.2.2 (fun j => ub (S.1 j)) 32 src n)
def syP (S : sy) (src : Nat → Int32) (i : Nat) : Int32 := if S.2.2.2.1 = 0 then src i else aeX S.2.2.1 S.2.2.2.2 src i
def syL (S : sy) (n : Nat) : Nat := if S.2.2.2.1 = 0 then n else n - 16
def syD (S : sy) (src : Nat → Int32) (n : Nat) : sy := syH (syI S) (fun j => ub (src j)) n
theorem syH_congr {S : sy} {m m' : Nat → Nat} {n : Nat} (h : ∀ j, j < n → m j = m' j) : syH S m n = syH S m' n := by
  unfold syH
  rw [shD_congr (m := syHm S.1 m) (m' := syHm S.1 m') (fun j hj => by
    unfold syHm
    by_cases c : j < 32
    · rw [if_pos c, if_pos c]
    · rw [if_neg c, if_neg c, h _ (by omega)])]
theorem syK_congr {S : sy} {a b : Nat → Int32} (h : ∀ j, j < 32 → a j = b j) : syK S a = syK S b := by
  unfold syK
  rw [hkA_congr (m := fun j => ub (a j)) (m' := fun j => ub (b j)) (fun _ _ => rfl) (fun j hj => by rw [h j hj]), hkB_congr (m := fun j => ub (a j)) (m' := fun j => ub (b j)) (fun _ _ => rfl) (fun j hj => by rw [h j hj])]
theorem syO_congr {S : sy} {a b : Nat → Int32} {n : Nat} (h : ∀ j, j < n → a j = b j) : ∀ i, i < syN S n → syO S a n i = syO S b n i := by
  intro i hi
  unfold syN at hi
  unfold syO
  by_cases c : S.2.2.2.1 = 0
  · rw [if_pos c] at hi
    rw [if_pos c, if_pos c, h i hi]
  · rw [if_neg c, if_neg c]
    by_cases d : i < n
    · rw [if_pos d, if_pos d]
      exact aeX_congr (fun _ _ => rfl) (h i d)
    · rw [if_neg d, if_neg d]
      exact aeT_congr (fun _ _ => rfl) (fun _ _ => rfl) (fun j hj => by rw [aeX_congr (src := a) (src' := b) (fun _ _ => rfl) (h j hj)]) _
theorem syE_congr {S : sy} {a b : Nat → Int32} {n : Nat} (h : ∀ j, j < n → a j = b j) : syE S a n = syE S b n := by
  unfold syE
  exact syH_congr (fun j hj => by rw [syO_congr h j hj])
theorem syG_congr {S : sy} {a b : Nat → Int32} {n : Nat} (h : ∀ j, j < n → a j = b j) : syG S a n ↔ syG S b n := by
  unfold syG
  constructor
  · rintro (q | ⟨q1, q2⟩)
    · exact Or.inl q
    · exact Or.inr ⟨q1, (aeOK_congr (fun _ _ => rfl) (fun _ _ => rfl) q1 h).mp q2⟩
  · rintro (q | ⟨q1, q2⟩)
    · exact Or.inl q
    · exact Or.inr ⟨q1, (aeOK_congr (fun _ _ => rfl) (fun _ _ => rfl) q1 h).mpr q2⟩
theorem syP_congr {S : sy} {a b : Nat → Int32} {n : Nat} (h : ∀ j, j < n → a j = b j) : ∀ i, i < n → syP S a i = syP S b i := by
  intro i hi
  unfold syP
  by_cases c : S.2.2.2.1 = 0
  · rw [if_pos c, if_pos c, h i hi]
  · rw [if_neg c, if_neg c]
    exact aeX_congr (fun _ _ => rfl) (h i hi)
theorem syD_congr {S : sy} {a b : Nat → Int32} {n : Nat} (h : ∀ j, j < n → a j = b j) : syD S a n = syD S b n := by
  unfold syD
  exact syH_congr (fun j hj => by rw [h j hj])
/-- the engine's symmetric state at y -/
def e_sy (M : mm_M) (y : Nat) (S : sy) : Prop := (∀ j, j < 32 → M.1 (y + 1) j = S.1 j) ∧ (∀ j, j < 32 → M.1 (y + 2) j = S.2.1 j) ∧ (S.2.2.2.1 ≠ 0 → ∀ j, j < 32 → M.1 (y + 4) j = S.2.2.1 j) ∧ M.1 (y + 3) 3 = S.2.2.2.1 ∧ M.2 (y + 3) 4 = S.2.2.2.2
theorem e_sy.fr {M N : mm_M} {y : Nat} {S : sy} {L : List Nat} (h : e_sy M y S) (w : mm_fr L M N) (h1 : y + 1 ∉ L) (h2 : y + 2 ∉ L) (h3 : y + 3 ∉ L) (h4 : y + 4 ∉ L) : e_sy N y S := by
  obtain ⟨a, b, c, d, e⟩ := h
  refine ⟨?_, ?_, ?_, ?_, ?_⟩
  · rw [(w _ h1).1]; exact a
  · rw [(w _ h2).1]; exact b
  · rw [(w _ h4).1]; exact c
  · rw [(w _ h3).1]; exact d
  · rw [(w _ h3).2]; exact e
/-- the tables -/
def eU (M : mm_M) : Prop := eT M ∧ (ub (M.1 177 0) = 1 ∧ ub (M.1 177 1) = 2)
theorem eU.fr {L : List Nat} {M N : mm_M} (h : eU M) (w : mm_fr L M N) (hl : ∀ a ∈ L, a < 173) : eU N :=
  ⟨h.1.fr w (fun q => by have := hl _ q; omega) (fun q => by have := hl _ q; omega), by rw [(w 177 (fun q => by have := hl _ q; omega)).1]; exact h.2⟩
theorem e_mixHash (y k1 p1 n : Nat) (hy : 43 ≤ y) (hk : k1 ∉ [23, 24, 25, 26]) (hn : n < 100000) (M : mm_M) (S : sy) (hU : eU M) (h : e_sy M y S) : e_sy (f_X10_mixHash y k1 p1 n M) y (syH S (fun j => ub (M.1 k1 (p1 + j))) n) := by
  have w := w_f_X10_mixHash y k1 p1 n M
  obtain ⟨a, b, c, d, e⟩ := h
  have key : ∀ i, i < 32 → (f_X10_mixHash y k1 p1 n M).1 (y + 1) i = shD (syHm S.1 (fun j => ub (M.1 k1 (p1 + j)))) (32 + n) i := by
    unfold f_X10_mixHash
    try dsimp only
    obtain ⟨r1, r2⟩ := e_reset M (syHm S.1 (fun j => ub (M.1 k1 (p1 + j)))) hU.1.2
    have w2 := w_f_X8_reset M
    generalize f_X8_reset M = M2 at *
    have hT2 := hU.1.fr w2 (by decide) (by decide)
    obtain ⟨c1, c2⟩ := e_absorb (y + 1) 0 0 M2 _ hT2.1 r1 r2 (by simp <;> omega) 32 (by decide) (fun i hi => by
      simp only [Nat.zero_add]
      unfold syHm
      rw [if_pos hi, (w2 (y + 1) (by simp <;> omega)).1, a i hi])
    rw [Nat.zero_mod, Nat.zero_add] at c1 c2
    have w3 := w_f_X8_absorb (y + 1) 0 32 0 M2
    generalize f_X8_absorb (y + 1) 0 32 0 M2 = M3 at *
    have hT3 := hT2.fr w3 (by decide) (by decide)
    obtain ⟨d1, d2⟩ := e_absorb k1 p1 32 M3 _ hT3.1 c1 c2 hk n (by omega) (fun i hi => by
      unfold syHm
      rw [if_neg (by omega), show 32 + i - 32 = i from by omega, (w3 k1 (by simp at hk ⊢; omega)).1, (w2 k1 (by simp at hk ⊢; omega)).1])
    rw [show (0 + 32) % 64 = 32 from rfl]
    rw [show 32 % 64 = 32 from rfl] at d1 d2
    have w4 := w_f_X8_absorb k1 p1 n 32 M3
    generalize f_X8_absorb k1 p1 n 32 M3 = M4 at *
    have hT4 := hT3.fr w4 (by decide) (by decide)
    exact e_finish (y + 1) (by omega) M4 _ (32 + n) hT4.1 d1 d2 (by omega)
  refine ⟨key, ?_, ?_, ?_, ?_⟩
  · rw [(w _ (by simp <;> omega)).1]; exact b
  · rw [(w _ (by simp <;> omega)).1]; exact c
  · rw [(w _ (by simp <;> omega)).1]; exact d
  · rw [(w _ (by simp <;> omega)).2]; exact e
theorem e_mixKey (y k1 : Nat) (hy : 43 ≤ y) (hy2 : y + 5 < 173) (hk : k1 ∉ [23, 24, 25, 26, 28, 29, 30]) (M : mm_M) (S : sy) (hU : eU M) (h : e_sy M y S) : e_sy (f_X10_mixKey y k1 M) y (syK S (M.1 k1)) := by
  obtain ⟨a, b, c, d, e⟩ := h
  unfold f_X10_mixKey f_X3_useNewKey
  try dsimp only
  obtain ⟨g1, g2⟩ := e_hkdf (y + 2) k1 32 (y + 2) (y + 4) M hU.1 hU.2 (by decide) (by simp <;> omega) hk (by simp <;> omega) (by simp <;> omega) (by omega)
  have w := w_f_X5_hkdf (y + 2) k1 32 (y + 2) (y + 4) M
  generalize f_X5_hkdf (y + 2) k1 32 (y + 2) (y + 4) M = N at *
  have wv : mm_fr [y + 3] N (mm_wl (mm_w N (y + 3) 3 1) (y + 3) 4 0) := mm_fr_wl (by simp) (mm_fr_w (by simp) (mm_fr_refl _ _))
  refine ⟨?_, ?_, ?_, ?_, ?_⟩
  · rw [(wv _ (by simp)).1, (w _ (by simp <;> omega)).1]; exact a
  · rw [(wv _ (by simp)).1]
    intro j hj
    rw [g1 j hj]
    exact congrFun (hkA_congr b (fun _ _ => rfl)) j
  · rw [(wv _ (by simp)).1]
    intro _ j hj
    rw [g2 j hj]
    exact congrFun (hkB_congr b (fun _ _ => rfl)) j
  · rw [rd_wl1, rd_wS]; rfl
  · rw [rd_wlS]; rfl
theorem encA_0 (z k0 k1 p1 n k2 p3 n0 : Nat) (M : mm_M) (h : M.1 z 3 = 0) : f_X3_encryptWithAd z k0 k1 p1 n k2 p3 n0 M = (nI n, mm_cp M k1 p1 k2 p3 n) := by
  unfold f_X3_encryptWithAd
  rw [if_neg (fun q => q h)]
theorem encA_1 (z k0 k1 p1 n k2 p3 n0 : Nat) (M : mm_M) (h : ¬ M.1 z 3 = 0) : f_X3_encryptWithAd z k0 k1 p1 n k2 p3 n0 M = (nI (n + 16), mm_wl (f_X0_encrypt k1 p1 n k2 p3 (f_X0_associate k0 n0 (f_X0_begin (z + 1) (M.2 z 4) M))) z 4 ((f_X0_encrypt k1 p1 n k2 p3 (f_X0_associate k0 n0 (f_X0_begin (z + 1) (M.2 z 4) M))).2 z 4 + 1)) := by
  unfold f_X3_encryptWithAd
  rw [if_pos h]
theorem encH_eq (y k1 p1 n k2 p3 : Nat) (M : mm_M) : f_X10_encryptAndHash y k1 p1 n k2 p3 M = (nI (if M.1 (y + 3) 3 = 0 then n else n + 16), f_X10_mixHash y k2 p3 (if M.1 (y + 3) 3 = 0 then n else n + 16) (f_X3_encryptWithAd (y + 3) (y + 1) k1 p1 n k2 p3 32 M).2) := by
  unfold f_X10_encryptAndHash
  rfl
/-- the engine's encryptAndHash, from the tape or the curve's row into the answer -/
theorem e_encH (y k1 p1 n p3 : Nat) (hy : 43 ≤ y) (hy2 : y + 5 < 173) (hk : k1 = 1 ∨ k1 = 15) (hn : n < 50000) (M : mm_M) (S : sy) (hU : eU M) (h : e_sy M y S) : e_sy (f_X10_encryptAndHash y k1 p1 n 2 p3 M).2 y (syE S (fun j => M.1 k1 (p1 + j)) n) ∧ (∀ i, i < syN S n → (f_X10_encryptAndHash y k1 p1 n 2 p3 M).2.1 2 (p3 + i) = syO S (fun j => M.1 k1 (p1 + j)) n i) ∧ (∀ i, i < p3 → (f_X10_encryptAndHash y k1 p1 n 2 p3 M).2.1 2 i = M.1 2 i) := by
  have h' := h
  obtain ⟨a, b, c, d, e⟩ := h
  rw [encH_eq, d]
  have fin : ∀ N : mm_M, ∀ L : List Nat, mm_fr L M N → (∀ q ∈ L, q < 173) → e_sy N y (syI S) → (∀ i, i < syN S n → N.1 2 (p3 + i) = syO S (fun j => M.1 k1 (p1 + j)) n i) → (∀ i, i < p3 → N.1 2 i = M.1 2 i) → e_sy (f_X10_mixHash y 2 p3 (syN S n) N) y (syE S (fun j => M.1 k1 (p1 + j)) n) ∧ (∀ i, i < syN S n → (f_X10_mixHash y 2 p3 (syN S n) N).1 2 (p3 + i) = syO S (fun j => M.1 k1 (p1 + j)) n i) ∧ (∀ i, i < p3 → (f_X10_mixHash y 2 p3 (syN S n) N).1 2 i = M.1 2 i) := by
    intro N L w hl hs ho hp
    have hN : syN S n < 100000 := by
      unfold syN
      by_cases c0 : S.2.2.2.1 = 0
      · rw [if_pos c0]; omega
      · rw [if_neg c0]; omega
    have m := e_mixHash y 2 p3 (syN S n) hy (by decide) hN N (syI S) (hU.fr w hl) hs
    have w2 := w_f_X10_mixHash y 2 p3 (syN S n) N
    generalize f_X10_mixHash y 2 p3 (syN S n) N = T at *
    refine ⟨?_, ?_, ?_⟩
    · unfold syE
      rw [syH_congr (m := fun j => ub (syO S (fun j => M.1 k1 (p1 + j)) n j)) (m' := fun j => ub (N.1 2 (p3 + j))) (fun j hj => by rw [ho j hj])]
      exact m
    · rw [(w2 2 (by simp <;> omega)).1]; exact ho
    · rw [(w2 2 (by simp <;> omega)).1]; exact hp
  by_cases c0 : S.2.2.2.1 = 0
  · have eN : syN S n = n := by unfold syN; rw [if_pos c0]
    have eI : syI S = S := by unfold syI; rw [if_pos c0]
    rw [encA_0 (y + 3) (y + 1) k1 p1 n 2 p3 32 M (by rw [d]; exact c0), if_pos c0]
    have w : mm_fr [2] M (mm_cp M k1 p1 2 p3 n) := mm_fr_cp (by decide) (mm_fr_refl _ _)
    have r := fin (mm_cp M k1 p1 2 p3 n) [2] w (by simp) (by rw [eI]; exact h'.fr w (by simp <;> omega) (by simp <;> omega) (by simp <;> omega) (by simp <;> omega)) (fun i hi => by
      rw [eN] at hi
      rw [rd_cpS _ _ _ _ _ _ hi]
      unfold syO
      rw [if_pos c0]) (fun i hi => rd_cpN _ _ _ _ _ _ (Or.inr (Or.inl hi)))
    rw [eN] at r ⊢
    exact r
  · have eN : syN S n = n + 16 := by unfold syN; rw [if_neg c0]
    rw [encA_1 (y + 3) (y + 1) k1 p1 n 2 p3 32 M (by rw [d]; exact c0), if_neg c0, e]
    obtain ⟨g1, g2, g3⟩ := e_seal (y + 4) (y + 1) 32 k1 p1 n 2 p3 S.2.2.2.2 M (by omega) (by omega) (by omega) (by omega) (by omega) (by decide) (by omega)
    have w : mm_fr [34, 35, 33, 37, 40, 38, 39, 31, 2, 41] M (f_X0_encrypt k1 p1 n 2 p3 (f_X0_associate (y + 1) 32 (f_X0_begin (y + 3 + 1) S.2.2.2.2 M))) := (w_f_X0_encrypt _ _ _ _ _ _).on (by simp) ((w_f_X0_associate _ _ _).on (by simp) ((w_f_X0_begin _ _ _).on (by simp) (mm_fr_refl _ _)))
    rw [show y + 4 = y + 3 + 1 from rfl] at g1 g2 g3
    generalize f_X0_encrypt k1 p1 n 2 p3 (f_X0_associate (y + 1) 32 (f_X0_begin (y + 3 + 1) S.2.2.2.2 M)) = N at *
    have e34 : N.2 (y + 3) 4 = S.2.2.2.2 := by rw [(w (y + 3) (by simp <;> omega)).2, e]
    have e33 : N.1 (y + 3) 3 = S.2.2.2.1 := by rw [(w (y + 3) (by simp <;> omega)).1, d]
    have w2 : mm_fr [34, 35, 33, 37, 40, 38, 39, 31, 2, 41, y + 3] M (mm_wl N (y + 3) 4 (N.2 (y + 3) 4 + 1)) := mm_fr_wl (by simp) (w.on (by simp <;> omega) (mm_fr_refl _ _))
    have r := fin (mm_wl N (y + 3) 4 (N.2 (y + 3) 4 + 1)) _ w2 (by simp <;> omega) (by
      refine ⟨?_, ?_, ?_, ?_, ?_⟩
      · rw [rd_wl1, (w _ (by simp <;> omega)).1]; exact a
      · rw [rd_wl1, (w _ (by simp <;> omega)).1]; exact b
      · rw [rd_wl1, (w _ (by simp <;> omega)).1]; exact c
      · rw [rd_wl1]; exact e33
      · rw [rd_wlS, e34]; unfold syI; rw [if_neg c0]) (fun i hi => by
      rw [eN] at hi
      rw [rd_wl1]
      unfold syO
      rw [if_neg c0]
      have kc := c c0
      by_cases d1 : i < n
      · rw [if_pos d1, g1 i d1]
        exact aeX_congr kc rfl
      · rw [if_neg d1]
        have := g2 (i - n) (by omega)
        rw [show n + (i - n) = i from by omega] at this
        rw [this]
        exact aeT_congr kc (fun j hj => by rw [a j hj]) (fun j hj => by rw [aeX_congr kc rfl]) _) (fun i hi => by
      rw [rd_wl1]; exact g3 i (Or.inl hi))
    rw [eN] at r ⊢
    exact r
