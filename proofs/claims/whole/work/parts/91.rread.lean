/-! the reference's session: reading -/
def tf (s : Nat) (M N : mm_M) : Prop := N.1 117 4 = M.1 117 4 ∧ N.1 117 5 = M.1 117 5 ∧ N.1 121 = M.1 121 ∧ (∀ i, (i < 352 * s ∨ 352 * s + 352 ≤ i) → N.1 157 i = M.1 157 i) ∧ (∀ k i, i ≠ s → 159 ≤ k → k ≤ 168 → N.1 k i = M.1 k i ∧ N.2 k i = M.2 k i)
section RR
variable {M N : mm_M} {s st : Nat} {ini rf : Int32} {S : sy} {os oe xs xe ks kr : Nat → Int32} {ns nr : Int64}
/-- the row behind place p -/
def ro (s p : Nat) (M N : mm_M) : Prop := ∀ i, 352 * s + p ≤ i → i < 352 * s + 352 → N.1 157 i = M.1 157 i
theorem r_r1st (hT : rT M) (h : r_sy M s S) (M39 : mm_M) (h39 : M39 = f_X12_mixHash s 119 0 32 (mm_w (f_X12_copy 119 0 157 (352 * s + 96) 32 M) 162 s 1)) : r_sy M39 s (wS1 S (M.1 119)) ∧ M39.1 162 s = 1 ∧ (∀ j, j < 32 → M39.1 157 (352 * s + 96 + j) = M.1 119 j) ∧ ro s 128 M M39 ∧ rk s M M39 ∧ mm_fr [157, 162, 117, 128, 129, 126, 127, 125] M M39 := by
  rw [copy_cp _ _ _ _ _ (by decide)] at h39
  have w1 : mm_fr [157] M (mm_cp M 119 0 157 (352 * s + 96) 32) := mm_fr_cp (by simp) (mm_fr_refl _ _)
  have k1 : rk s M (mm_cp M 119 0 157 (352 * s + 96) 32) := rk_w157 _ _ _ _ _ (by omega) (by omega)
  have r1 : ∀ i, (mm_cp M 119 0 157 (352 * s + 96) 32).1 157 i = if 352 * s + 96 ≤ i ∧ i < 352 * s + 96 + 32 then M.1 119 (0 + (i - (352 * s + 96))) else M.1 157 i := fun i => by
    rw [rd_cp]
    by_cases c : 352 * s + 96 ≤ i ∧ i < 352 * s + 96 + 32
    · rw [if_pos ⟨rfl, c⟩, if_pos c]
    · rw [if_neg (fun q => c q.2), if_neg c]
  generalize mm_cp M 119 0 157 (352 * s + 96) 32 = M1 at *
  have w2 : mm_fr [162] M1 (mm_w M1 162 s 1) := mm_fr_w (by simp) (mm_fr_refl _ _)
  have k2 : rk s M1 (mm_w M1 162 s 1) := rk_w _ _ _ (by omega) (by omega)
  have e2 : (mm_w M1 162 s 1).1 162 s = 1 := rd_wS _ _ _ _
  generalize mm_w M1 162 s 1 = M2 at *
  have e157 : M2.1 157 = M1.1 157 := (w2 157 (by decide)).1
  obtain ⟨m1, m2, m3⟩ := r_mixHash s 119 0 32 (by decide) (by decide) M2 S ((hT.fr w1 (by decide) (by decide)).fr w2 (by decide) (by decide)) (h.fr (fun i q1 q2 => by rw [e157, r1, if_neg (by omega)]) (by rw [(w2 161 (by decide)).1, (w1 161 (by decide)).1]) (by rw [(w2 166 (by decide)).2, (w1 166 (by decide)).2]))
  have w3 := w_f_X12_mixHash s 119 0 32 M2
  rw [← h39] at m1 m2 m3 w3
  simp only [Nat.zero_add, (w2 119 (by decide)).1, (w1 119 (by decide)).1] at m1
  refine ⟨m1, ?_, fun j hj => ?_, fun i q1 q2 => ?_, k1.trans (k2.trans m2), w3.on (by simp) (w2.on (by simp) (w1.on (by simp) (mm_fr_refl _ _)))⟩
  · rw [(w3 162 (by decide)).1]; exact e2
  · rw [m3 _ (by omega) (by omega), e157, r1, if_pos (by omega), Nat.zero_add, show 352 * s + 96 + j - (352 * s + 96) = j from by omega]
  · rw [m3 _ (by omega) (by omega), e157, r1, if_neg (by omega)]
theorem r_ag_rk (s p q : Nat) (M : mm_M) (hT : rT M) : rk s M (f_X12_agrees s p q M) :=
  (r_agrees s p q M ((fun j => M.1 157 (352 * s + j)), (fun j => M.1 157 (352 * s + 32 + j)), (fun j => M.1 157 (352 * s + 64 + j)), M.1 161 s, M.2 166 s) hT ⟨fun _ _ => rfl, fun _ _ => rfl, fun _ _ _ => rfl, rfl, rfl⟩).2.1
theorem r_rs {q : Nat} (hT : rT M) (A : sy) (hd : ¬ A.2.2.2.1 = 0) (h : r_sy M s A) (ho : ∀ j, j < 32 → M.1 157 (352 * s + 224 + j) = oe j) (X : Int32 × mm_M) (hX : X = f_X12_opensFrom s q 48 0 M) (E : mm_M) (hE : E = f_X12_agrees s 224 128 (mm_w (f_X12_copy 120 0 157 (352 * s + 128) 32 X.2) 163 s 1)) : (¬ syG A (sh q (M.1 119)) 48 → X.1 = 0) ∧ (syG A (sh q (M.1 119)) 48 → ¬ X.1 = 0 ∧ r_sy E s (rB A oe (sh q (M.1 119))) ∧ E.1 163 s = 1 ∧ (∀ j, j < 32 → E.1 157 (352 * s + 128 + j) = syP A (sh q (M.1 119)) j) ∧ (∀ i, 352 * s + 96 ≤ i → i < 352 * s + 128 → E.1 157 i = M.1 157 i) ∧ ro s 160 M E) ∧ rk s M X.2 ∧ rk s X.2 E ∧ mm_fr [147, 149, 148, 155, 151, 150, 152, 153, 156, 154, 120, 166, 117, 128, 129, 126, 127, 125, 157] M X.2 ∧ mm_fr [157, 163, 144, 132, 134, 133, 136, 140, 142, 135, 143, 139, 145, 141, 137, 138, 130, 117, 128, 129, 126, 127, 125, 131, 169, 172, 170, 171, 161, 166] X.2 E := by
  obtain ⟨g1, g2, g3⟩ := r_opensFrom s q 48 (by decide) M A hT h
  have w1 := (w_f_X12_opensFrom s q 48 0 M).m
  rw [← hX] at g1 g2 g3 w1
  rw [copy_cp _ _ _ _ _ (by decide)] at hE
  have w2 : mm_fr [157] X.2 (mm_cp X.2 120 0 157 (352 * s + 128) 32) := mm_fr_cp (by simp) (mm_fr_refl _ _)
  have k2 : rk s X.2 (mm_cp X.2 120 0 157 (352 * s + 128) 32) := rk_w157 _ _ _ _ _ (by omega) (by omega)
  have r2 : ∀ i, (mm_cp X.2 120 0 157 (352 * s + 128) 32).1 157 i = if 352 * s + 128 ≤ i ∧ i < 352 * s + 128 + 32 then X.2.1 120 (0 + (i - (352 * s + 128))) else X.2.1 157 i := fun i => by
    rw [rd_cp]
    by_cases c : 352 * s + 128 ≤ i ∧ i < 352 * s + 128 + 32
    · rw [if_pos ⟨rfl, c⟩, if_pos c]
    · rw [if_neg (fun q => c q.2), if_neg c]
  generalize mm_cp X.2 120 0 157 (352 * s + 128) 32 = M2 at *
  have w3 : mm_fr [163] M2 (mm_w M2 163 s 1) := mm_fr_w (by simp) (mm_fr_refl _ _)
  have k3 : rk s M2 (mm_w M2 163 s 1) := rk_w _ _ _ (by omega) (by omega)
  have e3 : (mm_w M2 163 s 1).1 163 s = 1 := rd_wS _ _ _ _
  generalize mm_w M2 163 s 1 = M3 at *
  have e157 : M3.1 157 = M2.1 157 := (w3 157 (by decide)).1
  have w4 := w_f_X12_agrees s 224 128 M3
  have hT3 := ((hT.fr w1 (by decide) (by decide)).fr w2 (by decide) (by decide)).fr w3 (by decide) (by decide)
  have k4 : rk s M3 E := by
    rw [hE]
    exact r_ag_rk s 224 128 M3 hT3
  rw [← hE] at w4
  refine ⟨g2, fun g => ?_, g3, k2.trans (k3.trans k4), w1, w4.on (by simp) (w3.on (by simp) (w2.on (by simp) (mm_fr_refl _ _)))⟩
  obtain ⟨v1, v2, v3, v4⟩ := g1 g
  rw [syL_1 hd] at v3
  have x3 : ∀ j, j < 32 → M3.1 157 (352 * s + 128 + j) = syP A (sh q (M.1 119)) j := fun j hj => by
    rw [e157, r2, if_pos (by omega), Nat.zero_add, show 352 * s + 128 + j - (352 * s + 128) = j from by omega]; exact v3 j hj
  have row : ∀ i, 352 * s ≤ i → i < 352 * s + 352 → ¬ (352 * s + 128 ≤ i ∧ i < 352 * s + 160) → M3.1 157 i = X.2.1 157 i := fun i q1 q2 q3 => by
    rw [e157, r2, if_neg (by omega)]
  obtain ⟨a1, a2, a3⟩ := r_agrees s 224 128 M3 _ hT3 (v2.fr (fun i q1 q2 => row i q1 (by omega) (by omega)) (by rw [(w3 161 (by decide)).1, (w2 161 (by decide)).1]) (by rw [(w3 166 (by decide)).2, (w2 166 (by decide)).2]))
  rw [← hE] at a1 a2 a3
  rw [show cvB (fun i => M3.1 157 (352 * s + 224 + i)) (fun i => M3.1 157 (352 * s + 128 + i)) = cvB oe (syP A (sh q (M.1 119))) from cvB_congr (fun j hj => by rw [row _ (by omega) (by omega) (by omega), v4 _ (by omega) (by omega)]; exact ho j hj) x3] at a1
  refine ⟨by rw [v1]; decide, a1, by rw [(w4 163 (by decide)).1]; exact e3, fun j hj => by rw [a3 _ (by omega) (by omega)]; exact x3 j hj, fun i q1 q2 => by rw [a3 _ (by omega) (by omega), row _ (by omega) (by omega) (by omega), v4 _ (by omega) (by omega)], fun i q1 q2 => by rw [a3 _ (by omega) (by omega), row _ (by omega) (by omega) (by omega), v4 _ (by omega) (by omega)]⟩
/-- what is read comes out -/
theorem rd_num (A : sy) (n a : Nat) (h : a ≤ n) (hn : n < 4294967296) (hg : syG A (fun j => M.1 119 (a + j)) (n - a)) (N : mm_M) (hN : N.1 161 s = A.2.2.2.1) : (if N.1 161 s = 0 then (nI (n - a) - 0, N) else (nI (n - a) - 16, N)) = (nI (syL A (n - a)), N) := by
  rw [hN]
  unfold syL
  by_cases c : A.2.2.2.1 = 0
  · rw [if_pos c, if_pos c, show ∀ z : Int32, z - 0 = z from fun z => Int32.sub_zero z]
  · rw [if_neg c, if_neg c]
    rcases hg with q | ⟨q, -⟩
    · exact absurd q c
    · rw [nI_sub16 (n - a) q (by omega)]
theorem rd0_hi (s n : Nat) (M M39 : mm_M) (h39 : M39 = f_X12_mixHash s 119 0 32 (mm_w (f_X12_copy 119 0 157 (352 * s + 96) 32 M) 162 s 1)) (hM : M.1 164 s = nI 0) (h1 : M39.1 164 s = nI 0) (hn : 32 ≤ n) : f_X12_reads s n M = f_X12_reads_B9 s n (f_X12_opensFrom s 32 (n - 32) 0 M39).2 (f_X12_opensFrom s 32 (n - 32) 0 M39).1 := by
  unfold f_X12_reads
  rw [if_neg (by rw [hM]; decide), if_pos hn]
  dsimp only
  rw [← h39]
  unfold f_X12_reads_B15
  rw [if_pos (by rw [h1]; decide)]
  unfold f_X12_reads_B14
  rw [if_pos (by rw [h1]; decide)]
theorem rd0_lo (s n : Nat) (M : mm_M) (h : M.1 164 s = nI st) (hst : st < 2) (hn : ¬ 32 ≤ n) : f_X12_reads s n M = (-1, M) := by
  unfold f_X12_reads
  rw [if_neg (by rw [h]; rcases (show st = 0 ∨ st = 1 by omega) with rfl | rfl <;> decide), if_neg hn]
theorem rd9_1 (s n : Nat) (M : mm_M) (v : Int32) (h : ¬ v = 0) : f_X12_reads_B9 s n M v = (if M.1 161 s = 0 then (nI (n - 32) - 0, M) else (nI (n - 32) - 16, M)) := by
  unfold f_X12_reads_B9 f_X12_reads_B8
  rw [if_pos h]
theorem rd9_0 (s n : Nat) (M : mm_M) (v : Int32) (h : v = 0) : f_X12_reads_B9 s n M v = (-1, M) := by
  unfold f_X12_reads_B9
  rw [if_neg (fun q => q h)]
theorem rd11_1 (s n : Nat) (M : mm_M) (v : Int32) (h : ¬ v = 0) : f_X12_reads_B11 s n M v = (if M.1 161 s = 0 then (nI (n - 80) - 0, M) else (nI (n - 80) - 16, M)) := by
  unfold f_X12_reads_B11 f_X12_reads_B10
  rw [if_pos h]
theorem rd11_0 (s n : Nat) (M : mm_M) (v : Int32) (h : v = 0) : f_X12_reads_B11 s n M v = (-1, M) := by
  unfold f_X12_reads_B11
  rw [if_neg (fun q => q h)]
theorem rd4_1 (s n : Nat) (M : mm_M) (v : Int32) (h : ¬ v = 0) : f_X12_reads_B4 s n M v = (if M.1 161 s = 0 then (nI (n - 48) - 0, M) else (nI (n - 48) - 16, M)) := by
  unfold f_X12_reads_B4 f_X12_reads_B3
  rw [if_pos h]
theorem rd4_0 (s n : Nat) (M : mm_M) (v : Int32) (h : v = 0) : f_X12_reads_B4 s n M v = (-1, M) := by
  unfold f_X12_reads_B4
  rw [if_neg (fun q => q h)]
theorem rd1_hi (s n : Nat) (M M39 M57 : mm_M) (h39 : M39 = f_X12_mixHash s 119 0 32 (mm_w (f_X12_copy 119 0 157 (352 * s + 96) 32 M) 162 s 1)) (hM : M.1 164 s = nI 1) (h1 : M39.1 164 s = nI 1) (hn : 32 ≤ n) (h57 : M57 = f_X12_agrees s 224 96 M39) (h2 : M57.1 164 s = nI 1) : f_X12_reads s n M = f_X12_reads_B13 s n M57 := by
  unfold f_X12_reads
  rw [if_neg (by rw [hM]; decide), if_pos hn]
  dsimp only
  rw [← h39]
  unfold f_X12_reads_B15
  rw [if_neg (by rw [h1]; decide)]
  dsimp only
  rw [← h57]
  unfold f_X12_reads_B14
  rw [if_neg (by rw [h2]; decide)]
theorem rd13_lo (s n : Nat) (M : mm_M) (h : n < 80) : f_X12_reads_B13 s n M = (-1, M) := by
  unfold f_X12_reads_B13
  rw [if_pos h]
theorem rd13_0 (s n : Nat) (M : mm_M) (h : ¬ n < 80) (X : Int32 × mm_M) (hX : X = f_X12_opensFrom s 32 48 0 M) (hv : X.1 = 0) : f_X12_reads_B13 s n M = (-1, X.2) := by
  unfold f_X12_reads_B13
  rw [if_neg h]
  dsimp only
  rw [← hX]
  unfold f_X12_reads_B12
  rw [if_neg (fun q => q hv)]
theorem rd13_1 (s n : Nat) (M : mm_M) (h : ¬ n < 80) (X : Int32 × mm_M) (hX : X = f_X12_opensFrom s 32 48 0 M) (hv : ¬ X.1 = 0) (E : mm_M) (hE : E = f_X12_agrees s 224 128 (mm_w (f_X12_copy 120 0 157 (352 * s + 128) 32 X.2) 163 s 1)) : f_X12_reads_B13 s n M = f_X12_reads_B11 s n (f_X12_opensFrom s 80 (n - 80) 0 E).2 (f_X12_opensFrom s 80 (n - 80) 0 E).1 := by
  unfold f_X12_reads_B13
  rw [if_neg h]
  dsimp only
  rw [← hX]
  unfold f_X12_reads_B12
  rw [if_pos hv]
  dsimp only
  rw [← hE]
theorem rd2_lo (s n : Nat) (M : mm_M) (hM : M.1 164 s = nI 2) (h : n < 48) : f_X12_reads s n M = (-1, M) := by
  unfold f_X12_reads
  rw [if_pos (by rw [hM]; decide), if_pos (by rw [hM]; decide), if_neg (by rw [hM]; decide), if_pos h]
theorem rd2_0 (s n : Nat) (M : mm_M) (hM : M.1 164 s = nI 2) (h : ¬ n < 48) (X : Int32 × mm_M) (hX : X = f_X12_opensFrom s 0 48 0 M) (hv : X.1 = 0) : f_X12_reads s n M = (-1, X.2) := by
  unfold f_X12_reads
  rw [if_pos (by rw [hM]; decide), if_pos (by rw [hM]; decide), if_neg (by rw [hM]; decide), if_neg h]
  dsimp only
  rw [← hX]
  unfold f_X12_reads_B5
  rw [if_neg (fun q => q hv)]
theorem rd2_1 (s n : Nat) (M : mm_M) (hM : M.1 164 s = nI 2) (h : ¬ n < 48) (X : Int32 × mm_M) (hX : X = f_X12_opensFrom s 0 48 0 M) (hv : ¬ X.1 = 0) (E : mm_M) (hE : E = f_X12_agrees s 224 128 (mm_w (f_X12_copy 120 0 157 (352 * s + 128) 32 X.2) 163 s 1)) : f_X12_reads s n M = f_X12_reads_B4 s n (f_X12_opensFrom s 48 (n - 48) 0 E).2 (f_X12_opensFrom s 48 (n - 48) 0 E).1 := by
  unfold f_X12_reads
  rw [if_pos (by rw [hM]; decide), if_pos (by rw [hM]; decide), if_neg (by rw [hM]; decide), if_neg h]
  dsimp only
  rw [← hX]
  unfold f_X12_reads_B5
  rw [if_pos hv]
  dsimp only
  rw [← hE]
theorem r_rd0 {n : Nat} (hn : n ≤ 1000) (hT : rT M) (h : r_ses M s 0 ini rf S os oe xs xe ks kr ns nr) (Z : Int32 × mm_M) (hZ : Z = f_X12_reads s n M) : (rOK0 S (M.1 119) n → Z.1 = nI (syL (wS1 S (M.1 119)) (n - 32)) ∧ (∀ i, i < syL (wS1 S (M.1 119)) (n - 32) → Z.2.1 120 i = syP (wS1 S (M.1 119)) (sh 32 (M.1 119)) i) ∧ r_sy Z.2 s (syD (wS1 S (M.1 119)) (sh 32 (M.1 119)) (n - 32)) ∧ Z.2.1 162 s = 1 ∧ (∀ j, j < 32 → Z.2.1 157 (352 * s + 96 + j) = M.1 119 j) ∧ ro s 128 M Z.2 ∧ Z.2.1 163 s = M.1 163 s) ∧ (¬ rOK0 S (M.1 119) n → Z.1 = -1) ∧ rk s M Z.2 := by
  have h64 := h.2.2.1
  by_cases c : 32 ≤ n
  · obtain ⟨M39, h39⟩ : ∃ M39, M39 = f_X12_mixHash s 119 0 32 (mm_w (f_X12_copy 119 0 157 (352 * s + 96) 32 M) 162 s 1) := ⟨_, rfl⟩
    obtain ⟨m1, m2, m3, m4, m5, m6⟩ := r_r1st hT h.2.2.2.2.1 M39 h39
    rw [rd0_hi s n M M39 h39 h64 (by rw [(m6 164 (by decide)).1]; exact h64) c] at hZ
    obtain ⟨g1, g2, g3⟩ := r_opensFrom s 32 (n - 32) (by omega) M39 _ (hT.fr m6 (by decide) (by decide)) m1
    have w := (w_f_X12_opensFrom s 32 (n - 32) 0 M39).m
    rw [(m6 119 (by decide)).1] at g1 g2
    generalize f_X12_opensFrom s 32 (n - 32) 0 M39 = X at *
    by_cases g : syG (wS1 S (M.1 119)) (sh 32 (M.1 119)) (n - 32)
    · obtain ⟨v1, v2, v3, v4⟩ := g1 g
      have k61 := v2.2.2.2.1
      rw [rd9_1 s n X.2 X.1 (by rw [v1]; decide), rd_num (M := M) (wS1 S (M.1 119)) n 32 c (by omega) g X.2 k61] at hZ
      subst hZ
      refine ⟨fun _ => ⟨rfl, v3, v2, ?_, fun j hj => ?_, fun i q1 q2 => ?_, ?_⟩, fun q => absurd ⟨c, g⟩ q, m5.trans g3⟩
      · show X.2.1 162 s = 1
        rw [(w 162 (by decide)).1]; exact m2
      · show X.2.1 157 _ = _
        rw [v4 _ (by omega) (by omega)]; exact m3 j hj
      · show X.2.1 157 _ = _
        rw [v4 _ (by omega) (by omega)]; exact m4 i q1 q2
      · show X.2.1 163 s = _
        rw [(w 163 (by decide)).1, (m6 163 (by decide)).1]
    · rw [rd9_0 s n X.2 X.1 (g2 g)] at hZ
      subst hZ
      exact ⟨fun q => absurd q.2 g, fun _ => rfl, m5.trans g3⟩
  · rw [rd0_lo s n M h64 (by decide) c] at hZ
    subst hZ
    exact ⟨fun q => absurd q.1 c, fun _ => rfl, rk.refl _ _⟩
theorem r_rd1 {n : Nat} (hn : n ≤ 1000) (hT : rT M) (h : r_ses M s 1 ini rf S os oe xs xe ks kr ns nr) (Z : Int32 × mm_M) (hZ : Z = f_X12_reads s n M) : (rOK1 S oe (M.1 119) n → Z.1 = nI (n - 96) ∧ (∀ i, i < n - 96 → Z.2.1 120 i = syP (rB (rA S oe (M.1 119)) oe (sh 32 (M.1 119))) (sh 80 (M.1 119)) i) ∧ r_sy Z.2 s (syD (rB (rA S oe (M.1 119)) oe (sh 32 (M.1 119))) (sh 80 (M.1 119)) (n - 80)) ∧ Z.2.1 162 s = 1 ∧ (∀ j, j < 32 → Z.2.1 157 (352 * s + 96 + j) = M.1 119 j) ∧ Z.2.1 163 s = 1 ∧ (∀ j, j < 32 → Z.2.1 157 (352 * s + 128 + j) = syP (rA S oe (M.1 119)) (sh 32 (M.1 119)) j) ∧ ro s 160 M Z.2) ∧ (¬ rOK1 S oe (M.1 119) n → Z.1 = -1) ∧ rk s M Z.2 := by
  have h64 := h.2.2.1
  by_cases c : 32 ≤ n
  · obtain ⟨M39, h39⟩ : ∃ M39, M39 = f_X12_mixHash s 119 0 32 (mm_w (f_X12_copy 119 0 157 (352 * s + 96) 32 M) 162 s 1) := ⟨_, rfl⟩
    obtain ⟨m1, m2, m3, m4, m5, m6⟩ := r_r1st hT h.2.2.2.2.1 M39 h39
    have h39' : M39.1 164 s = nI 1 := by rw [(m6 164 (by decide)).1]; exact h64
    have hT39 := hT.fr m6 (by decide) (by decide)
    obtain ⟨M57, h57⟩ : ∃ M57, M57 = f_X12_agrees s 224 96 M39 := ⟨_, rfl⟩
    obtain ⟨d1, d2, d3⟩ := r_agrees s 224 96 M39 _ hT39 m1
    have w5 := w_f_X12_agrees s 224 96 M39
    rw [← h57] at d1 d2 d3 w5
    rw [show cvB (fun i => M39.1 157 (352 * s + 224 + i)) (fun i => M39.1 157 (352 * s + 96 + i)) = cvB oe (M.1 119) from cvB_congr (fun j hj => by rw [m4 _ (by omega) (by omega)]; exact h.2.2.2.2.2.2.1 j hj) m3] at d1
    have hT57 := hT39.fr w5 (by decide) (by decide)
    have e119 : M57.1 119 = M.1 119 := by rw [(w5 119 (by decide)).1, (m6 119 (by decide)).1]
    rw [rd1_hi s n M M39 M57 h39 h64 h39' c h57 (by rw [(w5 164 (by decide)).1]; exact h39')] at hZ
    by_cases c8 : n < 80
    · rw [rd13_lo s n M57 c8] at hZ
      subst hZ
      exact ⟨fun q => absurd q.1 (by omega), fun _ => rfl, m5.trans d2⟩
    · obtain ⟨X, hX⟩ : ∃ X, X = f_X12_opensFrom s 32 48 0 M57 := ⟨_, rfl⟩
      obtain ⟨E, hE⟩ : ∃ E, E = f_X12_agrees s 224 128 (mm_w (f_X12_copy 120 0 157 (352 * s + 128) 32 X.2) 163 s 1) := ⟨_, rfl⟩
      obtain ⟨k1, k2, k3, k4, k5, k6⟩ := r_rs (q := 32) (oe := oe) hT57 (rA S oe (M.1 119)) (by show ¬ (1 : Int32) = 0; decide) d1 (fun j hj => by rw [d3 _ (by omega) (by omega), m4 _ (by omega) (by omega)]; exact h.2.2.2.2.2.2.1 j hj) X hX E hE
      rw [e119] at k1 k2
      by_cases g : syG (rA S oe (M.1 119)) (sh 32 (M.1 119)) 48
      · obtain ⟨v1, v2, v3, v4, v5, v6⟩ := k2 g
        rw [rd13_1 s n M57 c8 X hX v1 E hE] at hZ
        obtain ⟨g1, g2, g3⟩ := r_opensFrom s 80 (n - 80) (by omega) E _ ((hT57.fr k5 (by decide) (by decide)).fr k6 (by decide) (by decide)) v2
        have w := (w_f_X12_opensFrom s 80 (n - 80) 0 E).m
        rw [(k6 119 (by decide)).1, (k5 119 (by decide)).1, e119] at g1 g2
        generalize f_X12_opensFrom s 80 (n - 80) 0 E = Y at *
        have rkA := m5.trans (d2.trans (k3.trans (k4.trans g3)))
        by_cases g' : syG (rB (rA S oe (M.1 119)) oe (sh 32 (M.1 119))) (sh 80 (M.1 119)) (n - 80)
        · obtain ⟨u1, u2, u3, u4⟩ := g1 g'
          have eL : syL (rB (rA S oe (M.1 119)) oe (sh 32 (M.1 119))) (n - 80) = n - 96 := by rw [syL_1 (by show ¬ (1 : Int32) = 0; decide)]; omega
          have k61 := u2.2.2.2.1
          rw [rd11_1 s n Y.2 Y.1 (by rw [u1]; decide), rd_num (M := M) (rB (rA S oe (M.1 119)) oe (sh 32 (M.1 119))) n 80 (by omega) (by omega) g' Y.2 k61, eL] at hZ
          rw [eL] at u3
          subst hZ
          have c96 : 96 ≤ n := by
            rcases g' with q | ⟨q, -⟩
            · exact absurd q (by show ¬ (1 : Int32) = 0; decide)
            · omega
          refine ⟨fun _ => ⟨rfl, u3, u2, ?_, fun j hj => ?_, ?_, fun j hj => ?_, fun i q1 q2 => ?_⟩, fun q => absurd ⟨c96, g, g'⟩ q, rkA⟩
          · show Y.2.1 162 s = 1
            rw [(w 162 (by decide)).1, (k6 162 (by decide)).1, (k5 162 (by decide)).1, (w5 162 (by decide)).1]; exact m2
          · show Y.2.1 157 _ = _
            rw [u4 _ (by omega) (by omega), v5 _ (by omega) (by omega), d3 _ (by omega) (by omega)]; exact m3 j hj
          · show Y.2.1 163 s = 1
            rw [(w 163 (by decide)).1]; exact v3
          · show Y.2.1 157 _ = _
            rw [u4 _ (by omega) (by omega)]; exact v4 j hj
          · show Y.2.1 157 _ = _
            rw [u4 _ (by omega) (by omega), v6 _ (by omega) (by omega), d3 _ (by omega) (by omega)]; exact m4 i (by omega) q2
        · rw [rd11_0 s n Y.2 Y.1 (g2 g')] at hZ
          subst hZ
          exact ⟨fun q => absurd q.2.2 g', fun _ => rfl, rkA⟩
      · rw [rd13_0 s n M57 c8 X hX (k1 g)] at hZ
        subst hZ
        exact ⟨fun q => absurd q.2.1 g, fun _ => rfl, m5.trans (d2.trans k3)⟩
  · rw [rd0_lo s n M h64 (by decide) c] at hZ
    subst hZ
    exact ⟨fun q => absurd q.1 (by omega), fun _ => rfl, rk.refl _ _⟩
theorem r_rd2 {n : Nat} (hn : n ≤ 1000) (hd : ¬ S.2.2.2.1 = 0) (hT : rT M) (h : r_ses M s 2 ini rf S os oe xs xe ks kr ns nr) (Z : Int32 × mm_M) (hZ : Z = f_X12_reads s n M) : (rOK2 S oe (M.1 119) n → Z.1 = nI (n - 64) ∧ (∀ i, i < n - 64 → Z.2.1 120 i = syP (rB S oe (sh 0 (M.1 119))) (sh 48 (M.1 119)) i) ∧ r_sy Z.2 s (syD (rB S oe (sh 0 (M.1 119))) (sh 48 (M.1 119)) (n - 48)) ∧ Z.2.1 162 s = M.1 162 s ∧ (∀ i, 352 * s + 96 ≤ i → i < 352 * s + 128 → Z.2.1 157 i = M.1 157 i) ∧ Z.2.1 163 s = 1 ∧ (∀ j, j < 32 → Z.2.1 157 (352 * s + 128 + j) = syP S (sh 0 (M.1 119)) j) ∧ ro s 160 M Z.2) ∧ (¬ rOK2 S oe (M.1 119) n → Z.1 = -1) ∧ rk s M Z.2 := by
  have h64 := h.2.2.1
  by_cases c8 : n < 48
  · rw [rd2_lo s n M h64 c8] at hZ
    subst hZ
    exact ⟨fun q => absurd q.1 (by omega), fun _ => rfl, rk.refl _ _⟩
  · obtain ⟨X, hX⟩ : ∃ X, X = f_X12_opensFrom s 0 48 0 M := ⟨_, rfl⟩
    obtain ⟨E, hE⟩ : ∃ E, E = f_X12_agrees s 224 128 (mm_w (f_X12_copy 120 0 157 (352 * s + 128) 32 X.2) 163 s 1) := ⟨_, rfl⟩
    obtain ⟨k1, k2, k3, k4, k5, k6⟩ := r_rs (q := 0) (oe := oe) hT S hd h.2.2.2.2.1 h.2.2.2.2.2.2.1 X hX E hE
    by_cases g : syG S (sh 0 (M.1 119)) 48
    · obtain ⟨v1, v2, v3, v4, v5, v6⟩ := k2 g
      rw [rd2_1 s n M h64 c8 X hX v1 E hE] at hZ
      obtain ⟨g1, g2, g3⟩ := r_opensFrom s 48 (n - 48) (by omega) E _ ((hT.fr k5 (by decide) (by decide)).fr k6 (by decide) (by decide)) v2
      have w := (w_f_X12_opensFrom s 48 (n - 48) 0 E).m
      rw [(k6 119 (by decide)).1, (k5 119 (by decide)).1] at g1 g2
      generalize f_X12_opensFrom s 48 (n - 48) 0 E = Y at *
      have rkA := k3.trans (k4.trans g3)
      by_cases g' : syG (rB S oe (sh 0 (M.1 119))) (sh 48 (M.1 119)) (n - 48)
      · obtain ⟨u1, u2, u3, u4⟩ := g1 g'
        have eL : syL (rB S oe (sh 0 (M.1 119))) (n - 48) = n - 64 := by rw [syL_1 (by show ¬ (1 : Int32) = 0; decide)]; omega
        have k61 := u2.2.2.2.1
        rw [rd4_1 s n Y.2 Y.1 (by rw [u1]; decide), rd_num (M := M) (rB S oe (sh 0 (M.1 119))) n 48 (by omega) (by omega) g' Y.2 k61, eL] at hZ
        rw [eL] at u3
        subst hZ
        have c64 : 64 ≤ n := by
          rcases g' with q | ⟨q, -⟩
          · exact absurd q (by show ¬ (1 : Int32) = 0; decide)
          · omega
        refine ⟨fun _ => ⟨rfl, u3, u2, ?_, fun i q1 q2 => ?_, ?_, fun j hj => ?_, fun i q1 q2 => ?_⟩, fun q => absurd ⟨c64, g, g'⟩ q, rkA⟩
        · show Y.2.1 162 s = _
          rw [(w 162 (by decide)).1, (k6 162 (by decide)).1, (k5 162 (by decide)).1]
        · show Y.2.1 157 _ = _
          rw [u4 _ (by omega) (by omega)]; exact v5 i q1 q2
        · show Y.2.1 163 s = 1
          rw [(w 163 (by decide)).1]; exact v3
        · show Y.2.1 157 _ = _
          rw [u4 _ (by omega) (by omega)]; exact v4 j hj
        · show Y.2.1 157 _ = _
          rw [u4 _ (by omega) (by omega)]; exact v6 i q1 q2
      · rw [rd4_0 s n Y.2 Y.1 (g2 g')] at hZ
        subst hZ
        exact ⟨fun q => absurd q.2.2 g', fun _ => rfl, rkA⟩
    · rw [rd2_0 s n M h64 c8 X hX (k1 g)] at hZ
      subst hZ
      exact ⟨fun q => absurd q.2.1 g, fun _ => rfl, k3⟩
/-- around it: what is laid by, and laid back -/
theorem rb_eq (s n : Nat) (M M9 : mm_M) (h9 : M9 = f_X12_copy 157 (352 * s) 158 0 352 M) (hw : f_X12_isToWrite s M = 0) (Z : Int32 × mm_M) (hZ : Z = f_X12_reads s n M9) : f_X12_read_B2 s n M = f_X12_read_B1 s (M9.1 161 s) (M9.1 162 s) (M9.1 163 s) (M9.2 166 s) Z.2 Z.1 := by
  unfold f_X12_read_B2
  rw [if_pos hw]
  dsimp only
  rw [← h9, ← hZ]
theorem rb_1 (s k : Nat) (a b c : Int32) (u : Int64) (M : mm_M) (v : Int32) (hv : v = nI k) (hk : k < 2 ^ 31) : f_X12_read_B1 s a b c u M v = f_X12_tells 120 k (f_X12_goesOn s M) := by
  unfold f_X12_read_B1
  rw [hv, if_pos (by exact (nI_leI (a := 0) (by decide) hk).mpr (Nat.zero_le k))]
  dsimp only
  rw [nI_clamp hk]
theorem rb_0 (s : Nat) (a b c : Int32) (u : Int64) (M : mm_M) (v : Int32) (hv : v = -1) : f_X12_read_B1 s a b c u M v = (-1, mm_w (mm_wl (mm_w (mm_w (mm_w (f_X12_copy 158 0 157 (352 * s) 352 M) 161 s a) 162 s b) 163 s c) 166 s u) 165 s ((mm_wl (mm_w (mm_w (mm_w (f_X12_copy 158 0 157 (352 * s) 352 M) 161 s a) 162 s b) 163 s c) 166 s u).1 165 s + 1)) := by
  unfold f_X12_read_B1
  rw [if_neg (by rw [hv]; decide)]
theorem r_back {n : Nat} (h : r_ses M s st ini rf S os oe xs xe ks kr ns nr) (M9 : mm_M) (h9 : M9 = f_X12_copy 157 (352 * s) 158 0 352 M) (Z : Int32 × mm_M) (hZ : Z = f_X12_reads s n M9) (hk : rk s M9 Z.2) (hv : Z.1 = -1) : (f_X12_read_B1 s (M9.1 161 s) (M9.1 162 s) (M9.1 163 s) (M9.2 166 s) Z.2 Z.1).1 = -1 ∧ tf s M (f_X12_read_B1 s (M9.1 161 s) (M9.1 162 s) (M9.1 163 s) (M9.2 166 s) Z.2 Z.1).2 ∧ r_ses (f_X12_read_B1 s (M9.1 161 s) (M9.1 162 s) (M9.1 163 s) (M9.2 166 s) Z.2 Z.1).2 s st ini (rf + 1) S os oe xs xe ks kr ns nr := by
  rw [rb_0 s _ _ _ _ Z.2 Z.1 hv, copy_cp _ _ _ _ _ (by decide)]
  rw [copy_cp _ _ _ _ _ (by decide)] at h9
  have w9 : mm_fr [158] M M9 := by rw [h9]; exact mm_fr_cp (by simp) (mm_fr_refl _ _)
  have r9 : ∀ j, j < 352 → M9.1 158 j = M.1 157 (352 * s + j) := fun j hj => by
    rw [h9]
    have := rd_cpS M 157 (352 * s) 158 0 352 hj
    rw [Nat.zero_add] at this
    exact this
  have w := (w_f_X12_reads s n M9).m
  rw [← hZ] at w
  obtain ⟨k1, k2, k3⟩ := hk
  have c157 : ∀ i, 352 * s ≤ i → i < 352 * s + 352 → (mm_cp Z.2 158 0 157 (352 * s) 352).1 157 i = M.1 157 i := fun i q1 q2 => by
    rw [rd_cp, if_pos ⟨rfl, q1, q2⟩, Nat.zero_add, (w 158 (by decide)).1, r9 _ (by omega), show 352 * s + (i - 352 * s) = i from by omega]
  have o157 : ∀ i, (i < 352 * s ∨ 352 * s + 352 ≤ i) → (mm_cp Z.2 158 0 157 (352 * s) 352).1 157 i = M.1 157 i := fun i q => by
    rw [rd_cpN _ _ _ _ _ _ (Or.inr (by omega)), k1 i q, (w9 157 (by decide)).1]
  have wc : mm_fr [157] Z.2 (mm_cp Z.2 158 0 157 (352 * s) 352) := mm_fr_cp (by simp) (mm_fr_refl _ _)
  generalize mm_cp Z.2 158 0 157 (352 * s) 352 = P at *
  have wv : mm_fr [161, 162, 163, 166, 165] P (mm_w (mm_wl (mm_w (mm_w (mm_w P 161 s (M9.1 161 s)) 162 s (M9.1 162 s)) 163 s (M9.1 163 s)) 166 s (M9.2 166 s)) 165 s ((mm_wl (mm_w (mm_w (mm_w P 161 s (M9.1 161 s)) 162 s (M9.1 162 s)) 163 s (M9.1 163 s)) 166 s (M9.2 166 s)).1 165 s + 1)) := mm_fr_w (by simp) (mm_fr_wl (by simp) (mm_fr_w (by simp) (mm_fr_w (by simp) (mm_fr_w (by simp) (mm_fr_refl _ _)))))
  have kv : rk s P (mm_w (mm_wl (mm_w (mm_w (mm_w P 161 s (M9.1 161 s)) 162 s (M9.1 162 s)) 163 s (M9.1 163 s)) 166 s (M9.2 166 s)) 165 s ((mm_wl (mm_w (mm_w (mm_w P 161 s (M9.1 161 s)) 162 s (M9.1 162 s)) 163 s (M9.1 163 s)) 166 s (M9.2 166 s)).1 165 s + 1)) := (rk_w P 161 _ (by omega) (by omega)).trans ((rk_w _ 162 _ (by omega) (by omega)).trans ((rk_w _ 163 _ (by omega) (by omega)).trans ((rk_wl _ 166 _).trans (rk_w _ 165 _ (by omega) (by omega)))))
  have v161 : (mm_w (mm_wl (mm_w (mm_w (mm_w P 161 s (M9.1 161 s)) 162 s (M9.1 162 s)) 163 s (M9.1 163 s)) 166 s (M9.2 166 s)) 165 s ((mm_wl (mm_w (mm_w (mm_w P 161 s (M9.1 161 s)) 162 s (M9.1 162 s)) 163 s (M9.1 163 s)) 166 s (M9.2 166 s)).1 165 s + 1)).1 161 s = M.1 161 s := by
    rw [rd_wN _ _ _ _ (Or.inl (by decide)), rd_wl1, rd_wN _ _ _ _ (Or.inl (by decide)), rd_wN _ _ _ _ (Or.inl (by decide)), rd_wS, (w9 161 (by decide)).1]
  have v162 : (mm_w (mm_wl (mm_w (mm_w (mm_w P 161 s (M9.1 161 s)) 162 s (M9.1 162 s)) 163 s (M9.1 163 s)) 166 s (M9.2 166 s)) 165 s ((mm_wl (mm_w (mm_w (mm_w P 161 s (M9.1 161 s)) 162 s (M9.1 162 s)) 163 s (M9.1 163 s)) 166 s (M9.2 166 s)).1 165 s + 1)).1 162 s = M.1 162 s := by
    rw [rd_wN _ _ _ _ (Or.inl (by decide)), rd_wl1, rd_wN _ _ _ _ (Or.inl (by decide)), rd_wS, (w9 162 (by decide)).1]
  have v163 : (mm_w (mm_wl (mm_w (mm_w (mm_w P 161 s (M9.1 161 s)) 162 s (M9.1 162 s)) 163 s (M9.1 163 s)) 166 s (M9.2 166 s)) 165 s ((mm_wl (mm_w (mm_w (mm_w P 161 s (M9.1 161 s)) 162 s (M9.1 162 s)) 163 s (M9.1 163 s)) 166 s (M9.2 166 s)).1 165 s + 1)).1 163 s = M.1 163 s := by
    rw [rd_wN _ _ _ _ (Or.inl (by decide)), rd_wl1, rd_wS, (w9 163 (by decide)).1]
  have v166 : (mm_w (mm_wl (mm_w (mm_w (mm_w P 161 s (M9.1 161 s)) 162 s (M9.1 162 s)) 163 s (M9.1 163 s)) 166 s (M9.2 166 s)) 165 s ((mm_wl (mm_w (mm_w (mm_w P 161 s (M9.1 161 s)) 162 s (M9.1 162 s)) 163 s (M9.1 163 s)) 166 s (M9.2 166 s)).1 165 s + 1)).2 166 s = M.2 166 s := by
    rw [rd_w2, rd_wlS, (w9 166 (by decide)).2]
  have v165 : (mm_w (mm_wl (mm_w (mm_w (mm_w P 161 s (M9.1 161 s)) 162 s (M9.1 162 s)) 163 s (M9.1 163 s)) 166 s (M9.2 166 s)) 165 s ((mm_wl (mm_w (mm_w (mm_w P 161 s (M9.1 161 s)) 162 s (M9.1 162 s)) 163 s (M9.1 163 s)) 166 s (M9.2 166 s)).1 165 s + 1)).1 165 s = M.1 165 s + 1 := by
    rw [rd_wS, rd_wl1, rd_wN _ _ _ _ (Or.inl (by decide)), rd_wN _ _ _ _ (Or.inl (by decide)), rd_wN _ _ _ _ (Or.inl (by decide)), (wc 165 (by decide)).1, (w 165 (by decide)).1, (w9 165 (by decide)).1]
  generalize mm_w (mm_wl (mm_w (mm_w (mm_w P 161 s (M9.1 161 s)) 162 s (M9.1 162 s)) 163 s (M9.1 163 s)) 166 s (M9.2 166 s)) 165 s ((mm_wl (mm_w (mm_w (mm_w P 161 s (M9.1 161 s)) 162 s (M9.1 162 s)) 163 s (M9.1 163 s)) 166 s (M9.2 166 s)).1 165 s + 1) = N at *
  refine ⟨rfl, ⟨?_, ?_, ?_, fun i q => ?_, fun k i q1 q2 q3 => ?_⟩, ?_⟩
  · show N.1 117 4 = _
    rw [(wv 117 (by decide)).1, (wc 117 (by decide)).1, k3 4 (by decide), (w9 117 (by decide)).1]
  · show N.1 117 5 = _
    rw [(wv 117 (by decide)).1, (wc 117 (by decide)).1, k3 5 (by decide), (w9 117 (by decide)).1]
  · show N.1 121 = _
    rw [(wv 121 (by decide)).1, (wc 121 (by decide)).1, (w 121 (by decide)).1, (w9 121 (by decide)).1]
  · show N.1 157 i = _
    rw [(wv 157 (by decide)).1]; exact o157 i q
  · show N.1 k i = _ ∧ N.2 k i = _
    rw [(kv.2.1 k i q1 q2 q3).1, (kv.2.1 k i q1 q2 q3).2, (wc k (by simp <;> omega)).1, (wc k (by simp <;> omega)).2, (k2 k i q1 q2 q3).1, (k2 k i q1 q2 q3).2, (w9 k (by simp <;> omega)).1, (w9 k (by simp <;> omega)).2]
    exact ⟨rfl, rfl⟩
  · obtain ⟨a1, a2, a3, a4, a5, a6, a7, a8, a9, b1, b2, b3, b4, c1, c2, c3⟩ := h
    have row : ∀ i, 352 * s ≤ i → i < 352 * s + 352 → N.1 157 i = M.1 157 i := fun i q1 q2 => by rw [(wv 157 (by decide)).1]; exact c157 i q1 q2
    refine ⟨?_, ?_, ?_, ?_, a5.fr (fun i q1 q2 => row i q1 (by omega)) v161 v166, ?_, ?_, ?_, ?_, ?_, ?_, ?_, ?_, ?_, ?_, ?_⟩
    · show N.1 159 s = 1
      rw [(wv 159 (by decide)).1, (wc 159 (by decide)).1, (w 159 (by decide)).1, (w9 159 (by decide)).1]; exact a1
    · show N.1 160 s = ini
      rw [(wv 160 (by decide)).1, (wc 160 (by decide)).1, (w 160 (by decide)).1, (w9 160 (by decide)).1]; exact a2
    · show N.1 164 s = nI st
      rw [(wv 164 (by decide)).1, (wc 164 (by decide)).1, (w 164 (by decide)).1, (w9 164 (by decide)).1]; exact a3
    · show N.1 165 s = _
      rw [v165, a4]
    · intro j hj; show N.1 157 _ = _; rw [row _ (by omega) (by omega)]; exact a6 j hj
    · intro j hj; show N.1 157 _ = _; rw [row _ (by omega) (by omega)]; exact a7 j hj
    · intro j hj; show N.1 157 _ = _; rw [row _ (by omega) (by omega)]; exact a8 j hj
    · intro j hj; show N.1 157 _ = _; rw [row _ (by omega) (by omega)]; exact a9 j hj
    · intro q; exact ⟨v163.trans (b1 q).1, fun j hj => (row _ (by omega) (by omega)).trans ((b1 q).2 j hj)⟩
    · intro q; exact v163.trans (b2 q)
    · intro q; exact ⟨v162.trans (b3 q).1, fun j hj => (row _ (by omega) (by omega)).trans ((b3 q).2 j hj)⟩
    · intro q; exact v162.trans (b4 q)
    · intro q; exact ⟨fun j hj => (row _ (by omega) (by omega)).trans ((c1 q).1 j hj), fun j hj => (row _ (by omega) (by omega)).trans ((c1 q).2 j hj)⟩
    · show N.2 167 s = _
      rw [(wv 167 (by decide)).2, (wc 167 (by decide)).2, (w 167 (by decide)).2, (w9 167 (by decide)).2]; exact c2
    · show N.2 168 s = _
      rw [(wv 168 (by decide)).2, (wc 168 (by decide)).2, (w 168 (by decide)).2, (w9 168 (by decide)).2]; exact c3
end RR
