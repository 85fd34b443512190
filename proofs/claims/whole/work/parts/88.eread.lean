/-! the engine's session: reading -/
def rA (S : sy) (oe msg : Nat → Int32) : sy := syK (wS1 S msg) (cvB oe msg)
def rB (A : sy) (oe m : Nat → Int32) : sy := syK (syD A m 48) (cvB oe (syP A m))
def sh (q : Nat) (m : Nat → Int32) (j : Nat) : Int32 := m (q + j)
def rOK0 (S : sy) (msg : Nat → Int32) (n : Nat) : Prop := 32 ≤ n ∧ syG (wS1 S msg) (sh 32 msg) (n - 32)
def rOK1 (S : sy) (oe msg : Nat → Int32) (n : Nat) : Prop := 96 ≤ n ∧ syG (rA S oe msg) (sh 32 msg) 48 ∧ syG (rB (rA S oe msg) oe (sh 32 msg)) (sh 80 msg) (n - 80)
def rOK2 (S : sy) (oe msg : Nat → Int32) (n : Nat) : Prop := 64 ≤ n ∧ syG S (sh 0 msg) 48 ∧ syG (rB S oe (sh 0 msg)) (sh 48 msg) (n - 48)
theorem syL_1 {S : sy} (h : ¬ S.2.2.2.1 = 0) (n : Nat) : syL S n = n - 16 := by unfold syL; rw [if_neg h]
theorem syL_le (S : sy) (n : Nat) : syL S n ≤ n := by unfold syL; by_cases c : S.2.2.2.1 = 0 <;> simp [c]
theorem e_ref (x : Nat) (hx : 49 ≤ x) (N : mm_M) (S : sy) (h : e_sy N 43 S) : (f_X7_refuse x N).1 = -1 ∧ e_sy (f_X7_refuse x N).2 (x + 5) S ∧ (∀ j, (f_X7_refuse x N).2.1 x j = if j = 11 then N.1 x 11 + 1 else N.1 x j) := by
  unfold f_X7_refuse
  try dsimp only
  have g := e_copyS (x + 5) 43 (by omega) N S h
  have w := w_f_X10_copyFrom (x + 5) 43 N
  generalize f_X10_copyFrom (x + 5) 43 N = N1 at *
  have ex : N1.1 x = N.1 x := (w x (by simp <;> omega)).1
  have wv : mm_fr [x] N1 (mm_w N1 x 11 (N1.1 x 11 + 1)) := mm_fr_w (by simp) (mm_fr_refl _ _)
  refine ⟨rfl, g.fr wv (by simp <;> omega) (by simp <;> omega) (by simp <;> omega) (by simp <;> omega), fun j => ?_⟩
  rw [rd_w, ex]
  by_cases c : j = 11
  · rw [if_pos ⟨rfl, c⟩, if_pos c]
  · rw [if_neg (fun q => c q.2), if_neg c]
theorem e_rs (x q : Nat) (hx : 49 ≤ x) (hx2 : x + 16 < 117) (M : mm_M) (A : sy) (oe : Nat → Int32) (hV : eV M) (hd : ¬ A.2.2.2.1 = 0) (h : e_sy M (x + 5) A) (ho : ∀ j, j < 32 → M.1 (x + 2) j = oe j) (D : Int32 × mm_M) (hD : D = f_X10_decryptAndHash (x + 5) 1 q 48 (x + 3) 0 M) (E : mm_M) (hE : E = f_X10_mixKey (x + 5) 15 (f_X4_multiply (x + 2) (x + 3) D.2)) : (¬ syG A (sh q (M.1 1)) 48 → D.1 = -1) ∧ (syG A (sh q (M.1 1)) 48 → ¬ D.1 = -1 ∧ (∀ j, j < 32 → E.1 (x + 3) j = syP A (sh q (M.1 1)) j) ∧ e_sy E (x + 5) (rB A oe (sh q (M.1 1)))) ∧ mm_fr [34, 35, 33, 37, 40, 38, 39, 31, 41, x + 3, x + 8, 24, 23, 26, 25, x + 6] M D.2 ∧ mm_fr [14, 16, 17, 18, 19, 20, 22, 21, 15, 24, 23, 26, 25, 28, 29, 30, x + 7, x + 9, x + 8] D.2 E := by
  obtain ⟨g1, g2⟩ := e_decH (x + 5) q 48 (x + 3) (by omega) (by omega) (Or.inr (by omega)) (by decide) M A hV.1 h
  have w1 := (w_f_X10_decryptAndHash (x + 5) 1 q 48 (x + 3) 0 M).m
  rw [← hD] at g1 g2 w1
  have w1' : mm_fr [34, 35, 33, 37, 40, 38, 39, 31, 41, x + 3, x + 8, 24, 23, 26, 25, x + 6] M D.2 := w1.on (by simp <;> omega) (mm_fr_refl _ _)
  have w2 := w_f_X4_multiply (x + 2) (x + 3) D.2
  have c2 := e_curve (x + 2) (x + 3) (by omega) D.2
  rw [(w1' (x + 2) (by simp <;> omega)).1] at c2
  obtain ⟨M3, hM3⟩ : ∃ M3, M3 = f_X4_multiply (x + 2) (x + 3) D.2 := ⟨_, rfl⟩
  rw [← hM3] at w2 c2 hE
  have w3 := w_f_X10_mixKey (x + 5) 15 M3
  have w4 : mm_fr [14, 16, 17, 18, 19, 20, 22, 21, 15, 24, 23, 26, 25, 28, 29, 30, x + 7, x + 9, x + 8] D.2 E := by
    rw [hE]
    exact w3.on (by simp <;> omega) (w2.on (by simp) (mm_fr_refl _ _))
  refine ⟨fun g => (g2 g).1, fun g => ?_, w1', w4⟩
  obtain ⟨v1, v2, v3⟩ := g1 g
  have e32 : syL A 48 = 32 := by rw [syL_1 hd]
  rw [e32] at v1 v3
  have x3 : ∀ j, j < 32 → D.2.1 (x + 3) j = syP A (sh q (M.1 1)) j := fun j hj => by rw [v3 j, if_pos hj]; rfl
  refine ⟨by rw [v1]; decide, fun j hj => by rw [(w4 (x + 3) (by simp <;> omega)).1]; exact x3 j hj, ?_⟩
  rw [hE]
  have m := e_mixKey (x + 5) 15 (by omega) (by omega) (by decide) M3 _ (((hV.fr w1' (by simp <;> omega)).fr w2 (by simp)).1) (v2.fr w2 (by simp <;> omega) (by simp <;> omega) (by simp <;> omega) (by simp <;> omega))
  rw [syK_congr (b := cvB oe (syP A (sh q (M.1 1)))) (fun j hj => by rw [c2 j hj]; exact congrFun (cvB_congr ho x3) j)] at m
  exact m
theorem r0_hi (x p1 : Nat) (M : mm_M) (c : 32 ≤ p1) : f_X7_readMessage_0 x p1 M = f_X7_readMessage_0_B1 x (f_X10_decryptAndHash (x + 5) 1 32 (p1 - 32) 2 0 (f_X10_mixHash (x + 5) 1 0 32 (mm_cp (f_X10_copyFrom 43 (x + 5) M) 1 0 (x + 4) 0 32))).2 (f_X10_decryptAndHash (x + 5) 1 32 (p1 - 32) 2 0 (f_X10_mixHash (x + 5) 1 0 32 (mm_cp (f_X10_copyFrom 43 (x + 5) M) 1 0 (x + 4) 0 32))).1 := by
  unfold f_X7_readMessage_0
  rw [if_pos c]
theorem r0_lo (x p1 : Nat) (M : mm_M) (c : ¬ 32 ≤ p1) : f_X7_readMessage_0 x p1 M = (-1, mm_w M x 11 (M.1 x 11 + 1)) := by
  unfold f_X7_readMessage_0
  rw [if_neg c]
theorem r0B_1 (x : Nat) (M : mm_M) (v : Int32) (h : ¬ v = -1) : f_X7_readMessage_0_B1 x M v = (v, mm_w M x 10 1) := by
  unfold f_X7_readMessage_0_B1
  rw [if_pos h]
theorem r0B_0 (x : Nat) (M : mm_M) (v : Int32) (h : v = -1) : f_X7_readMessage_0_B1 x M v = f_X7_refuse x M := by
  unfold f_X7_readMessage_0_B1
  rw [if_neg (fun q => q h)]
theorem r1_hi (x p1 : Nat) (M : mm_M) (c : 96 ≤ p1) : f_X7_readMessage_1 x p1 M = f_X7_readMessage_1_B2 x p1 (f_X10_decryptAndHash (x + 5) 1 32 48 (x + 3) 0 (f_X10_mixKey (x + 5) 15 (f_X4_multiply (x + 2) (x + 4) (f_X10_mixHash (x + 5) 1 0 32 (mm_cp (f_X10_copyFrom 43 (x + 5) M) 1 0 (x + 4) 0 32))))).2 (f_X10_decryptAndHash (x + 5) 1 32 48 (x + 3) 0 (f_X10_mixKey (x + 5) 15 (f_X4_multiply (x + 2) (x + 4) (f_X10_mixHash (x + 5) 1 0 32 (mm_cp (f_X10_copyFrom 43 (x + 5) M) 1 0 (x + 4) 0 32))))).1 := by
  unfold f_X7_readMessage_1
  rw [if_pos c]
theorem r1_lo (x p1 : Nat) (M : mm_M) (c : ¬ 96 ≤ p1) : f_X7_readMessage_1 x p1 M = (-1, mm_w M x 11 (M.1 x 11 + 1)) := by
  unfold f_X7_readMessage_1
  rw [if_neg c]
theorem r1B2_1 (x p1 : Nat) (M : mm_M) (v : Int32) (h : ¬ v = -1) : f_X7_readMessage_1_B2 x p1 M v = f_X7_readMessage_1_B1 x (f_X10_decryptAndHash (x + 5) 1 80 (p1 - 80) 2 0 (f_X10_mixKey (x + 5) 15 (f_X4_multiply (x + 2) (x + 3) M))).2 (f_X10_decryptAndHash (x + 5) 1 80 (p1 - 80) 2 0 (f_X10_mixKey (x + 5) 15 (f_X4_multiply (x + 2) (x + 3) M))).1 := by
  unfold f_X7_readMessage_1_B2
  rw [if_pos h]
theorem r1B2_0 (x p1 : Nat) (M : mm_M) (v : Int32) (h : v = -1) : f_X7_readMessage_1_B2 x p1 M v = f_X7_refuse x M := by
  unfold f_X7_readMessage_1_B2
  rw [if_neg (fun q => q h)]
theorem r1B_1 (x : Nat) (M : mm_M) (v : Int32) (h : ¬ v = -1) : f_X7_readMessage_1_B1 x M v = (v, mm_w M x 10 2) := by
  unfold f_X7_readMessage_1_B1
  rw [if_pos h]
theorem r1B_0 (x : Nat) (M : mm_M) (v : Int32) (h : v = -1) : f_X7_readMessage_1_B1 x M v = f_X7_refuse x M := by
  unfold f_X7_readMessage_1_B1
  rw [if_neg (fun q => q h)]
theorem r2_hi (x p1 : Nat) (M : mm_M) (c : 64 ≤ p1) : f_X7_readMessage_2 x p1 M = f_X7_readMessage_2_B2 x p1 (f_X10_decryptAndHash (x + 5) 1 0 48 (x + 3) 0 (f_X10_copyFrom 43 (x + 5) M)).2 (f_X10_decryptAndHash (x + 5) 1 0 48 (x + 3) 0 (f_X10_copyFrom 43 (x + 5) M)).1 := by
  unfold f_X7_readMessage_2
  rw [if_pos c]
theorem r2_lo (x p1 : Nat) (M : mm_M) (c : ¬ 64 ≤ p1) : f_X7_readMessage_2 x p1 M = (-1, mm_w M x 11 (M.1 x 11 + 1)) := by
  unfold f_X7_readMessage_2
  rw [if_neg c]
theorem r2B2_1 (x p1 : Nat) (M : mm_M) (v : Int32) (h : ¬ v = -1) : f_X7_readMessage_2_B2 x p1 M v = f_X7_readMessage_2_B1 x (f_X10_decryptAndHash (x + 5) 1 48 (p1 - 48) 2 0 (f_X10_mixKey (x + 5) 15 (f_X4_multiply (x + 2) (x + 3) M))).2 (f_X10_decryptAndHash (x + 5) 1 48 (p1 - 48) 2 0 (f_X10_mixKey (x + 5) 15 (f_X4_multiply (x + 2) (x + 3) M))).1 := by
  unfold f_X7_readMessage_2_B2
  rw [if_pos h]
theorem r2B2_0 (x p1 : Nat) (M : mm_M) (v : Int32) (h : v = -1) : f_X7_readMessage_2_B2 x p1 M v = f_X7_refuse x M := by
  unfold f_X7_readMessage_2_B2
  rw [if_neg (fun q => q h)]
theorem r2B_1 (x : Nat) (M : mm_M) (v : Int32) (h : ¬ v = -1) : f_X7_readMessage_2_B1 x M v = (v, f_X10_split (x + 5) (x + 14) (x + 11) (mm_w M x 10 3)) := by
  unfold f_X7_readMessage_2_B1
  rw [if_pos h]
theorem r2B_0 (x : Nat) (M : mm_M) (v : Int32) (h : v = -1) : f_X7_readMessage_2_B1 x M v = f_X7_refuse x M := by
  unfold f_X7_readMessage_2_B1
  rw [if_neg (fun q => q h)]
section ER
variable {x p1 : Nat} {M : mm_M} {ini rf : Int32} {S : sy} {os oe xs xe ks kr : Nat → Int32} {ns nr : Int64}
/-- what a refusal leaves -/
theorem e_refd {st : Nat} {N : mm_M} (h : e_ses M x st ini rf S os oe xs xe ks kr ns nr) (hs : ¬ knS st ini) (hst : st < 3) (hN : e_sy N (x + 5) S) (hx : ∀ j, N.1 x j = if j = 11 then M.1 x 11 + 1 else M.1 x j) (w : ∀ k, x ≤ k → k ≤ x + 16 → k ≠ x → (k < x + 3 ∨ x + 9 < k) → N.1 k = M.1 k ∧ N.2 k = M.2 k) (he : knE st ini → N.1 (x + 4) = M.1 (x + 4)) : e_ses N x st ini (rf + 1) S os oe xs xe ks kr ns nr := by
  obtain ⟨a1, a2, a3, a4, a5, a6, a7, a8, a9, a10, a11⟩ := h
  refine ⟨?_, ?_, ?_, hN, ?_, ?_, fun q => absurd q hs, ?_, fun q => absurd q (by omega), ?_, ?_⟩
  · rw [hx, if_neg (by decide)]; exact a1
  · rw [hx, if_neg (by decide)]; exact a2
  · rw [hx, if_pos rfl, a3]
  · rw [(w (x + 1) (by omega) (by omega) (by omega) (by omega)).1]; exact a5
  · rw [(w (x + 2) (by omega) (by omega) (by omega) (by omega)).1]; exact a6
  · intro q; rw [he q]; exact a8 q
  · rw [(w (x + 11) (by omega) (by omega) (by omega) (by omega)).2]; exact a10
  · rw [(w (x + 14) (by omega) (by omega) (by omega) (by omega)).2]; exact a11
theorem e_low {st : Nat} (h : e_ses M x st ini rf S os oe xs xe ks kr ns nr) (hs : ¬ knS st ini) (hst : st < 3) : e_ses (mm_w M x 11 (M.1 x 11 + 1)) x st ini (rf + 1) S os oe xs xe ks kr ns nr := by
  have wv : mm_fr [x] M (mm_w M x 11 (M.1 x 11 + 1)) := mm_fr_w (by simp) (mm_fr_refl _ _)
  refine e_refd h hs hst (h.2.2.2.1.fr wv (by simp <;> omega) (by simp <;> omega) (by simp <;> omega) (by simp <;> omega)) (fun j => ?_) (fun k _ _ hk _ => wv k (by simp <;> omega)) (fun _ => (wv (x + 4) (by simp <;> omega)).1)
  rw [rd_w]
  by_cases c : j = 11
  · rw [if_pos ⟨rfl, c⟩, if_pos c]
  · rw [if_neg (fun q => c q.2), if_neg c]
/-- the first steps of a reading -/
theorem e_r1st (hx : 49 ≤ x) (hx2 : x + 16 < 117) (hV : eV M) (h : e_sy M (x + 5) S) (M7 : mm_M) (hM7 : M7 = f_X10_mixHash (x + 5) 1 0 32 (mm_cp (f_X10_copyFrom 43 (x + 5) M) 1 0 (x + 4) 0 32)) : e_sy M7 43 S ∧ e_sy M7 (x + 5) (wS1 S (M.1 1)) ∧ (∀ j, j < 32 → M7.1 (x + 4) j = M.1 1 j) ∧ mm_fr [44, 45, 47, 46, x + 4, 24, 23, 26, 25, x + 6] M M7 := by
  have g4 := e_copyS 43 (x + 5) (by omega) M S h
  have w4 := w_f_X10_copyFrom 43 (x + 5) M
  generalize f_X10_copyFrom 43 (x + 5) M = M4 at *
  have w6 : mm_fr [x + 4] M4 (mm_cp M4 1 0 (x + 4) 0 32) := mm_fr_cp (by simp) (mm_fr_refl _ _)
  have r6 : ∀ j, j < 32 → (mm_cp M4 1 0 (x + 4) 0 32).1 (x + 4) j = M4.1 1 j := fun j hj => by
    have := rd_cpS M4 1 0 (x + 4) 0 32 hj
    simp only [Nat.zero_add] at this
    exact this
  generalize mm_cp M4 1 0 (x + 4) 0 32 = M6 at *
  have e1 : M6.1 1 = M.1 1 := by rw [(w6 1 (by simp <;> omega)).1, (w4 1 (by decide)).1]
  have hV6 := (hV.fr w4 (by simp)).fr w6 (by simp <;> omega)
  have m := e_mixHash (x + 5) 1 0 32 (by omega) (by decide) (by decide) M6 S hV6.1 ((h.fr w4 (by simp <;> omega) (by simp <;> omega) (by simp <;> omega) (by simp <;> omega)).fr w6 (by simp <;> omega) (by simp <;> omega) (by simp <;> omega) (by simp <;> omega))
  have w7 := w_f_X10_mixHash (x + 5) 1 0 32 M6
  rw [← hM7] at m w7
  simp only [Nat.zero_add, e1] at m
  refine ⟨(g4.fr w6 (by simp <;> omega) (by simp <;> omega) (by simp <;> omega) (by simp <;> omega)).fr w7 (by simp <;> omega) (by simp <;> omega) (by simp <;> omega) (by simp <;> omega), m, fun j hj => ?_, ?_⟩
  · rw [(w7 (x + 4) (by simp <;> omega)).1, r6 j hj, (w4 1 (by decide)).1]
  · exact w7.on (by simp <;> omega) (w6.on (by simp) (w4.on (by simp) (mm_fr_refl _ _)))
theorem e_r0 (hx : 49 ≤ x) (hx2 : x + 16 < 117) (hp : p1 ≤ 1000) (hi : ini = 0) (hV : eV M) (h : e_ses M x 0 ini rf S os oe xs xe ks kr ns nr) : (rOK0 S (M.1 1) p1 → (f_X7_readMessage_0 x p1 M).1 = nI (syL (wS1 S (M.1 1)) (p1 - 32)) ∧ (∀ i, i < syL (wS1 S (M.1 1)) (p1 - 32) → (f_X7_readMessage_0 x p1 M).2.1 2 i = syP (wS1 S (M.1 1)) (sh 32 (M.1 1)) i) ∧ e_ses (f_X7_readMessage_0 x p1 M).2 x 1 ini rf (syD (wS1 S (M.1 1)) (sh 32 (M.1 1)) (p1 - 32)) os oe xs (M.1 1) ks kr ns nr) ∧ (¬ rOK0 S (M.1 1) p1 → (f_X7_readMessage_0 x p1 M).1 = -1 ∧ (f_X7_readMessage_0 x p1 M).2.1 2 = M.1 2 ∧ e_ses (f_X7_readMessage_0 x p1 M).2 x 0 ini (rf + 1) S os oe xs xe ks kr ns nr) := by
  have hs : ¬ knS 0 ini := fun q => by rw [knS_0 hi] at q; omega
  have he : ¬ knE 0 ini := fun q => by rw [knE_0 hi] at q; omega
  have h' := h
  obtain ⟨a1, a2, a3, a4, a5, a6, a7, a8, a9, a10, a11⟩ := h
  by_cases c : 32 ≤ p1
  · have w := (w_f_X7_readMessage_0 x p1 M).m
    rw [r0_hi x p1 M c] at w ⊢
    obtain ⟨M7, hM7⟩ : ∃ M7, M7 = f_X10_mixHash (x + 5) 1 0 32 (mm_cp (f_X10_copyFrom 43 (x + 5) M) 1 0 (x + 4) 0 32) := ⟨_, rfl⟩
    rw [← hM7] at w ⊢
    obtain ⟨b1, b2, b3, b4⟩ := e_r1st hx hx2 hV a4 M7 hM7
    have hV7 := hV.fr b4 (by simp <;> omega)
    obtain ⟨g1, g2⟩ := e_decH (x + 5) 32 (p1 - 32) 2 (by omega) (by omega) (Or.inl rfl) (by omega) M7 _ hV7.1 b2
    have w8 := (w_f_X10_decryptAndHash (x + 5) 1 32 (p1 - 32) 2 0 M7).m
    rw [(b4 1 (by simp <;> omega)).1] at g1 g2
    generalize f_X10_decryptAndHash (x + 5) 1 32 (p1 - 32) 2 0 M7 = X at *
    obtain ⟨v, N⟩ := X
    dsimp only at *
    have ex : N.1 x = M.1 x := by rw [(w8 x (by simp <;> omega)).1, (b4 x (by simp <;> omega)).1]
    by_cases g : syG (wS1 S (M.1 1)) (sh 32 (M.1 1)) (p1 - 32)
    · refine ⟨fun _ => ?_, fun q => absurd ⟨c, g⟩ q⟩
      obtain ⟨v1, v2, v3⟩ := g1 g
      have hv : ¬ v = -1 := by rw [v1]; exact nI_neg1 _ (by have := syL_le (wS1 S (M.1 1)) (p1 - 32); omega)
      rw [r0B_1 x N v hv] at w ⊢
      dsimp only at *
      have wv : mm_fr [x] N (mm_w N x 10 1) := mm_fr_w (by simp) (mm_fr_refl _ _)
      refine ⟨v1, ?_, ?_, ?_, ?_, ?_, ?_, ?_, fun q => by rw [knS_0 hi] at q; omega, ?_, fun q => by omega, ?_, ?_⟩
      · intro i hi'
        rw [(wv 2 (by simp <;> omega)).1, v3 i, if_pos hi']; rfl
      · rw [rd_wN _ _ _ _ (Or.inr (by decide)), ex]; exact a1
      · rw [rd_wS]; rfl
      · rw [rd_wN _ _ _ _ (Or.inr (by decide)), ex]; exact a3
      · exact v2.fr wv (by simp <;> omega) (by simp <;> omega) (by simp <;> omega) (by simp <;> omega)
      · rw [(w (x + 1) (by simp <;> omega)).1]; exact a5
      · rw [(w (x + 2) (by simp <;> omega)).1]; exact a6
      · intro _; rw [(wv (x + 4) (by simp <;> omega)).1, (w8 (x + 4) (by simp <;> omega)).1]; exact b3
      · rw [(w (x + 11) (by simp <;> omega)).2]; exact a10
      · rw [(w (x + 14) (by simp <;> omega)).2]; exact a11
    · refine ⟨fun q => absurd q.2 g, fun _ => ?_⟩
      obtain ⟨v1, v2, v3⟩ := g2 g
      rw [r0B_0 x N v v1] at w ⊢
      obtain ⟨f1, f2, f3⟩ := e_ref x hx N S (b1.fr w8 (by simp <;> omega) (by simp <;> omega) (by simp <;> omega) (by simp <;> omega))
      have w9 := (w_f_X7_refuse x N).m
      generalize f_X7_refuse x N = Y at *
      refine ⟨f1, by rw [(w9 2 (by simp <;> omega)).1, v3, (b4 2 (by simp <;> omega)).1], ?_⟩
      exact e_refd h' hs (by decide) f2 (fun j => by rw [f3 j, ex]) (fun k q1 q2 q3 q4 => w k (by simp <;> omega)) (fun q => absurd q he)
  · rw [r0_lo x p1 M c]
    exact ⟨fun q => absurd q.1 c, fun _ => ⟨rfl, (mm_fr_w (L := [x]) (by simp) (mm_fr_refl _ _) 2 (by simp <;> omega)).1, e_low h' hs (by decide)⟩⟩
theorem e_r1 (hx : 49 ≤ x) (hx2 : x + 16 < 117) (hp : p1 ≤ 1000) (hi : ¬ ini = 0) (hV : eV M) (h : e_ses M x 1 ini rf S os oe xs xe ks kr ns nr) : (rOK1 S oe (M.1 1) p1 → (f_X7_readMessage_1 x p1 M).1 = nI (p1 - 96) ∧ (∀ i, i < p1 - 96 → (f_X7_readMessage_1 x p1 M).2.1 2 i = syP (rB (rA S oe (M.1 1)) oe (sh 32 (M.1 1))) (sh 80 (M.1 1)) i) ∧ e_ses (f_X7_readMessage_1 x p1 M).2 x 2 ini rf (syD (rB (rA S oe (M.1 1)) oe (sh 32 (M.1 1))) (sh 80 (M.1 1)) (p1 - 80)) os oe (syP (rA S oe (M.1 1)) (sh 32 (M.1 1))) (M.1 1) ks kr ns nr) ∧ (¬ rOK1 S oe (M.1 1) p1 → (f_X7_readMessage_1 x p1 M).1 = -1 ∧ (f_X7_readMessage_1 x p1 M).2.1 2 = M.1 2 ∧ e_ses (f_X7_readMessage_1 x p1 M).2 x 1 ini (rf + 1) S os oe xs xe ks kr ns nr) := by
  have hs : ¬ knS 1 ini := fun q => by rw [knS_1 hi] at q; omega
  have he : ¬ knE 1 ini := fun q => by rw [knE_1 hi] at q; omega
  have h' := h
  obtain ⟨a1, a2, a3, a4, a5, a6, a7, a8, a9, a10, a11⟩ := h
  by_cases c : 96 ≤ p1
  · have w := (w_f_X7_readMessage_1 x p1 M).m
    rw [r1_hi x p1 M c] at w ⊢
    obtain ⟨M7, hM7⟩ : ∃ M7, M7 = f_X10_mixHash (x + 5) 1 0 32 (mm_cp (f_X10_copyFrom 43 (x + 5) M) 1 0 (x + 4) 0 32) := ⟨_, rfl⟩
    rw [← hM7] at w ⊢
    obtain ⟨b1, b2, b3, b4⟩ := e_r1st hx hx2 hV a4 M7 hM7
    have hV7 := hV.fr b4 (by simp <;> omega)
    have c9 := e_curve (x + 2) (x + 4) (by omega) M7
    have w9 := w_f_X4_multiply (x + 2) (x + 4) M7
    generalize f_X4_multiply (x + 2) (x + 4) M7 = M9 at *
    have d10 := e_mixKey (x + 5) 15 (by omega) (by omega) (by decide) M9 _ (hV7.fr w9 (by simp)).1 (b2.fr w9 (by simp <;> omega) (by simp <;> omega) (by simp <;> omega) (by simp <;> omega))
    rw [syK_congr (b := cvB oe (M.1 1)) (fun j hj => by rw [c9 j hj]; exact congrFun (cvB_congr (fun j hj => by rw [(b4 (x + 2) (by simp <;> omega)).1]; exact a6 j hj) b3) j)] at d10
    have w10 := w_f_X10_mixKey (x + 5) 15 M9
    generalize f_X10_mixKey (x + 5) 15 M9 = M10 at *
    have f10 : mm_fr [44, 45, 47, 46, x + 4, 24, 23, 26, 25, x + 6, 14, 16, 17, 18, 19, 20, 22, 21, 15, 28, 29, 30, x + 7, x + 9, x + 8] M M10 := w10.on (by simp <;> omega) (w9.on (by simp) (b4.on (by simp <;> omega) (mm_fr_refl _ _)))
    have hV10 := hV.fr f10 (by simp <;> omega)
    have s43 : e_sy M10 43 S := (b1.fr w9 (by simp <;> omega) (by simp <;> omega) (by simp <;> omega) (by simp <;> omega)).fr w10 (by simp <;> omega) (by simp <;> omega) (by simp <;> omega) (by simp <;> omega)
    obtain ⟨D, hD⟩ : ∃ D, D = f_X10_decryptAndHash (x + 5) 1 32 48 (x + 3) 0 M10 := ⟨_, rfl⟩
    obtain ⟨E, hE⟩ : ∃ E, E = f_X10_mixKey (x + 5) 15 (f_X4_multiply (x + 2) (x + 3) D.2) := ⟨_, rfl⟩
    obtain ⟨k1, k2, k3, k4⟩ := e_rs x 32 hx hx2 M10 (rA S oe (M.1 1)) oe hV10 (by show ¬ (1 : Int32) = 0; decide) d10 (fun j hj => by rw [(f10 (x + 2) (by simp <;> omega)).1]; exact a6 j hj) D hD E hE
    rw [(f10 1 (by simp <;> omega)).1] at k1 k2
    rw [← hD] at w ⊢
    by_cases g : syG (rA S oe (M.1 1)) (sh 32 (M.1 1)) 48
    · obtain ⟨v1, v2, v3⟩ := k2 g
      rw [r1B2_1 x p1 D.2 D.1 v1, ← hE] at w ⊢
      have fE : mm_fr [34, 35, 33, 37, 40, 38, 39, 31, 41, x + 3, x + 8, 24, 23, 26, 25, x + 6, 14, 16, 17, 18, 19, 20, 22, 21, 15, 28, 29, 30, x + 7, x + 9] M10 E := k4.on (by simp <;> omega) (k3.on (by simp <;> omega) (mm_fr_refl _ _))
      have hVE := hV10.fr fE (by simp <;> omega)
      obtain ⟨g1, g2⟩ := e_decH (x + 5) 80 (p1 - 80) 2 (by omega) (by omega) (Or.inl rfl) (by omega) E _ hVE.1 v3
      have w8 := (w_f_X10_decryptAndHash (x + 5) 1 80 (p1 - 80) 2 0 E).m
      rw [(fE 1 (by simp <;> omega)).1, (f10 1 (by simp <;> omega)).1] at g1 g2
      generalize f_X10_decryptAndHash (x + 5) 1 80 (p1 - 80) 2 0 E = X at *
      obtain ⟨v, N⟩ := X
      dsimp only at *
      have ex : N.1 x = M.1 x := by rw [(w8 x (by simp <;> omega)).1, (fE x (by simp <;> omega)).1, (f10 x (by simp <;> omega)).1]
      have eL : syL (rB (rA S oe (M.1 1)) oe (sh 32 (M.1 1))) (p1 - 80) = p1 - 96 := by rw [syL_1 (by show ¬ (1 : Int32) = 0; decide)]; omega
      rw [eL] at g1
      by_cases g' : syG (rB (rA S oe (M.1 1)) oe (sh 32 (M.1 1))) (sh 80 (M.1 1)) (p1 - 80)
      · refine ⟨fun _ => ?_, fun q => absurd ⟨c, g, g'⟩ q⟩
        obtain ⟨u1, u2, u3⟩ := g1 g'
        have hv : ¬ v = -1 := by rw [u1]; exact nI_neg1 _ (by omega)
        rw [r1B_1 x N v hv] at w ⊢
        dsimp only at *
        have wv : mm_fr [x] N (mm_w N x 10 2) := mm_fr_w (by simp) (mm_fr_refl _ _)
        refine ⟨u1, ?_, ?_, ?_, ?_, ?_, ?_, ?_, ?_, ?_, fun q => by omega, ?_, ?_⟩
        · intro i hi'
          rw [(wv 2 (by simp <;> omega)).1, u3 i, if_pos hi']; rfl
        · rw [rd_wN _ _ _ _ (Or.inr (by decide)), ex]; exact a1
        · rw [rd_wS]; rfl
        · rw [rd_wN _ _ _ _ (Or.inr (by decide)), ex]; exact a3
        · exact u2.fr wv (by simp <;> omega) (by simp <;> omega) (by simp <;> omega) (by simp <;> omega)
        · rw [(w (x + 1) (by simp <;> omega)).1]; exact a5
        · rw [(w (x + 2) (by simp <;> omega)).1]; exact a6
        · intro _; rw [(wv (x + 3) (by simp <;> omega)).1, (w8 (x + 3) (by simp <;> omega)).1]; exact v2
        · intro _ j hj; rw [(wv (x + 4) (by simp <;> omega)).1, (w8 (x + 4) (by simp <;> omega)).1, (fE (x + 4) (by simp <;> omega)).1, (w10 (x + 4) (by simp <;> omega)).1, (w9 (x + 4) (by simp <;> omega)).1]; exact b3 j hj
        · rw [(w (x + 11) (by simp <;> omega)).2]; exact a10
        · rw [(w (x + 14) (by simp <;> omega)).2]; exact a11
      · refine ⟨fun q => absurd q.2.2 g', fun _ => ?_⟩
        obtain ⟨u1, u2, u3⟩ := g2 g'
        rw [r1B_0 x N v u1] at w ⊢
        obtain ⟨f1, f2, f3⟩ := e_ref x hx N S ((s43.fr fE (by simp <;> omega) (by simp <;> omega) (by simp <;> omega) (by simp <;> omega)).fr w8 (by simp <;> omega) (by simp <;> omega) (by simp <;> omega) (by simp <;> omega))
        have w11 := (w_f_X7_refuse x N).m
        generalize f_X7_refuse x N = Y at *
        refine ⟨f1, by rw [(w11 2 (by simp <;> omega)).1, u3, (fE 2 (by simp <;> omega)).1, (f10 2 (by simp <;> omega)).1], ?_⟩
        exact e_refd h' hs (by decide) f2 (fun j => by rw [f3 j, ex]) (fun k q1 q2 q3 q4 => w k (by simp <;> omega)) (fun q => absurd q he)
    · refine ⟨fun q => absurd q.2.1 g, fun _ => ?_⟩
      rw [r1B2_0 x p1 D.2 D.1 (k1 g)] at w ⊢
      obtain ⟨f1, f2, f3⟩ := e_ref x hx D.2 S (s43.fr k3 (by simp <;> omega) (by simp <;> omega) (by simp <;> omega) (by simp <;> omega))
      have w11 := (w_f_X7_refuse x D.2).m
      generalize f_X7_refuse x D.2 = Y at *
      have ex : D.2.1 x = M.1 x := by rw [(k3 x (by simp <;> omega)).1, (f10 x (by simp <;> omega)).1]
      refine ⟨f1, by rw [(w11 2 (by simp <;> omega)).1, (k3 2 (by simp <;> omega)).1, (f10 2 (by simp <;> omega)).1], ?_⟩
      exact e_refd h' hs (by decide) f2 (fun j => by rw [f3 j, ex]) (fun k q1 q2 q3 q4 => w k (by simp <;> omega)) (fun q => absurd q he)
  · rw [r1_lo x p1 M c]
    exact ⟨fun q => absurd q.1 c, fun _ => ⟨rfl, (mm_fr_w (L := [x]) (by simp) (mm_fr_refl _ _) 2 (by simp <;> omega)).1, e_low h' hs (by decide)⟩⟩
theorem e_r2 (hx : 49 ≤ x) (hx2 : x + 16 < 117) (hp : p1 ≤ 1000) (hi : ini = 0) (hd : ¬ S.2.2.2.1 = 0) (hV : eV M) (h : e_ses M x 2 ini rf S os oe xs xe ks kr ns nr) : (rOK2 S oe (M.1 1) p1 → (f_X7_readMessage_2 x p1 M).1 = nI (p1 - 64) ∧ (∀ i, i < p1 - 64 → (f_X7_readMessage_2 x p1 M).2.1 2 i = syP (rB S oe (sh 0 (M.1 1))) (sh 48 (M.1 1)) i) ∧ e_ses (f_X7_readMessage_2 x p1 M).2 x 3 ini rf (syD (rB S oe (sh 0 (M.1 1))) (sh 48 (M.1 1)) (p1 - 48)) os oe (syP S (sh 0 (M.1 1))) xe (spB (syD (rB S oe (sh 0 (M.1 1))) (sh 48 (M.1 1)) (p1 - 48))) (spA (syD (rB S oe (sh 0 (M.1 1))) (sh 48 (M.1 1)) (p1 - 48))) 0 0) ∧ (¬ rOK2 S oe (M.1 1) p1 → (f_X7_readMessage_2 x p1 M).1 = -1 ∧ (f_X7_readMessage_2 x p1 M).2.1 2 = M.1 2 ∧ e_ses (f_X7_readMessage_2 x p1 M).2 x 2 ini (rf + 1) S os oe xs xe ks kr ns nr) := by
  have hs : ¬ knS 2 ini := fun q => by rw [knS_0 hi] at q; omega
  have h' := h
  obtain ⟨a1, a2, a3, a4, a5, a6, a7, a8, a9, a10, a11⟩ := h
  have a8 := a8 ((knE_0 hi).mpr (by decide))
  by_cases c : 64 ≤ p1
  · have w := (w_f_X7_readMessage_2 x p1 M).m
    rw [r2_hi x p1 M c] at w ⊢
    have s43 := e_copyS 43 (x + 5) (by omega) M S a4
    have f10 := w_f_X10_copyFrom 43 (x + 5) M
    generalize f_X10_copyFrom 43 (x + 5) M = M10 at *
    have hV10 := hV.fr f10 (by simp)
    have d10 := a4.fr f10 (by simp <;> omega) (by simp <;> omega) (by simp <;> omega) (by simp <;> omega)
    obtain ⟨D, hD⟩ : ∃ D, D = f_X10_decryptAndHash (x + 5) 1 0 48 (x + 3) 0 M10 := ⟨_, rfl⟩
    obtain ⟨E, hE⟩ : ∃ E, E = f_X10_mixKey (x + 5) 15 (f_X4_multiply (x + 2) (x + 3) D.2) := ⟨_, rfl⟩
    obtain ⟨k1, k2, k3, k4⟩ := e_rs x 0 hx hx2 M10 S oe hV10 hd d10 (fun j hj => by rw [(f10 (x + 2) (by simp <;> omega)).1]; exact a6 j hj) D hD E hE
    rw [(f10 1 (by simp <;> omega)).1] at k1 k2
    rw [← hD] at w ⊢
    by_cases g : syG S (sh 0 (M.1 1)) 48
    · obtain ⟨v1, v2, v3⟩ := k2 g
      rw [r2B2_1 x p1 D.2 D.1 v1, ← hE] at w ⊢
      have fE : mm_fr [34, 35, 33, 37, 40, 38, 39, 31, 41, x + 3, x + 8, 24, 23, 26, 25, x + 6, 14, 16, 17, 18, 19, 20, 22, 21, 15, 28, 29, 30, x + 7, x + 9] M10 E := k4.on (by simp <;> omega) (k3.on (by simp <;> omega) (mm_fr_refl _ _))
      have hVE := hV10.fr fE (by simp <;> omega)
      obtain ⟨g1, g2⟩ := e_decH (x + 5) 48 (p1 - 48) 2 (by omega) (by omega) (Or.inl rfl) (by omega) E _ hVE.1 v3
      have w8 := (w_f_X10_decryptAndHash (x + 5) 1 48 (p1 - 48) 2 0 E).m
      rw [(fE 1 (by simp <;> omega)).1, (f10 1 (by simp <;> omega)).1] at g1 g2
      generalize f_X10_decryptAndHash (x + 5) 1 48 (p1 - 48) 2 0 E = X at *
      obtain ⟨v, N⟩ := X
      dsimp only at *
      have ex : N.1 x = M.1 x := by rw [(w8 x (by simp <;> omega)).1, (fE x (by simp <;> omega)).1, (f10 x (by simp <;> omega)).1]
      have eL : syL (rB S oe (sh 0 (M.1 1))) (p1 - 48) = p1 - 64 := by rw [syL_1 (by show ¬ (1 : Int32) = 0; decide)]; omega
      rw [eL] at g1
      have hVN := hVE.fr w8 (by simp <;> omega)
      by_cases g' : syG (rB S oe (sh 0 (M.1 1))) (sh 48 (M.1 1)) (p1 - 48)
      · refine ⟨fun _ => ?_, fun q => absurd ⟨c, g, g'⟩ q⟩
        obtain ⟨u1, u2, u3⟩ := g1 g'
        have hv : ¬ v = -1 := by rw [u1]; exact nI_neg1 _ (by omega)
        rw [r2B_1 x N v hv] at w ⊢
        dsimp only at *
        have wv : mm_fr [x] N (mm_w N x 10 3) := mm_fr_w (by simp) (mm_fr_refl _ _)
        have e9 : (mm_w N x 10 3).1 x 9 = ini := by rw [rd_wN _ _ _ _ (Or.inr (by decide)), ex]; exact a1
        have e10 : (mm_w N x 10 3).1 x 10 = nI 3 := by rw [rd_wS]; rfl
        have e11 : (mm_w N x 10 3).1 x 11 = rf := by rw [rd_wN _ _ _ _ (Or.inr (by decide)), ex]; exact a3
        have s5 := u2.fr wv (by simp <;> omega) (by simp <;> omega) (by simp <;> omega) (by simp <;> omega)
        have o2 : ∀ i, i < p1 - 64 → (mm_w N x 10 3).1 2 i = syP (rB S oe (sh 0 (M.1 1))) (sh 48 (M.1 1)) i := fun i hi' => by
          rw [(wv 2 (by simp <;> omega)).1, u3 i, if_pos hi']; rfl
        have o3 : ∀ j, j < 32 → (mm_w N x 10 3).1 (x + 3) j = syP S (sh 0 (M.1 1)) j := fun j hj => by
          rw [(wv (x + 3) (by simp <;> omega)).1, (w8 (x + 3) (by simp <;> omega)).1]; exact v2 j hj
        have hV2 := hVN.fr wv (by simp <;> omega)
        generalize mm_w N x 10 3 = N2 at *
        obtain ⟨t1, t2, t3, t4, t5, t6⟩ := e_split (x + 5) (x + 14) (x + 11) (by omega) (by omega) (by omega) (by omega) N2 _ hV2.1 s5
        have w3 := w_f_X10_split (x + 5) (x + 14) (x + 11) N2
        generalize f_X10_split (x + 5) (x + 14) (x + 11) N2 = N3 at *
        refine ⟨u1, ?_, ?_, ?_, ?_, ?_, ?_, ?_, ?_, ?_, ?_, ?_, ?_⟩
        · rw [(w3 2 (by simp <;> omega)).1]; exact o2
        · rw [(w3 x (by simp <;> omega)).1]; exact e9
        · rw [(w3 x (by simp <;> omega)).1]; exact e10
        · rw [(w3 x (by simp <;> omega)).1]; exact e11
        · exact s5.fr w3 (by simp <;> omega) (by simp <;> omega) (by simp <;> omega) (by simp <;> omega)
        · rw [(w (x + 1) (by simp <;> omega)).1]; exact a5
        · rw [(w (x + 2) (by simp <;> omega)).1]; exact a6
        · intro _; rw [(w3 (x + 3) (by simp <;> omega)).1]; exact o3
        · intro _; rw [(w (x + 4) (by simp <;> omega)).1]; exact a8
        · intro _; exact ⟨t4, t3, t2, t1⟩
        · exact t6
        · exact t5
      · refine ⟨fun q => absurd q.2.2 g', fun _ => ?_⟩
        obtain ⟨u1, u2, u3⟩ := g2 g'
        rw [r2B_0 x N v u1] at w ⊢
        obtain ⟨f1, f2, f3⟩ := e_ref x hx N S ((s43.fr fE (by simp <;> omega) (by simp <;> omega) (by simp <;> omega) (by simp <;> omega)).fr w8 (by simp <;> omega) (by simp <;> omega) (by simp <;> omega) (by simp <;> omega))
        have w11 := (w_f_X7_refuse x N).m
        have e4 : (f_X7_refuse x N).2.1 (x + 4) = M.1 (x + 4) := by rw [(w11 (x + 4) (by simp <;> omega)).1, (w8 (x + 4) (by simp <;> omega)).1, (fE (x + 4) (by simp <;> omega)).1, (f10 (x + 4) (by simp <;> omega)).1]
        have e0 : ∀ k, x ≤ k → k ≤ x + 16 → k ≠ x → (k < x + 3 ∨ x + 9 < k) → (f_X7_refuse x N).2.1 k = M.1 k ∧ (f_X7_refuse x N).2.2 k = M.2 k := fun k q1 q2 q3 q4 => by
          rw [(w11 k (by simp <;> omega)).1, (w8 k (by simp <;> omega)).1, (fE k (by simp <;> omega)).1, (f10 k (by simp <;> omega)).1, (w11 k (by simp <;> omega)).2, (w8 k (by simp <;> omega)).2, (fE k (by simp <;> omega)).2, (f10 k (by simp <;> omega)).2]
          exact ⟨rfl, rfl⟩
        generalize f_X7_refuse x N = Y at *
        refine ⟨f1, by rw [(w11 2 (by simp <;> omega)).1, u3, (fE 2 (by simp <;> omega)).1, (f10 2 (by simp <;> omega)).1], ?_⟩
        exact e_refd h' hs (by decide) f2 (fun j => by rw [f3 j, ex]) e0 (fun _ => e4)
    · refine ⟨fun q => absurd q.2.1 g, fun _ => ?_⟩
      rw [r2B2_0 x p1 D.2 D.1 (k1 g)] at w ⊢
      obtain ⟨f1, f2, f3⟩ := e_ref x hx D.2 S (s43.fr k3 (by simp <;> omega) (by simp <;> omega) (by simp <;> omega) (by simp <;> omega))
      have w11 := (w_f_X7_refuse x D.2).m
      have e4 : (f_X7_refuse x D.2).2.1 (x + 4) = M.1 (x + 4) := by rw [(w11 (x + 4) (by simp <;> omega)).1, (k3 (x + 4) (by simp <;> omega)).1, (f10 (x + 4) (by simp <;> omega)).1]
      have e0 : ∀ k, x ≤ k → k ≤ x + 16 → k ≠ x → (k < x + 3 ∨ x + 9 < k) → (f_X7_refuse x D.2).2.1 k = M.1 k ∧ (f_X7_refuse x D.2).2.2 k = M.2 k := fun k q1 q2 q3 q4 => by
        rw [(w11 k (by simp <;> omega)).1, (k3 k (by simp <;> omega)).1, (f10 k (by simp <;> omega)).1, (w11 k (by simp <;> omega)).2, (k3 k (by simp <;> omega)).2, (f10 k (by simp <;> omega)).2]
        exact ⟨rfl, rfl⟩
      generalize f_X7_refuse x D.2 = Y at *
      have ex : D.2.1 x = M.1 x := by rw [(k3 x (by simp <;> omega)).1, (f10 x (by simp <;> omega)).1]
      refine ⟨f1, by rw [(w11 2 (by simp <;> omega)).1, (k3 2 (by simp <;> omega)).1, (f10 2 (by simp <;> omega)).1], ?_⟩
      exact e_refd h' hs (by decide) f2 (fun j => by rw [f3 j, ex]) e0 (fun _ => e4)
  · rw [r2_lo x p1 M c]
    exact ⟨fun q => absurd q.1 c, fun _ => ⟨rfl, (mm_fr_w (L := [x]) (by simp) (mm_fr_refl _ _) 2 (by simp <;> omega)).1, e_low h' hs (by decide)⟩⟩
end ER
