/-! the engine's session: its state, and what a message does to it -/
def knE (st : Nat) (ini : Int32) : Prop := if ini = 0 then 1 ≤ st else 2 ≤ st
def knS (st : Nat) (ini : Int32) : Prop := if ini = 0 then 3 ≤ st else 2 ≤ st
theorem knE_0 {st : Nat} {ini : Int32} (h : ini = 0) : knE st ini ↔ 1 ≤ st := by unfold knE; rw [if_pos h]
theorem knE_1 {st : Nat} {ini : Int32} (h : ¬ ini = 0) : knE st ini ↔ 2 ≤ st := by unfold knE; rw [if_neg h]
theorem knS_0 {st : Nat} {ini : Int32} (h : ini = 0) : knS st ini ↔ 3 ≤ st := by unfold knS; rw [if_pos h]
theorem knS_1 {st : Nat} {ini : Int32} (h : ¬ ini = 0) : knS st ini ↔ 2 ≤ st := by unfold knS; rw [if_neg h]
def e_ses (M : mm_M) (x st : Nat) (ini rf : Int32) (S : sy) (os oe xs xe ks kr : Nat → Int32) (ns nr : Int64) : Prop :=
  M.1 x 9 = ini ∧ M.1 x 10 = nI st ∧ M.1 x 11 = rf ∧ e_sy M (x + 5) S ∧ (∀ j, j < 32 → M.1 (x + 1) j = os j) ∧ (∀ j, j < 32 → M.1 (x + 2) j = oe j) ∧ (knS st ini → ∀ j, j < 32 → M.1 (x + 3) j = xs j) ∧ (knE st ini → ∀ j, j < 32 → M.1 (x + 4) j = xe j) ∧ (st = 3 → M.1 (x + 11) 3 = 1 ∧ M.1 (x + 14) 3 = 1 ∧ (∀ j, j < 32 → M.1 (x + 12) j = ks j) ∧ (∀ j, j < 32 → M.1 (x + 15) j = kr j)) ∧ M.2 (x + 11) 4 = ns ∧ M.2 (x + 14) 4 = nr
theorem e_ses.keep {M N : mm_M} {x st : Nat} {ini rf : Int32} {S : sy} {os oe xs xe ks kr : Nat → Int32} {ns nr : Int64} (h : e_ses M x st ini rf S os oe xs xe ks kr ns nr) (w : ∀ k, x ≤ k → k ≤ x + 16 → N.1 k = M.1 k ∧ N.2 k = M.2 k) : e_ses N x st ini rf S os oe xs xe ks kr ns nr := by
  obtain ⟨a1, a2, a3, ⟨b1, b2, b3, b4, b5⟩, a5, a6, a7, a8, a9, a10, a11⟩ := h
  refine ⟨?_, ?_, ?_, ⟨?_, ?_, ?_, ?_, ?_⟩, ?_, ?_, ?_, ?_, ?_, ?_, ?_⟩
  · rw [(w x (by omega) (by omega)).1]; exact a1
  · rw [(w x (by omega) (by omega)).1]; exact a2
  · rw [(w x (by omega) (by omega)).1]; exact a3
  · rw [(w (x + 5 + 1) (by omega) (by omega)).1]; exact b1
  · rw [(w (x + 5 + 2) (by omega) (by omega)).1]; exact b2
  · rw [(w (x + 5 + 4) (by omega) (by omega)).1]; exact b3
  · rw [(w (x + 5 + 3) (by omega) (by omega)).1]; exact b4
  · rw [(w (x + 5 + 3) (by omega) (by omega)).2]; exact b5
  · rw [(w (x + 1) (by omega) (by omega)).1]; exact a5
  · rw [(w (x + 2) (by omega) (by omega)).1]; exact a6
  · rw [(w (x + 3) (by omega) (by omega)).1]; exact a7
  · rw [(w (x + 4) (by omega) (by omega)).1]; exact a8
  · rw [(w (x + 11) (by omega) (by omega)).1, (w (x + 14) (by omega) (by omega)).1, (w (x + 12) (by omega) (by omega)).1, (w (x + 15) (by omega) (by omega)).1]; exact a9
  · rw [(w (x + 11) (by omega) (by omega)).2]; exact a10
  · rw [(w (x + 14) (by omega) (by omega)).2]; exact a11
/-- the three messages: what is put down, and the state behind it -/
def wN0 (S : sy) (oe : Nat → Int32) (p : Nat) : Nat := 32 + syN (wS1 S (cvB oe nine)) p
def wO0 (S : sy) (oe pl : Nat → Int32) (p : Nat) : Nat → Int32 := cat (cvB oe nine) 32 (syO (wS1 S (cvB oe nine)) pl p)
def wT0 (S : sy) (oe pl : Nat → Int32) (p : Nat) : sy := syE (wS1 S (cvB oe nine)) pl p
def wR1 (S : sy) (oe xe : Nat → Int32) : sy := wS2 S (cvB oe nine) (cvB oe xe)
def wR2 (S : sy) (os xe : Nat → Int32) : sy := wS4 S (cvB os nine) (cvB os xe)
def wO2 (S : sy) (os xe pl : Nat → Int32) (p : Nat) : Nat → Int32 := cat (syO S (cvB os nine) 32) 48 (syO (wR2 S os xe) pl p)
def wT2 (S : sy) (os xe pl : Nat → Int32) (p : Nat) : sy := syE (wR2 S os xe) pl p
def wO1 (S : sy) (os oe xe pl : Nat → Int32) (p : Nat) : Nat → Int32 := cat (cvB oe nine) 32 (wO2 (wR1 S oe xe) os xe pl p)
def wT1 (S : sy) (os oe xe pl : Nat → Int32) (p : Nat) : sy := wT2 (wR1 S oe xe) os xe pl p
theorem mixKey_kd (y k : Nat) (M : mm_M) : (f_X10_mixKey y k M).1 (y + 3) 3 = 1 := by
  unfold f_X10_mixKey f_X3_useNewKey
  try dsimp only
  rw [rd_wl1, rd_wS]
section ES
variable {x p1 : Nat} {M : mm_M} {ini rf : Int32} {S : sy} {os oe xs xe ks kr : Nat → Int32} {ns nr : Int64}
theorem e_w0 (hx : 49 ≤ x) (hx2 : x + 16 < 117) (hp : p1 ≤ 900) (hi : ¬ ini = 0) (hV : eV M) (h : e_ses M x 0 ini rf S os oe xs xe ks kr ns nr) : (f_X7_writeMessage_0 x p1 M).1 = nI (wN0 S oe p1) ∧ (∀ i, i < wN0 S oe p1 → (f_X7_writeMessage_0 x p1 M).2.1 2 i = wO0 S oe (M.1 1) p1 i) ∧ e_ses (f_X7_writeMessage_0 x p1 M).2 x 1 ini rf (wT0 S oe (M.1 1) p1) os oe xs xe ks kr ns nr := by
  obtain ⟨a1, a2, a3, a4, a5, a6, a7, a8, a9, a10, a11⟩ := h
  have c : cvB (M.1 (x + 2)) nine = cvB oe nine := cvB_congr a6 (fun _ _ => rfl)
  obtain ⟨g1, g2, g3, g4⟩ := e_write0 x p1 hx hx2 (by omega) M S hV a4
  rw [c] at g1 g2 g3
  have w := (w_f_X7_writeMessage_0 x p1 M).m
  generalize f_X7_writeMessage_0 x p1 M = X at *
  obtain ⟨v, N⟩ := X
  dsimp only at *
  refine ⟨g1, g3, ?_, ?_, ?_, g2, ?_, ?_, ?_, ?_, ?_, ?_, ?_⟩
  · rw [g4, if_neg (by decide)]; exact a1
  · rw [g4, if_pos rfl]; rfl
  · rw [g4, if_neg (by decide)]; exact a3
  · rw [(w (x + 1) (by simp <;> omega)).1]; exact a5
  · rw [(w (x + 2) (by simp <;> omega)).1]; exact a6
  · intro q; rw [knS_1 hi] at q; omega
  · intro q; rw [knE_1 hi] at q; omega
  · intro q; omega
  · rw [(w (x + 11) (by simp <;> omega)).2]; exact a10
  · rw [(w (x + 14) (by simp <;> omega)).2]; exact a11
theorem e_w1 (hx : 49 ≤ x) (hx2 : x + 16 < 117) (hp : p1 ≤ 900) (hi : ini = 0) (hV : eV M) (h : e_ses M x 1 ini rf S os oe xs xe ks kr ns nr) : (f_X7_writeMessage_1 x p1 M).1 = nI (32 + (48 + (p1 + 16))) ∧ (∀ i, i < 32 + (48 + (p1 + 16)) → (f_X7_writeMessage_1 x p1 M).2.1 2 i = wO1 S os oe xe (M.1 1) p1 i) ∧ e_ses (f_X7_writeMessage_1 x p1 M).2 x 2 ini rf (wT1 S os oe xe (M.1 1) p1) os oe xs xe ks kr ns nr := by
  obtain ⟨a1, a2, a3, a4, a5, a6, a7, a8, a9, a10, a11⟩ := h
  have a8 := a8 ((knE_0 hi).mpr (Nat.le_refl 1))
  obtain ⟨b1, b2, b3⟩ := e_e x hx hx2 M S hV a4
  rw [show cvB (M.1 (x + 2)) nine = cvB oe nine from cvB_congr a6 (fun _ _ => rfl)] at b1 b2
  obtain ⟨M4, hM4⟩ : ∃ M4, M4 = f_X10_mixHash (x + 5) 2 0 32 (mm_cp (f_X4_publicKey (x + 2) M) 15 0 2 0 32) := ⟨_, rfl⟩
  rw [← hM4] at b1 b2 b3
  have hV4 := hV.fr b3 (by simp <;> omega)
  have c3 := e_curve (x + 2) (x + 4) (by omega) M4
  rw [(b3 (x + 2) (by simp <;> omega)).1, (b3 (x + 4) (by simp <;> omega)).1, show cvB (M.1 (x + 2)) (M.1 (x + 4)) = cvB oe xe from cvB_congr a6 a8] at c3
  have w6 := w_f_X4_multiply (x + 2) (x + 4) M4
  obtain ⟨M6, hM6⟩ : ∃ M6, M6 = f_X4_multiply (x + 2) (x + 4) M4 := ⟨_, rfl⟩
  rw [← hM6] at c3 w6
  have hV6 := hV4.fr w6 (by simp)
  have d7 := e_mixKey (x + 5) 15 (by omega) (by omega) (by decide) M6 _ hV6.1 (b1.fr w6 (by simp <;> omega) (by simp <;> omega) (by simp <;> omega) (by simp <;> omega))
  rw [syK_congr c3] at d7
  have w7 := w_f_X10_mixKey (x + 5) 15 M6
  have k7 := mixKey_kd (x + 5) 15 M6
  obtain ⟨M7, hM7⟩ : ∃ M7, M7 = f_X10_mixKey (x + 5) 15 M6 := ⟨_, rfl⟩
  rw [← hM7] at d7 w7 k7
  have hV7 := hV6.fr w7 (by simp <;> omega)
  have f47 : mm_fr [14, 16, 17, 18, 19, 20, 22, 21, 15, 2, 24, 23, 26, 25, x + 6, 28, 29, 30, x + 7, x + 9, x + 8] M M7 := w7.on (by simp <;> omega) (w6.on (by simp) (b3.on (by simp <;> omega) (mm_fr_refl _ _)))
  obtain ⟨N, hN⟩ : ∃ N, N = (f_X10_encryptAndHash (x + 5) 1 0 p1 2 (32 + 48) (f_X10_mixKey (x + 5) 15 (f_X4_multiply (x + 1) (x + 4) (f_X10_encryptAndHash (x + 5) 15 0 32 2 32 (f_X4_publicKey (x + 1) M7)).2))).2 := ⟨_, rfl⟩
  obtain ⟨s1, s2, s3, s4⟩ := e_s x p1 32 hx hx2 (by omega) M7 _ hV7 (by show ¬ (1 : Int32) = 0; decide) d7 N hN
  rw [(f47 (x + 1) (by simp <;> omega)).1, (f47 (x + 4) (by simp <;> omega)).1, (f47 1 (by simp <;> omega)).1, show cvB (M.1 (x + 1)) nine = cvB os nine from cvB_congr a5 (fun _ _ => rfl), show cvB (M.1 (x + 1)) (M.1 (x + 4)) = cvB os xe from cvB_congr a5 a8] at s1 s2
  have eq := w1_eq x p1 M M7 (f_X4_publicKey (x + 1) M7) (f_X10_mixKey (x + 5) 15 (f_X4_multiply (x + 1) (x + 4) (f_X10_encryptAndHash (x + 5) 15 0 32 2 32 (f_X4_publicKey (x + 1) M7)).2)) (by rw [hM7, hM6, hM4]) rfl (by rw [(w_f_X4_publicKey (x + 1) M7 (x + 5 + 3) (by simp <;> omega)).1, k7]; decide) rfl (by rw [mixKey_kd]; decide)
  rw [show (f_X10_encryptAndHash (x + 5) 1 0 p1 2 (32 + (32 + 16)) (f_X10_mixKey (x + 5) 15 (f_X4_multiply (x + 1) (x + 4) (f_X10_encryptAndHash (x + 5) 15 0 32 2 32 (f_X4_publicKey (x + 1) M7)).2))).2 = N from hN.symm] at eq
  have w := (w_f_X7_writeMessage_1 x p1 M).m
  rw [eq] at w ⊢
  dsimp only at *
  have wv : mm_fr [x] N (mm_w N x 10 2) := mm_fr_w (by simp) (mm_fr_refl _ _)
  have ex : N.1 x = M.1 x := by rw [(s4 x (by simp <;> omega)).1, (f47 x (by simp <;> omega)).1]
  refine ⟨congrArg nI (by omega), ?_, ?_, ?_, ?_, ?_, ?_, ?_, ?_, ?_, ?_, ?_, ?_⟩
  · intro i hi'
    rw [(wv 2 (by simp <;> omega)).1]
    unfold wO1
    by_cases c : i < 32
    · rw [cat_lo _ _ _ c, s3 i c, (w7 2 (by simp <;> omega)).1, (w6 2 (by decide)).1]; exact b2 i c
    · rw [cat_hi _ _ _ c]
      have := s2 (i - 32) (by omega)
      rw [show 32 + (i - 32) = i from by omega] at this
      exact this
  · rw [rd_wN _ _ _ _ (Or.inr (by decide)), ex]; exact a1
  · rw [rd_wS]; rfl
  · rw [rd_wN _ _ _ _ (Or.inr (by decide)), ex]; exact a3
  · exact s1.fr wv (by simp <;> omega) (by simp <;> omega) (by simp <;> omega) (by simp <;> omega)
  · rw [(w (x + 1) (by simp <;> omega)).1]; exact a5
  · rw [(w (x + 2) (by simp <;> omega)).1]; exact a6
  · intro q; rw [knS_0 hi] at q; omega
  · intro _; rw [(w (x + 4) (by simp <;> omega)).1]; exact a8
  · intro q; omega
  · rw [(w (x + 11) (by simp <;> omega)).2]; exact a10
  · rw [(w (x + 14) (by simp <;> omega)).2]; exact a11
theorem e_w2 (hx : 49 ≤ x) (hx2 : x + 16 < 117) (hp : p1 ≤ 900) (hi : ¬ ini = 0) (hd : ¬ S.2.2.2.1 = 0) (hV : eV M) (h : e_ses M x 2 ini rf S os oe xs xe ks kr ns nr) : (f_X7_writeMessage_2 x p1 M).1 = nI (48 + (p1 + 16)) ∧ (∀ i, i < 48 + (p1 + 16) → (f_X7_writeMessage_2 x p1 M).2.1 2 i = wO2 S os xe (M.1 1) p1 i) ∧ e_ses (f_X7_writeMessage_2 x p1 M).2 x 3 ini rf (wT2 S os xe (M.1 1) p1) os oe xs xe (spA (wT2 S os xe (M.1 1) p1)) (spB (wT2 S os xe (M.1 1) p1)) 0 0 := by
  obtain ⟨a1, a2, a3, a4, a5, a6, a7, a8, a9, a10, a11⟩ := h
  have a8 := a8 ((knE_1 hi).mpr (Nat.le_refl 2))
  have a7 := a7 ((knS_1 hi).mpr (Nat.le_refl 2))
  obtain ⟨N, hN⟩ : ∃ N, N = (f_X10_encryptAndHash (x + 5) 1 0 p1 2 (0 + 48) (f_X10_mixKey (x + 5) 15 (f_X4_multiply (x + 1) (x + 4) (f_X10_encryptAndHash (x + 5) 15 0 32 2 0 (f_X4_publicKey (x + 1) M)).2))).2 := ⟨_, rfl⟩
  obtain ⟨s1, s2, s3, s4⟩ := e_s x p1 0 hx hx2 (by omega) M _ hV hd a4 N hN
  rw [show cvB (M.1 (x + 1)) nine = cvB os nine from cvB_congr a5 (fun _ _ => rfl), show cvB (M.1 (x + 1)) (M.1 (x + 4)) = cvB os xe from cvB_congr a5 a8] at s1 s2
  have eq := w2_eq x p1 M (f_X4_publicKey (x + 1) M) (f_X10_mixKey (x + 5) 15 (f_X4_multiply (x + 1) (x + 4) (f_X10_encryptAndHash (x + 5) 15 0 32 2 0 (f_X4_publicKey (x + 1) M)).2)) rfl (by rw [(w_f_X4_publicKey (x + 1) M (x + 5 + 3) (by simp <;> omega)).1, a4.2.2.2.1]; exact hd) rfl (by rw [mixKey_kd]; decide)
  rw [show (f_X10_encryptAndHash (x + 5) 1 0 p1 2 (0 + (32 + 16)) (f_X10_mixKey (x + 5) 15 (f_X4_multiply (x + 1) (x + 4) (f_X10_encryptAndHash (x + 5) 15 0 32 2 0 (f_X4_publicKey (x + 1) M)).2))).2 = N from hN.symm] at eq
  have w := (w_f_X7_writeMessage_2 x p1 M).m
  rw [eq] at w ⊢
  dsimp only at *
  have wv : mm_fr [x] N (mm_w N x 10 3) := mm_fr_w (by simp) (mm_fr_refl _ _)
  have ex : N.1 x = M.1 x := (s4 x (by simp <;> omega)).1
  have e9 : (mm_w N x 10 3).1 x 9 = ini := by rw [rd_wN _ _ _ _ (Or.inr (by decide)), ex]; exact a1
  have e10 : (mm_w N x 10 3).1 x 10 = nI 3 := by rw [rd_wS]; rfl
  have e11 : (mm_w N x 10 3).1 x 11 = rf := by rw [rd_wN _ _ _ _ (Or.inr (by decide)), ex]; exact a3
  have hV2 := (hV.fr s4 (by simp <;> omega)).fr wv (by simp <;> omega)
  have s5 := s1.fr wv (by simp <;> omega) (by simp <;> omega) (by simp <;> omega) (by simp <;> omega)
  have o2 : ∀ i, i < 48 + (p1 + 16) → (mm_w N x 10 3).1 2 i = wO2 S os xe (M.1 1) p1 i := fun i hi' => by
    rw [(wv 2 (by simp <;> omega)).1]
    have := s2 i hi'
    rw [Nat.zero_add] at this
    exact this
  generalize mm_w N x 10 3 = N2 at *
  obtain ⟨t1, t2, t3, t4, t5, t6⟩ := e_split (x + 5) (x + 11) (x + 14) (by omega) (by omega) (by omega) (by omega) N2 _ hV2.1 s5
  have w3 := w_f_X10_split (x + 5) (x + 11) (x + 14) N2
  generalize f_X10_split (x + 5) (x + 11) (x + 14) N2 = N3 at *
  refine ⟨congrArg nI (by omega), ?_, ?_, ?_, ?_, ?_, ?_, ?_, ?_, ?_, ?_, ?_, ?_⟩
  · rw [(w3 2 (by simp <;> omega)).1]; exact o2
  · rw [(w3 x (by simp <;> omega)).1]; exact e9
  · rw [(w3 x (by simp <;> omega)).1]; exact e10
  · rw [(w3 x (by simp <;> omega)).1]; exact e11
  · exact s5.fr w3 (by simp <;> omega) (by simp <;> omega) (by simp <;> omega) (by simp <;> omega)
  · rw [(w (x + 1) (by simp <;> omega)).1]; exact a5
  · rw [(w (x + 2) (by simp <;> omega)).1]; exact a6
  · intro _; rw [(w (x + 3) (by simp <;> omega)).1]; exact a7
  · intro _; rw [(w (x + 4) (by simp <;> omega)).1]; exact a8
  · intro _; exact ⟨t3, t4, t1, t2⟩
  · exact t5
  · exact t6
end ES
