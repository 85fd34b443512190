/-! the engine's messages: writing -/
def cat (a : Nat → Int32) (n : Nat) (b : Nat → Int32) (i : Nat) : Int32 := if i < n then a i else b (i - n)
theorem cat_lo (a : Nat → Int32) (n : Nat) (b : Nat → Int32) {i : Nat} (h : i < n) : cat a n b i = a i := if_pos h
theorem cat_hi (a : Nat → Int32) (n : Nat) (b : Nat → Int32) {i : Nat} (h : ¬ i < n) : cat a n b i = b (i - n) := if_neg h
def nine : Nat → Int32 := mm_tab 173
/-- the tables of the engine -/
def eV (M : mm_M) : Prop := eU M ∧ ∀ j, j < 32 → M.1 173 j = nine j
theorem eV.fr {L : List Nat} {M N : mm_M} (h : eV M) (w : mm_fr L M N) (hl : ∀ a ∈ L, a < 173) : eV N :=
  ⟨h.1.fr w hl, by rw [(w 173 (fun q => by have := hl _ q; omega)).1]; exact h.2⟩
theorem e_pub (k : Nat) (M : mm_M) (hV : eV M) : ∀ j, j < 32 → (f_X4_publicKey k M).1 15 j = cvB (M.1 k) nine j := by
  intro j hj
  unfold f_X4_publicKey
  rw [e_curve k 173 (by decide) M j hj]
  exact congrFun (cvB_congr (fun _ _ => rfl) hV.2) j
def wS1 (S : sy) (ep : Nat → Int32) : sy := syH S (fun j => ub (ep j)) 32
theorem w0_eq (x p1 : Nat) (M : mm_M) : f_X7_writeMessage_0 x p1 M = (nI (32 + (if (f_X10_mixHash (x + 5) 2 0 32 (mm_cp (f_X4_publicKey (x + 2) M) 15 0 2 0 32)).1 (x + 5 + 3) 3 = 0 then p1 else p1 + 16)), mm_w (f_X10_encryptAndHash (x + 5) 1 0 p1 2 32 (f_X10_mixHash (x + 5) 2 0 32 (mm_cp (f_X4_publicKey (x + 2) M) 15 0 2 0 32))).2 x 10 1) := by
  unfold f_X7_writeMessage_0
  rfl
/-- a public key is put down and mixed in -/
theorem e_e (x : Nat) (hx : 49 ≤ x) (hx2 : x + 16 < 117) (M : mm_M) (S : sy) (hV : eV M) (h : e_sy M (x + 5) S) : e_sy (f_X10_mixHash (x + 5) 2 0 32 (mm_cp (f_X4_publicKey (x + 2) M) 15 0 2 0 32)) (x + 5) (wS1 S (cvB (M.1 (x + 2)) nine)) ∧ (∀ i, i < 32 → (f_X10_mixHash (x + 5) 2 0 32 (mm_cp (f_X4_publicKey (x + 2) M) 15 0 2 0 32)).1 2 i = cvB (M.1 (x + 2)) nine i) ∧ mm_fr [14, 16, 17, 18, 19, 20, 22, 21, 15, 2, 24, 23, 26, 25, x + 6] M (f_X10_mixHash (x + 5) 2 0 32 (mm_cp (f_X4_publicKey (x + 2) M) 15 0 2 0 32)) := by
  have g := e_pub (x + 2) M hV
  have w1 := w_f_X4_publicKey (x + 2) M
  generalize f_X4_publicKey (x + 2) M = M1 at *
  have r2 : ∀ i, i < 32 → (mm_cp M1 15 0 2 0 32).1 2 i = cvB (M.1 (x + 2)) nine i := fun i hi => by
    have := rd_cpS M1 15 0 2 0 32 hi
    simp only [Nat.zero_add] at this
    rw [this]; exact g i hi
  have w2 : mm_fr [14, 16, 17, 18, 19, 20, 22, 21, 15, 2] M (mm_cp M1 15 0 2 0 32) := mm_fr_cp (by decide) (w1.on (by simp) (mm_fr_refl _ _))
  generalize mm_cp M1 15 0 2 0 32 = M2 at *
  have m := e_mixHash (x + 5) 2 0 32 (by omega) (by decide) (by decide) M2 S (hV.1.fr w2 (by simp)) (h.fr w2 (by simp <;> omega) (by simp <;> omega) (by simp <;> omega) (by simp <;> omega))
  have w3 := w_f_X10_mixHash (x + 5) 2 0 32 M2
  generalize f_X10_mixHash (x + 5) 2 0 32 M2 = M3 at *
  refine ⟨?_, ?_, w3.on (by simp) (w2.on (by simp <;> omega) (mm_fr_refl _ _))⟩
  · unfold wS1
    rw [syH_congr (m := fun j => ub (cvB (M.1 (x + 2)) nine j)) (m' := fun j => ub (M2.1 2 (0 + j))) (fun j hj => by rw [Nat.zero_add, r2 j hj])]
    exact m
  · rw [(w3 2 (by simp <;> omega)).1]; exact r2
theorem wS1_kd (S : sy) (ep : Nat → Int32) : (wS1 S ep).2 = S.2 := rfl
theorem e_write0 (x p1 : Nat) (hx : 49 ≤ x) (hx2 : x + 16 < 117) (hp : p1 < 40000) (M : mm_M) (S : sy) (hV : eV M) (h : e_sy M (x + 5) S) : (f_X7_writeMessage_0 x p1 M).1 = nI (32 + syN (wS1 S (cvB (M.1 (x + 2)) nine)) p1) ∧ e_sy (f_X7_writeMessage_0 x p1 M).2 (x + 5) (syE (wS1 S (cvB (M.1 (x + 2)) nine)) (M.1 1) p1) ∧ (∀ i, i < 32 + syN (wS1 S (cvB (M.1 (x + 2)) nine)) p1 → (f_X7_writeMessage_0 x p1 M).2.1 2 i = cat (cvB (M.1 (x + 2)) nine) 32 (syO (wS1 S (cvB (M.1 (x + 2)) nine)) (M.1 1) p1) i) ∧ (∀ j, (f_X7_writeMessage_0 x p1 M).2.1 x j = if j = 10 then 1 else M.1 x j) := by
  obtain ⟨a1, a2, a3⟩ := e_e x hx hx2 M S hV h
  rw [w0_eq]
  generalize f_X10_mixHash (x + 5) 2 0 32 (mm_cp (f_X4_publicKey (x + 2) M) 15 0 2 0 32) = M4 at *
  generalize cvB (M.1 (x + 2)) nine = ep at *
  obtain ⟨b1, b2, b3⟩ := e_encH (x + 5) 1 0 p1 32 (by omega) (by omega) (Or.inl rfl) (by omega) M4 (wS1 S ep) (hV.1.fr a3 (by simp <;> omega)) a1
  have w5 : mm_fr [34, 35, 33, 37, 40, 38, 39, 31, 2, 41, (x + 5 + 3), 24, 23, 26, 25, (x + 5 + 1)] M4 (f_X10_encryptAndHash (x + 5) 1 0 p1 2 32 M4).2 := (w_f_X10_encryptAndHash (x + 5) 1 0 p1 2 32 M4).m
  generalize (f_X10_encryptAndHash (x + 5) 1 0 p1 2 32 M4).2 = M7 at *
  have e1 : M4.1 1 = M.1 1 := (a3 1 (by simp <;> omega)).1
  simp only [Nat.zero_add, e1] at b1 b2
  have wv : mm_fr [x] M7 (mm_w M7 x 10 1) := mm_fr_w (by simp) (mm_fr_refl _ _)
  refine ⟨?_, ?_, ?_, ?_⟩
  · show nI (32 + (if M4.1 (x + 5 + 3) 3 = 0 then p1 else p1 + 16)) = _
    rw [a1.2.2.2.1]
    rfl
  · exact b1.fr wv (by simp <;> omega) (by simp <;> omega) (by simp <;> omega) (by simp <;> omega)
  · intro i hi
    show (mm_w M7 x 10 1).1 2 i = _
    rw [(wv 2 (by simp <;> omega)).1]
    by_cases c : i < 32
    · rw [cat_lo _ _ _ c, b3 i c]; exact a2 i c
    · rw [cat_hi _ _ _ c]
      have := b2 (i - 32) (by omega)
      rw [show 32 + (i - 32) = i from by omega] at this
      exact this
  · intro j
    show (mm_w M7 x 10 1).1 x j = _
    rw [rd_w, (w5 x (by simp <;> omega)).1, (a3 x (by simp <;> omega)).1]
    by_cases c : j = 10
    · rw [if_pos ⟨rfl, c⟩, if_pos c]
    · rw [if_neg (fun q => c q.2), if_neg c]
/-- the second message: its states -/
def wS2 (S : sy) (ep sec : Nat → Int32) : sy := syK (wS1 S ep) sec
def wS4 (S : sy) (sp sec : Nat → Int32) : sy := syK (syE S sp 32) sec
theorem wS2_kd (S : sy) (ep sec : Nat → Int32) : (wS2 S ep sec).2.2.2.1 = 1 := rfl
theorem wS4_kd (S : sy) (sp sec : Nat → Int32) : (wS4 S sp sec).2.2.2.1 = 1 := rfl
theorem syN_1 {S : sy} (h : ¬ S.2.2.2.1 = 0) (n : Nat) : syN S n = n + 16 := by unfold syN; rw [if_neg h]
/-- the writer's static key is sealed, its secret mixed in, the payload sealed: at place q of the answer -/
theorem e_s (x p1 q : Nat) (hx : 49 ≤ x) (hx2 : x + 16 < 117) (hp : p1 < 40000) (M : mm_M) (S : sy) (hV : eV M) (hd : ¬ S.2.2.2.1 = 0) (h : e_sy M (x + 5) S) (N : mm_M) (hN : N = (f_X10_encryptAndHash (x + 5) 1 0 p1 2 (q + 48) (f_X10_mixKey (x + 5) 15 (f_X4_multiply (x + 1) (x + 4) (f_X10_encryptAndHash (x + 5) 15 0 32 2 q (f_X4_publicKey (x + 1) M)).2))).2) : e_sy N (x + 5) (syE (wS4 S (cvB (M.1 (x + 1)) nine) (cvB (M.1 (x + 1)) (M.1 (x + 4)))) (M.1 1) p1) ∧ (∀ i, i < 48 + (p1 + 16) → N.1 2 (q + i) = cat (syO S (cvB (M.1 (x + 1)) nine) 32) 48 (syO (wS4 S (cvB (M.1 (x + 1)) nine) (cvB (M.1 (x + 1)) (M.1 (x + 4)))) (M.1 1) p1) i) ∧ (∀ i, i < q → N.1 2 i = M.1 2 i) ∧ mm_fr [14, 16, 17, 18, 19, 20, 22, 21, 15, 34, 35, 33, 37, 40, 38, 39, 31, 2, 41, x + 8, 24, 23, 26, 25, x + 6, 28, 29, 30, x + 7, x + 9] M N := by
  have g := e_pub (x + 1) M hV
  have w1 := w_f_X4_publicKey (x + 1) M
  generalize f_X4_publicKey (x + 1) M = M1 at *
  have hV1 := hV.fr w1 (by simp)
  obtain ⟨b1, b2, b3⟩ := e_encH (x + 5) 15 0 32 q (by omega) (by omega) (Or.inr rfl) (by omega) M1 S hV1.1 (h.fr w1 (by simp <;> omega) (by simp <;> omega) (by simp <;> omega) (by simp <;> omega))
  have w2 : mm_fr [34, 35, 33, 37, 40, 38, 39, 31, 2, 41, (x + 5 + 3), 24, 23, 26, 25, (x + 5 + 1)] M1 (f_X10_encryptAndHash (x + 5) 15 0 32 2 q M1).2 := (w_f_X10_encryptAndHash (x + 5) 15 0 32 2 q M1).m
  generalize (f_X10_encryptAndHash (x + 5) 15 0 32 2 q M1).2 = M2 at *
  have hV2 := hV1.fr w2 (by simp <;> omega)
  have e1 : M2.1 (x + 1) = M.1 (x + 1) := by rw [(w2 _ (by simp <;> omega)).1, (w1 _ (by simp <;> omega)).1]
  have e4 : M2.1 (x + 4) = M.1 (x + 4) := by rw [(w2 _ (by simp <;> omega)).1, (w1 _ (by simp <;> omega)).1]
  have c3 := e_curve (x + 1) (x + 4) (by omega) M2
  rw [e1, e4] at c3
  have w3 := w_f_X4_multiply (x + 1) (x + 4) M2
  generalize f_X4_multiply (x + 1) (x + 4) M2 = M3 at *
  have hV3 := hV2.fr w3 (by simp)
  rw [syE_congr (a := fun j => M1.1 15 (0 + j)) (b := cvB (M.1 (x + 1)) nine) (fun j hj => by rw [Nat.zero_add]; exact g j hj)] at b1
  have b2' : ∀ i, i < 48 → M2.1 2 (q + i) = syO S (cvB (M.1 (x + 1)) nine) 32 i := fun i hi => by
    rw [b2 i (by rw [syN_1 hd]; exact hi)]
    exact syO_congr (fun j hj => by rw [Nat.zero_add]; exact g j hj) i (by rw [syN_1 hd]; exact hi)
  have d4 := e_mixKey (x + 5) 15 (by omega) (by omega) (by decide) M3 _ hV3.1 (b1.fr w3 (by simp <;> omega) (by simp <;> omega) (by simp <;> omega) (by simp <;> omega))
  rw [syK_congr c3] at d4
  have w4 := w_f_X10_mixKey (x + 5) 15 M3
  generalize f_X10_mixKey (x + 5) 15 M3 = M4 at *
  have hV4 := hV3.fr w4 (by simp <;> omega)
  obtain ⟨f1, f2, f3⟩ := e_encH (x + 5) 1 0 p1 (q + 48) (by omega) (by omega) (Or.inl rfl) (by omega) M4 _ hV4.1 d4
  have w5 : mm_fr [34, 35, 33, 37, 40, 38, 39, 31, 2, 41, (x + 5 + 3), 24, 23, 26, 25, (x + 5 + 1)] M4 (f_X10_encryptAndHash (x + 5) 1 0 p1 2 (q + 48) M4).2 := (w_f_X10_encryptAndHash (x + 5) 1 0 p1 2 (q + 48) M4).m
  rw [← hN] at f1 f2 f3 w5
  have t1 : M4.1 1 = M.1 1 := by rw [(w4 1 (by simp <;> omega)).1, (w3 1 (by decide)).1, (w2 1 (by simp <;> omega)).1, (w1 1 (by decide)).1]
  simp only [Nat.zero_add, t1] at f1 f2
  have t2 : M4.1 2 = M2.1 2 := by rw [(w4 2 (by simp <;> omega)).1, (w3 2 (by decide)).1]
  have t3 : M1.1 2 = M.1 2 := (w1 2 (by decide)).1
  refine ⟨f1, fun i hi => ?_, fun i hi => ?_, ?_⟩
  · by_cases c : i < 48
    · rw [cat_lo _ _ _ c, f3 _ (by omega), t2]; exact b2' i c
    · rw [cat_hi _ _ _ c]
      have := f2 (i - 48) (by rw [syN_1 (by show ¬ (1 : Int32) = 0; decide)]; omega)
      rw [show q + 48 + (i - 48) = q + i from by omega] at this
      exact this
  · rw [f3 i (by omega), t2, b3 i hi, t3]
  · exact w5.on (by simp <;> omega) (w4.on (by simp <;> omega) (w3.on (by simp) (w2.on (by simp <;> omega) (w1.on (by simp) (mm_fr_refl _ _)))))
theorem w1_eq (x p1 : Nat) (M M7 M9 M14 : mm_M) (h7 : M7 = f_X10_mixKey (x + 5) 15 (f_X4_multiply (x + 2) (x + 4) (f_X10_mixHash (x + 5) 2 0 32 (mm_cp (f_X4_publicKey (x + 2) M) 15 0 2 0 32)))) (h9 : M9 = f_X4_publicKey (x + 1) M7) (hk9 : ¬ M9.1 (x + 5 + 3) 3 = 0) (h14 : M14 = f_X10_mixKey (x + 5) 15 (f_X4_multiply (x + 1) (x + 4) (f_X10_encryptAndHash (x + 5) 15 0 32 2 32 M9).2)) (hk14 : ¬ M14.1 (x + 5 + 3) 3 = 0) : f_X7_writeMessage_1 x p1 M = (nI (32 + (32 + 16) + (p1 + 16)), mm_w (f_X10_encryptAndHash (x + 5) 1 0 p1 2 (32 + (32 + 16)) M14).2 x 10 2) := by
  unfold f_X7_writeMessage_1
  dsimp only
  rw [← h7, ← h9, if_neg hk9, ← h14, if_neg hk14]
theorem w2_eq (x p1 : Nat) (M M4 M9 : mm_M) (h4 : M4 = f_X4_publicKey (x + 1) M) (hk4 : ¬ M4.1 (x + 5 + 3) 3 = 0) (h9 : M9 = f_X10_mixKey (x + 5) 15 (f_X4_multiply (x + 1) (x + 4) (f_X10_encryptAndHash (x + 5) 15 0 32 2 0 M4).2)) (hk9 : ¬ M9.1 (x + 5 + 3) 3 = 0) : f_X7_writeMessage_2 x p1 M = (nI (0 + (32 + 16) + (p1 + 16)), f_X10_split (x + 5) (x + 11) (x + 14) (mm_w (f_X10_encryptAndHash (x + 5) 1 0 p1 2 (0 + (32 + 16)) M9).2 x 10 3)) := by
  unfold f_X7_writeMessage_2
  dsimp only
  rw [← h4, if_neg hk4, ← h9, if_neg hk9]
