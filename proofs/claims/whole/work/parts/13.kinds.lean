/-- a CipherState at cell z, its rows behind it -/
def mm_cip (z : Nat) : Prop := z + 2 < 173 ∧ mm_sh z = .inr 2 ∧ mm_sh (z + 1) = .inl (.byte, 32, true) ∧ mm_sh (z + 2) = .inl (.byte, 48, true) ∧ mm_ds z 0 = z + 1 + 3 ∧ mm_ds z 1 = z + 2 + 3 ∧ mm_ds z 2 = 34 ∧ mm_ds z 3 = 0 ∧ mm_ds z 4 = 1
/-- a SymmetricState at cell y -/
def mm_sym (y : Nat) : Prop := y + 5 < 173 ∧ mm_sh y = .inr 9 ∧ mm_sh (y + 1) = .inl (.byte, 32, true) ∧ mm_sh (y + 2) = .inl (.byte, 32, true) ∧ mm_cip (y + 3) ∧ mm_ds y 0 = y + 1 + 3 ∧ mm_ds y 1 = y + 2 + 3 ∧ mm_ds y 2 = y + 3 + 3 ∧ mm_ds y 3 = 26 ∧ mm_ds y 4 = 30
/-- a Session at cell x -/
def mm_ses (x : Nat) : Prop := x + 16 < 173 ∧ 49 ≤ x ∧ mm_sh x = .inr 6 ∧ (∀ j, j < 4 → mm_sh (x + (j + 1)) = .inl (.byte, 32, true)) ∧ mm_sym (x + 5) ∧ mm_cip (x + 11) ∧ mm_cip (x + 14) ∧ mm_ds x 0 = 16 ∧ mm_ds x 1 = x + 5 + 3 ∧ mm_ds x 2 = 46 ∧ mm_ds x 3 = x + 11 + 3 ∧ mm_ds x 4 = x + 14 + 3 ∧ mm_ds x 5 = x + 1 + 3 ∧ mm_ds x 6 = x + 2 + 3 ∧ mm_ds x 7 = x + 3 + 3 ∧ mm_ds x 8 = x + 4 + 3 ∧ mm_ds x 9 = 0 ∧ mm_ds x 10 = 0 ∧ mm_ds x 11 = 0
theorem mm_spare : mm_sym 43 := by unfold mm_sym mm_cip; decide
theorem mm_ses_of : ∀ s, s < 4 → mm_ses (49 + 17 * s) := by
  intro s hs
  rcases (show s = 0 ∨ s = 1 ∨ s = 2 ∨ s = 3 by omega) with rfl | rfl | rfl | rfl <;> (unfold mm_ses; refine ⟨?_, ?_, ?_, ?_, ?_, ?_, ?_, ?_, ?_, ?_, ?_, ?_, ?_, ?_, ?_, ?_, ?_, ?_, ?_⟩ <;> first | decide | (unfold mm_sym mm_cip; decide) | (unfold mm_cip; decide))
theorem mm_key : ∀ j, j < 8 → mm_sh (4 + j) = .inl (.byte, 32, true) := by decide
theorem mm_key_ds : ∀ j, j < 8 → mm_ds 3 j = 4 + j + 3 := by decide
theorem mm_ses_ds : ∀ s, s < 4 → mm_ds 42 s = 49 + 17 * s + 3 := by decide
theorem mm_v0 {r : Nat → Nat} {M : mm_M} {k j d : Nat} (h : d = 0) : mm_v r M k j d = .int (M.1 k j) := by rw [h]; rfl
theorem mm_v1 {r : Nat → Nat} {M : mm_M} {k j d : Nat} (h : d = 1) : mm_v r M k j d = .long (M.2 k j) := by rw [h]; rfl
theorem mm_v3 {r : Nat → Nat} {M : mm_M} {k j d n : Nat} (h : d = n + 3) : mm_v r M k j d = .ref (r n) := by rw [h]; rfl
theorem mm_sneg {n : Nat} (h : n < 16) : ¬ (0 : Int32) ≤ nI n - 16 := Int32.not_le.mpr (pk_sneg (a := n) (b := 16) (by decide) h)
theorem mm_dnd8 {n m : Nat} (h : n = m + 8) : nI n - 8 = nI m := by rw [h]; exact (pk_sub (a := m + 8) (b := 8) (by omega)).trans (by rw [Nat.add_sub_cancel])
theorem mm_dnd8b {a b : Nat} (h : a = b) : nI a + Int32.ofInt (-8) = nI b - 8 := by
  rw [h, Int32.sub_eq_add_neg]
  rfl
theorem mm_neg8 {n : Nat} (h : n = 0) : nI n - 8 < 0 := by rw [h]; decide
