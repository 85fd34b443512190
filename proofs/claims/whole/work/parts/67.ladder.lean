/-! the ladder and the inverse on both sides -/
theorem e_is.row {M N : mm_M} {k k' b : Nat} {x : Int} (h : e_is M k b x) (e : ∀ i, i < 10 → N.2 k' i = M.2 k i) : e_is N k' b x := by
  have e2 : ∀ i, i < 10 → lg N k' i = lg M k i := fun i hi => by unfold lg; rw [e i hi]
  refine ⟨fun i hi => by rw [e2 i hi]; exact h.1 i hi, ?_⟩
  unfold v10
  rw [ws_congr e2]
  exact h.2
theorem r_is.row {M N : mm_M} {k k' b : Nat} {x : Int} (h : r_is M k b x) (e : ∀ i, i < 16 → N.2 k' i = M.2 k i) : r_is N k' b x := by
  have e2 : ∀ i, i < 16 → lg N k' i = lg M k i := fun i hi => by unfold lg; rw [e i hi]
  refine ⟨fun i hi => by rw [e2 i hi]; exact h.1 i hi, ?_⟩
  unfold v16
  rw [ws_congr e2]
  exact h.2
theorem e_swapL (k1 k2 : Nat) (hk : k1 ≠ k2) (m : Int64) (σ : mm_M) : ∀ t, (∀ i, t ≤ i → (f_X4_swapIf_L7 k1 k2 m σ t).2 k1 i = σ.2 k1 i ∧ (f_X4_swapIf_L7 k1 k2 m σ t).2 k2 i = σ.2 k2 i) ∧
    (∀ i, i < t → (f_X4_swapIf_L7 k1 k2 m σ t).2 k1 i = σ.2 k1 i ^^^ (m &&& (σ.2 k1 i ^^^ σ.2 k2 i)) ∧ (f_X4_swapIf_L7 k1 k2 m σ t).2 k2 i = σ.2 k2 i ^^^ (m &&& (σ.2 k1 i ^^^ σ.2 k2 i)))
  | 0 => ⟨fun _ _ => ⟨rfl, rfl⟩, fun i hi => absurd hi (by omega)⟩
  | t + 1 => by
    obtain ⟨h1, h2⟩ := e_swapL k1 k2 hk m σ t
    rw [f_X4_swapIf_L7]
    generalize f_X4_swapIf_L7 k1 k2 m σ t = R at *
    have a1 := (h1 t (Nat.le_refl _)).1
    have a2 := (h1 t (Nat.le_refl _)).2
    refine ⟨fun i hi => ⟨?_, ?_⟩, fun i hi => ?_⟩
    · rw [rd_wlN _ _ _ _ (Or.inl hk), rd_wlN _ _ _ _ (Or.inr (by omega))]; exact (h1 i (by omega)).1
    · rw [rd_wlN _ _ _ _ (Or.inr (by omega)), rd_wlN _ _ _ _ (Or.inl hk.symm)]; exact (h1 i (by omega)).2
    · by_cases e : i = t
      · subst e
        rw [rd_wlN _ _ _ _ (Or.inl hk), rd_wlS, rd_wlS, rd_wlN _ _ _ _ (Or.inl hk.symm), a1, a2]
        exact ⟨rfl, rfl⟩
      · rw [rd_wlN _ _ _ _ (Or.inl hk), rd_wlN _ _ _ _ (Or.inr e), rd_wlN _ _ _ _ (Or.inr e), rd_wlN _ _ _ _ (Or.inl hk.symm)]
        exact h2 i (by omega)
theorem xl0 (x y : Int64) : x ^^^ ((-((0 : Int32).toInt64)) &&& y) = x := by
  rw [show (-((0 : Int32).toInt64)) = (0 : Int64) from by decide]
  simp
theorem xl1 (x y : Int64) : x ^^^ ((-((1 : Int32).toInt64)) &&& (x ^^^ y)) = y := by
  rw [show (-((1 : Int32).toInt64)) = (-1 : Int64) from by decide, Int64.neg_one_and, ← Int64.xor_assoc]
  simp
theorem xl2 (x y : Int64) : y ^^^ ((-((1 : Int32).toInt64)) &&& (x ^^^ y)) = x := by
  rw [show (-((1 : Int32).toInt64)) = (-1 : Int64) from by decide, Int64.neg_one_and, Int64.xor_comm x y, ← Int64.xor_assoc]
  simp
theorem e_swap0 (k1 k2 : Nat) (hk : k1 ≠ k2) (M : mm_M) (i : Nat) (hi : i < 10) : (f_X4_swapIf 0 k1 k2 M).2 k1 i = M.2 k1 i ∧ (f_X4_swapIf 0 k1 k2 M).2 k2 i = M.2 k2 i := by
  obtain ⟨h1, h2⟩ := (e_swapL k1 k2 hk (-((0 : Int32).toInt64)) M 10).2 i hi
  exact ⟨h1.trans (xl0 _ _), h2.trans (xl0 _ _)⟩
theorem e_swap1 (k1 k2 : Nat) (hk : k1 ≠ k2) (M : mm_M) (i : Nat) (hi : i < 10) : (f_X4_swapIf 1 k1 k2 M).2 k1 i = M.2 k2 i ∧ (f_X4_swapIf 1 k1 k2 M).2 k2 i = M.2 k1 i := by
  obtain ⟨h1, h2⟩ := (e_swapL k1 k2 hk (-((1 : Int32).toInt64)) M 10).2 i hi
  exact ⟨h1.trans (xl1 _ _), h2.trans (xl2 _ _)⟩
theorem r_swapL (k1 k2 : Nat) (hk : k1 ≠ k2) (σ : mm_M) : ∀ t, (∀ i, t ≤ i → (f_X12_swapped_L2 k1 k2 σ t).2 k1 i = σ.2 k1 i ∧ (f_X12_swapped_L2 k1 k2 σ t).2 k2 i = σ.2 k2 i) ∧
    (∀ i, i < t → (f_X12_swapped_L2 k1 k2 σ t).2 k1 i = σ.2 k2 i ∧ (f_X12_swapped_L2 k1 k2 σ t).2 k2 i = σ.2 k1 i)
  | 0 => ⟨fun _ _ => ⟨rfl, rfl⟩, fun i hi => absurd hi (by omega)⟩
  | t + 1 => by
    obtain ⟨h1, h2⟩ := r_swapL k1 k2 hk σ t
    rw [f_X12_swapped_L2]
    generalize f_X12_swapped_L2 k1 k2 σ t = R at *
    have a1 := (h1 t (Nat.le_refl _)).1
    have a2 := (h1 t (Nat.le_refl _)).2
    refine ⟨fun i hi => ⟨?_, ?_⟩, fun i hi => ?_⟩
    · rw [rd_wlN _ _ _ _ (Or.inl hk), rd_wlN _ _ _ _ (Or.inr (by omega))]; exact (h1 i (by omega)).1
    · rw [rd_wlN _ _ _ _ (Or.inr (by omega)), rd_wlN _ _ _ _ (Or.inl hk.symm)]; exact (h1 i (by omega)).2
    · by_cases e : i = t
      · subst e
        rw [rd_wlN _ _ _ _ (Or.inl hk), rd_wlS, rd_wlS, a1, a2]
        exact ⟨rfl, rfl⟩
      · rw [rd_wlN _ _ _ _ (Or.inl hk), rd_wlN _ _ _ _ (Or.inr e), rd_wlN _ _ _ _ (Or.inr e), rd_wlN _ _ _ _ (Or.inl hk.symm)]
        exact h2 i (by omega)
/-- the ladder on whole numbers: x2, z2, x3, z3, never left swapped -/
def lad (x : Int) (β : Nat → Int32) : Nat → Int × Int × Int × Int
  | 0 => (1, 0, x, 1)
  | t + 1 => if β t = 1 then
      (st_b (lad x β t).2.2.1 (lad x β t).2.2.2 (lad x β t).1 (lad x β t).2.1, st_d x (lad x β t).2.2.1 (lad x β t).2.2.2 (lad x β t).1 (lad x β t).2.1, st_a (lad x β t).2.2.1 (lad x β t).2.2.2, st_c (lad x β t).2.2.1 (lad x β t).2.2.2)
    else (st_a (lad x β t).1 (lad x β t).2.1, st_c (lad x β t).1 (lad x β t).2.1, st_b (lad x β t).1 (lad x β t).2.1 (lad x β t).2.2.1 (lad x β t).2.2.2, st_d x (lad x β t).1 (lad x β t).2.1 (lad x β t).2.2.1 (lad x β t).2.2.2)
/-- the bits of a scalar, from the top -/
def sbit (s : Nat → Int32) (t : Nat) : Int32 := ((s ((254 - t) / 8)) >>> ((nI ((254 - t) % 8)) &&& 31)) &&& (1 : Int32)
theorem and1 (z : Int32) : z &&& 1 = 0 ∨ z &&& 1 = 1 := by
  have h : ∀ b : Bool, z.toBitVec.getLsbD 0 = b → z.toBitVec &&& 1#32 = if b then 1#32 else 0#32 := by
    intro b hb
    ext i hi
    rcases Nat.eq_zero_or_pos i with q | q
    · subst q
      cases b <;> simp [hb] <;> simpa using hb
    · cases b <;> simp [Nat.ne_of_gt q, BitVec.getElem_one] <;> omega
  rcases hb : z.toBitVec.getLsbD 0 with _ | _
  · left
    apply Int32.toBitVec_inj.mp
    have := h false hb
    simpa using this
  · right
    apply Int32.toBitVec_inj.mp
    have := h true hb
    simpa using this
theorem sbit01 (s : Nat → Int32) (t : Nat) : sbit s t = 0 ∨ sbit s t = 1 := and1 _
/-- the inverse's chain -/
def ivc (f : Int) : Nat → Int
  | 0 => f
  | t + 1 => if 253 - t = 2 then ivc f t * ivc f t else if 253 - t = 4 then ivc f t * ivc f t else ivc f t * ivc f t * f
theorem e_inv {M : mm_M} {k2 b : Nat} {f : Int} (k1 : Nat) (hk : k1 ≠ k2) (h : e_is M k2 b f) (hb : b ≤ 67108864) : e_is (f_X4_invert k1 k2 M) k1 67108864 (ivc f 254) := by
  have hL : ∀ t, t ≤ 254 → e_is (f_X4_invert_L13 k1 k2 (mm_cpl M k2 0 k1 0 10) t) k1 67108864 (ivc f t) ∧ e_is (f_X4_invert_L13 k1 k2 (mm_cpl M k2 0 k1 0 10) t) k2 b f := by
    intro t
    induction t with
    | zero =>
      intro _
      refine ⟨(h.le hb).row (fun i hi => ?_), h.row (fun i hi => ?_)⟩
      · rw [f_X4_invert_L13, mm_cpl]
        dsimp only
        rw [if_pos ⟨rfl, Nat.zero_le _, by omega⟩, show 0 + (i - 0) = i from by omega]
      · rw [f_X4_invert_L13, mm_cpl]
        dsimp only
        rw [if_neg (fun q => hk q.1.symm)]
    | succ t ih =>
      intro ht
      obtain ⟨i1, i2⟩ := ih (by omega)
      rw [f_X4_invert_L13, ivc]
      generalize f_X4_invert_L13 k1 k2 (mm_cpl M k2 0 k1 0 10) t = R at *
      have s1 := e_mulI k1 i1 i1 (Nat.le_refl _) (Nat.le_refl _)
      have s2 := i2.fr (w_f_X4_multiplyLimbs k1 k1 k1 R) (by simp; exact hk.symm)
      generalize f_X4_multiplyLimbs k1 k1 k1 R = N at *
      unfold f_X4_invert_B2 f_X4_invert_B1
      by_cases q : 253 - t = 2
      · rw [if_pos q, if_pos q]; exact ⟨s1.le (by decide), s2⟩
      · rw [if_neg q, if_neg q]
        by_cases q4 : 253 - t = 4
        · rw [if_pos q4, if_pos q4]; exact ⟨s1.le (by decide), s2⟩
        · rw [if_neg q4, if_neg q4]
          exact ⟨(e_mulI k1 s1 s2 (by decide) hb).le (by decide), s2.fr (w_f_X4_multiplyLimbs k1 k1 k2 N) (by simp; exact hk.symm)⟩
  exact (hL 254 (by decide)).1
theorem r_inv {M : mm_M} {k2 b : Nat} {f : Int} (k1 : Nat) (hk : k2 ≠ 142) (h3 : k2 ≠ 143) (h : r_is M k2 b f) (hb : b ≤ 262144) : r_is (f_X12_inverted k1 k2 M) k1 262144 (ivc f 254) := by
  have hL : ∀ t, t ≤ 254 → r_is (f_X12_inverted_L12 k2 (f_X12_same 142 k2 M) t) 142 262144 (ivc f t) ∧ r_is (f_X12_inverted_L12 k2 (f_X12_same 142 k2 M) t) k2 b f := by
    intro t
    induction t with
    | zero =>
      intro _
      exact ⟨r_sameI 142 (h.le hb), h.fr (w_f_X12_same 142 k2 M) (by simp; exact hk)⟩
    | succ t ih =>
      intro ht
      obtain ⟨i1, i2⟩ := ih (by omega)
      rw [f_X12_inverted_L12, ivc]
      generalize f_X12_inverted_L12 k2 (f_X12_same 142 k2 M) t = R at *
      have s1 := r_mulI 142 i1 i1 (Nat.le_refl _) (Nat.le_refl _) (by decide) (by decide) (by decide)
      have s2 := i2.fr (w_f_X12_times 142 142 142 R) (by simp [hk, h3])
      generalize f_X12_times 142 142 142 R = N at *
      unfold f_X12_inverted_B2 f_X12_inverted_B1
      by_cases q : 253 - t = 2
      · rw [if_pos q, if_pos q]; exact ⟨s1.le (by decide), s2⟩
      · rw [if_neg q, if_neg q]
        by_cases q4 : 253 - t = 4
        · rw [if_pos q4, if_pos q4]; exact ⟨s1.le (by decide), s2⟩
        · rw [if_neg q4, if_neg q4]
          exact ⟨(r_mulI 142 s1 s2 (by decide) hb (by decide) h3 (by decide)).le (by decide), s2.fr (w_f_X12_times 142 142 k2 N) (by simp [hk, h3])⟩
  exact r_sameI k1 (hL 254 (by decide)).1
