/-! the symmetric state: the reference's sealing and opening -/
theorem si_0 (s k1 p1 n p4 : Nat) (M : mm_M) (h : M.1 161 s = 0) : f_X12_sealsInto s k1 p1 n p4 M = (nI (p4 + n), f_X12_mixHash s 120 p4 n (f_X12_copy k1 p1 120 p4 n M)) := by
  unfold f_X12_sealsInto
  rw [if_pos h]
theorem si_1 (s k1 p1 n p4 : Nat) (M : mm_M) (h : ¬ M.1 161 s = 0) : f_X12_sealsInto s k1 p1 n p4 M = (nI (p4 + (n + 16)), f_X12_mixHash s 120 p4 (n + 16) (mm_wl (f_X12_seals 157 (352 * s + 64) (M.2 166 s) 157 (352 * s) 32 k1 p1 n 120 p4 M) 166 s ((f_X12_seals 157 (352 * s + 64) (M.2 166 s) 157 (352 * s) 32 k1 p1 n 120 p4 M).2 166 s + 1))) := by
  unfold f_X12_sealsInto
  rw [if_neg h]
theorem r_sealsInto (s k1 p1 n p4 : Nat) (hk : k1 = 119 ∨ k1 = 157) (hn : n < 50000) (M : mm_M) (S : sy) (hT : rT M) (h : r_sy M s S) : (f_X12_sealsInto s k1 p1 n p4 M).1 = nI (p4 + syN S n) ∧ r_sy (f_X12_sealsInto s k1 p1 n p4 M).2 s (syE S (fun j => M.1 k1 (p1 + j)) n) ∧ (∀ i, i < syN S n → (f_X12_sealsInto s k1 p1 n p4 M).2.1 120 (p4 + i) = syO S (fun j => M.1 k1 (p1 + j)) n i) ∧ (∀ i, i < p4 → (f_X12_sealsInto s k1 p1 n p4 M).2.1 120 i = M.1 120 i) ∧ rk s M (f_X12_sealsInto s k1 p1 n p4 M).2 ∧ rr s M (f_X12_sealsInto s k1 p1 n p4 M).2 := by
  have h' := h
  obtain ⟨a, b, c, d, e⟩ := h
  have hN : syN S n < 100000 := by
    unfold syN
    by_cases c0 : S.2.2.2.1 = 0
    · rw [if_pos c0]; omega
    · rw [if_neg c0]; omega
  have fin : ∀ N : mm_M, rT N → r_sy N s (syI S) → (∀ i, i < syN S n → N.1 120 (p4 + i) = syO S (fun j => M.1 k1 (p1 + j)) n i) → (∀ i, i < p4 → N.1 120 i = M.1 120 i) → rk s M N → rr s M N → r_sy (f_X12_mixHash s 120 p4 (syN S n) N) s (syE S (fun j => M.1 k1 (p1 + j)) n) ∧ (∀ i, i < syN S n → (f_X12_mixHash s 120 p4 (syN S n) N).1 120 (p4 + i) = syO S (fun j => M.1 k1 (p1 + j)) n i) ∧ (∀ i, i < p4 → (f_X12_mixHash s 120 p4 (syN S n) N).1 120 i = M.1 120 i) ∧ rk s M (f_X12_mixHash s 120 p4 (syN S n) N) ∧ rr s M (f_X12_mixHash s 120 p4 (syN S n) N) := by
    intro N hTN hs ho hp hrk hrr
    obtain ⟨m1, m2, m3⟩ := r_mixHash s 120 p4 (syN S n) (by decide) hN N (syI S) hTN hs
    have w2 := w_f_X12_mixHash s 120 p4 (syN S n) N
    generalize f_X12_mixHash s 120 p4 (syN S n) N = T at *
    refine ⟨?_, ?_, ?_, hrk.trans m2, fun i h1 h2 => by rw [m3 i h1 h2, hrr i h1 h2]⟩
    · unfold syE
      rw [syH_congr (m := fun j => ub (syO S (fun j => M.1 k1 (p1 + j)) n j)) (m' := fun j => ub (N.1 120 (p4 + j))) (fun j hj => by rw [ho j hj])]
      exact m1
    · rw [(w2 120 (by decide)).1]; exact ho
    · rw [(w2 120 (by decide)).1]; exact hp
  by_cases c0 : S.2.2.2.1 = 0
  · have eN : syN S n = n := by unfold syN; rw [if_pos c0]
    have eI : syI S = S := by unfold syI; rw [if_pos c0]
    rw [si_0 s k1 p1 n p4 M (by rw [d]; exact c0), copy_cp _ _ _ _ _ (by omega)]
    have w : mm_fr [120] M (mm_cp M k1 p1 120 p4 n) := mm_fr_cp (by decide) (mm_fr_refl _ _)
    have r := fin (mm_cp M k1 p1 120 p4 n) (hT.fr w (by decide) (by decide)) (by
      rw [eI]
      exact h'.fr (fun i _ _ => by rw [(w 157 (by decide)).1]) (by rw [(w 161 (by decide)).1]) (by rw [(w 166 (by decide)).2])) (fun i hi => by
      rw [eN] at hi
      rw [rd_cpS _ _ _ _ _ _ hi]
      unfold syO
      rw [if_pos c0]) (fun i hi => rd_cpN _ _ _ _ _ _ (Or.inr (Or.inl hi))) (rk_fr w (by simp)) (fun i _ _ => by rw [(w 157 (by decide)).1])
    rw [eN] at r ⊢
    exact ⟨rfl, r⟩
  · have eN : syN S n = n + 16 := by unfold syN; rw [if_neg c0]
    rw [si_1 s k1 p1 n p4 M (by rw [d]; exact c0), e]
    obtain ⟨g1, g2, g3⟩ := r_seal 157 (352 * s + 64) 157 (352 * s) 32 k1 p1 n 120 p4 S.2.2.2.2 M (by omega) (by omega) (by omega) (by omega) (by omega) (by omega) (by omega) (by decide) (by omega)
    have w := w_f_X12_seals 157 (352 * s + 64) S.2.2.2.2 157 (352 * s) 32 k1 p1 n 120 p4 M
    generalize f_X12_seals 157 (352 * s + 64) S.2.2.2.2 157 (352 * s) 32 k1 p1 n 120 p4 M = N at *
    have e34 : N.2 166 s = S.2.2.2.2 := by rw [(w 166 (by decide)).2, e]
    have e33 : N.1 161 s = S.2.2.2.1 := by rw [(w 161 (by decide)).1, d]
    have f157 : N.1 157 = M.1 157 := (w 157 (by decide)).1
    have kc := c c0
    have wv : mm_fr [166] N (mm_wl N 166 s (N.2 166 s + 1)) := mm_fr_wl (by decide) (mm_fr_refl _ _)
    have r := fin (mm_wl N 166 s (N.2 166 s + 1)) ((hT.fr w (by decide) (by decide)).fr wv (by decide) (by decide)) (by
      refine ⟨?_, ?_, ?_, ?_, ?_⟩
      · rw [rd_wl1, f157]; exact a
      · rw [rd_wl1, f157]; exact b
      · rw [rd_wl1, f157]; exact c
      · rw [rd_wl1]; exact e33
      · rw [rd_wlS, e34]; unfold syI; rw [if_neg c0]) (fun i hi => by
      rw [eN] at hi
      rw [rd_wl1]
      unfold syO
      rw [if_neg c0]
      by_cases d1 : i < n
      · rw [if_pos d1, g1 i d1]
        exact aeX_congr kc rfl
      · rw [if_neg d1]
        have := g2 (i - n) (by omega)
        rw [show n + (i - n) = i from by omega] at this
        rw [this]
        exact aeT_congr kc (fun j hj => by rw [a j hj]) (fun j hj => by rw [aeX_congr kc rfl]) _) (fun i hi => by
      rw [rd_wl1]; exact g3 i (Or.inl hi)) ((rk_fr w (by simp)).trans (rk_wl _ _ _)) (fun i _ _ => by rw [rd_wl1, f157])
    rw [eN] at r ⊢
    exact ⟨rfl, r⟩
theorem of_0 (s p1 n p4 : Nat) (M : mm_M) (h : M.1 161 s = 0) : f_X12_opensFrom s p1 n p4 M = (1, f_X12_mixHash s 119 p1 n (f_X12_copy 119 p1 120 p4 n M)) := by
  unfold f_X12_opensFrom
  rw [if_neg (fun q => q h)]
theorem of_1 (s p1 n p4 : Nat) (M : mm_M) (h : ¬ M.1 161 s = 0) : f_X12_opensFrom s p1 n p4 M = f_X12_opensFrom_B1 s p1 n (f_X12_opens 157 (352 * s + 64) (M.2 166 s) 157 (352 * s) 32 119 p1 n 120 p4 M).2 (f_X12_opens 157 (352 * s + 64) (M.2 166 s) 157 (352 * s) 32 119 p1 n 120 p4 M).1 := by
  unfold f_X12_opensFrom
  rw [if_pos h]
theorem ofB_1 (s p1 n : Nat) (M : mm_M) (v : Int32) (h : ¬ v = 0) : f_X12_opensFrom_B1 s p1 n M v = (1, f_X12_mixHash s 119 p1 n (mm_wl M 166 s (M.2 166 s + 1))) := by
  unfold f_X12_opensFrom_B1
  rw [if_pos h]
theorem ofB_0 (s p1 n : Nat) (M : mm_M) (v : Int32) (h : v = 0) : f_X12_opensFrom_B1 s p1 n M v = (0, M) := by
  unfold f_X12_opensFrom_B1
  rw [if_neg (fun q => q h)]
theorem r_opensFrom (s p1 n : Nat) (hn : n < 50000) (M : mm_M) (S : sy) (hT : rT M) (h : r_sy M s S) : (syG S (fun j => M.1 119 (p1 + j)) n → (f_X12_opensFrom s p1 n 0 M).1 = 1 ∧ r_sy (f_X12_opensFrom s p1 n 0 M).2 s (syD S (fun j => M.1 119 (p1 + j)) n) ∧ (∀ i, i < syL S n → (f_X12_opensFrom s p1 n 0 M).2.1 120 i = syP S (fun j => M.1 119 (p1 + j)) i) ∧ rr s M (f_X12_opensFrom s p1 n 0 M).2) ∧ (¬ syG S (fun j => M.1 119 (p1 + j)) n → (f_X12_opensFrom s p1 n 0 M).1 = 0) ∧ rk s M (f_X12_opensFrom s p1 n 0 M).2 := by
  have h' := h
  obtain ⟨a, b, c, d, e⟩ := h
  have fin : ∀ N : mm_M, rT N → N.1 119 = M.1 119 → r_sy N s (syI S) → (∀ i, i < syL S n → N.1 120 i = syP S (fun j => M.1 119 (p1 + j)) i) → rk s M N → rr s M N → r_sy (f_X12_mixHash s 119 p1 n N) s (syD S (fun j => M.1 119 (p1 + j)) n) ∧ (∀ i, i < syL S n → (f_X12_mixHash s 119 p1 n N).1 120 i = syP S (fun j => M.1 119 (p1 + j)) i) ∧ rr s M (f_X12_mixHash s 119 p1 n N) ∧ rk s M (f_X12_mixHash s 119 p1 n N) := by
    intro N hTN h119 hs ho hrk hrr
    obtain ⟨m1, m2, m3⟩ := r_mixHash s 119 p1 n (by decide) (by omega) N (syI S) hTN hs
    have w2 := w_f_X12_mixHash s 119 p1 n N
    generalize f_X12_mixHash s 119 p1 n N = T at *
    rw [h119] at m1
    refine ⟨m1, ?_, fun i h1 h2 => by rw [m3 i h1 h2, hrr i h1 h2], hrk.trans m2⟩
    rw [(w2 120 (by decide)).1]; exact ho
  by_cases c0 : S.2.2.2.1 = 0
  · have eL : syL S n = n := by unfold syL; rw [if_pos c0]
    have eI : syI S = S := by unfold syI; rw [if_pos c0]
    have gd : syG S (fun j => M.1 119 (p1 + j)) n := Or.inl c0
    rw [of_0 s p1 n 0 M (by rw [d]; exact c0), copy_cp _ _ _ _ _ (by decide)]
    have w : mm_fr [120] M (mm_cp M 119 p1 120 0 n) := mm_fr_cp (by decide) (mm_fr_refl _ _)
    obtain ⟨r1, r2, r3, r4⟩ := fin (mm_cp M 119 p1 120 0 n) (hT.fr w (by decide) (by decide)) (w 119 (by decide)).1 (by
      rw [eI]
      exact h'.fr (fun i _ _ => by rw [(w 157 (by decide)).1]) (by rw [(w 161 (by decide)).1]) (by rw [(w 166 (by decide)).2])) (fun i hi => by
      rw [eL] at hi
      have := rd_cpS M 119 p1 120 0 n hi
      rw [Nat.zero_add] at this
      rw [this]
      unfold syP
      rw [if_pos c0]) (rk_fr w (by simp)) (fun i _ _ => by rw [(w 157 (by decide)).1])
    exact ⟨fun _ => ⟨rfl, r1, r2, r3⟩, fun q => absurd gd q, r4⟩
  · have eL : syL S n = n - 16 := by unfold syL; rw [if_neg c0]
    rw [of_1 s p1 n 0 M (by rw [d]; exact c0), e]
    have kc := c c0
    have w : mm_fr [147, 149, 148, 155, 151, 150, 152, 153, 156, 154, 120] M (f_X12_opens 157 (352 * s + 64) S.2.2.2.2 157 (352 * s) 32 119 p1 n 120 0 M).2 := (w_f_X12_opens _ _ _ _ _ _ _ _ _ _ _ _).m
    by_cases h16 : 16 ≤ n
    · obtain ⟨o1, o2⟩ := r_open 157 (352 * s + 64) 157 (352 * s) 32 119 p1 n 120 0 S.2.2.2.2 M (by omega) (by omega) (by omega) (by omega) (by omega) (by omega) (by decide) (by omega) h16
      have okc : aeOK (fun i => M.1 157 (352 * s + 64 + i)) S.2.2.2.2 (fun j => ub (M.1 157 (352 * s + j))) 32 (fun j => M.1 119 (p1 + j)) n ↔ aeOK S.2.2.1 S.2.2.2.2 (fun j => ub (S.1 j)) 32 (fun j => M.1 119 (p1 + j)) n := aeOK_congr kc (fun j hj => by rw [a j hj]) h16 (fun _ _ => rfl)
      generalize f_X12_opens 157 (352 * s + 64) S.2.2.2.2 157 (352 * s) 32 119 p1 n 120 0 M = X at *
      obtain ⟨v, N⟩ := X
      dsimp only at *
      have e34 : N.2 166 s = S.2.2.2.2 := by rw [(w 166 (by decide)).2, e]
      have e33 : N.1 161 s = S.2.2.2.1 := by rw [(w 161 (by decide)).1, d]
      have f157 : N.1 157 = M.1 157 := (w 157 (by decide)).1
      by_cases g : aeOK S.2.2.1 S.2.2.2.2 (fun j => ub (S.1 j)) 32 (fun j => M.1 119 (p1 + j)) n
      · obtain ⟨v1, v2⟩ := o1 (okc.mpr g)
        subst v1
        rw [ofB_1 s p1 n N 1 (by decide)]
        have wv : mm_fr [166] N (mm_wl N 166 s (N.2 166 s + 1)) := mm_fr_wl (by decide) (mm_fr_refl _ _)
        obtain ⟨r1, r2, r3, r4⟩ := fin (mm_wl N 166 s (N.2 166 s + 1)) ((hT.fr w (by decide) (by decide)).fr wv (by decide) (by decide)) (by rw [rd_wl1]; exact (w 119 (by decide)).1) (by
          refine ⟨?_, ?_, ?_, ?_, ?_⟩
          · rw [rd_wl1, f157]; exact a
          · rw [rd_wl1, f157]; exact b
          · rw [rd_wl1, f157]; exact c
          · rw [rd_wl1]; exact e33
          · rw [rd_wlS, e34]; unfold syI; rw [if_neg c0]) (fun i hi => by
          rw [eL] at hi
          rw [rd_wl1, v2 i, if_pos (by omega), Nat.sub_zero]
          unfold syP
          rw [if_neg c0]
          exact aeX_congr kc rfl) ((rk_fr w (by simp)).trans (rk_wl _ _ _)) (fun i _ _ => by rw [rd_wl1, f157])
        exact ⟨fun _ => ⟨rfl, r1, r2, r3⟩, fun q => absurd (Or.inr ⟨h16, g⟩) q, r4⟩
      · obtain ⟨v1, v2⟩ := o2 (fun q => g (okc.mp q))
        subst v1
        rw [ofB_0 s p1 n N 0 rfl]
        refine ⟨fun q => ?_, fun _ => rfl, rk_fr w (by simp)⟩
        rcases q with q | ⟨-, q⟩
        · exact absurd q c0
        · exact absurd q g
    · have gd : ¬ syG S (fun j => M.1 119 (p1 + j)) n := by
        rintro (q | ⟨q, -⟩)
        · exact c0 q
        · exact h16 q
      rw [op_lo _ _ _ _ _ _ _ _ _ _ _ _ h16, ofB_0 s p1 n M 0 rfl]
      exact ⟨fun g => absurd g gd, fun _ => rfl, rk.refl _ _⟩
