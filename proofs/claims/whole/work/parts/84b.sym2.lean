/-! the symmetric state: the engine's decryption, split and copy -/
theorem nI_sub16 (n : Nat) (h : 16 ≤ n) (h2 : n < 4294967296) : nI n - 16 = nI (n - 16) := by
  refine un_inj ?_
  rw [un_nI (by omega)]
  have a := un_nI h2
  unfold un at *
  rw [Int32.toBitVec_sub, BitVec.toNat_sub, a, show (16 : Int32).toBitVec.toNat = 16 from rfl]
  omega
theorem nI_neg1 (n : Nat) (h : n < 4294967295) : nI n ≠ -1 := by
  intro q
  have := congrArg un q
  rw [un_nI (by omega), show un (-1 : Int32) = 4294967295 from by decide] at this
  omega
theorem decA_0 (z k0 k1 p1 n k2 p3 n0 : Nat) (M : mm_M) (h : M.1 z 3 = 0) : f_X3_decryptWithAd z k0 k1 p1 n k2 p3 n0 M = (nI n, mm_cp M k1 p1 k2 p3 n) := by
  unfold f_X3_decryptWithAd
  rw [if_neg (fun q => q h)]
theorem decA_1 (z k0 k1 p1 n k2 p3 n0 : Nat) (M : mm_M) (h : ¬ M.1 z 3 = 0) : f_X3_decryptWithAd z k0 k1 p1 n k2 p3 n0 M = f_X3_decryptWithAd_B1 z n (f_X0_decrypt k1 p1 n k2 p3 (f_X0_associate k0 n0 (f_X0_begin (z + 1) (M.2 z 4) M))).2 (f_X0_decrypt k1 p1 n k2 p3 (f_X0_associate k0 n0 (f_X0_begin (z + 1) (M.2 z 4) M))).1 := by
  unfold f_X3_decryptWithAd
  rw [if_pos h]
theorem decA_B1 (z n : Nat) (M : mm_M) (v : Int32) (h : ¬ v = 0) : f_X3_decryptWithAd_B1 z n M v = (nI n - 16, mm_wl M z 4 (M.2 z 4 + 1)) := by
  unfold f_X3_decryptWithAd_B1
  rw [if_pos h]
theorem decA_B0 (z n : Nat) (M : mm_M) (v : Int32) (h : v = 0) : f_X3_decryptWithAd_B1 z n M v = (-1, M) := by
  unfold f_X3_decryptWithAd_B1
  rw [if_neg (fun q => q h)]
theorem decH_eq (y k1 p1 n k2 p3 : Nat) (M : mm_M) : f_X10_decryptAndHash y k1 p1 n k2 p3 M = f_X10_decryptAndHash_B1 y k1 p1 n (f_X3_decryptWithAd (y + 3) (y + 1) k1 p1 n k2 p3 32 M).2 (f_X3_decryptWithAd (y + 3) (y + 1) k1 p1 n k2 p3 32 M).1 := by
  unfold f_X10_decryptAndHash
  rfl
theorem decH_B1 (y k1 p1 n : Nat) (M : mm_M) (v : Int32) (h : v = -1) : f_X10_decryptAndHash_B1 y k1 p1 n M v = (v, M) := by
  unfold f_X10_decryptAndHash_B1
  rw [if_pos h]
theorem decH_B0 (y k1 p1 n : Nat) (M : mm_M) (v : Int32) (h : ¬ v = -1) : f_X10_decryptAndHash_B1 y k1 p1 n M v = (v, f_X10_mixHash y k1 p1 n M) := by
  unfold f_X10_decryptAndHash_B1
  rw [if_neg h]
theorem e_decH (y p1 n k2 : Nat) (hy : 43 ≤ y) (hy2 : y + 5 < 173) (hk : k2 = 2 ∨ (41 < k2 ∧ k2 < 173 ∧ (k2 < y ∨ y + 5 < k2))) (hn : n < 50000) (M : mm_M) (S : sy) (hU : eU M) (h : e_sy M y S) : (syG S (fun j => M.1 1 (p1 + j)) n → (f_X10_decryptAndHash y 1 p1 n k2 0 M).1 = nI (syL S n) ∧ e_sy (f_X10_decryptAndHash y 1 p1 n k2 0 M).2 y (syD S (fun j => M.1 1 (p1 + j)) n) ∧ (∀ i, (f_X10_decryptAndHash y 1 p1 n k2 0 M).2.1 k2 i = if i < syL S n then syP S (fun j => M.1 1 (p1 + j)) i else M.1 k2 i)) ∧ (¬ syG S (fun j => M.1 1 (p1 + j)) n → (f_X10_decryptAndHash y 1 p1 n k2 0 M).1 = -1 ∧ e_sy (f_X10_decryptAndHash y 1 p1 n k2 0 M).2 y S ∧ (f_X10_decryptAndHash y 1 p1 n k2 0 M).2.1 k2 = M.1 k2) := by
  have h' := h
  obtain ⟨a, b, c, d, e⟩ := h
  rw [decH_eq]
  have fin : ∀ N : mm_M, ∀ L : List Nat, ∀ v : Int32, mm_fr L M N → (∀ q ∈ L, q < 173) → 1 ∉ L → v ≠ -1 → e_sy N y (syI S) → (∀ i, N.1 k2 i = if i < syL S n then syP S (fun j => M.1 1 (p1 + j)) i else M.1 k2 i) → e_sy (f_X10_decryptAndHash_B1 y 1 p1 n N v).2 y (syD S (fun j => M.1 1 (p1 + j)) n) ∧ (f_X10_decryptAndHash_B1 y 1 p1 n N v).1 = v ∧ (∀ i, (f_X10_decryptAndHash_B1 y 1 p1 n N v).2.1 k2 i = if i < syL S n then syP S (fun j => M.1 1 (p1 + j)) i else M.1 k2 i) := by
    intro N L v w hl h1 hv hs ho
    rw [decH_B0 y 1 p1 n N v hv]
    have m := e_mixHash y 1 p1 n hy (by decide) (by omega) N (syI S) (hU.fr w hl) hs
    have w2 := w_f_X10_mixHash y 1 p1 n N
    generalize f_X10_mixHash y 1 p1 n N = T at *
    rw [(w 1 h1).1] at m
    refine ⟨m, rfl, fun i => ?_⟩
    show T.1 k2 i = _
    rw [(w2 k2 (by simp <;> omega)).1]
    exact ho i
  by_cases c0 : S.2.2.2.1 = 0
  · have eL : syL S n = n := by unfold syL; rw [if_pos c0]
    have eI : syI S = S := by unfold syI; rw [if_pos c0]
    have gd : syG S (fun j => M.1 1 (p1 + j)) n := Or.inl c0
    rw [decA_0 (y + 3) (y + 1) 1 p1 n k2 0 32 M (by rw [d]; exact c0)]
    have w : mm_fr [k2] M (mm_cp M 1 p1 k2 0 n) := mm_fr_cp (by simp) (mm_fr_refl _ _)
    obtain ⟨r1, r2, r3⟩ := fin (mm_cp M 1 p1 k2 0 n) [k2] (nI n) w (by simp <;> omega) (by simp <;> omega) (nI_neg1 n (by omega)) (by rw [eI]; exact h'.fr w (by simp <;> omega) (by simp <;> omega) (by simp <;> omega) (by simp <;> omega)) (fun i => by
      rw [eL, rd_cp]
      by_cases ci : i < n
      · rw [if_pos ⟨rfl, by omega, by omega⟩, if_pos ci, Nat.sub_zero]
        unfold syP
        rw [if_pos c0]
      · rw [if_neg (fun q => by omega), if_neg ci])
    exact ⟨fun _ => ⟨by rw [eL]; exact r2, r1, r3⟩, fun q => absurd gd q⟩
  · have eL : syL S n = n - 16 := by unfold syL; rw [if_neg c0]
    rw [decA_1 (y + 3) (y + 1) 1 p1 n k2 0 32 M (by rw [d]; exact c0), e]
    have kc := c c0
    have w : mm_fr [34, 35, 33, 37, 40, 38, 39, 31, 41, k2] M (f_X0_decrypt 1 p1 n k2 0 (f_X0_associate (y + 1) 32 (f_X0_begin (y + 3 + 1) S.2.2.2.2 M))).2 := (w_f_X0_decrypt _ _ _ _ _ _).m.on (by simp) ((w_f_X0_associate _ _ _).on (by simp) ((w_f_X0_begin _ _ _).on (by simp) (mm_fr_refl _ _)))
    by_cases h16 : 16 ≤ n
    · obtain ⟨o1, o2⟩ := e_open (y + 4) (y + 1) 32 1 p1 n k2 0 S.2.2.2.2 M (by omega) (by omega) (by omega) (by omega) (by omega) (by decide) (by omega) h16
      rw [show y + 4 = y + 3 + 1 from rfl] at o1 o2
      have okc : aeOK (M.1 (y + 3 + 1)) S.2.2.2.2 (fun j => ub (M.1 (y + 1) j)) 32 (fun j => M.1 1 (p1 + j)) n ↔ aeOK S.2.2.1 S.2.2.2.2 (fun j => ub (S.1 j)) 32 (fun j => M.1 1 (p1 + j)) n := aeOK_congr kc (fun j hj => by rw [a j hj]) h16 (fun _ _ => rfl)
      generalize f_X0_decrypt 1 p1 n k2 0 (f_X0_associate (y + 1) 32 (f_X0_begin (y + 3 + 1) S.2.2.2.2 M)) = X at *
      obtain ⟨v, N⟩ := X
      dsimp only at *
      have e34 : N.2 (y + 3) 4 = S.2.2.2.2 := by rw [(w (y + 3) (by simp <;> omega)).2, e]
      have e33 : N.1 (y + 3) 3 = S.2.2.2.1 := by rw [(w (y + 3) (by simp <;> omega)).1, d]
      refine ⟨fun g => ?_, fun g => ?_⟩
      · have gd : aeOK S.2.2.1 S.2.2.2.2 (fun j => ub (S.1 j)) 32 (fun j => M.1 1 (p1 + j)) n := by
          rcases g with q | ⟨-, q⟩
          · exact absurd q c0
          · exact q
        obtain ⟨v1, v2⟩ := o1 (okc.mpr gd)
        subst v1
        rw [decA_B1 (y + 3) n N 1 (by decide), nI_sub16 n h16 (by omega)]
        have w2 : mm_fr [34, 35, 33, 37, 40, 38, 39, 31, 41, k2, y + 3] M (mm_wl N (y + 3) 4 (N.2 (y + 3) 4 + 1)) := mm_fr_wl (by simp) (w.on (by simp <;> omega) (mm_fr_refl _ _))
        obtain ⟨r1, r2, r3⟩ := fin (mm_wl N (y + 3) 4 (N.2 (y + 3) 4 + 1)) _ (nI (n - 16)) w2 (by simp <;> omega) (by simp <;> omega) (nI_neg1 _ (by omega)) (by
          refine ⟨?_, ?_, ?_, ?_, ?_⟩
          · rw [rd_wl1, (w _ (by simp <;> omega)).1]; exact a
          · rw [rd_wl1, (w _ (by simp <;> omega)).1]; exact b
          · rw [rd_wl1, (w _ (by simp <;> omega)).1]; exact c
          · rw [rd_wl1]; exact e33
          · rw [rd_wlS, e34]; unfold syI; rw [if_neg c0]) (fun i => by
          rw [rd_wl1, v2 i, eL]
          by_cases ci : i < n - 16
          · rw [if_pos (by omega), if_pos ci, Nat.sub_zero]
            unfold syP
            rw [if_neg c0]
            exact aeX_congr kc rfl
          · rw [if_neg (by omega), if_neg ci])
        exact ⟨by rw [eL]; exact r2, r1, r3⟩
      · obtain ⟨v1, v2⟩ := o2 (fun q => g (Or.inr ⟨h16, okc.mp q⟩))
        subst v1
        rw [decA_B0 (y + 3) n N 0 rfl, decH_B1 y 1 p1 n N (-1) rfl]
        exact ⟨rfl, h'.fr w (by simp <;> omega) (by simp <;> omega) (by simp <;> omega) (by simp <;> omega), v2⟩
    · have gd : ¬ syG S (fun j => M.1 1 (p1 + j)) n := by
        rintro (q | ⟨q, -⟩)
        · exact c0 q
        · exact h16 q
      refine ⟨fun g => absurd g gd, fun _ => ?_⟩
      rw [dec_lo 1 p1 n k2 0 _ (by omega)] at w ⊢
      have w : mm_fr [34, 35, 33, 37, 40, 38, 39, 31, 41] M (f_X0_associate (y + 1) 32 (f_X0_begin (y + 3 + 1) S.2.2.2.2 M)) := (w_f_X0_associate _ _ _).on (by simp) ((w_f_X0_begin _ _ _).on (by simp) (mm_fr_refl _ _))
      generalize f_X0_associate (y + 1) 32 (f_X0_begin (y + 3 + 1) S.2.2.2.2 M) = N at *
      rw [decA_B0 (y + 3) n N 0 rfl, decH_B1 y 1 p1 n N (-1) rfl]
      exact ⟨rfl, h'.fr w (by simp <;> omega) (by simp <;> omega) (by simp <;> omega) (by simp <;> omega), (w k2 (by simp <;> omega)).1⟩
theorem e_copyS (y y2 : Nat) (h1 : y + 5 < y2 ∨ y2 + 5 < y) (M : mm_M) (S : sy) (h : e_sy M y2 S) : e_sy (f_X10_copyFrom y y2 M) y S := by
  obtain ⟨a, b, c, d, e⟩ := h
  unfold f_X10_copyFrom f_X3_copyFrom
  try dsimp only
  have r1 : ∀ j, j < 32 → (mm_cp M (y2 + 1) 0 (y + 1) 0 32).1 (y + 1) j = M.1 (y2 + 1) j := fun j hj => by
    have := rd_cpS M (y2 + 1) 0 (y + 1) 0 32 hj
    simp only [Nat.zero_add] at this
    exact this
  have w1 : mm_fr [y + 1] M (mm_cp M (y2 + 1) 0 (y + 1) 0 32) := mm_fr_cp (by simp) (mm_fr_refl _ _)
  generalize mm_cp M (y2 + 1) 0 (y + 1) 0 32 = M1 at *
  have r2 : ∀ j, j < 32 → (mm_cp M1 (y2 + 2) 0 (y + 2) 0 32).1 (y + 2) j = M1.1 (y2 + 2) j := fun j hj => by
    have := rd_cpS M1 (y2 + 2) 0 (y + 2) 0 32 hj
    simp only [Nat.zero_add] at this
    exact this
  have w2 : mm_fr [y + 2] M1 (mm_cp M1 (y2 + 2) 0 (y + 2) 0 32) := mm_fr_cp (by simp) (mm_fr_refl _ _)
  generalize mm_cp M1 (y2 + 2) 0 (y + 2) 0 32 = M2 at *
  have r3 : ∀ j, j < 32 → (mm_cp M2 (y2 + 3 + 1) 0 (y + 3 + 1) 0 32).1 (y + 4) j = M2.1 (y2 + 4) j := fun j hj => by
    have := rd_cpS M2 (y2 + 3 + 1) 0 (y + 3 + 1) 0 32 hj
    simp only [Nat.zero_add] at this
    exact this
  have w3 : mm_fr [y + 3 + 1] M2 (mm_cp M2 (y2 + 3 + 1) 0 (y + 3 + 1) 0 32) := mm_fr_cp (by simp) (mm_fr_refl _ _)
  generalize mm_cp M2 (y2 + 3 + 1) 0 (y + 3 + 1) 0 32 = M3 at *
  have w4 : mm_fr [y + 3] M3 (mm_wl (mm_w M3 (y + 3) 3 (M3.1 (y2 + 3) 3)) (y + 3) 4 ((mm_w M3 (y + 3) 3 (M3.1 (y2 + 3) 3)).2 (y2 + 3) 4)) := mm_fr_wl (by simp) (mm_fr_w (by simp) (mm_fr_refl _ _))
  refine ⟨?_, ?_, ?_, ?_, ?_⟩
  · intro j hj
    rw [(w4 _ (by simp <;> omega)).1, (w3 _ (by simp <;> omega)).1, (w2 _ (by simp <;> omega)).1, r1 j hj]; exact a j hj
  · intro j hj
    rw [(w4 _ (by simp <;> omega)).1, (w3 _ (by simp <;> omega)).1, r2 j hj, (w1 _ (by simp <;> omega)).1]; exact b j hj
  · intro q j hj
    rw [(w4 _ (by simp <;> omega)).1, r3 j hj, (w2 _ (by simp <;> omega)).1, (w1 _ (by simp <;> omega)).1]; exact c q j hj
  · rw [rd_wl1, rd_wS, (w3 _ (by simp <;> omega)).1, (w2 _ (by simp <;> omega)).1, (w1 _ (by simp <;> omega)).1]; exact d
  · rw [rd_wlS, rd_w2, (w3 _ (by simp <;> omega)).2, (w2 _ (by simp <;> omega)).2, (w1 _ (by simp <;> omega)).2]; exact e
def spA (S : sy) : Nat → Int32 := hkA S.2.1 (fun _ => 0) 0
def spB (S : sy) : Nat → Int32 := hkB S.2.1 (fun _ => 0) 0
theorem e_split (y z1 z2 : Nat) (hy : 43 ≤ y) (h1 : 43 ≤ z1 ∧ z1 + 2 < 173) (h2 : 43 ≤ z2 ∧ z2 + 2 < 173) (h12 : z1 + 2 < z2 ∨ z2 + 2 < z1) (M : mm_M) (S : sy) (hU : eU M) (h : e_sy M y S) : (∀ j, j < 32 → (f_X10_split y z1 z2 M).1 (z1 + 1) j = spA S j) ∧ (∀ j, j < 32 → (f_X10_split y z1 z2 M).1 (z2 + 1) j = spB S j) ∧ (f_X10_split y z1 z2 M).1 z1 3 = 1 ∧ (f_X10_split y z1 z2 M).1 z2 3 = 1 ∧ (f_X10_split y z1 z2 M).2 z1 4 = 0 ∧ (f_X10_split y z1 z2 M).2 z2 4 = 0 := by
  obtain ⟨a, b, c, d, e⟩ := h
  unfold f_X10_split f_X3_useNewKey
  try dsimp only
  obtain ⟨g1, g2⟩ := e_hkdf (y + 2) 178 0 (z1 + 1) (z2 + 1) M hU.1 hU.2 (by decide) (by simp <;> omega) (by decide) (by simp <;> omega) (by simp <;> omega) (by omega)
  generalize f_X5_hkdf (y + 2) 178 0 (z1 + 1) (z2 + 1) M = N at *
  have w1 : mm_fr [z1] N (mm_wl (mm_w N z1 3 1) z1 4 0) := mm_fr_wl (by simp) (mm_fr_w (by simp) (mm_fr_refl _ _))
  have q1 : (mm_wl (mm_w N z1 3 1) z1 4 0).1 z1 3 = 1 := by rw [rd_wl1, rd_wS]
  have q2 : (mm_wl (mm_w N z1 3 1) z1 4 0).2 z1 4 = 0 := by rw [rd_wlS]
  generalize mm_wl (mm_w N z1 3 1) z1 4 0 = N1 at *
  have w2 : mm_fr [z2] N1 (mm_wl (mm_w N1 z2 3 1) z2 4 0) := mm_fr_wl (by simp) (mm_fr_w (by simp) (mm_fr_refl _ _))
  refine ⟨?_, ?_, ?_, ?_, ?_, ?_⟩
  · intro j hj
    rw [(w2 _ (by simp <;> omega)).1, (w1 _ (by simp <;> omega)).1, g1 j hj]
    exact congrFun (hkA_congr b (fun j hj => absurd hj (by omega))) j
  · intro j hj
    rw [(w2 _ (by simp <;> omega)).1, (w1 _ (by simp <;> omega)).1, g2 j hj]
    exact congrFun (hkB_congr b (fun j hj => absurd hj (by omega))) j
  · rw [(w2 _ (by simp <;> omega)).1]; exact q1
  · rw [rd_wl1, rd_wS]
  · rw [(w2 _ (by simp <;> omega)).2]; exact q2
  · rw [rd_wlS]
