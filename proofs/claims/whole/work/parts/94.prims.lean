/-! both sides' calls over the tape, the keys and the primitives -/
theorem key_eq (v : Int32) : f_X12_isKey v = f_X11_isKey v := by
  unfold f_X12_isKey f_X12_in f_X11_isKey
  by_cases c : v < 0
  · rw [if_pos c, if_pos c]
  · rw [if_neg c, if_neg c]
    obtain ⟨j, hj, rfl⟩ := nI_of c
    by_cases d : 8 ≤ j
    · rw [if_pos (show (7 : Int32) < nI j from (nI_ltI (a := 7) (by decide) hj).mpr (by omega)), if_pos (show (8 : Int32) ≤ nI j from (nI_leI (a := 8) (by decide) hj).mpr (by omega))]
    · rw [if_neg (show ¬ (7 : Int32) < nI j from fun q => by have := (nI_ltI (a := 7) (by decide) hj).mp q; omega), if_neg (show ¬ (8 : Int32) ≤ nI j from fun q => by have := (nI_leI (a := 8) (by decide) hj).mp q; omega)]
theorem ses_eq (v : Int32) : f_X12_in v 0 3 = f_X11_isSession v := by
  unfold f_X12_in f_X11_isSession
  by_cases c : v < 0
  · rw [if_pos c, if_pos c]
  · rw [if_neg c, if_neg c]
    obtain ⟨j, hj, rfl⟩ := nI_of c
    by_cases d : 4 ≤ j
    · rw [if_pos (show (3 : Int32) < nI j from (nI_ltI (a := 3) (by decide) hj).mpr (by omega)), if_pos (show (4 : Int32) ≤ nI j from (nI_leI (a := 4) (by decide) hj).mpr (by omega))]
    · rw [if_neg (show ¬ (3 : Int32) < nI j from fun q => by have := (nI_ltI (a := 3) (by decide) hj).mp q; omega), if_neg (show ¬ (4 : Int32) ≤ nI j from fun q => by have := (nI_leI (a := 4) (by decide) hj).mp q; omega)]
theorem tape_eq {M : mm_M} {ts : Nat} (h : M.1 0 1 = nI ts) (v : Int32) : f_X12_in v 0 (nI ts) = f_X11_isOnTape v M := by
  unfold f_X12_in f_X11_isOnTape
  rw [h]
theorem in_1 {n : Nat} (hn : n ≤ 1000) (v : Int32) : f_X12_in v 0 (nI n - 1) = if v < 0 then 0 else if nI n ≤ v then 0 else 1 := by
  unfold f_X12_in
  by_cases c : v < 0
  · rw [if_pos c, if_pos c]
  · rw [if_neg c, if_neg c]
    obtain ⟨j, hj, rfl⟩ := nI_of c
    cases n with
    | zero =>
      have h1 : nI 0 - 1 < nI j := by
        rw [Int32.lt_iff_toInt_lt, nI_toInt hj, show (nI 0 - 1).toInt = -1 from by decide]; omega
      rw [if_pos h1, if_pos ((nI_leI (by decide) hj).mpr (Nat.zero_le j))]
    | succ t =>
      rw [show nI (t + 1) - 1 = nI t from by rw [nI_succ, Int32.add_sub_cancel]]
      by_cases d : t < j
      · rw [if_pos ((nI_ltI (by omega) hj).mpr d), if_pos ((nI_leI (by omega) hj).mpr d)]
      · rw [if_neg (fun q => d ((nI_ltI (by omega) hj).mp q)), if_neg (fun q => d ((nI_leI (by omega) hj).mp q))]
theorem on32 {M : mm_M} {ts : Nat} (hts : ts ≤ 1000) (h : M.1 0 1 = nI ts) : ¬ f_X11_isOnTape 32 M = 0 ↔ 32 ≤ ts := by
  unfold f_X11_isOnTape
  rw [if_neg (by decide), h]
  by_cases c : ts < 32
  · rw [if_pos (show nI ts < 32 from (nI_ltI (b := 32) (by omega) (by decide)).mpr c)]
    exact ⟨fun q => absurd rfl q, fun q => by omega⟩
  · rw [if_neg (show ¬ nI ts < 32 from fun q => c ((nI_ltI (b := 32) (by omega) (by decide)).mp q))]
    exact ⟨fun _ => by omega, fun _ => by decide⟩
theorem rd_tells (k n : Nat) (hk : k ≠ 121) (G : mm_M) : (f_X12_tells k n G).1 = nI n ∧ (∀ i, i < n → (f_X12_tells k n G).2.1 121 i = G.1 k i) ∧ (f_X12_tells k n G).2.1 117 4 = G.1 117 4 ∧ (f_X12_tells k n G).2.1 117 5 = nI n := by
  refine ⟨rfl, fun i hi => ?_, ?_, ?_⟩
  · show (mm_w (f_X12_copy k 0 121 0 n G) 117 5 (nI n)).1 121 i = _
    rw [rd_wN _ _ _ _ (Or.inl (by decide)), copy_cp _ _ _ _ _ hk]
    have := rd_cpS G k 0 121 0 n hi
    simp only [Nat.zero_add] at this
    exact this
  · show (mm_w (f_X12_copy k 0 121 0 n G) 117 5 (nI n)).1 117 4 = _
    rw [rd_wN _ _ _ _ (Or.inr (by decide)), (w_f_X12_copy k 0 121 0 n G 117 (by decide)).1]
  · show (mm_w (f_X12_copy k 0 121 0 n G) 117 5 (nI n)).1 117 5 = _
    rw [rd_wS]
theorem rd_takes (ts : Nat) (G : mm_M) : (∀ i, i < ts → (f_X12_takes ts G).1 119 i = G.1 118 i) ∧ (f_X12_takes ts G).1 117 4 = nI 0 ∧ (f_X12_takes ts G).1 117 5 = G.1 117 5 := by
  refine ⟨fun i hi => ?_, ?_, ?_⟩
  · show (mm_w (f_X12_copy 118 0 119 0 ts G) 117 4 0).1 119 i = _
    rw [rd_wN _ _ _ _ (Or.inl (by decide)), copy_cp _ _ _ _ _ (by decide)]
    have := rd_cpS G 118 0 119 0 ts hi
    simp only [Nat.zero_add] at this
    exact this
  · show (mm_w (f_X12_copy 118 0 119 0 ts G) 117 4 0).1 117 4 = _
    rw [rd_wS]; rfl
  · show (mm_w (f_X12_copy 118 0 119 0 ts G) 117 4 0).1 117 5 = _
    rw [rd_wN _ _ _ _ (Or.inr (by decide)), (w_f_X12_copy 118 0 119 0 ts G 117 (by decide)).1]
theorem tell_1 (v : Int32) (M : mm_M) (h : ¬ v = -1) : f_X11_tell v M = (v, mm_w M 0 3 v) := by
  unfold f_X11_tell
  rw [if_neg h]
theorem tell_0 (M : mm_M) : f_X11_tell (-1) M = (-1, M) := by
  unfold f_X11_tell
  rw [if_pos rfl]
/-- a call that touches no session -/
theorem pr_fin2 {M M1 M2 : mm_M} {ts rs ts' rs' : Nat} (h : pubR M ts rs) {L1 L2 : List Nat} (w1 : mm_fr L1 M M1) (l1 : ∀ a ∈ L1, a < 49) (w2 : mm_fr L2 M1 M2) (l2 : ∀ a ∈ L2, 117 ≤ a ∧ a < 157 ∧ a ≠ 123 ∧ a ≠ 124) (ht : ts' ≤ 1000) (hr : rs' ≤ 1000) (h1 : M1.1 0 1 = nI ts') (h2 : M2.1 117 4 = nI ts') (h3 : M1.1 0 3 = nI rs') (h4 : M2.1 117 5 = nI rs') (h5 : ∀ j, j < ts' → M2.1 118 j = M1.1 1 j) (h6 : ∀ j, j < rs' → M2.1 121 j = M1.1 2 j) (h7 : ∀ k, k < 8 → ∀ j, j < 32 → M2.1 122 (32 * k + j) = M1.1 (4 + k) j) (hz : z46 M2) : pubR M2 ts' rs' := by
  have lo : ∀ k, k < 117 → M2.1 k = M1.1 k := fun k q => (w2 k (fun z => by have := l2 _ z; omega)).1
  exact ⟨⟨ht, hr⟩, ⟨by rw [lo 0 (by omega)]; exact h1, h2, by rw [lo 0 (by omega)]; exact h3, h4⟩, fun j hj => by rw [lo 1 (by omega)]; exact h5 j hj, fun j hj => by rw [lo 2 (by omega)]; exact h6 j hj, fun k hk j hj => by rw [lo (4 + k) (by omega)]; exact h7 k hk j hj, pub_tab h w1 (fun a q => by have := l1 a q; omega) w2 (fun a q => by have := l2 a q; omega), ⟨(h.2.2.2.2.2.2.1.1.fr w1 (fun q => by have := l1 _ q; omega) (fun q => by have := l1 _ q; omega)).fr w2 (fun q => by have := l2 _ q; omega) (fun q => by have := l2 _ q; omega), hz⟩, pub_ses h w1 l1 w2 (fun a q => by have := l2 a q; omega)⟩
theorem z46.fr {M N : mm_M} {L : List Nat} (h : z46 M) (w : mm_fr L M N) (hl : 146 ∉ L) : z46 N := fun j q1 q2 => by rw [(w 146 hl).1]; exact h j q1 q2
theorem fL_s (v : Int32) (q : Nat) (σ : mm_M) (t : Nat) : f_X12_feedOne_L3 v q σ (t + 1) = mm_w (mm_w (f_X12_feedOne_L3 v q σ t) 118 (q + t) (mm_b (v >>> ((nI (24 - 8 * t)) &&& 31)))) 117 4 (nI (q + t + 1)) := rfl
theorem rd_fL (v : Int32) (q : Nat) (σ : mm_M) (j : Nat) : ∀ t, t ≤ 4 → (f_X12_feedOne_L3 v q σ t).1 118 j = if q ≤ j ∧ j < q + t then mm_b (v >>> ((nI (24 - 8 * (j - q))) &&& 31)) else σ.1 118 j
  | 0, _ => by rw [if_neg (by omega)]; rfl
  | t + 1, h => by
    rw [fL_s, rd_wN _ _ _ _ (Or.inl (by decide)), rd_w, rd_fL v q σ j t (by omega)]
    by_cases e : j = q + t
    · rw [if_pos ⟨rfl, e⟩, if_pos (by omega), show j - q = t from by omega]
    · rw [if_neg (fun z => e z.2)]
      by_cases c : q ≤ j ∧ j < q + t
      · rw [if_pos c, if_pos (by omega)]
      · rw [if_neg c, if_neg (by omega)]
theorem feed1 (v : Int32) (q : Nat) (A B : mm_M) (h : ∀ j, j < q → B.1 118 j = A.1 1 j) : (∀ j, j < q + 4 → (f_X12_feedOne v q B).1 118 j = (f_X1_storeBig v 1 q A).1 1 j) ∧ (f_X12_feedOne v q B).1 117 4 = nI (q + 4) ∧ (f_X12_feedOne v q B).1 117 5 = B.1 117 5 := by
  refine ⟨fun j hj => ?_, ?_, ?_⟩
  · show (f_X12_feedOne_L3 v q B 4).1 118 j = _
    rw [rd_fL v q B j 4 (by decide), rd_storeB]
    by_cases c : q ≤ j ∧ j < q + 4
    · rw [if_pos c]
      rcases (show j = q ∨ j = q + 1 ∨ j = q + 2 ∨ j = q + 3 by omega) with e | e | e | e
      · rw [if_pos e, e, Nat.sub_self, b_sr _ _ (by omega)]; rfl
      · rw [if_neg (by omega), if_pos e, e, show q + 1 - q = 1 from by omega, b_sr _ _ (by omega)]; rfl
      · rw [if_neg (by omega), if_neg (by omega), if_pos e, e, show q + 2 - q = 2 from by omega, b_sr _ _ (by omega)]; rfl
      · rw [if_neg (by omega), if_neg (by omega), if_neg (by omega), if_pos e, e, show q + 3 - q = 3 from by omega, show nI (24 - 8 * 3) &&& 31 = 0 from by decide, Int32.shiftRight_zero]
    · rw [if_neg c, if_neg (by omega), if_neg (by omega), if_neg (by omega), if_neg (by omega)]
      exact h j (by omega)
  · show (f_X12_feedOne_L3 v q B (3 + 1)).1 117 4 = _
    rw [fL_s, rd_wS]
  · show (f_X12_feedOne_L3 v q B (3 + 1)).1 117 5 = _
    rw [fL_s, fL_s, fL_s, fL_s, rd_wN _ _ _ _ (Or.inr (by decide)), rd_wN _ _ _ _ (Or.inl (by decide)), rd_wN _ _ _ _ (Or.inr (by decide)), rd_wN _ _ _ _ (Or.inl (by decide)), rd_wN _ _ _ _ (Or.inr (by decide)), rd_wN _ _ _ _ (Or.inl (by decide)), rd_wN _ _ _ _ (Or.inr (by decide)), rd_wN _ _ _ _ (Or.inl (by decide))]
    rfl
section PR
variable {M : mm_M} {ts rs : Nat}
theorem p_feed (h : pubR M ts rs) (v1 v2 v3 v4 v5 : Int32) : simR (f_X11_feed v1 v2 v3 v4 v5 ts M) (f_X12_feed v1 v2 v3 v4 v5 ts (f_X11_feed v1 v2 v3 v4 v5 ts M).2) := by
  have h' := h
  obtain ⟨⟨ht, hr⟩, ⟨e1, e2, e3, e4⟩, hta, hre, hke, hta2, ⟨hT, hz⟩, hs⟩ := h
  by_cases c : ts ≤ 980
  · have w1 := (w_f_X11_feed v1 v2 v3 v4 v5 ts M).m
    have eA : f_X11_feed v1 v2 v3 v4 v5 ts M = (nI (ts + 20), mm_w (f_X1_storeBig v5 1 (ts + 16) (f_X1_storeBig v4 1 (ts + 12) (f_X1_storeBig v3 1 (ts + 8) (f_X1_storeBig v2 1 (ts + 4) (f_X1_storeBig v1 1 ts M))))) 0 1 (nI (ts + 20))) := by
      unfold f_X11_feed
      rw [if_pos c]
    rw [eA] at w1 ⊢
    dsimp only at *
    have g0 : ∀ j, j < ts → (mm_w (f_X1_storeBig v5 1 (ts + 16) (f_X1_storeBig v4 1 (ts + 12) (f_X1_storeBig v3 1 (ts + 8) (f_X1_storeBig v2 1 (ts + 4) (f_X1_storeBig v1 1 ts M))))) 0 1 (nI (ts + 20))).1 118 j = M.1 1 j := fun j hj => by rw [(w1 118 (by decide)).1]; exact hta j hj
    have r1 : (mm_w (f_X1_storeBig v5 1 (ts + 16) (f_X1_storeBig v4 1 (ts + 12) (f_X1_storeBig v3 1 (ts + 8) (f_X1_storeBig v2 1 (ts + 4) (f_X1_storeBig v1 1 ts M))))) 0 1 (nI (ts + 20))).1 1 = (f_X1_storeBig v5 1 (ts + 16) (f_X1_storeBig v4 1 (ts + 12) (f_X1_storeBig v3 1 (ts + 8) (f_X1_storeBig v2 1 (ts + 4) (f_X1_storeBig v1 1 ts M))))).1 1 := (mm_fr_w (L := [0]) (by simp) (mm_fr_refl _ _) 1 (by decide)).1
    have r0 : (mm_w (f_X1_storeBig v5 1 (ts + 16) (f_X1_storeBig v4 1 (ts + 12) (f_X1_storeBig v3 1 (ts + 8) (f_X1_storeBig v2 1 (ts + 4) (f_X1_storeBig v1 1 ts M))))) 0 1 (nI (ts + 20))).1 0 1 = nI (ts + 20) := rd_wS _ _ _ _
    have r3 : (mm_w (f_X1_storeBig v5 1 (ts + 16) (f_X1_storeBig v4 1 (ts + 12) (f_X1_storeBig v3 1 (ts + 8) (f_X1_storeBig v2 1 (ts + 4) (f_X1_storeBig v1 1 ts M))))) 0 1 (nI (ts + 20))).1 0 3 = nI rs := by
      rw [rd_wN _ _ _ _ (Or.inr (by decide)), (w_f_X1_storeBig _ _ _ _ 0 (by decide)).1, (w_f_X1_storeBig _ _ _ _ 0 (by decide)).1, (w_f_X1_storeBig _ _ _ _ 0 (by decide)).1, (w_f_X1_storeBig _ _ _ _ 0 (by decide)).1, (w_f_X1_storeBig _ _ _ _ 0 (by decide)).1]
      exact e3
    generalize mm_w (f_X1_storeBig v5 1 (ts + 16) (f_X1_storeBig v4 1 (ts + 12) (f_X1_storeBig v3 1 (ts + 8) (f_X1_storeBig v2 1 (ts + 4) (f_X1_storeBig v1 1 ts M))))) 0 1 (nI (ts + 20)) = M1 at *
    obtain ⟨a1, b1, c1⟩ := feed1 v1 ts M M1 g0
    obtain ⟨a2, b2, c2⟩ := feed1 v2 (ts + 4) _ _ a1
    obtain ⟨a3, b3, c3⟩ := feed1 v3 (ts + 8) _ _ a2
    obtain ⟨a4, b4, c4⟩ := feed1 v4 (ts + 12) _ _ a3
    obtain ⟨a5, b5, c5⟩ := feed1 v5 (ts + 16) _ _ a4
    have w2 := (w_f_X12_feed v1 v2 v3 v4 v5 ts M1).m
    have eB : f_X12_feed v1 v2 v3 v4 v5 ts M1 = ((f_X12_feedOne v5 (ts + 16) (f_X12_feedOne v4 (ts + 12) (f_X12_feedOne v3 (ts + 8) (f_X12_feedOne v2 (ts + 4) (f_X12_feedOne v1 ts M1))))).1 117 4, f_X12_feedOne v5 (ts + 16) (f_X12_feedOne v4 (ts + 12) (f_X12_feedOne v3 (ts + 8) (f_X12_feedOne v2 (ts + 4) (f_X12_feedOne v1 ts M1))))) := by
      unfold f_X12_feed
      rw [if_pos (by omega)]
    rw [eB] at w2 ⊢
    dsimp only at *
    refine ⟨b5.symm, ts + 20, rs, pr_fin2 h' w1 (by simp) w2 (by simp) (by omega) hr r0 b5 r3 ?_ (fun j hj => ?_) (fun j hj => ?_) (fun k hk j hj => ?_) ((hz.fr w1 (by decide)).fr w2 (by decide))⟩
    · rw [c5, c4, c3, c2, c1, (w1 117 (by decide)).1]; exact e4
    · rw [a5 j hj, r1]
    · rw [(w2 121 (by decide)).1, (w1 121 (by decide)).1, (w1 2 (by decide)).1]; exact hre j hj
    · rw [(w2 122 (by decide)).1, (w1 122 (by decide)).1, (w1 (4 + k) (by simp <;> omega)).1]; exact hke k hk j hj
  · have eA : f_X11_feed v1 v2 v3 v4 v5 ts M = (-1, M) := by
      unfold f_X11_feed
      rw [if_neg c]
    have eB : f_X12_feed v1 v2 v3 v4 v5 ts M = (-1, M) := by
      unfold f_X12_feed
      rw [if_neg (by omega)]
    rw [eA]
    dsimp only
    rw [eB]
    exact ⟨rfl, ts, rs, h'⟩
theorem p_turn (h : pubR M ts rs) : simR (f_X11_turn rs M) (f_X12_turn rs (f_X11_turn rs M).2) := by
  have h' := h
  obtain ⟨⟨ht, hr⟩, ⟨e1, e2, e3, e4⟩, hta, hre, hke, hta2, ⟨hT, hz⟩, hs⟩ := h
  have w1 := (w_f_X11_turn rs M).m
  have eA : f_X11_turn rs M = (nI rs, mm_w (mm_cp M 2 0 1 0 rs) 0 1 (nI rs)) := rfl
  rw [eA] at w1 ⊢
  dsimp only at *
  have r0 : (mm_w (mm_cp M 2 0 1 0 rs) 0 1 (nI rs)).1 0 1 = nI rs := rd_wS _ _ _ _
  have r3 : (mm_w (mm_cp M 2 0 1 0 rs) 0 1 (nI rs)).1 0 3 = nI rs := by rw [rd_wN _ _ _ _ (Or.inr (by decide)), rd_cpN _ _ _ _ _ _ (Or.inl (by decide))]; exact e3
  have r1 : ∀ j, j < rs → (mm_w (mm_cp M 2 0 1 0 rs) 0 1 (nI rs)).1 1 j = M.1 2 j := fun j hj => by
    rw [rd_wN _ _ _ _ (Or.inl (by decide))]
    have := rd_cpS M 2 0 1 0 rs hj
    simp only [Nat.zero_add] at this
    exact this
  generalize mm_w (mm_cp M 2 0 1 0 rs) 0 1 (nI rs) = M1 at *
  have w2 := (w_f_X12_turn rs M1).m
  have eB : f_X12_turn rs M1 = ((mm_w (f_X12_copy 121 0 118 0 rs M1) 117 4 (nI rs)).1 117 4, mm_w (f_X12_copy 121 0 118 0 rs M1) 117 4 (nI rs)) := rfl
  rw [eB, copy_cp _ _ _ _ _ (by decide)] at w2 ⊢
  dsimp only at *
  refine ⟨by show nI rs = (mm_w (mm_cp M1 121 0 118 0 rs) 117 4 (nI rs)).1 117 4; rw [rd_wS], rs, rs, pr_fin2 h' w1 (by simp) w2 (by simp) hr hr r0 (rd_wS _ _ _ _) r3 ?_ (fun j hj => ?_) (fun j hj => ?_) (fun k hk j hj => ?_) ((hz.fr w1 (by decide)).fr w2 (by decide))⟩
  · rw [rd_wN _ _ _ _ (Or.inr (by decide)), rd_cpN _ _ _ _ _ _ (Or.inl (by decide)), (w1 117 (by decide)).1]; exact e4
  · rw [rd_wN _ _ _ _ (Or.inl (by decide))]
    have := rd_cpS M1 121 0 118 0 rs hj
    simp only [Nat.zero_add] at this
    rw [this, r1 j hj, (w1 121 (by decide)).1]; exact hre j hj
  · rw [(w2 121 (by decide)).1, (w1 121 (by decide)).1, (w1 2 (by decide)).1]; exact hre j hj
  · rw [(w2 122 (by decide)).1, (w1 122 (by decide)).1, (w1 (4 + k) (by simp <;> omega)).1]; exact hke k hk j hj
theorem p_patch (h : pubR M ts rs) (v1 v2 : Int32) : simR (f_X11_patch v1 v2 ts M) (f_X12_patch v1 v2 ts (f_X11_patch v1 v2 ts M).2) := by
  have h' := h
  obtain ⟨⟨ht, hr⟩, ⟨e1, e2, e3, e4⟩, hta, hre, hke, hta2, ⟨hT, hz⟩, hs⟩ := h
  have ci := in_1 ht v1
  by_cases c : ¬ v1 < 0 ∧ v1 < nI ts
  · have w1 := (w_f_X11_patch v1 v2 ts M).m
    have eA : f_X11_patch v1 v2 ts M = (1, mm_w M 1 v1.toNatClampNeg (mm_b v2)) := by
      unfold f_X11_patch
      rw [if_pos c]
    rw [eA] at w1 ⊢
    dsimp only at *
    rw [if_neg c.1, if_neg (Int32.not_le.mpr c.2)] at ci
    have r1 : ∀ j, (mm_w M 1 v1.toNatClampNeg (mm_b v2)).1 1 j = if j = v1.toNatClampNeg then mm_b v2 else M.1 1 j := fun j => by
      rw [rd_w]
      by_cases d : j = v1.toNatClampNeg
      · rw [if_pos ⟨rfl, d⟩, if_pos d]
      · rw [if_neg (fun q => d q.2), if_neg d]
    generalize mm_w M 1 v1.toNatClampNeg (mm_b v2) = M1 at *
    have w2 := (w_f_X12_patch v1 v2 ts M1).m
    have eB : f_X12_patch v1 v2 ts M1 = (1, mm_w M1 118 v1.toNatClampNeg (mm_b v2)) := by
      unfold f_X12_patch
      rw [if_pos (by rw [ci]; decide)]
    rw [eB] at w2 ⊢
    dsimp only at *
    refine ⟨rfl, ts, rs, pr_fin2 h' w1 (by simp) w2 (by simp) ht hr ?_ ?_ ?_ ?_ (fun j hj => ?_) (fun j hj => ?_) (fun k hk j hj => ?_) ((hz.fr w1 (by decide)).fr w2 (by decide))⟩
    · rw [(w1 0 (by decide)).1]; exact e1
    · rw [(w2 117 (by decide)).1, (w1 117 (by decide)).1]; exact e2
    · rw [(w1 0 (by decide)).1]; exact e3
    · rw [(w2 117 (by decide)).1, (w1 117 (by decide)).1]; exact e4
    · rw [r1 j, rd_w, (w1 118 (by decide)).1]
      by_cases d : j = v1.toNatClampNeg
      · rw [if_pos ⟨rfl, d⟩, if_pos d]
      · rw [if_neg (fun q => d q.2), if_neg d]; exact hta j hj
    · rw [(w2 121 (by decide)).1, (w1 121 (by decide)).1, (w1 2 (by decide)).1]; exact hre j hj
    · rw [(w2 122 (by decide)).1, (w1 122 (by decide)).1, (w1 (4 + k) (by simp <;> omega)).1]; exact hke k hk j hj
  · have eA : f_X11_patch v1 v2 ts M = (0, M) := by
      unfold f_X11_patch
      rw [if_neg c]
      by_cases d : v1 < 0
      · rw [if_pos d]
      · rw [if_neg d]
    have eB : f_X12_patch v1 v2 ts M = (0, M) := by
      unfold f_X12_patch
      have z : f_X12_in v1 0 (nI ts - 1) = 0 := by
        rw [ci]
        by_cases d : v1 < 0
        · rw [if_pos d]
        · rw [if_neg d, if_pos (Int32.not_lt.mp (fun q => c ⟨d, q⟩))]
      rw [if_neg (fun q => q z)]
    rw [eA]
    dsimp only
    rw [eB]
    exact ⟨rfl, ts, rs, h'⟩
theorem keys_up {M M1 M2 : mm_M} {q : Nat} {row : Nat → Int32} (hq : q < 8) (hke : ∀ k, k < 8 → ∀ j, j < 32 → M.1 122 (32 * k + j) = M.1 (4 + k) j) (h1 : ∀ j, j < 32 → M1.1 (4 + q) j = row j) (h2 : ∀ j, j < 32 → M2.1 122 (32 * q + j) = row j) (w1 : ∀ k, k < 8 → k ≠ q → M1.1 (4 + k) = M.1 (4 + k)) (w2 : ∀ i, (i < 32 * q ∨ 32 * q + 32 ≤ i) → M2.1 122 i = M.1 122 i) : ∀ k, k < 8 → ∀ j, j < 32 → M2.1 122 (32 * k + j) = M1.1 (4 + k) j := fun k hk j hj => by
  by_cases c : k = q
  · subst c
    rw [h1 j hj, h2 j hj]
  · rw [w1 k hk c, w2 _ (by omega)]; exact hke k hk j hj
theorem p_key (h : pubR M ts rs) (v1 : Int32) : simR (f_X11_key v1 ts M) (f_X12_key v1 ts (f_X11_key v1 ts M).2) := by
  have h' := h
  obtain ⟨⟨ht, hr⟩, ⟨e1, e2, e3, e4⟩, hta, hre, hke, hta2, ⟨hT, hz⟩, hs⟩ := h
  by_cases c : ¬ f_X11_isKey v1 = 0 ∧ ¬ f_X11_isOnTape 32 M = 0
  · have c32 := (on32 ht e1).mp c.2
    have hq := (g_isKey c.1).2
    have w1 := (w_f_X11_key v1 ts M).m
    have eA : f_X11_key v1 ts M = (1, mm_w (mm_cp M 1 0 (4 + v1.toNatClampNeg) 0 32) 0 1 0) := by
      unfold f_X11_key
      rw [if_pos c]
      rfl
    rw [eA] at w1 ⊢
    dsimp only at *
    obtain ⟨q, hqe⟩ : ∃ q, v1.toNatClampNeg = q := ⟨_, rfl⟩
    rw [hqe] at w1 hq ⊢
    have r0 : (mm_w (mm_cp M 1 0 (4 + q) 0 32) 0 1 0).1 0 1 = nI 0 := rd_wS _ _ _ _
    have r3 : (mm_w (mm_cp M 1 0 (4 + q) 0 32) 0 1 0).1 0 3 = nI rs := by rw [rd_wN _ _ _ _ (Or.inr (by decide)), rd_cpN _ _ _ _ _ _ (Or.inl (by omega))]; exact e3
    have r1 : ∀ j, j < 32 → (mm_w (mm_cp M 1 0 (4 + q) 0 32) 0 1 0).1 (4 + q) j = M.1 1 j := fun j hj => by
      rw [rd_wN _ _ _ _ (Or.inl (by omega))]
      have := rd_cpS M 1 0 (4 + q) 0 32 hj
      simp only [Nat.zero_add] at this
      exact this
    generalize mm_w (mm_cp M 1 0 (4 + q) 0 32) 0 1 0 = M1 at *
    obtain ⟨t1, t2, t3⟩ := rd_takes ts M1
    have wt := w_f_X12_takes ts M1
    have eB : f_X12_key v1 ts M1 = (1, f_X12_copy 119 0 122 (32 * q) 32 (f_X12_takes ts M1)) := by
      unfold f_X12_key
      rw [if_pos ⟨by rw [key_eq]; exact c.1, c32⟩, hqe]
    have w2 := (w_f_X12_key v1 ts M1).m
    rw [eB, copy_cp _ _ _ _ _ (by decide)] at w2 ⊢
    dsimp only at *
    have wc : mm_fr [122] (f_X12_takes ts M1) (mm_cp (f_X12_takes ts M1) 119 0 122 (32 * q) 32) := mm_fr_cp (by simp) (mm_fr_refl _ _)
    refine ⟨rfl, 0, rs, pr_fin2 h' w1 (by simp <;> omega) w2 (by simp) (by omega) hr r0 ?_ r3 ?_ (fun j hj => by omega) (fun j hj => ?_) (keys_up (row := M.1 1) hq hke r1 (fun j hj => ?_) (fun k hk hn => (w1 (4 + k) (by simp <;> omega)).1) (fun i hi => ?_)) ((hz.fr w1 (by simp <;> omega)).fr w2 (by decide))⟩
    · rw [(wc 117 (by decide)).1]; exact t2
    · rw [(wc 117 (by decide)).1, t3, (w1 117 (by simp <;> omega)).1]; exact e4
    · rw [(w2 121 (by decide)).1, (w1 121 (by simp <;> omega)).1, (w1 2 (by simp <;> omega)).1]; exact hre j hj
    · rw [rd_cpS _ _ _ _ _ _ hj, Nat.zero_add, t1 j (by omega), (w1 118 (by simp <;> omega)).1]; exact hta j (by omega)
    · rw [rd_cpN _ _ _ _ _ _ (Or.inr hi), (wt 122 (by decide)).1, (w1 122 (by simp <;> omega)).1]
  · have eA : f_X11_key v1 ts M = (0, M) := by
      unfold f_X11_key
      rw [if_neg c]
      by_cases d : f_X11_isKey v1 = 0
      · rw [if_pos d]
      · rw [if_neg d]
    have eB : f_X12_key v1 ts M = (0, M) := by
      unfold f_X12_key
      rw [if_neg (fun q => c ⟨by rw [← key_eq]; exact q.1, (on32 ht e1).mpr q.2⟩)]
      by_cases d : f_X12_isKey v1 = 0
      · rw [if_pos d]
      · rw [if_neg d]
    rw [eA]
    dsimp only
    rw [eB]
    exact ⟨rfl, ts, rs, h'⟩
theorem p_take (h : pubR M ts rs) (v1 : Int32) : simR (f_X11_take v1 rs M) (f_X12_take v1 rs (f_X11_take v1 rs M).2) := by
  have h' := h
  obtain ⟨⟨ht, hr⟩, ⟨e1, e2, e3, e4⟩, hta, hre, hke, hta2, ⟨hT, hz⟩, hs⟩ := h
  by_cases c : ¬ f_X11_isKey v1 = 0 ∧ 32 ≤ rs
  · have hq := (g_isKey c.1).2
    have w1 := (w_f_X11_take v1 rs M).m
    have eA : f_X11_take v1 rs M = (1, mm_cp M 2 0 (4 + v1.toNatClampNeg) 0 32) := by
      unfold f_X11_take
      rw [if_pos c]
    rw [eA] at w1 ⊢
    dsimp only at *
    obtain ⟨q, hqe⟩ : ∃ q, v1.toNatClampNeg = q := ⟨_, rfl⟩
    rw [hqe] at w1 hq ⊢
    have r1 : ∀ j, j < 32 → (mm_cp M 2 0 (4 + q) 0 32).1 (4 + q) j = M.1 2 j := fun j hj => by
      have := rd_cpS M 2 0 (4 + q) 0 32 hj
      simp only [Nat.zero_add] at this
      exact this
    generalize mm_cp M 2 0 (4 + q) 0 32 = M1 at *
    have eB : f_X12_take v1 rs M1 = (1, f_X12_copy 121 0 122 (32 * q) 32 M1) := by
      unfold f_X12_take
      rw [if_pos ⟨by rw [key_eq]; exact c.1, c.2⟩, hqe]
    have w2 := (w_f_X12_take v1 rs M1).m
    rw [eB, copy_cp _ _ _ _ _ (by decide)] at w2 ⊢
    dsimp only at *
    refine ⟨rfl, ts, rs, pr_fin2 h' w1 (by simp <;> omega) w2 (by simp) ht hr ?_ ?_ ?_ ?_ (fun j hj => ?_) (fun j hj => ?_) (keys_up (row := M.1 2) hq hke r1 (fun j hj => ?_) (fun k hk hn => (w1 (4 + k) (by simp <;> omega)).1) (fun i hi => ?_)) ((hz.fr w1 (by simp <;> omega)).fr w2 (by decide))⟩
    · rw [(w1 0 (by simp <;> omega)).1]; exact e1
    · rw [(w2 117 (by decide)).1, (w1 117 (by simp <;> omega)).1]; exact e2
    · rw [(w1 0 (by simp <;> omega)).1]; exact e3
    · rw [(w2 117 (by decide)).1, (w1 117 (by simp <;> omega)).1]; exact e4
    · rw [(w2 118 (by decide)).1, (w1 118 (by simp <;> omega)).1, (w1 1 (by simp <;> omega)).1]; exact hta j hj
    · rw [(w2 121 (by decide)).1, (w1 121 (by simp <;> omega)).1, (w1 2 (by simp <;> omega)).1]; exact hre j hj
    · rw [rd_cpS _ _ _ _ _ _ hj, Nat.zero_add, (w1 121 (by simp <;> omega)).1]; exact hre j (by omega)
    · rw [rd_cpN _ _ _ _ _ _ (Or.inr hi), (w1 122 (by simp <;> omega)).1]
  · have eA : f_X11_take v1 rs M = (0, M) := by
      unfold f_X11_take
      rw [if_neg c]
      by_cases d : f_X11_isKey v1 = 0
      · rw [if_pos d]
      · rw [if_neg d]
    have eB : f_X12_take v1 rs M = (0, M) := by
      unfold f_X12_take
      rw [if_neg (fun q => c ⟨by rw [← key_eq]; exact q.1, q.2⟩)]
      by_cases d : f_X12_isKey v1 = 0
      · rw [if_pos d]
      · rw [if_neg d]
    rw [eA]
    dsimp only
    rw [eB]
    exact ⟨rfl, ts, rs, h'⟩
/-- both sides have put a row of n bytes down -/
theorem p_row {M1 G : mm_M} {n ts' k : Nat} {o : Nat → Int32} (h : pubR M ts rs) {L1 L2 : List Nat} (w1 : mm_fr L1 M M1) (l1 : ∀ a ∈ L1, a < 49 ∧ (a < 4 ∨ 12 ≤ a) ∧ a ≠ 1) (w2 : mm_fr L2 M1 G) (l2 : ∀ a ∈ L2, 117 ≤ a ∧ a < 157 ∧ a ≠ 118 ∧ a ≠ 121 ∧ a ≠ 122 ∧ a ≠ 123 ∧ a ≠ 124) (hn : n ≤ 1000) (ht' : ts' ≤ ts) (h1 : M1.1 0 1 = nI ts') (h2 : G.1 117 4 = nI ts') (h3 : M1.1 0 3 = nI n) (hk : k ≠ 121) (h5 : ∀ j, j < n → M1.1 2 j = o j) (h6 : ∀ j, j < n → G.1 k j = o j) (hz : z46 G) : simR (nI n, M1) (f_X12_tells k n G) := by
  obtain ⟨t1, t2, t3, t4⟩ := rd_tells k n hk G
  have wt := (w_f_X12_tells k n G).m
  generalize f_X12_tells k n G = Y at *
  obtain ⟨⟨ht, hr⟩, ⟨e1, e2, e3, e4⟩, hta, hre, hke, hta2, ⟨hT, hz0⟩, hs⟩ := id h
  refine ⟨t1.symm, ts', n, pr_fin (L2 := 121 :: 117 :: L2) h w1 (fun a q => by have := l1 a q; omega) (wt.on (by simp) (w2.on (fun a q => by simp [q]) (mm_fr_refl _ _))) (fun a q => ?_) (by omega) hn h1 (by rw [t3]; exact h2) h3 t4 (fun j hj => ?_) (fun j hj => ?_) (hz.fr wt (by decide))⟩
  · rcases List.mem_cons.mp q with rfl | q
    · omega
    · rcases List.mem_cons.mp q with rfl | q
      · omega
      · have := l2 a q; omega
  · rw [(wt 118 (by decide)).1, (w2 118 (fun q => by have := l2 _ q; omega)).1, (w1 118 (fun q => by have := l1 _ q; omega)).1, (w1 1 (fun q => by have := l1 _ q; omega)).1]; exact hta j (by omega)
  · rw [t2 j hj, h6 j hj, h5 j hj]
theorem tr_eq (k : Nat) (M : mm_M) : f_X11_tellRow k M = (nI 32, mm_w (mm_cp M k 0 2 0 32) 0 3 32) := by
  unfold f_X11_tellRow
  dsimp only
  rw [tell_1 32 _ (by decide)]
  rfl
theorem crv_1 (q : Nat) (v2 : Int32) (M : mm_M) (hv : ¬ v2 = 0) : f_X11_curve_B2 v2 M q = f_X11_tellRow 15 (f_X4_publicKey (4 + q) M) := by
  unfold f_X11_curve_B2
  rw [if_neg hv]
theorem crv_0 (q : Nat) (v2 : Int32) (M : mm_M) (hv : v2 = 0) (h : ¬ f_X11_isOnTape 32 M = 0) : f_X11_curve_B2 v2 M q = f_X11_tellRow 15 (f_X4_multiply (4 + q) 1 (f_X11_emptyTape M)) := by
  unfold f_X11_curve_B2 f_X11_curve_B1
  rw [if_pos hv, if_pos h]
theorem crv_n (q : Nat) (v2 : Int32) (M : mm_M) (hv : v2 = 0) (h : ¬ ¬ f_X11_isOnTape 32 M = 0) : f_X11_curve_B2 v2 M q = (-2, M) := by
  unfold f_X11_curve_B2 f_X11_curve_B1
  rw [if_pos hv, if_neg h]
theorem p_curve (h : pubR M ts rs) (v1 v2 : Int32) : simR (f_X11_curve v1 v2 ts M) (f_X12_curve v1 v2 ts (f_X11_curve v1 v2 ts M).2) := by
  have h' := h
  obtain ⟨⟨ht, hr⟩, ⟨e1, e2, e3, e4⟩, hta, hre, hke, hta2, ⟨hT, hz⟩, hs⟩ := h
  by_cases c : ¬ f_X11_isKey v1 = 0
  · have hq := (g_isKey c).2
    have eA : f_X11_curve v1 v2 ts M = f_X11_curve_B2 v2 M v1.toNatClampNeg := by
      unfold f_X11_curve
      rw [if_pos c]
    have eB : ∀ N, f_X12_curve v1 v2 ts N = f_X12_curve_B3 v2 ts N v1.toNatClampNeg := fun N => by
      unfold f_X12_curve
      rw [if_pos (by rw [key_eq]; exact c)]
    have w1 := (w_f_X11_curve v1 v2 ts M).m
    rw [eA] at w1 ⊢
    rw [eB]
    generalize v1.toNatClampNeg = q at *
    have kq : ∀ j, j < 32 → M.1 122 (32 * q + j) = M.1 (4 + q) j := hke q hq
    by_cases d : v2 = 0
    · by_cases f : ¬ f_X11_isOnTape 32 M = 0
      · have c32 := (on32 ht e1).mp f
        rw [crv_0 q v2 M d f, tr_eq] at w1 ⊢
        dsimp only at *
        have we : mm_fr [0] M (f_X11_emptyTape M) := w_f_X11_emptyTape M
        have ee : (f_X11_emptyTape M).1 0 1 = nI 0 := rd_wS _ _ _ _
        generalize f_X11_emptyTape M = Me at *
        have g := e_curve (4 + q) 1 (by decide) Me
        have wm := w_f_X4_multiply (4 + q) 1 Me
        generalize f_X4_multiply (4 + q) 1 Me = Mm at *
        rw [(we (4 + q) (by simp <;> omega)).1, (we 1 (by decide)).1] at g
        have r0 : (mm_w (mm_cp Mm 15 0 2 0 32) 0 3 32).1 0 1 = nI 0 := by
          rw [rd_wN _ _ _ _ (Or.inr (by decide)), rd_cpN _ _ _ _ _ _ (Or.inl (by decide)), (wm 0 (by decide)).1]; exact ee
        have r3 : (mm_w (mm_cp Mm 15 0 2 0 32) 0 3 32).1 0 3 = nI 32 := rd_wS _ _ _ _
        have r2 : ∀ j, j < 32 → (mm_w (mm_cp Mm 15 0 2 0 32) 0 3 32).1 2 j = cvB (M.1 (4 + q)) (M.1 1) j := fun j hj => by
          rw [rd_wN _ _ _ _ (Or.inl (by decide))]
          have := rd_cpS Mm 15 0 2 0 32 hj
          simp only [Nat.zero_add] at this
          rw [this]; exact g j hj
        generalize mm_w (mm_cp Mm 15 0 2 0 32) 0 3 32 = M1 at *
        have eC : f_X12_curve_B3 v2 ts M1 q = f_X12_tells 145 32 (f_X12_curved 122 (32 * q) 119 0 (f_X12_takes ts M1)) := by
          unfold f_X12_curve_B3 f_X12_curve_B2 f_X12_curve_B1
          rw [if_neg (fun z => z d), if_pos c32, if_pos d]
        rw [eC]
        obtain ⟨t1, t2, t3⟩ := rd_takes ts M1
        have wt := w_f_X12_takes ts M1
        generalize f_X12_takes ts M1 = T at *
        have gr := r_curve 122 (32 * q) 119 0 (by decide) (by decide) T
        have wc := w_f_X12_curved 122 (32 * q) 119 0 T
        generalize f_X12_curved 122 (32 * q) 119 0 T = G at *
        have w2 : mm_fr [119, 117, 144, 132, 134, 133, 136, 140, 142, 135, 143, 139, 145, 141, 137, 138] M1 G := wc.on (by simp) (wt.on (by simp) (mm_fr_refl _ _))
        refine p_row (ts' := 0) h' w1 (by simp) w2 (by simp) (by decide) (by omega) r0 (by rw [(wc 117 (by decide)).1]; exact t2) r3 (by decide) r2 (fun j hj => ?_) ((hz.fr w1 (by decide)).fr w2 (by decide))
        rw [gr j hj]
        refine congrFun (cvB_congr (fun i hi => ?_) (fun i hi => ?_)) j
        · rw [(wt 122 (by decide)).1, (w1 122 (by decide)).1]; exact kq i hi
        · rw [Nat.zero_add, t1 i (by omega), (w1 118 (by decide)).1]; exact hta i (by omega)
      · rw [crv_n q v2 M d f]
        dsimp only
        have eC : f_X12_curve_B3 v2 ts M q = (-2, M) := by
          unfold f_X12_curve_B3 f_X12_curve_B2
          rw [if_neg (fun z => z d), if_neg (fun z => f ((on32 ht e1).mpr z))]
        rw [eC]
        exact ⟨rfl, ts, rs, h'⟩
    · rw [crv_1 q v2 M d, tr_eq] at w1 ⊢
      dsimp only at *
      have g := e_pub (4 + q) M hta2.1
      have wm := w_f_X4_publicKey (4 + q) M
      generalize f_X4_publicKey (4 + q) M = Mm at *
      have r0 : (mm_w (mm_cp Mm 15 0 2 0 32) 0 3 32).1 0 1 = nI ts := by
        rw [rd_wN _ _ _ _ (Or.inr (by decide)), rd_cpN _ _ _ _ _ _ (Or.inl (by decide)), (wm 0 (by decide)).1]; exact e1
      have r3 : (mm_w (mm_cp Mm 15 0 2 0 32) 0 3 32).1 0 3 = nI 32 := rd_wS _ _ _ _
      have r2 : ∀ j, j < 32 → (mm_w (mm_cp Mm 15 0 2 0 32) 0 3 32).1 2 j = cvB (M.1 (4 + q)) nine j := fun j hj => by
        rw [rd_wN _ _ _ _ (Or.inl (by decide))]
        have := rd_cpS Mm 15 0 2 0 32 hj
        simp only [Nat.zero_add] at this
        rw [this]; exact g j hj
      generalize mm_w (mm_cp Mm 15 0 2 0 32) 0 3 32 = M1 at *
      have eC : f_X12_curve_B3 v2 ts M1 q = f_X12_tells 145 32 (f_X12_curvedOwn 122 (32 * q) M1) := by
        unfold f_X12_curve_B3 f_X12_curve_B1
        rw [if_pos d, if_neg d]
      rw [eC]
      obtain ⟨gr, gz⟩ := r_own 122 (32 * q) M1 (by decide) (by decide) (hz.fr w1 (by decide))
      have w2 := w_f_X12_curvedOwn 122 (32 * q) M1
      generalize f_X12_curvedOwn 122 (32 * q) M1 = G at *
      refine p_row (ts' := ts) h' w1 (by simp) w2 (by simp) (by decide) (Nat.le_refl _) r0 (by rw [(w2 117 (by decide)).1, (w1 117 (by decide)).1]; exact e2) r3 (by decide) r2 (fun j hj => ?_) gz
      rw [gr j hj]
      refine congrFun (cvB_congr (fun i hi => ?_) (fun _ _ => rfl)) j
      rw [(w1 122 (by decide)).1]; exact kq i hi
  · have eA : f_X11_curve v1 v2 ts M = (-2, M) := by
      unfold f_X11_curve
      rw [if_neg c]
    have eB : f_X12_curve v1 v2 ts M = (-2, M) := by
      unfold f_X12_curve
      rw [if_neg (fun q => c (by rw [← key_eq]; exact q))]
    rw [eA]
    dsimp only
    rw [eB]
    exact ⟨rfl, ts, rs, h'⟩
theorem p_hash (h : pubR M ts rs) (v1 : Int32) : simR (f_X11_hash v1 ts M) (f_X12_hash v1 ts (f_X11_hash v1 ts M).2) := by
  have h' := h
  obtain ⟨⟨ht, hr⟩, ⟨e1, e2, e3, e4⟩, hta, hre, hke, hta2, ⟨hT, hz⟩, hs⟩ := h
  by_cases c : ¬ f_X11_isOnTape v1 M = 0
  · have hq := (g_isOnTape ht e1 c).2
    have w1 := (w_f_X11_hash v1 ts M).m
    have eA : f_X11_hash v1 ts M = f_X11_tell 32 (f_X8_finish 2 ((0 + v1.toNatClampNeg) % 64) (f_X8_absorb 1 0 v1.toNatClampNeg 0 (f_X8_reset (f_X11_emptyTape M)))) := by
      unfold f_X11_hash
      rw [if_pos c]
    have eB : ∀ N, f_X12_hash v1 ts N = f_X12_tells 129 32 (f_X12_sums (0 + v1.toNatClampNeg) (f_X12_putRow 119 0 v1.toNatClampNeg 0 (f_X12_start (f_X12_takes ts N)))) := fun N => by
      unfold f_X12_hash
      rw [if_pos (by rw [tape_eq e1]; exact c)]
    rw [eA, tell_1 32 _ (by decide)] at w1 ⊢
    rw [eB]
    dsimp only at *
    generalize v1.toNatClampNeg = q at *
    have we : mm_fr [0] M (f_X11_emptyTape M) := w_f_X11_emptyTape M
    have ee : (f_X11_emptyTape M).1 0 1 = nI 0 := rd_wS _ _ _ _
    generalize f_X11_emptyTape M = Me at *
    have hVe := hta2.1.fr we (by simp)
    obtain ⟨b1, b2⟩ := e_reset Me (fun j => ub (M.1 1 j)) hVe.1.1.2
    have wr := w_f_X8_reset Me
    generalize f_X8_reset Me = Mr at *
    have hVr := hVe.fr wr (by simp)
    obtain ⟨c1, c2⟩ := e_absorb 1 0 0 Mr _ hVr.1.1.1 b1 b2 (by decide) q (by omega) (fun i hi => by rw [Nat.zero_add, (wr 1 (by decide)).1, (we 1 (by decide)).1])
    rw [Nat.zero_mod] at c1 c2
    have wa := w_f_X8_absorb 1 0 q 0 Mr
    generalize f_X8_absorb 1 0 q 0 Mr = Ma at *
    have hVa := hVr.fr wa (by simp)
    have d1 := e_finish 2 (by decide) Ma _ (0 + q) hVa.1.1.1 c1 c2 (by omega)
    have wf := w_f_X8_finish 2 ((0 + q) % 64) Ma
    generalize f_X8_finish 2 ((0 + q) % 64) Ma = Mf at *
    have r0 : (mm_w Mf 0 3 32).1 0 1 = nI 0 := by rw [rd_wN _ _ _ _ (Or.inr (by decide)), (wf 0 (by decide)).1, (wa 0 (by decide)).1, (wr 0 (by decide)).1]; exact ee
    have r3 : (mm_w Mf 0 3 32).1 0 3 = nI 32 := rd_wS _ _ _ _
    have r2 : ∀ j, j < 32 → (mm_w Mf 0 3 32).1 2 j = shD (fun j => ub (M.1 1 j)) (0 + q) j := fun j hj => by rw [rd_wN _ _ _ _ (Or.inl (by decide))]; exact d1 j hj
    generalize mm_w Mf 0 3 32 = M1 at *
    obtain ⟨t1, t2, t3⟩ := rd_takes ts M1
    have wt := w_f_X12_takes ts M1
    generalize f_X12_takes ts M1 = T at *
    have ws := w_f_X12_start T
    have zs := sz_start T
    generalize f_X12_start T = Ts at *
    have rp := rd_putRow 119 0 0 Ts (by decide) q
    have wp := w_f_X12_putRow 119 0 q 0 Ts
    have zp := sz_putRow 119 0 q 0 Ts
    generalize f_X12_putRow 119 0 q 0 Ts = Tp at *
    have hTp := (((hT.fr w1 (by decide) (by decide)).fr wt (by decide) (by decide)).fr ws (by decide) (by decide)).fr wp (by decide) (by decide)
    have g := r_sums Tp (fun j => ub (M.1 1 j)) (0 + q) hTp.1 hTp.2 (by omega) (fun j hj => by
      rw [rp, if_pos (by omega), ub_b, (ws 119 (by decide)).1, Nat.zero_add, Nat.sub_zero, t1 j (by omega), (w1 118 (by decide)).1, hta j (by omega)])
    have wu := w_f_X12_sums (0 + q) Tp
    have zu := sz_sums (0 + q) Tp
    generalize f_X12_sums (0 + q) Tp = G at *
    have w2 : mm_fr [119, 117, 128, 129, 126, 127, 125] M1 G := wu.on (by simp) (wp.on (by simp) (ws.on (by simp) (wt.on (by simp) (mm_fr_refl _ _))))
    exact p_row (ts' := 0) h' w1 (by simp) w2 (by simp) (by decide) (by omega) r0 (by rw [zu 4 (by decide), zp 4 (by decide), zs 4 (by decide)]; exact t2) r3 (by decide) r2 g ((hz.fr w1 (by decide)).fr w2 (by decide))
  · have eA : f_X11_hash v1 ts M = (-2, M) := by
      unfold f_X11_hash
      rw [if_neg c]
    have eB : f_X12_hash v1 ts M = (-2, M) := by
      unfold f_X12_hash
      rw [if_neg (fun q => c (by rw [← tape_eq e1]; exact q))]
    rw [eA]
    dsimp only
    rw [eB]
    exact ⟨rfl, ts, rs, h'⟩
theorem p_mac (h : pubR M ts rs) (v1 v2 : Int32) : simR (f_X11_mac v1 v2 ts M) (f_X12_mac v1 v2 ts (f_X11_mac v1 v2 ts M).2) := by
  have h' := h
  obtain ⟨⟨ht, hr⟩, ⟨e1, e2, e3, e4⟩, hta, hre, hke, hta2, ⟨hT, hz⟩, hs⟩ := h
  by_cases c : ¬ f_X11_isKey v1 = 0 ∧ ¬ f_X11_isOnTape v2 M = 0
  · have hk := (g_isKey c.1).2
    have hq := (g_isOnTape ht e1 c.2).2
    have w1 := (w_f_X11_mac v1 v2 ts M).m
    have eA : f_X11_mac v1 v2 ts M = f_X11_tell 32 (f_X5_finish 2 ((0 + v2.toNatClampNeg) % 64) (f_X5_absorb 1 0 v2.toNatClampNeg 0 (f_X5_begin (4 + v1.toNatClampNeg) (f_X11_emptyTape M)))) := by
      unfold f_X11_mac
      rw [if_pos c]
    have eB : ∀ N, f_X12_mac v1 v2 ts N = f_X12_tells 129 32 (f_X12_macs 122 (32 * v1.toNatClampNeg) 119 0 v2.toNatClampNeg (f_X12_takes ts N)) := fun N => by
      unfold f_X12_mac
      rw [if_pos ⟨by rw [key_eq]; exact c.1, by rw [tape_eq e1]; exact c.2⟩]
    rw [eA, tell_1 32 _ (by decide)] at w1 ⊢
    rw [eB]
    dsimp only at *
    generalize v2.toNatClampNeg = q at *
    generalize v1.toNatClampNeg = k at *
    have we : mm_fr [0] M (f_X11_emptyTape M) := w_f_X11_emptyTape M
    have ee : (f_X11_emptyTape M).1 0 1 = nI 0 := rd_wS _ _ _ _
    generalize f_X11_emptyTape M = Me at *
    have hVe := hta2.1.fr we (by simp)
    have b1 := e_hbegin (4 + k) (by omega) Me (fun j => ub (M.1 1 j)) hVe.1.1
    rw [(we (4 + k) (by simp <;> omega)).1] at b1
    have wr := w_f_X5_begin (4 + k) Me
    generalize f_X5_begin (4 + k) Me = Mr at *
    have hVr := hVe.fr wr (by simp)
    have c1 := e_habsorb 1 0 0 q 0 Mr _ _ hVr.1.1 b1 (by decide) (by omega) rfl (fun i hi => by rw [Nat.zero_add, (wr 1 (by decide)).1, (we 1 (by decide)).1])
    have wa := w_f_X5_absorb 1 0 q 0 Mr
    generalize f_X5_absorb 1 0 q 0 Mr = Ma at *
    have hVa := hVr.fr wa (by simp)
    have d1 := e_hfinish 2 (0 + q) ((0 + q) % 64) (by decide) Ma _ _ hVa.1.1 c1 (by omega) rfl
    have wf := w_f_X5_finish 2 ((0 + q) % 64) Ma
    generalize f_X5_finish 2 ((0 + q) % 64) Ma = Mf at *
    have r0 : (mm_w Mf 0 3 32).1 0 1 = nI 0 := by rw [rd_wN _ _ _ _ (Or.inr (by decide)), (wf 0 (by decide)).1, (wa 0 (by decide)).1, (wr 0 (by decide)).1]; exact ee
    have r3 : (mm_w Mf 0 3 32).1 0 3 = nI 32 := rd_wS _ _ _ _
    have r2 : ∀ j, j < 32 → (mm_w Mf 0 3 32).1 2 j = hmD (M.1 (4 + k)) (fun j => ub (M.1 1 j)) (0 + q) j := fun j hj => by rw [rd_wN _ _ _ _ (Or.inl (by decide))]; exact d1 j hj
    generalize mm_w Mf 0 3 32 = M1 at *
    obtain ⟨t1, t2, t3⟩ := rd_takes ts M1
    have wt := w_f_X12_takes ts M1
    generalize f_X12_takes ts M1 = T at *
    have hTt := (hT.fr w1 (by decide) (by decide)).fr wt (by decide) (by decide)
    have g := r_macs 122 (32 * k) 119 0 q T hTt (by omega) (by decide) (by decide)
    have wu := w_f_X12_macs 122 (32 * k) 119 0 q T
    have zu := sz_macs 122 (32 * k) 119 0 q T
    generalize f_X12_macs 122 (32 * k) 119 0 q T = G at *
    have w2 : mm_fr [119, 117, 130, 128, 129, 126, 127, 125, 131] M1 G := wu.on (by simp) (wt.on (by simp) (mm_fr_refl _ _))
    refine p_row (ts' := 0) h' w1 (by simp) w2 (by simp) (by decide) (by omega) r0 (by rw [zu 4 (by decide)]; exact t2) r3 (by decide) r2 (fun j hj => ?_) ((hz.fr w1 (by decide)).fr w2 (by decide))
    rw [g j hj, Nat.zero_add]
    refine congrFun (hmD_congr (fun i hi => ?_) (fun i hi => ?_)) j
    · rw [(wt 122 (by decide)).1, (w1 122 (by decide)).1]; exact hke k hk i hi
    · rw [Nat.zero_add, t1 i (by omega), (w1 118 (by decide)).1, hta i (by omega)]
  · have eA : f_X11_mac v1 v2 ts M = (-2, M) := by
      unfold f_X11_mac
      rw [if_neg c]
      by_cases d : f_X11_isKey v1 = 0
      · rw [if_pos d]
      · rw [if_neg d]
    have eB : f_X12_mac v1 v2 ts M = (-2, M) := by
      unfold f_X12_mac
      rw [if_neg (fun q => c ⟨by rw [← key_eq]; exact q.1, by rw [← tape_eq e1]; exact q.2⟩)]
      by_cases d : f_X12_isKey v1 = 0
      · rw [if_pos d]
      · rw [if_neg d]
    rw [eA]
    dsimp only
    rw [eB]
    exact ⟨rfl, ts, rs, h'⟩
end PR
