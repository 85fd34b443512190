/-! Poly1305 in the reference: beginning, message, end -/
theorem r_b26 (σ : mm_M) : ∀ t, t ≤ 17 → ∀ j, j < t → (f_X12_tagBegins_L26 σ t).1 150 j = 0 ∧ (f_X12_tagBegins_L26 σ t).1 151 j = if j < 16 then σ.1 155 j &&& 255 else 0
  | 0, _, j, hj => absurd hj (by omega)
  | t + 1, ht, j, hj => by
    have ih := r_b26 σ t (by omega)
    have f := (w_f_X12_tagBegins_L26 σ t 155 (by decide)).1
    rw [f_X12_tagBegins_L26]
    generalize f_X12_tagBegins_L26 σ t = R at *
    unfold f_X12_tagBegins_B1
    have g : (mm_w R 150 t 0).1 155 t = σ.1 155 t := by rw [rd_wN _ _ _ _ (Or.inl (by decide)), f]
    by_cases c : 16 ≤ t
    · rw [if_pos c]
      by_cases e : j = t
      · subst e
        rw [rd_wN _ _ _ _ (Or.inl (by decide)), rd_wS, rd_wS, if_neg (by omega)]
        exact ⟨rfl, rfl⟩
      · rw [rd_wN _ _ _ _ (Or.inr e), rd_wN _ _ _ _ (Or.inr e), rd_wN _ _ _ _ (Or.inr e), rd_wN _ _ _ _ (Or.inr e)]
        exact ih j (by omega)
    · rw [if_neg c, g]
      by_cases e : j = t
      · subst e
        rw [rd_wN _ _ _ _ (Or.inl (by decide)), rd_wS, rd_wS, if_pos (by omega)]
        exact ⟨rfl, rfl⟩
      · rw [rd_wN _ _ _ _ (Or.inr e), rd_wN _ _ _ _ (Or.inr e), rd_wN _ _ _ _ (Or.inr e), rd_wN _ _ _ _ (Or.inr e)]
        exact ih j (by omega)
theorem r_b79 (σ : mm_M) (j : Nat) : ∀ t, (f_X12_tagBegins_L79 σ t).1 151 j = if j % 4 = 3 ∧ j < 4 * t then σ.1 151 j &&& 15 else σ.1 151 j
  | 0 => by rw [if_neg (by omega)]; rfl
  | t + 1 => by
    have ih := r_b79 σ j t
    rw [f_X12_tagBegins_L79]
    generalize f_X12_tagBegins_L79 σ t = R at *
    rw [rd_w]
    by_cases e : j = 3 + t * 4
    · rw [if_pos ⟨rfl, e⟩, if_pos (by omega), ← e, ih, if_neg (by omega)]
    · rw [if_neg (fun q => e q.2), ih]
      by_cases c : j % 4 = 3 ∧ j < 4 * t
      · rw [if_pos c, if_pos (by omega)]
      · rw [if_neg c, if_neg (by omega)]
theorem r_b107 (σ : mm_M) (j : Nat) : ∀ t, (f_X12_tagBegins_L107 σ t).1 151 j = if j % 4 = 0 ∧ 0 < j ∧ j < 4 + 4 * t then σ.1 151 j &&& 252 else σ.1 151 j
  | 0 => by rw [if_neg (by omega)]; rfl
  | t + 1 => by
    have ih := r_b107 σ j t
    rw [f_X12_tagBegins_L107]
    generalize f_X12_tagBegins_L107 σ t = R at *
    rw [rd_w]
    by_cases e : j = 4 + t * 4
    · rw [if_pos ⟨rfl, e⟩, if_pos (by omega), ← e, ih, if_neg (by omega)]
    · rw [if_neg (fun q => e q.2), ih]
      by_cases c : j % 4 = 0 ∧ 0 < j ∧ j < 4 + 4 * t
      · rw [if_pos c, if_pos (by omega)]
      · rw [if_neg c, if_neg (by omega)]
theorem un_252 (x : Int32) (h : un x < 256) : un (x &&& 252) = 4 * (un x / 4) := by
  rw [un_and, show un (252 : Int32) = 2 ^ 2 * (2 ^ 6 - 1) + (2 ^ 0 - 1) from by decide, and2 _ 0 2 6 (by decide)]
  omega
theorem r_begins (k p : Nat) (hk : k ≠ 147) (u : Int64) (M : mm_M) : pr_is (f_X12_tagBegins k p u M) (clv (ccS (fun i => M.1 k (p + i)) 0 u)) 0 ∧ ∀ j, j < 32 → (f_X12_tagBegins k p u M).1 155 j = ccS (fun i => M.1 k (p + i)) 0 u j := by
  unfold f_X12_tagBegins
  try dsimp only
  have a1 := r_cc k p hk 0 u M
  generalize f_X12_streamed k p 0 u M = M1 at *
  generalize ccS (fun i => M.1 k (p + i)) 0 u = s at *
  rw [copy_cp _ _ _ _ _ (show 149 ≠ 155 by decide)]
  have a2 : ∀ j, j < 32 → (mm_cp M1 149 0 155 0 32).1 155 j = s j := fun j hj => by
    have := rd_cpS M1 149 0 155 0 32 hj
    simp only [Nat.zero_add] at this
    rw [this]; exact a1 j (by omega)
  generalize mm_cp M1 149 0 155 0 32 = M2 at *
  have a3 := r_b26 M2 17 (by decide)
  have w3 := w_f_X12_tagBegins_L26 M2 17
  generalize f_X12_tagBegins_L26 M2 17 = M3 at *
  have a5 := fun j => r_b79 M3 j 4
  have w5 := w_f_X12_tagBegins_L79 M3 4
  generalize f_X12_tagBegins_L79 M3 4 = M5 at *
  have a7 := fun j => r_b107 M5 j 3
  have w7 := w_f_X12_tagBegins_L107 M5 3
  generalize f_X12_tagBegins_L107 M5 3 = M7 at *
  have e150 : ∀ j, j < 17 → M7.1 150 j = 0 := fun j hj => by
    rw [(w7 150 (by decide)).1, (w5 150 (by decide)).1]; exact (a3 j hj).1
  have e151 : ∀ j, j < 16 → un (M7.1 151 j) = clb s j := fun j hj => by
    have b := (a3 j (by omega)).2
    rw [if_pos hj, a2 j (by omega)] at b
    have b255 : un (M3.1 151 j) = ub (s j) := by rw [b, un_255]; rfl
    have l := ub_lt (s j)
    rw [a7, a5]
    unfold clb
    by_cases c3 : j % 4 = 3
    · rw [if_neg (by omega), if_pos (by omega), if_pos c3, un_mask _ 15 4 (by decide), b255]
    · rw [if_neg c3]
      rw [if_neg (show ¬ (j % 4 = 3 ∧ j < 4 * 4) by omega)]
      by_cases c0 : j % 4 = 0 ∧ 0 < j
      · rw [if_pos (by omega), if_pos c0, un_252 _ (by omega), b255]
      · rw [if_neg (by omega), if_neg c0, b255]
  have e16 : un (M7.1 151 16) = 0 := by
    have b := (a3 16 (by decide)).2
    rw [if_neg (by decide)] at b
    rw [a7, if_neg (by decide), a5, if_neg (by decide), b]
    rfl
  have cl : ∀ j, clb s j ≤ 255 := fun j => by
    have l := ub_lt (s j)
    unfold clb
    by_cases c3 : j % 4 = 3
    · rw [if_pos c3]; omega
    · rw [if_neg c3]
      by_cases c0 : j % 4 = 0 ∧ 0 < j
      · rw [if_pos c0]; omega
      · rw [if_neg c0]; omega
  refine ⟨⟨⟨fun j hj => ?_, ?_⟩, fun j hj => ?_, ?_, 0, ?_⟩, fun j hj => ?_⟩
  · by_cases e : j = 16
    · rw [e, e16]; decide
    · rw [e151 j (by omega)]; exact cl j
  · have t1 : ws w8 (uw M7 151) 17 = ws w8 (uw M7 151) 16 + uw M7 151 16 * w8 16 := rfl
    have t2 : uw M7 151 16 = 0 := by unfold uw; rw [e16]; rfl
    rw [t1, t2, Int.zero_mul, Int.add_zero]
    unfold clv
    exact ws_congr (fun i hi => by unfold uw; rw [e151 i hi])
  · rw [e150 j hj]; decide
  · rw [ws_zero (fun i hi => by unfold uw; rw [e150 i hi]; rfl)]; decide
  · rw [ws_zero (fun i hi => by unfold uw; rw [e150 i hi]; rfl)]; decide
  · rw [(w7 155 (by decide)).1, (w5 155 (by decide)).1, (w3 155 (by decide)).1]
    exact a2 j hj
theorem r_fill (k p n t : Nat) (hk : k ≠ 152) (σ : mm_M) : ∀ u, ∀ j, j < u → (f_X12_tagRow_L12 k p n t σ u).1 152 j = if t * 16 + j < n then σ.1 k (p + (t * 16 + j)) &&& 255 else 0
  | 0, j, hj => absurd hj (by omega)
  | u + 1, j, hj => by
    have ih := r_fill k p n t hk σ u
    have f := (w_f_X12_tagRow_L12 k p n t σ u k (by simp; omega)).1
    rw [f_X12_tagRow_L12]
    generalize f_X12_tagRow_L12 k p n t σ u = R at *
    unfold f_X12_tagRow_B1
    by_cases e : j = u
    · subst e
      by_cases c : n ≤ t * 16 + j
      · rw [if_pos c, if_neg (by omega), rd_wS]
      · rw [if_neg c, if_pos (by omega), rd_wS, f, Nat.add_assoc]
    · by_cases c : n ≤ t * 16 + u
      · rw [if_pos c, rd_wN _ _ _ _ (Or.inr e)]; exact ih j (by omega)
      · rw [if_neg c, rd_wN _ _ _ _ (Or.inr e)]; exact ih j (by omega)
theorem pr_is.fr {M N : mm_M} {ρ a : Int} {L : List Nat} (h : pr_is M ρ a) (w : mm_fr L M N) (h1 : 150 ∉ L) (h2 : 151 ∉ L) : pr_is N ρ a := by
  have l1 : uw N 150 = uw M 150 := by unfold uw; rw [(w 150 h1).1]
  have l2 : uw N 151 = uw M 151 := by unfold uw; rw [(w 151 h2).1]
  unfold pr_is
  rw [l1, l2, (w 150 h1).1, (w 151 h2).1]
  exact h
theorem r_rowL (k p n : Nat) (hk : k ∉ [150, 152, 153]) (σ : mm_M) (ρ a : Int) (h : pr_is σ ρ a) : ∀ t, pr_is (f_X12_tagRow_L3 k p n σ t) ρ (pyF ρ a (fun j => ub (σ.1 k (p + j))) n t)
  | 0 => h
  | t + 1 => by
    have ih := r_rowL k p n hk σ ρ a h t
    have f := (w_f_X12_tagRow_L3 k p n σ t k (by simp at hk ⊢; omega)).1
    rw [f_X12_tagRow_L3, pyF]
    generalize f_X12_tagRow_L3 k p n σ t = R at *
    have g := r_fill k p n t (by simp at hk; omega) R 16
    have w := w_f_X12_tagRow_L12 k p n t R 16
    generalize f_X12_tagRow_L12 k p n t R 16 = S at *
    have w2 : mm_fr [152] R (mm_w S 152 16 1) := mm_fr_w (by decide) w
    have g2 : ∀ j, j < 16 → (mm_w S 152 16 1).1 152 j = if t * 16 + j < n then R.1 k (p + (t * 16 + j)) &&& 255 else 0 := fun j hj => by
      rw [rd_wN _ _ _ _ (Or.inr (by omega))]; exact g j hj
    have g16 : (mm_w S 152 16 1).1 152 16 = 1 := rd_wS _ _ _ _
    generalize mm_w S 152 16 1 = T at *
    have u2 : ∀ j, j < 16 → uw T 152 j = if t * 16 + j < n then (ub (σ.1 k (p + (t * 16 + j))) : Int) else 0 := fun j hj => by
      unfold uw
      rw [g2 j hj, f]
      by_cases c : t * 16 + j < n
      · rw [if_pos c, if_pos c, un_255]; rfl
      · rw [if_neg c, if_neg c]; rfl
    have := r_tagged T ρ _ (ih.fr w2 (by decide) (by decide)) (fun j hj => by
      by_cases e : j = 16
      · rw [e, g16]; decide
      · rw [g2 j (by omega)]
        by_cases c : t * 16 + j < n
        · rw [if_pos c, un_255]; omega
        · rw [if_neg c]; decide) (by rw [g16]; decide)
    have e : ws w8 (uw T 152) 17 = pyB (fun j => ub (σ.1 k (p + j))) n t := by
      have t1 : ws w8 (uw T 152) 17 = ws w8 (uw T 152) 16 + uw T 152 16 * w8 16 := rfl
      have t2 : uw T 152 16 = 1 := by unfold uw; rw [g16]; rfl
      rw [t1, t2, w8_16, ws_congr u2]
      rfl
    rw [e] at this
    exact this
theorem r_row (k p n : Nat) (hk : k ∉ [150, 152, 153]) (M : mm_M) (ρ a : Int) (h : pr_is M ρ a) : pr_is (f_X12_tagRow k p n M) ρ (pyF ρ a (fun j => ub (M.1 k (p + j))) n ((n + 15) / 16)) := by
  unfold f_X12_tagRow
  exact r_rowL k p n hk M ρ a h _
/-! its end -/
theorem r_e2 (σ : mm_M) (j : Nat) : ∀ t, (f_X12_tagEnds_L2 σ t).1 152 j = if j < t then 0 else σ.1 152 j
  | 0 => by rw [if_neg (by omega)]; rfl
  | t + 1 => by
    have ih := r_e2 σ j t
    rw [f_X12_tagEnds_L2]
    generalize f_X12_tagEnds_L2 σ t = R at *
    rw [rd_w]
    by_cases e : j = t
    · rw [if_pos ⟨rfl, e⟩, if_pos (by omega)]
    · rw [if_neg (fun q => e q.2), ih]
      by_cases c : j < t
      · rw [if_pos c, if_pos (by omega)]
      · rw [if_neg c, if_neg (by omega)]
theorem r_e23 (v1 v2 : Int32) (σ : mm_M) (j : Nat) : ∀ t, t ≤ 4 → (f_X12_tagEnds_L23 v1 v2 σ t).1 152 j = if j < t then (v1 >>> (nI (8 * j) &&& 31)) &&& 255 else if 8 ≤ j ∧ j < 8 + t then (v2 >>> (nI (8 * (j - 8)) &&& 31)) &&& 255 else σ.1 152 j
  | 0, _ => by rw [if_neg (by omega), if_neg (by omega)]; rfl
  | t + 1, ht => by
    have ih := r_e23 v1 v2 σ j t (by omega)
    rw [f_X12_tagEnds_L23]
    generalize f_X12_tagEnds_L23 v1 v2 σ t = R at *
    rw [rd_w, rd_w]
    by_cases e8 : j = 8 + t
    · rw [if_pos ⟨rfl, e8⟩, if_neg (by omega), if_pos (by omega), show j - 8 = t from by omega]
    · rw [if_neg (fun q => e8 q.2)]
      by_cases e : j = t
      · rw [if_pos ⟨rfl, e⟩, if_pos (by omega), e]
      · rw [if_neg (fun q => e q.2), ih]
        by_cases c : j < t
        · rw [if_pos c, if_pos (by omega)]
        · rw [if_neg c, if_neg (show ¬ j < t + 1 by omega)]
          by_cases d : 8 ≤ j ∧ j < 8 + t
          · rw [if_pos d, if_pos (show 8 ≤ j ∧ j < 8 + (t + 1) by omega)]
          · rw [if_neg d, if_neg (show ¬ (8 ≤ j ∧ j < 8 + (t + 1)) by omega)]
theorem r_e83 (σ : mm_M) : ∀ t, t ≤ 17 → ∀ j, j < t → (f_X12_tagEnds_L83 σ t).1 154 j = σ.1 150 j ∧ (f_X12_tagEnds_L83 σ t).1 152 j = if j = 0 then 5 else if j = 16 then 252 else 0
  | 0, _, j, hj => absurd hj (by omega)
  | t + 1, ht, j, hj => by
    have ih := r_e83 σ t (by omega)
    have f := (w_f_X12_tagEnds_L83 σ t 150 (by decide)).1
    rw [f_X12_tagEnds_L83]
    generalize f_X12_tagEnds_L83 σ t = R at *
    unfold f_X12_tagEnds_B4 f_X12_tagEnds_B3
    rw [f]
    have key : ∀ v : Int32, (v = if t = 0 then 5 else if t = 16 then 252 else 0) → (mm_w (mm_w R 154 t (σ.1 150 t)) 152 t v).1 154 j = σ.1 150 j ∧ (mm_w (mm_w R 154 t (σ.1 150 t)) 152 t v).1 152 j = if j = 0 then 5 else if j = 16 then 252 else 0 := fun v hv => by
      by_cases e : j = t
      · subst e
        rw [rd_wN _ _ _ _ (Or.inl (by decide)), rd_wS, rd_wS]
        exact ⟨rfl, hv⟩
      · rw [rd_wN _ _ _ _ (Or.inr e), rd_wN _ _ _ _ (Or.inr e), rd_wN _ _ _ _ (Or.inr e), rd_wN _ _ _ _ (Or.inr e)]
        exact ih j (by omega)
    by_cases c0 : t = 0
    · rw [if_neg (fun q => q c0)]
      exact key 5 (by rw [if_pos c0])
    · rw [if_pos c0]
      by_cases c16 : t = 16
      · rw [if_neg (fun q => q c16)]
        exact key 252 (by rw [if_neg c0, if_pos c16])
      · rw [if_pos c16]
        exact key 0 (by rw [if_neg c0, if_neg c16])
theorem r_e158 (σ : mm_M) : ∀ t, t ≤ 17 → ∀ j, j < t → (f_X12_tagEnds_L158 σ t).1 150 j = σ.1 154 j
  | 0, _, j, hj => absurd hj (by omega)
  | t + 1, ht, j, hj => by
    have ih := r_e158 σ t (by omega)
    have f := (w_f_X12_tagEnds_L158 σ t 154 (by decide)).1
    rw [f_X12_tagEnds_L158]
    generalize f_X12_tagEnds_L158 σ t = R at *
    rw [rd_w]
    by_cases e : j = t
    · rw [if_pos ⟨rfl, e⟩, f, e]
    · rw [if_neg (fun q => e q.2)]; exact ih j (by omega)
theorem r_e184 (σ : mm_M) : ∀ t, t ≤ 17 → ∀ j, j < t → (f_X12_tagEnds_L184 σ t).1 152 j = if j < 16 then σ.1 155 (16 + j) &&& 255 else 0
  | 0, _, j, hj => absurd hj (by omega)
  | t + 1, ht, j, hj => by
    have ih := r_e184 σ t (by omega)
    have f := (w_f_X12_tagEnds_L184 σ t 155 (by decide)).1
    rw [f_X12_tagEnds_L184]
    generalize f_X12_tagEnds_L184 σ t = R at *
    unfold f_X12_tagEnds_B1
    by_cases c : 16 ≤ t
    · rw [if_pos c, rd_w]
      by_cases e : j = t
      · rw [if_pos ⟨rfl, e⟩, if_neg (by omega)]
      · rw [if_neg (fun q => e q.2)]; exact ih j (by omega)
    · rw [if_neg c, rd_w]
      by_cases e : j = t
      · rw [if_pos ⟨rfl, e⟩, if_pos (by omega), f, e]
      · rw [if_neg (fun q => e q.2)]; exact ih j (by omega)
theorem r_e235 (σ : mm_M) : ∀ t, t ≤ 16 → ∀ j, j < t → (f_X12_tagEnds_L235 σ t).1 156 j = mm_b (σ.1 150 j)
  | 0, _, j, hj => absurd hj (by omega)
  | t + 1, ht, j, hj => by
    have ih := r_e235 σ t (by omega)
    have f := (w_f_X12_tagEnds_L235 σ t 150 (by decide)).1
    rw [f_X12_tagEnds_L235]
    generalize f_X12_tagEnds_L235 σ t = R at *
    rw [rd_w]
    by_cases e : j = t
    · rw [if_pos ⟨rfl, e⟩, f, e]
    · rw [if_neg (fun q => e q.2)]; exact ih j (by omega)
/-- the last sum and its bytes -/
theorem r_eS (M : mm_M) (V : Int) (hd : ∀ j, j < 17 → un (M.1 150 j) ≤ 255) (hV : ws w8 (uw M 150) 17 = V) (hb : V < 1361129467683753853853498430227072845824) : ∀ j, j < 16 → (f_X12_tagEnds_L235 (f_X12_plus 152 (f_X12_tagEnds_L184 M 17)) 16).1 156 j = mm_b (Int32.ofInt (((V + bv (M.1 155) 16 16) % 340282366920938463463374607431768211456) / w8 j % 256)) := by
  intro j hj
  rw [r_e235 _ 16 (by decide) j hj]
  have a := r_e184 M 17 (by decide)
  have w := w_f_X12_tagEnds_L184 M 17
  generalize f_X12_tagEnds_L184 M 17 = N at *
  have e150 : N.1 150 = M.1 150 := (w 150 (by decide)).1
  have c152 : ∀ j, j < 17 → un (N.1 152 j) ≤ 255 := fun j hj => by
    rw [a j hj]
    by_cases c : j < 16
    · rw [if_pos c, un_255]; omega
    · rw [if_neg c]; decide
  obtain ⟨p1, p2⟩ := r_plus 152 (by decide) N (fun j hj => by rw [e150]; have := hd j hj; have := c152 j hj; omega)
  generalize f_X12_plus 152 N = T at *
  have s150 : ws w8 (uw N 150) 17 = V := by rw [← hV]; exact ws_congr (fun i hi => by unfold uw; rw [e150])
  have s152 : ws w8 (uw N 152) 17 = bv (M.1 155) 16 16 := by
    have t1 : ws w8 (uw N 152) 17 = ws w8 (uw N 152) 16 + uw N 152 16 * w8 16 := rfl
    have t2 : uw N 152 16 = 0 := by unfold uw; rw [a 16 (by decide)]; rfl
    rw [t1, t2, Int.zero_mul, Int.add_zero]
    unfold bv
    exact ws_congr (fun i hi => by unfold uw; rw [a i (by omega), if_pos hi, un_255]; rfl)
  rw [s150, s152] at p2
  have hS := ws8_lo (fun j => (ub (M.1 155 (16 + j)) : Int)) 16 (fun i _ => ub_in (M.1 155) 16 i)
  have hS2 : ws w8 (fun j => (ub (M.1 155 (16 + j)) : Int)) 16 = bv (M.1 155) 16 16 := rfl
  rw [hS2, w8_16] at hS
  have hV0 : 0 ≤ V := by rw [← hV]; exact (ws8_255 M 150 17 hd).1
  rw [Int.emod_eq_of_lt (by omega) (by rw [w8_17]; omega)] at p2
  have p3 : ws w8 (uw T 150) 17 = ws w8 (uw T 150) 16 + uw T 150 16 * w8 16 := rfl
  obtain ⟨q1, q2⟩ := ws8_255 T 150 16 (fun i hi => p1 i (by omega))
  have p4 : (V + bv (M.1 155) 16 16) % 340282366920938463463374607431768211456 = ws w8 (uw T 150) 16 := by
    rw [← p2, p3, w8_16, Int.add_mul_emod_self_right]
    rw [w8_16] at q2
    exact Int.emod_eq_of_lt q1 q2
  rw [p4, ws8_get (uw T 150) j 16 hj (fun i hi => by have := p1 i (by omega); unfold uw; omega)]
  refine mm_b_eq ?_
  have l := p1 j (by omega)
  have u := un_ofInt (uw T 150 j) (by unfold uw; omega) (by unfold uw; omega)
  unfold uw at u
  unfold uw
  omega
theorem r_lens (v1 v2 : Int32) (M : mm_M) (N : mm_M) (h : ∀ j, j < 16 → N.1 152 j = if j < 4 then (v1 >>> (nI (8 * j) &&& 31)) &&& 255 else if 8 ≤ j ∧ j < 12 then (v2 >>> (nI (8 * (j - 8)) &&& 31)) &&& 255 else 0) : (∀ j, j < 16 → un (N.1 152 j) ≤ 255) ∧ ws w8 (uw N 152) 16 = (un v1 : Int) + (un v2 : Int) * 18446744073709551616 := by
  have sh : ∀ v : Int32, ∀ i, i < 4 → un ((v >>> (nI (8 * i) &&& 31)) &&& 255) = un v / 256 ^ i % 256 := fun v i hi => by
    rw [un_255, nI31 ⟨8 * i, by omega⟩, un_sr v _ (8 * i) (by omega) rfl, Nat.pow_mul]
  refine ⟨fun j hj => ?_, ?_⟩
  · rw [h j hj]
    by_cases c : j < 4
    · rw [if_pos c, un_255]; omega
    · rw [if_neg c]
      by_cases d : 8 ≤ j ∧ j < 12
      · rw [if_pos d, un_255]; omega
      · rw [if_neg d]; decide
  · rw [ws8_16]
    unfold uw
    rw [h 0 (by decide), h 1 (by decide), h 2 (by decide), h 3 (by decide), h 4 (by decide), h 5 (by decide), h 6 (by decide), h 7 (by decide), h 8 (by decide), h 9 (by decide), h 10 (by decide), h 11 (by decide), h 12 (by decide), h 13 (by decide), h 14 (by decide), h 15 (by decide)]
    rw [if_pos (by decide), if_pos (by decide), if_pos (by decide), if_pos (by decide)]
    rw [if_neg (show ¬ (4 < 4) by decide), if_neg (show ¬ (8 ≤ 4 ∧ 4 < 12) by decide), if_neg (show ¬ (5 < 4) by decide), if_neg (show ¬ (8 ≤ 5 ∧ 5 < 12) by decide), if_neg (show ¬ (6 < 4) by decide), if_neg (show ¬ (8 ≤ 6 ∧ 6 < 12) by decide), if_neg (show ¬ (7 < 4) by decide), if_neg (show ¬ (8 ≤ 7 ∧ 7 < 12) by decide)]
    rw [if_neg (show ¬ (8 < 4) by decide), if_pos (show (8 ≤ 8 ∧ 8 < 12) by decide), if_neg (show ¬ (9 < 4) by decide), if_pos (show (8 ≤ 9 ∧ 9 < 12) by decide), if_neg (show ¬ (10 < 4) by decide), if_pos (show (8 ≤ 10 ∧ 10 < 12) by decide), if_neg (show ¬ (11 < 4) by decide), if_pos (show (8 ≤ 11 ∧ 11 < 12) by decide)]
    rw [if_neg (show ¬ (12 < 4) by decide), if_neg (show ¬ (8 ≤ 12 ∧ 12 < 12) by decide), if_neg (show ¬ (13 < 4) by decide), if_neg (show ¬ (8 ≤ 13 ∧ 13 < 12) by decide), if_neg (show ¬ (14 < 4) by decide), if_neg (show ¬ (8 ≤ 14 ∧ 14 < 12) by decide), if_neg (show ¬ (15 < 4) by decide), if_neg (show ¬ (8 ≤ 15 ∧ 15 < 12) by decide)]
    rw [show 8 - 8 = 0 from rfl, show 9 - 8 = 1 from rfl, show 10 - 8 = 2 from rfl, show 11 - 8 = 3 from rfl]
    rw [sh v1 0 (by decide), sh v1 1 (by decide), sh v1 2 (by decide), sh v1 3 (by decide), sh v2 0 (by decide), sh v2 1 (by decide), sh v2 2 (by decide), sh v2 3 (by decide), show un (0 : Int32) = 0 from rfl]
    have l1 := un_lt v1
    have l2 := un_lt v2
    rw [show (256 : Nat) ^ 0 = 1 from rfl, show (256 : Nat) ^ 1 = 256 from rfl, show (256 : Nat) ^ 2 = 65536 from rfl, show (256 : Nat) ^ 3 = 16777216 from rfl]
    omega
theorem r_ends (v1 v2 : Int32) (M : mm_M) (ρ a : Int) (h : pr_is M ρ a) : ∀ j, j < 16 → (f_X12_tagEnds v1 v2 M).1 156 j = pyR ρ a (bv (M.1 155) 16 16) (un v1) (un v2) j := by
  intro j hj
  unfold f_X12_tagEnds
  try dsimp only
  have a1 := fun j => r_e2 M j 16
  have w1 := w_f_X12_tagEnds_L2 M 16
  generalize f_X12_tagEnds_L2 M 16 = M1 at *
  have a2 := fun j => r_e23 v1 v2 M1 j 4 (by decide)
  have w2 := w_f_X12_tagEnds_L23 v1 v2 M1 4
  generalize f_X12_tagEnds_L23 v1 v2 M1 4 = M3 at *
  have w3 : mm_fr [152] M3 (mm_w M3 152 16 1) := mm_fr_w (by decide) (mm_fr_refl _ _)
  have a3 : ∀ j, j < 16 → (mm_w M3 152 16 1).1 152 j = if j < 4 then (v1 >>> (nI (8 * j) &&& 31)) &&& 255 else if 8 ≤ j ∧ j < 12 then (v2 >>> (nI (8 * (j - 8)) &&& 31)) &&& 255 else 0 := fun j hj => by
    rw [rd_wN _ _ _ _ (Or.inr (by omega)), a2, a1, if_pos hj]
  have a16 : (mm_w M3 152 16 1).1 152 16 = 1 := rd_wS _ _ _ _
  generalize mm_w M3 152 16 1 = M5 at *
  obtain ⟨b1, b2⟩ := r_lens v1 v2 M M5 a3
  have b3 : ws w8 (uw M5 152) 17 = (un v1 : Int) + (un v2 : Int) * 18446744073709551616 + 340282366920938463463374607431768211456 := by
    have t1 : ws w8 (uw M5 152) 17 = ws w8 (uw M5 152) 16 + uw M5 152 16 * w8 16 := rfl
    have t2 : uw M5 152 16 = 1 := by unfold uw; rw [a16]; rfl
    rw [t1, t2, w8_16, b2]
    omega
  have p5 := r_tagged M5 ρ a (((h.fr w1 (by decide) (by decide)).fr w2 (by decide) (by decide)).fr w3 (by decide) (by decide)) (fun j hj => by
    by_cases e : j = 16
    · rw [e, a16]; decide
    · exact b1 j (by omega)) (by rw [a16]; decide)
  rw [b3] at p5
  have w5 := w_f_X12_tagged M5
  generalize f_X12_tagged M5 = M6 at *
  obtain ⟨-, q1, q2, q, q3⟩ := p5
  have a7 := r_e83 M6 17 (by decide)
  have w7 := w_f_X12_tagEnds_L83 M6 17
  generalize f_X12_tagEnds_L83 M6 17 = M7 at *
  have e150 : M7.1 150 = M6.1 150 := (w7 150 (by decide)).1
  have s7 : ws w8 (uw M7 152) 17 = 5 + 252 * 340282366920938463463374607431768211456 := by
    have t1 : ws w8 (uw M7 152) 17 = ws w8 (uw M7 152) 16 + uw M7 152 16 * w8 16 := rfl
    have t2 : uw M7 152 16 = 252 := by unfold uw; rw [(a7 16 (by decide)).2]; rfl
    have t3 : ws w8 (uw M7 152) 16 = 5 := by
      rw [ws_upd (w := w8) (a := fun _ => 0) (b := uw M7 152) (k := 0) (x := 5) (n := 16) (by decide) (fun i hi => by
        unfold uw
        rw [(a7 i (by omega)).2]
        by_cases e : i = 0
        · rw [if_pos e, if_pos e]; rfl
        · rw [if_neg e, if_neg e, if_neg (by omega)]; rfl), ws_zero (fun _ _ => rfl), show w8 0 = 1 from rfl]
      decide
    rw [t1, t2, t3, w8_16]
  obtain ⟨p1, p2⟩ := r_plus 152 (by decide) M7 (fun j hj => by
    rw [e150, (a7 j hj).2]
    have := q1 j hj
    refine ⟨by omega, ?_⟩
    by_cases e : j = 0
    · rw [if_pos e]; decide
    · rw [if_neg e]
      by_cases e6 : j = 16
      · rw [if_pos e6]; decide
      · rw [if_neg e6]; decide)
  have w9 := w_f_X12_plus 152 M7
  generalize f_X12_plus 152 M7 = M9 at *
  have s150 : ws w8 (uw M7 150) 17 = ws w8 (uw M6 150) 17 := ws_congr (fun i hi => by unfold uw; rw [e150])
  rw [s150, s7] at p2
  have e155 : M9.1 155 = M.1 155 := by
    rw [(w9 155 (by decide)).1, (w7 155 (by decide)).1, (w5 155 (by decide)).1, (w3 155 (by decide)).1, (w2 155 (by decide)).1, (w1 155 (by decide)).1]
  have v0 := (ws8_255 M6 150 17 q1).1
  have t9 : ws w8 (uw M9 150) 17 = ws w8 (uw M9 150) 16 + uw M9 150 16 * w8 16 := rfl
  obtain ⟨l1, l2⟩ := ws8_255 M9 150 16 (fun i hi => p1 i (by omega))
  have u16 : uw M9 150 16 = (un (M9.1 150 16) : Int) := rfl
  have d16 := p1 16 (by decide)
  have c7 := un_srL (M9.1 150 16) ((7 : Int32) &&& 31) 7 (by decide) (by decide) (by omega)
  rw [show (2 : Nat) ^ 7 = 128 from rfl] at c7
  rw [w8_16] at t9 l2
  rw [w8_17] at p2
  have eA : ∀ V : Int, V = ws w8 (uw M6 150) 17 % pQ → mm_b (Int32.ofInt (((V + bv (M.1 155) 16 16) % 340282366920938463463374607431768211456) / w8 j % 256)) = pyR ρ a (bv (M.1 155) 16 16) (un v1) (un v2) j := fun V hV => by
    unfold pyR pyT
    rw [hV, q3, Int.add_mul_emod_self_right]
  unfold f_X12_tagEnds_B2
  by_cases hc : ¬ (M9.1 150 16) >>> ((7 : Int32) &&& 31) = 1
  · rw [if_pos hc]
    try dsimp only
    have h7 : un (M9.1 150 16) < 128 := by
      apply Nat.not_le.mp
      intro g
      exact hc (un_inj (by rw [c7, show un (1 : Int32) = 1 from rfl]; omega))
    have hV : ws w8 (uw M9 150) 17 = ws w8 (uw M6 150) 17 % pQ := by
      rw [u16] at t9
      rw [t9] at p2 ⊢
      unfold pQ
      clear q3 eA s150 s7 b2 b3
      generalize ws w8 (uw M6 150) 17 = A at *
      generalize ws w8 (uw M9 150) 16 = B at *
      rcases Int.lt_or_le A 1361129467683753853853498429727072845819 with hA | hA
      · rw [Int.emod_eq_of_lt (by omega) (by omega)] at p2
        exfalso
        omega
      · rw [← mod_of (v := A + (5 + 252 * 340282366920938463463374607431768211456) - 87112285931760246646623899502532662132736) (-1) (by omega) (by omega) (by omega)] at p2
        rw [← mod_of (x := A) (p := 1361129467683753853853498429727072845819) (v := A - 1361129467683753853853498429727072845819) (-1) (by omega) (by omega) (by omega)]
        omega
    rw [r_eS M9 _ p1 hV (by
      have := Int.emod_lt_of_pos (ws w8 (uw M6 150) 17) (show 0 < pQ by decide)
      unfold pQ at this ⊢
      omega) j hj, e155]
    exact eA _ rfl
  · rw [if_neg hc]
    try dsimp only
    have a8 := r_e158 M9 17 (by decide)
    have w8' := w_f_X12_tagEnds_L158 M9 17
    generalize f_X12_tagEnds_L158 M9 17 = M24 at *
    have f150 : ∀ j, j < 17 → M24.1 150 j = M6.1 150 j := fun j hj => by
      rw [a8 j hj, (w9 154 (by decide)).1]; exact (a7 j hj).1
    have h7 : 128 ≤ un (M9.1 150 16) := by
      have hc' : (M9.1 150 16) >>> ((7 : Int32) &&& 31) = 1 := Classical.not_not.mp hc
      rw [hc', show un (1 : Int32) = 1 from rfl] at c7
      omega
    have hV : ws w8 (uw M24 150) 17 = ws w8 (uw M6 150) 17 % pQ := by
      rw [ws_congr (a := uw M24 150) (b := uw M6 150) (fun i hi => by unfold uw; rw [f150 i hi])]
      rw [u16] at t9
      rw [t9] at p2
      unfold pQ
      clear q3 eA s150 s7 b2 b3
      generalize ws w8 (uw M6 150) 17 = A at *
      generalize ws w8 (uw M9 150) 16 = B at *
      rcases Int.lt_or_le A 1361129467683753853853498429727072845819 with hA | hA
      · exact (Int.emod_eq_of_lt v0 hA).symm
      · rw [← mod_of (v := A + (5 + 252 * 340282366920938463463374607431768211456) - 87112285931760246646623899502532662132736) (-1) (by omega) (by omega) (by omega)] at p2
        exfalso
        omega
    rw [r_eS M24 _ (fun j hj => by rw [f150 j hj]; exact q1 j hj) hV (by
      rw [← hV, ws_congr (a := uw M24 150) (b := uw M6 150) (fun i hi => by unfold uw; rw [f150 i hi])]
      exact q2) j hj, (w8' 155 (by decide)).1, e155]
    exact eA _ rfl
