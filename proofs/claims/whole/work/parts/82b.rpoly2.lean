/-! Poly1305 in the reference: a block -/
theorem r_94 (M : mm_M) (hb : ∀ j, j < 17 → un (M.1 153 j) ≤ 353736000) : ∀ t, t ≤ 16 → un (f_X12_tagged_L94 (M, 0) t).2 ≤ 2000000 ∧ (∀ i, (f_X12_tagged_L94 (M, 0) t).1.1 153 i = M.1 153 i) ∧ (∀ i, i < t → un ((f_X12_tagged_L94 (M, 0) t).1.1 150 i) ≤ 255) ∧ ws w8 (uw (f_X12_tagged_L94 (M, 0) t).1 150) t + (un (f_X12_tagged_L94 (M, 0) t).2 : Int) * w8 t = ws w8 (uw M 153) t
  | 0, _ => ⟨by show un 0 ≤ 2000000; decide, fun _ => rfl, fun i hi => absurd hi (by omega), by show 0 + (un 0 : Int) * 1 = 0; decide⟩
  | t + 1, ht => by
    obtain ⟨h1, h3, h4, h5⟩ := r_94 M hb t (by omega)
    rw [f_X12_tagged_L94]
    generalize f_X12_tagged_L94 (M, 0) t = R at *
    obtain ⟨R, y⟩ := R
    dsimp only at h1 h3 h4 h5 ⊢
    rw [h3 t]
    have b1 := hb t (by omega)
    have u2 := un_addL y (M.1 153 t) (by omega)
    generalize y + M.1 153 t = x at *
    have u3 := un_255 x
    have u4 := un_us x 8 8 (by decide) (by decide)
    rw [show (2 : Nat) ^ 8 = 256 from rfl] at u4
    generalize x &&& 255 = z at *
    generalize mm_us x 8 = v at *
    have rt : uw (mm_w R 150 t z) 150 t = (un z : Int) := by unfold uw; rw [rd_wS]
    have ro : ∀ i, i ≠ t → uw (mm_w R 150 t z) 150 i = uw R 150 i := fun i hi => by unfold uw; rw [rd_wN _ _ _ _ (Or.inr hi)]
    refine ⟨by omega, fun i => ?_, fun i hi => ?_, ?_⟩
    · rw [rd_wN _ _ _ _ (Or.inl (by decide))]; exact h3 i
    · by_cases e : i = t
      · rw [e, rd_wS]; omega
      · rw [rd_wN _ _ _ _ (Or.inr e)]; exact h4 i (by omega)
    · rw [ws, ws, ws_congr (a := uw (mm_w R 150 t z) 150) (b := uw R 150) (fun i hi => ro i (by omega)), rt, w8_1]
      have e1 : uw M 153 t = (un (M.1 153 t) : Int) := rfl
      have d : (un z : Int) + 256 * (un v : Int) = (un y : Int) + (un (M.1 153 t) : Int) := by omega
      rw [e1]
      generalize (un (M.1 153 t) : Int) = A at *
      generalize (un z : Int) = Z at *
      generalize (un v : Int) = V at *
      generalize (un y : Int) = Y at *
      generalize ws w8 (uw R 150) t = S1 at *
      generalize ws w8 (uw M 153) t = S2 at *
      generalize w8 t = W at *
      have d2 : (Z + 256 * V) * W = (Y + A) * W := by rw [d]
      clear h1 h3 h4 ro rt u2 u3 u4 b1 hb d e1
      grind
theorem r_159 (M : mm_M) (y0 : Int32) (hy : un y0 ≤ 500000000) (hb : ∀ j, j < 16 → un (M.1 150 j) ≤ 255) : ∀ t, t ≤ 16 → un (f_X12_tagged_L159 (M, y0) t).2 ≤ 500000000 ∧ (∀ i, t ≤ i → (f_X12_tagged_L159 (M, y0) t).1.1 150 i = M.1 150 i) ∧ (∀ i, i < t → un ((f_X12_tagged_L159 (M, y0) t).1.1 150 i) ≤ 255) ∧ ws w8 (uw (f_X12_tagged_L159 (M, y0) t).1 150) t + (un (f_X12_tagged_L159 (M, y0) t).2 : Int) * w8 t = ws w8 (uw M 150) t + (un y0 : Int)
  | 0, _ => ⟨hy, fun _ _ => rfl, fun i hi => absurd hi (by omega), by show 0 + (un y0 : Int) * 1 = 0 + (un y0 : Int); omega⟩
  | t + 1, ht => by
    obtain ⟨h1, h3, h4, h5⟩ := r_159 M y0 hy hb t (by omega)
    rw [f_X12_tagged_L159]
    generalize f_X12_tagged_L159 (M, y0) t = R at *
    obtain ⟨R, y⟩ := R
    dsimp only at h1 h3 h4 h5 ⊢
    rw [h3 t (Nat.le_refl _)]
    have b1 := hb t (by omega)
    have u2 := un_addL y (M.1 150 t) (by omega)
    generalize y + M.1 150 t = x at *
    have u3 := un_255 x
    have u4 := un_us x 8 8 (by decide) (by decide)
    rw [show (2 : Nat) ^ 8 = 256 from rfl] at u4
    generalize x &&& 255 = z at *
    generalize mm_us x 8 = v at *
    have rt : uw (mm_w R 150 t z) 150 t = (un z : Int) := by unfold uw; rw [rd_wS]
    have ro : ∀ i, i ≠ t → uw (mm_w R 150 t z) 150 i = uw R 150 i := fun i hi => by unfold uw; rw [rd_wN _ _ _ _ (Or.inr hi)]
    refine ⟨by omega, fun i hi => ?_, fun i hi => ?_, ?_⟩
    · rw [rd_wN _ _ _ _ (Or.inr (by omega))]; exact h3 i (by omega)
    · by_cases e : i = t
      · rw [e, rd_wS]; omega
      · rw [rd_wN _ _ _ _ (Or.inr e)]; exact h4 i (by omega)
    · rw [ws, ws, ws_congr (a := uw (mm_w R 150 t z) 150) (b := uw R 150) (fun i hi => ro i (by omega)), rt, w8_1]
      have e1 : uw M 150 t = (un (M.1 150 t) : Int) := rfl
      have d : (un z : Int) + 256 * (un v : Int) = (un y : Int) + (un (M.1 150 t) : Int) := by omega
      rw [e1]
      generalize (un (M.1 150 t) : Int) = A at *
      generalize (un z : Int) = Z at *
      generalize (un v : Int) = V at *
      generalize (un y : Int) = Y at *
      generalize (un y0 : Int) = Y0 at *
      generalize ws w8 (uw R 150) t = S1 at *
      generalize ws w8 (uw M 150) t = S2 at *
      generalize w8 t = W at *
      have d2 : (Z + 256 * V) * W = (Y + A) * W := by rw [d]
      clear h1 h3 h4 ro rt u2 u3 u4 b1 hb d e1
      grind
/-- the reference's tag in the middle of its message -/
def pr_is (M : mm_M) (ρ a : Int) : Prop := ((∀ j, j < 17 → un (M.1 151 j) ≤ 255) ∧ ws w8 (uw M 151) 17 = ρ) ∧ (∀ j, j < 17 → un (M.1 150 j) ≤ 255) ∧ (ws w8 (uw M 150) 17 < 1361129467683753853853498430227072845824) ∧ ∃ q, ws w8 (uw M 150) 17 = a + q * pQ
theorem r_fold (M2 : mm_M) (hb : ∀ j, j < 17 → un (M2.1 153 j) ≤ 353736000) (N : mm_M) (hN : N = (let M_4 := (f_X12_tagged_L94 (M2, (0 : Int32)) 16).1
  let y_5 := (f_X12_tagged_L94 (M2, (0 : Int32)) 16).2
  let x1_7 := (y_5) + (M_4.1 153 16)
  let M_8 := mm_w M_4 150 16 ((x1_7) &&& (3 : Int32))
  let x1_9 := (5 : Int32) * (mm_us (x1_7) (2 : Int32))
  let M_10 := (f_X12_tagged_L159 (M_8, (x1_9)) 16).1
  let y_11 := (f_X12_tagged_L159 (M_8, (x1_9)) 16).2
  mm_w M_10 150 16 ((M_10.1 150 16) + (y_11)))) : (∀ j, j < 17 → un (N.1 150 j) ≤ 255) ∧ (ws w8 (uw N 150) 17 < 1361129467683753853853498430227072845824) ∧ ∃ q, ws w8 (uw N 150) 17 = ws w8 (uw M2 153) 17 + q * pQ := by
  obtain ⟨a1, a2, a3, a4⟩ := r_94 M2 hb 16 (by decide)
  dsimp only at hN
  generalize f_X12_tagged_L94 (M2, 0) 16 = R at *
  obtain ⟨M4, y⟩ := R
  dsimp only at *
  rw [a2 16] at hN
  have b1 := hb 16 (by decide)
  have u1 := un_addL y (M2.1 153 16) (by omega)
  generalize y + M2.1 153 16 = x at *
  have u2 := un_mask x 3 2 (by decide)
  have u3 := un_us x 2 2 (by decide) (by decide)
  rw [show (2 : Nat) ^ 2 = 4 from rfl] at u2 u3
  have u4 := un_mulL 5 (mm_us x 2) (by rw [u3, show un (5 : Int32) = 5 from by decide]; omega)
  rw [u3, show un (5 : Int32) = 5 from by decide] at u4
  generalize x &&& 3 = z at *
  generalize 5 * mm_us x 2 = w at *
  have e8 : ∀ i, i ≠ 16 → (mm_w M4 150 16 z).1 150 i = M4.1 150 i := fun i hi => rd_wN _ _ _ _ (Or.inr hi)
  have e16 : (mm_w M4 150 16 z).1 150 16 = z := rd_wS _ _ _ _
  generalize mm_w M4 150 16 z = M8 at *
  obtain ⟨c1, c2, c3, c4⟩ := r_159 M8 w (by omega) (fun j hj => by rw [e8 j (by omega)]; exact a3 j hj) 16 (by decide)
  generalize f_X12_tagged_L159 (M8, w) 16 = T at *
  obtain ⟨M10, v⟩ := T
  dsimp only at *
  rw [c2 16 (by decide), e16] at hN
  have s8 : ws w8 (uw M8 150) 16 = ws w8 (uw M4 150) 16 := ws_congr (fun i hi => by unfold uw; rw [e8 i (by omega)])
  obtain ⟨d1, d2⟩ := ws8_255 M10 150 16 c3
  obtain ⟨d3, d4⟩ := ws8_255 M4 150 16 a3
  have sT : ws w8 (uw M2 153) 17 = ws w8 (uw M2 153) 16 + uw M2 153 16 * w8 16 := rfl
  have eT : uw M2 153 16 = (un (M2.1 153 16) : Int) := rfl
  rw [s8] at c4
  rw [w8_16] at *
  -- the carry out of sixteen bytes is small
  have hv : un v ≤ 1 := by
    have e1 := u4
    clear hN
    generalize ws w8 (uw M10 150) 16 = A at *
    generalize ws w8 (uw M4 150) 16 = B at *
    generalize ws w8 (uw M2 153) 16 = C at *
    omega
  have uz := un_addL z v (by omega)
  have hx : ∀ i, i ≠ 16 → N.1 150 i = M10.1 150 i := fun i hi => by rw [hN]; exact rd_wN _ _ _ _ (Or.inr hi)
  have hx16 : N.1 150 16 = z + v := by rw [hN]; exact rd_wS _ _ _ _
  have sN : ws w8 (uw N 150) 17 = ws w8 (uw M10 150) 16 + ((un z : Int) + (un v : Int)) * w8 16 := by
    have t1 : ws w8 (uw N 150) 17 = ws w8 (uw N 150) 16 + uw N 150 16 * w8 16 := rfl
    have t2 : uw N 150 16 = (un z : Int) + (un v : Int) := by unfold uw; rw [hx16, uz]; omega
    rw [t1, t2, ws_congr (a := uw N 150) (b := uw M10 150) (fun i hi => by unfold uw; rw [hx i (by omega)])]
  rw [w8_16] at sN
  clear hN
  refine ⟨fun j hj => ?_, ?_, -((un x / 4 : Nat) : Int), ?_⟩
  · by_cases e : j = 16
    · rw [e, hx16, uz]; omega
    · rw [hx j e]; exact c3 j (by omega)
  · rw [sN]
    generalize ws w8 (uw M10 150) 16 = A at *
    generalize ws w8 (uw M4 150) 16 = B at *
    generalize ws w8 (uw M2 153) 16 = C at *
    omega
  · rw [sN, sT, eT]
    unfold pQ
    generalize ws w8 (uw M10 150) 16 = A at *
    generalize ws w8 (uw M4 150) 16 = B at *
    generalize ws w8 (uw M2 153) 16 = C at *
    omega
theorem r_tagged (M : mm_M) (ρ a : Int) (h : pr_is M ρ a) (hc : ∀ j, j < 17 → un (M.1 152 j) ≤ 255) (hc2 : un (M.1 152 16) ≤ 1) : pr_is (f_X12_tagged M) ρ ((a + ws w8 (uw M 152) 17) * ρ) := by
  obtain ⟨⟨r1, r2⟩, t1, t2, q, t3⟩ := h
  have wT := w_f_X12_tagged M
  have e151 : (f_X12_tagged M).1 151 = M.1 151 := (wT 151 (by decide)).1
  have u151 : uw (f_X12_tagged M) 151 = uw M 151 := by unfold uw; rw [e151]
  refine ⟨⟨by rw [e151]; exact r1, by rw [u151]; exact r2⟩, ?_⟩
  obtain ⟨p1, p2⟩ := r_plus 152 (by decide) M (fun j hj => by have := t1 j hj; have := hc j hj; omega)
  have wP := w_f_X12_plus 152 M
  have eN : f_X12_tagged M = (let M_2 := f_X12_tagged_L10 (f_X12_plus 152 M) 17
  let M_4 := (f_X12_tagged_L94 (M_2, (0 : Int32)) 16).1
  let y_5 := (f_X12_tagged_L94 (M_2, (0 : Int32)) 16).2
  let x1_7 := (y_5) + (M_4.1 153 16)
  let M_8 := mm_w M_4 150 16 ((x1_7) &&& (3 : Int32))
  let x1_9 := (5 : Int32) * (mm_us (x1_7) (2 : Int32))
  let M_10 := (f_X12_tagged_L159 (M_8, (x1_9)) 16).1
  let y_11 := (f_X12_tagged_L159 (M_8, (x1_9)) 16).2
  mm_w M_10 150 16 ((M_10.1 150 16) + (y_11))) := by unfold f_X12_tagged; rfl
  dsimp only at eN
  generalize f_X12_plus 152 M = M1 at *
  have f151 : M1.1 151 = M.1 151 := (wP 151 (by decide)).1
  have x1 := r_tx M1 p1 (by rw [f151]; exact r1) 17 (by decide)
  generalize f_X12_tagged_L10 M1 17 = M2 at *
  have hb : ∀ j, j < 17 → un (M2.1 153 j) ≤ 353736000 := fun j hj => by
    rw [x1 j hj]
    have hle := sm_le (f := fun i => un (M1.1 150 i) * cof (fun i => un (M1.1 151 i)) j i) (b := 20808000) 17 (fun i hi => by
      have c1 : cof (fun i => un (M1.1 151 i)) j i ≤ 81600 := by
        unfold cof
        rw [f151]
        by_cases c : j < i
        · rw [if_pos c]; have := r1 (j + 17 - i) (by omega); show 320 * un (M.1 151 (j + 17 - i)) ≤ 81600; omega
        · rw [if_neg c]; have := r1 (j - i) (by omega); show un (M.1 151 (j - i)) ≤ 81600; omega
      exact Nat.mul_le_mul (p1 i hi) c1)
    exact hle
  obtain ⟨g1, g2, q2, g3⟩ := r_fold M2 hb _ eN
  refine ⟨g1, g2, ?_⟩
  obtain ⟨q3, v⟩ := tx_val (fun j => un (M1.1 150 j)) (fun j => un (M1.1 151 j)) 17 (by decide)
  have k1 : ws w8 (uw M2 153) 17 = ws w8 (fun i => (sm (fun j => un (M1.1 150 j) * cof (fun i => un (M1.1 151 i)) i j) 17 : Int)) 17 := ws_congr (fun i hi => by unfold uw; rw [x1 i hi])
  have k2 : ws w8 (fun j => (un (M1.1 150 j) : Int)) 17 = ws w8 (uw M1 150) 17 := rfl
  have k3 : ws w8 (fun j => (un (M1.1 151 j) : Int)) 17 = ρ := by rw [← r2]; exact ws_congr (fun i hi => by unfold uw; rw [f151])
  -- nothing is lost in the sum
  have c16 : ws w8 (uw M 152) 17 = ws w8 (uw M 152) 16 + uw M 152 16 * w8 16 := rfl
  obtain ⟨d1, d2⟩ := ws8_255 M 152 16 (fun i hi => hc i (by omega))
  obtain ⟨d3, -⟩ := ws8_255 M 150 17 t1
  have e16 : uw M 152 16 = (un (M.1 152 16) : Int) := rfl
  have p3 : ws w8 (uw M1 150) 17 = ws w8 (uw M 150) 17 + ws w8 (uw M 152) 17 := by
    rw [p2]
    refine Int.emod_eq_of_lt ?_ ?_
    · rw [c16, e16, w8_16]
      generalize ws w8 (uw M 150) 17 = A at *
      generalize ws w8 (uw M 152) 16 = B at *
      omega
    · rw [c16, e16, w8_16, w8_17]
      rw [w8_16] at d2
      clear c16 v k1 k2 k3 g3 p2 e16
      generalize ws w8 (uw M 150) 17 = A at *
      generalize ws w8 (uw M 152) 16 = B at *
      omega
  refine ⟨q2 + q3 + q * ρ, ?_⟩
  rw [g3, k1, v, k2, k3, p3, t3]
  generalize ws w8 (uw M 152) 17 = C
  clear eN
  generalize pQ = P
  clear v k1 k2 k3 p3 t3 g3 c16 d1 d2 d3 e16 p1 p2 g1 g2 x1 hb t1 t2 r1 r2 hc hc2
  grind
