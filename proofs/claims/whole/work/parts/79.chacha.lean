/-! ChaCha20: the pure function, and both sides -/
theorem up_S (w : Nat → Int32) (k : Nat) (v : Int32) : up w k v k = v := if_pos rfl
theorem up_N (w : Nat → Int32) {k : Nat} (v : Int32) {i : Nat} (h : i ≠ k) : up w k v i = w i := if_neg h
theorem rw_row (M : mm_M) (k j : Nat) (v : Int32) : (mm_w M k j v).1 k = up (M.1 k) j v := by
  funext i
  rw [rd_w]
  unfold up
  by_cases e : i = j
  · rw [if_pos ⟨rfl, e⟩, if_pos e]
  · rw [if_neg (fun q => e q.2), if_neg e]
theorem tr16 (x : Int32) : f_X12_turned x 16 = (x <<< ((16 : Int32) &&& 31)) ||| (mm_us x 16) := Int32.or_comm _ _
theorem tr20 (x : Int32) : f_X12_turned x 20 = (x <<< ((12 : Int32) &&& 31)) ||| (mm_us x 20) := Int32.or_comm _ _
theorem tr24 (x : Int32) : f_X12_turned x 24 = (x <<< ((8 : Int32) &&& 31)) ||| (mm_us x 24) := Int32.or_comm _ _
theorem tr25 (x : Int32) : f_X12_turned x 25 = (x <<< ((7 : Int32) &&& 31)) ||| (mm_us x 25) := Int32.or_comm _ _
def cq_a1 (a b : Int32) : Int32 := a + b
def cq_d1 (a b d : Int32) : Int32 := f_X12_turned (d ^^^ cq_a1 a b) 16
def cq_c1 (a b c d : Int32) : Int32 := c + cq_d1 a b d
def cq_b1 (a b c d : Int32) : Int32 := f_X12_turned (b ^^^ cq_c1 a b c d) 20
def cq_a2 (a b c d : Int32) : Int32 := cq_a1 a b + cq_b1 a b c d
def cq_d2 (a b c d : Int32) : Int32 := f_X12_turned (cq_d1 a b d ^^^ cq_a2 a b c d) 24
def cq_c2 (a b c d : Int32) : Int32 := cq_c1 a b c d + cq_d2 a b c d
def cq_b2 (a b c d : Int32) : Int32 := f_X12_turned (cq_b1 a b c d ^^^ cq_c2 a b c d) 25
def ccQ (w : Nat → Int32) (a b c d : Nat) : Nat → Int32 := up (up (up (up w a (cq_a2 (w a) (w b) (w c) (w d))) b (cq_b2 (w a) (w b) (w c) (w d))) c (cq_c2 (w a) (w b) (w c) (w d))) d (cq_d2 (w a) (w b) (w c) (w d))
theorem ccQ_congr {w w' : Nat → Int32} {a b c d : Nat} (h : ∀ i, i < 16 → w i = w' i) (ha : a < 16) (hb : b < 16) (hc : c < 16) (hd : d < 16) : ∀ i, i < 16 → ccQ w a b c d i = ccQ w' a b c d i := by
  intro i hi
  unfold ccQ up
  rw [h a ha, h b hb, h c hc, h d hd, h i hi]
def ccR (w : Nat → Int32) (p : Nat) : Nat → Nat → Int32
  | 0 => w
  | t + 1 => ccQ (ccR w p t) t (4 + ((t + p) % 4)) (8 + ((t + 2 * p) % 4)) (12 + ((t + 3 * p) % 4))
theorem ccR_congr {w w' : Nat → Int32} (h : ∀ i, i < 16 → w i = w' i) (p : Nat) : ∀ t, t ≤ 4 → ∀ i, i < 16 → ccR w p t i = ccR w' p t i
  | 0, _, i, hi => h i hi
  | t + 1, ht, i, hi => by
    rw [ccR, ccR]
    exact ccQ_congr (ccR_congr h p t (by omega)) (by omega) (by omega) (by omega) (by omega) i hi
def ccD (w : Nat → Int32) : Nat → Nat → Int32
  | 0 => w
  | t + 1 => ccR (ccD w t) (t % 2) 4
theorem ccD_congr {w w' : Nat → Int32} (h : ∀ i, i < 16 → w i = w' i) : ∀ t, ∀ i, i < 16 → ccD w t i = ccD w' t i
  | 0, i, hi => h i hi
  | t + 1, i, hi => by
    rw [ccD, ccD]
    exact ccR_congr (ccD_congr h t) (t % 2) 4 (by decide) i hi
def ccK (key : Nat → Int32) (p : Nat) : Int32 := (((((key p) &&& (255 : Int32)) ||| (((key (p + 1)) &&& (255 : Int32)) <<< ((8 : Int32) &&& 31))) ||| (((key (p + 2)) &&& (255 : Int32)) <<< ((16 : Int32) &&& 31))) ||| (((key (p + 3)) &&& (255 : Int32)) <<< ((24 : Int32) &&& 31)))
def ccG (key : Nat → Int32) (ctr : Int32) (u : Int64) (i : Nat) : Int32 := if i = 0 then 1634760805 else if i = 1 then 857760878 else if i = 2 then 2036477234 else if i = 3 then 1797285236 else if i < 12 then ccK key (4 * (i - 4)) else if i = 12 then ctr else if i = 13 then 0 else if i = 14 then u.toInt32 else (mm_ul u 32).toInt32
def ccS (key : Nat → Int32) (ctr : Int32) (u : Int64) (i : Nat) : Int32 := mm_b (mm_us (ccD (ccG key ctr u) 20 (i / 4) + ccG key ctr u (i / 4)) (nI (8 * (i % 4))))
theorem ccG_congr {key key' : Nat → Int32} (h : ∀ j, j < 32 → key j = key' j) (ctr : Int32) (u : Int64) : ∀ i, i < 16 → ccG key ctr u i = ccG key' ctr u i := by
  intro i hi
  unfold ccG
  by_cases c : i < 12 ∧ 4 ≤ i
  · have e : ccK key (4 * (i - 4)) = ccK key' (4 * (i - 4)) := by
      unfold ccK
      rw [h _ (by omega), h _ (by omega), h _ (by omega), h _ (by omega)]
    rw [e]
  · by_cases c1 : i < 12
    · have : i = 0 ∨ i = 1 ∨ i = 2 ∨ i = 3 := by omega
      rcases this with rfl | rfl | rfl | rfl <;> rfl
    · rw [if_neg c1, if_neg c1]
theorem ccS_congr {key key' : Nat → Int32} (h : ∀ j, j < 32 → key j = key' j) (ctr : Int32) (u : Int64) : ∀ i, i < 64 → ccS key ctr u i = ccS key' ctr u i := by
  intro i hi
  unfold ccS
  rw [ccD_congr (ccG_congr h ctr u) 20 (i / 4) (by omega), ccG_congr h ctr u (i / 4) (by omega)]
/-! the engine -/
theorem e_ccR (p : Nat) (σ : mm_M) : ∀ t, (f_X2_quarterRounds_L2 p σ t).1 35 = ccR (σ.1 35) p t
  | 0 => rfl
  | t + 1 => by
    have ih := e_ccR p σ t
    rw [f_X2_quarterRounds_L2, ccR, ← ih]
    generalize f_X2_quarterRounds_L2 p σ t = R
    rw [rw_row, rw_row, rw_row, rw_row]
    unfold ccQ cq_b2 cq_d2 cq_c2 cq_d2 cq_a2 cq_b1 cq_c1 cq_d1 cq_a1
    simp only [tr16, tr20, tr24, tr25]
theorem e_ccD (σ : mm_M) : ∀ t, (f_X2_nextBlock_L17 σ t).1 35 = ccD (σ.1 35) t
  | 0 => rfl
  | t + 1 => by
    have ih := e_ccD σ t
    rw [f_X2_nextBlock_L17, ccD, ← ih]
    generalize f_X2_nextBlock_L17 σ t = R
    unfold f_X2_quarterRounds
    exact e_ccR (t % 2) R 4
theorem e_ccO (σ : mm_M) : ∀ t, ∀ i, i < 4 * t → (f_X2_nextBlock_L38 σ t).1 33 i = mm_b (mm_us (σ.1 35 (i / 4) + σ.1 34 (i / 4)) (nI (8 * (i % 4))))
  | 0, i, hi => absurd hi (by omega)
  | t + 1, i, hi => by
    have ih := e_ccO σ t
    have f := w_f_X2_nextBlock_L38 σ t
    rw [f_X2_nextBlock_L38]
    generalize f_X2_nextBlock_L38 σ t = R at *
    rw [rd_store, (f 35 (by decide)).1, (f 34 (by decide)).1]
    by_cases e : i < 4 * t
    · rw [if_neg (by omega), if_neg (by omega), if_neg (by omega), if_neg (by omega)]
      exact ih i e
    · have : i = 4 * t ∨ i = 4 * t + 1 ∨ i = 4 * t + 2 ∨ i = 4 * t + 3 := by omega
      rcases this with rfl | rfl | rfl | rfl
      · rw [if_pos rfl, show 4 * t / 4 = t from by omega, show 4 * t % 4 = 0 from by omega]
        refine mm_b_eq ?_
        rw [un_us _ (nI (8 * 0)) 0 (by decide) (by decide)]
        omega
      · rw [if_neg (by omega), if_pos rfl, show (4 * t + 1) / 4 = t from by omega, show (4 * t + 1) % 4 = 1 from by omega]; rfl
      · rw [if_neg (by omega), if_neg (by omega), if_pos rfl, show (4 * t + 2) / 4 = t from by omega, show (4 * t + 2) % 4 = 2 from by omega]; rfl
      · rw [if_neg (by omega), if_neg (by omega), if_neg (by omega), if_pos rfl, show (4 * t + 3) / 4 = t from by omega, show (4 * t + 3) % 4 = 3 from by omega]; rfl
/-- the engine's cipher stands at a counter -/
def cc_is (M : mm_M) (key : Nat → Int32) (ctr : Int32) (u : Int64) : Prop := ∀ i, i < 16 → M.1 34 i = ccG key ctr u i
theorem e_ccB (k1 : Nat) (hk : k1 ≠ 34) (u : Int64) (M : mm_M) : cc_is (f_X2_begin k1 u M) (M.1 k1) 0 u := by
  have hL : ∀ σ : mm_M, ∀ t, ∀ i, (f_X2_begin_L35 k1 σ t).1 34 i = if 4 ≤ i ∧ i < 4 + t then ccK (σ.1 k1) (4 * (i - 4)) else σ.1 34 i := by
    intro σ t
    induction t with
    | zero => intro i; rw [if_neg (by omega)]; rfl
    | succ t ih =>
      intro i
      have f := (w_f_X2_begin_L35 k1 σ t k1 (by simp; omega)).1
      rw [f_X2_begin_L35]
      generalize f_X2_begin_L35 k1 σ t = R at *
      rw [rd_w]
      by_cases e : i = 4 + t
      · rw [if_pos ⟨rfl, e⟩, if_pos (by omega), show 4 * (i - 4) = 4 * t from by omega]
        show ccK (R.1 k1) (4 * t) = _
        rw [f]
      · rw [if_neg (fun q => e q.2), ih i]
        by_cases c : 4 ≤ i ∧ i < 4 + t
        · rw [if_pos c, if_pos (by omega)]
        · rw [if_neg c, if_neg (by omega)]
  unfold f_X2_begin
  try dsimp only
  have w4 : mm_fr [34] M (mm_w (mm_w (mm_w (mm_w M 34 0 1634760805) 34 1 857760878) 34 2 2036477234) 34 3 1797285236) := mm_fr_w (by decide) (mm_fr_w (by decide) (mm_fr_w (by decide) (mm_fr_w (by decide) (mm_fr_refl _ _))))
  have r4 : (mm_w (mm_w (mm_w (mm_w M 34 0 1634760805) 34 1 857760878) 34 2 2036477234) 34 3 1797285236).1 34 = up (up (up (up (M.1 34) 0 1634760805) 1 857760878) 2 2036477234) 3 1797285236 := by
    rw [rw_row, rw_row, rw_row, rw_row]
  generalize mm_w (mm_w (mm_w (mm_w M 34 0 1634760805) 34 1 857760878) 34 2 2036477234) 34 3 1797285236 = M4 at *
  have h5 := hL M4 8
  generalize f_X2_begin_L35 k1 M4 8 = M5 at *
  intro i hi
  rw [rw_row, rw_row, rw_row, rw_row]
  unfold ccG
  rw [r4, (w4 k1 (by simp; omega)).1] at h5
  unfold up at *
  by_cases e15 : i = 15
  · rw [if_pos e15, if_neg (by omega), if_neg (by omega), if_neg (by omega), if_neg (by omega), if_neg (by omega), if_neg (by omega), if_neg (by omega), if_neg (by omega)]
  · rw [if_neg e15]
    by_cases e14 : i = 14
    · rw [if_pos e14, if_neg (by omega), if_neg (by omega), if_neg (by omega), if_neg (by omega), if_neg (by omega), if_neg (by omega), if_neg (by omega), if_pos e14]
    · rw [if_neg e14]
      by_cases e13 : i = 13
      · rw [if_pos e13, if_neg (by omega), if_neg (by omega), if_neg (by omega), if_neg (by omega), if_neg (by omega), if_neg (by omega), if_pos e13]
      · rw [if_neg e13]
        by_cases e12 : i = 12
        · rw [if_pos e12, if_neg (by omega), if_neg (by omega), if_neg (by omega), if_neg (by omega), if_neg (by omega), if_pos e12]
        · rw [if_neg e12, h5 i]
          by_cases c : 4 ≤ i
          · rw [if_pos (by omega), if_neg (by omega), if_neg (by omega), if_neg (by omega), if_neg (by omega), if_pos (by omega)]
          · rw [if_neg (by omega)]
            have : i = 0 ∨ i = 1 ∨ i = 2 ∨ i = 3 := by omega
            rcases this with rfl | rfl | rfl | rfl <;> rfl
theorem e_ccN (M : mm_M) (key : Nat → Int32) (ctr : Int32) (u : Int64) (h : cc_is M key ctr u) : (∀ i, i < 64 → (f_X2_nextBlock M).1 33 i = ccS key ctr u i) ∧ cc_is (f_X2_nextBlock M) key (ctr + 1) u := by
  unfold f_X2_nextBlock
  try dsimp only
  have r1 : ∀ i, i < 16 → (mm_cp M 34 0 35 0 16).1 35 i = ccG key ctr u i := fun i hi => by
    have := rd_cpS M 34 0 35 0 16 hi
    simp only [Nat.zero_add] at this
    rw [this]; exact h i hi
  have w1 : mm_fr [35] M (mm_cp M 34 0 35 0 16) := mm_fr_cp (by decide) (mm_fr_refl _ _)
  generalize mm_cp M 34 0 35 0 16 = M1 at *
  have r2 := e_ccD M1 20
  have w2 := w_f_X2_nextBlock_L17 M1 20
  generalize f_X2_nextBlock_L17 M1 20 = M2 at *
  have r3 := e_ccO M2 16
  have w3 := w_f_X2_nextBlock_L38 M2 16
  generalize f_X2_nextBlock_L38 M2 16 = M3 at *
  have e34 : M2.1 34 = M.1 34 := by rw [(w2 34 (by decide)).1, (w1 34 (by decide)).1]
  refine ⟨fun i hi => ?_, fun i hi => ?_⟩
  · rw [rd_wN _ _ _ _ (Or.inl (by decide)), r3 i (by omega), r2, e34, h (i / 4) (by omega)]
    unfold ccS
    rw [ccD_congr r1 20 (i / 4) (by omega)]
  · rw [rd_w, (w3 34 (by decide)).1, e34]
    by_cases e : i = 12
    · rw [if_pos ⟨rfl, e⟩, h 12 (by decide), e]
      rfl
    · rw [if_neg (fun q => e q.2), h i hi]
      unfold ccG
      by_cases c : i < 12
      · have : i = 0 ∨ i = 1 ∨ i = 2 ∨ i = 3 ∨ 4 ≤ i := by omega
        rcases this with rfl | rfl | rfl | rfl | q
        · rfl
        · rfl
        · rfl
        · rfl
        · rw [if_neg (by omega), if_neg (by omega), if_neg (by omega), if_neg (by omega), if_pos c, if_neg (by omega), if_neg (by omega), if_neg (by omega), if_neg (by omega), if_pos c]
      · rw [if_neg c, if_neg c, if_neg e, if_neg e]
/-! the reference -/
theorem r_ccQ (a b c d : Nat) (hab : a ≠ b) (hac : a ≠ c) (had : a ≠ d) (hbc : b ≠ c) (hbd : b ≠ d) (hcd : c ≠ d) (M : mm_M) : (f_X12_quarter a b c d M).1 148 = ccQ (M.1 148) a b c d := by
  unfold f_X12_quarter
  try dsimp only
  simp only [rw_row, up_S, up_N _ _ hab, up_N _ _ hac, up_N _ _ had, up_N _ _ hbc, up_N _ _ hbd, up_N _ _ hcd, up_N _ _ hab.symm, up_N _ _ hac.symm, up_N _ _ had.symm, up_N _ _ hbc.symm, up_N _ _ hbd.symm, up_N _ _ hcd.symm]
  unfold ccQ cq_b2 cq_d2 cq_c2 cq_d2 cq_a2 cq_b1 cq_c1 cq_d1 cq_a1
  funext i
  by_cases ea : i = a
  · subst ea
    simp only [up_S, up_N _ _ hab, up_N _ _ hac, up_N _ _ had]
  · by_cases eb : i = b
    · subst eb
      simp only [up_S, up_N _ _ hbc, up_N _ _ hbd]
    · by_cases ec : i = c
      · subst ec
        simp only [up_S, up_N _ _ hcd, up_N _ _ eb]
      · by_cases ed : i = d
        · subst ed
          simp only [up_S, up_N _ _ ec, up_N _ _ eb]
        · simp only [up_N _ _ ea, up_N _ _ eb, up_N _ _ ec, up_N _ _ ed]
theorem r_cc0 (σ : mm_M) : ∀ t, t ≤ 4 → (f_X12_streamed_L153 σ t).1 148 = ccR (σ.1 148) 0 t
  | 0, _ => rfl
  | t + 1, ht => by
    have ih := r_cc0 σ t (by omega)
    rw [f_X12_streamed_L153, ccR, ← ih, r_ccQ _ _ _ _ (by omega) (by omega) (by omega) (by omega) (by omega) (by omega), show (t + 0) % 4 = t from by omega]
theorem r_cc1 (σ : mm_M) : ∀ t, t ≤ 4 → (f_X12_streamed_L188 σ t).1 148 = ccR (σ.1 148) 1 t
  | 0, _ => rfl
  | t + 1, ht => by
    have ih := r_cc1 σ t (by omega)
    rw [f_X12_streamed_L188, ccR, ← ih, r_ccQ _ _ _ _ (by omega) (by omega) (by omega) (by omega) (by omega) (by omega)]
theorem r_ccD (σ : mm_M) : ∀ t, (f_X12_streamed_L143 σ t).1 148 = ccD (σ.1 148) (2 * t)
  | 0 => rfl
  | t + 1 => by
    have ih := r_ccD σ t
    rw [f_X12_streamed_L143, show 2 * (t + 1) = 2 * t + 1 + 1 from by omega, ccD, ccD, ← ih, r_cc1 _ 4 (by decide), r_cc0 _ 4 (by decide), show (2 * t) % 2 = 0 from by omega, show (2 * t + 1) % 2 = 1 from by omega]
theorem r_ccO (σ : mm_M) (i : Nat) : ∀ t, (f_X12_streamed_L241 σ t).1 149 i = if i < t then mm_b (mm_us (σ.1 148 (i / 4) + σ.1 147 (i / 4)) (nI (8 * (i % 4)))) else σ.1 149 i
  | 0 => by rw [if_neg (by omega)]; rfl
  | t + 1 => by
    have ih := r_ccO σ i t
    have f := w_f_X12_streamed_L241 σ t
    rw [f_X12_streamed_L241]
    generalize f_X12_streamed_L241 σ t = R at *
    rw [rd_w]
    by_cases e : i = t
    · rw [if_pos ⟨rfl, e⟩, if_pos (by omega), (f 148 (by decide)).1, (f 147 (by decide)).1, b_sr _ _ (by omega), e]
    · rw [if_neg (fun q => e q.2), ih]
      by_cases c : i < t
      · rw [if_pos c, if_pos (by omega)]
      · rw [if_neg c, if_neg (by omega)]
theorem hi32 (u : Int64) : (u >>> (((32 : Int32)).toInt64 &&& 63)).toInt32 = (mm_ul u 32).toInt32 := by
  refine un_inj ?_
  rw [un_l2, un_l2, un_ul u 32 32 (by decide) (by decide)]
  have h1 : (u >>> (((32 : Int32)).toInt64 &&& 63)).toBitVec = u.toBitVec.sshiftRight 32 := rfl
  have h : BitVec.setWidth 32 (u.toBitVec.sshiftRight 32) = BitVec.setWidth 32 (u.toBitVec >>> 32) := by
    ext i hi
    rw [BitVec.getElem_setWidth, BitVec.getElem_setWidth, BitVec.getLsbD_sshiftRight, BitVec.getLsbD_ushiftRight, if_pos (by omega), decide_eq_false (by omega), Bool.not_false, Bool.true_and]
  have h3 := congrArg BitVec.toNat h
  rw [BitVec.toNat_setWidth, BitVec.toNat_setWidth, BitVec.toNat_ushiftRight, Nat.shiftRight_eq_div_pow] at h3
  rw [h1]
  exact h3
theorem r_cc (k1 p1 : Nat) (hk : k1 ≠ 147) (v : Int32) (u : Int64) (M : mm_M) : ∀ i, i < 64 → (f_X12_streamed k1 p1 v u M).1 149 i = ccS (fun i => M.1 k1 (p1 + i)) v u i := by
  have hL : ∀ σ : mm_M, ∀ t, ∀ i, (f_X12_streamed_L39 k1 p1 σ t).1 147 i = if 4 ≤ i ∧ i < 4 + t then ccK (fun j => σ.1 k1 (p1 + j)) (4 * (i - 4)) else σ.1 147 i := by
    intro σ t
    induction t with
    | zero => intro i; rw [if_neg (by omega)]; rfl
    | succ t ih =>
      intro i
      have f := (w_f_X12_streamed_L39 k1 p1 σ t k1 (by simp; omega)).1
      rw [f_X12_streamed_L39]
      generalize f_X12_streamed_L39 k1 p1 σ t = R at *
      rw [rd_w]
      by_cases e : i = 4 + t
      · rw [if_pos ⟨rfl, e⟩, if_pos (by omega), show 4 * (i - 4) = 4 * t from by omega, ← f]
        rfl
      · rw [if_neg (fun q => e q.2), ih i]
        by_cases c : 4 ≤ i ∧ i < 4 + t
        · rw [if_pos c, if_pos (by omega)]
        · rw [if_neg c, if_neg (by omega)]
  unfold f_X12_streamed
  try dsimp only
  have w4 : mm_fr [147] M (mm_w (mm_w (mm_w (mm_w M 147 0 1634760805) 147 1 857760878) 147 2 2036477234) 147 3 1797285236) := mm_fr_w (by decide) (mm_fr_w (by decide) (mm_fr_w (by decide) (mm_fr_w (by decide) (mm_fr_refl _ _))))
  have r4 : (mm_w (mm_w (mm_w (mm_w M 147 0 1634760805) 147 1 857760878) 147 2 2036477234) 147 3 1797285236).1 147 = up (up (up (up (M.1 147) 0 1634760805) 1 857760878) 2 2036477234) 3 1797285236 := by
    rw [rw_row, rw_row, rw_row, rw_row]
  generalize mm_w (mm_w (mm_w (mm_w M 147 0 1634760805) 147 1 857760878) 147 2 2036477234) 147 3 1797285236 = M4 at *
  have h5 := hL M4 8
  generalize f_X12_streamed_L39 k1 p1 M4 8 = M5 at *
  rw [(w4 k1 (by simp; omega)).1, r4] at h5
  rw [hi32]
  have g : ∀ i, i < 16 → (mm_w (mm_w (mm_w (mm_w M5 147 12 v) 147 13 0) 147 14 u.toInt32) 147 15 (mm_ul u 32).toInt32).1 147 i = ccG (fun i => M.1 k1 (p1 + i)) v u i := by
    intro i hi
    rw [rw_row, rw_row, rw_row, rw_row]
    unfold ccG
    unfold up at *
    by_cases e15 : i = 15
    · rw [if_pos e15, if_neg (by omega), if_neg (by omega), if_neg (by omega), if_neg (by omega), if_neg (by omega), if_neg (by omega), if_neg (by omega), if_neg (by omega)]
    · rw [if_neg e15]
      by_cases e14 : i = 14
      · rw [if_pos e14, if_neg (by omega), if_neg (by omega), if_neg (by omega), if_neg (by omega), if_neg (by omega), if_neg (by omega), if_neg (by omega), if_pos e14]
      · rw [if_neg e14]
        by_cases e13 : i = 13
        · rw [if_pos e13, if_neg (by omega), if_neg (by omega), if_neg (by omega), if_neg (by omega), if_neg (by omega), if_neg (by omega), if_pos e13]
        · rw [if_neg e13]
          by_cases e12 : i = 12
          · rw [if_pos e12, if_neg (by omega), if_neg (by omega), if_neg (by omega), if_neg (by omega), if_neg (by omega), if_pos e12]
          · rw [if_neg e12, h5 i]
            by_cases c : 4 ≤ i
            · rw [if_pos (by omega), if_neg (by omega), if_neg (by omega), if_neg (by omega), if_neg (by omega), if_pos (by omega)]
            · rw [if_neg (by omega)]
              have : i = 0 ∨ i = 1 ∨ i = 2 ∨ i = 3 := by omega
              rcases this with rfl | rfl | rfl | rfl <;> rfl
  generalize mm_w (mm_w (mm_w (mm_w M5 147 12 v) 147 13 0) 147 14 u.toInt32) 147 15 (mm_ul u 32).toInt32 = M10 at *
  have hC : ∀ t i, (f_X12_streamed_L113 M10 t).1 148 i = if i < t then M10.1 147 i else M10.1 148 i := by
    intro t
    induction t with
    | zero => intro i; rw [if_neg (by omega)]; rfl
    | succ t ih =>
      intro i
      have f := (w_f_X12_streamed_L113 M10 t 147 (by decide)).1
      rw [f_X12_streamed_L113]
      generalize f_X12_streamed_L113 M10 t = R at *
      rw [rd_w]
      by_cases e : i = t
      · rw [if_pos ⟨rfl, e⟩, if_pos (by omega), f, e]
      · rw [if_neg (fun q => e q.2), ih]
        by_cases c : i < t
        · rw [if_pos c, if_pos (by omega)]
        · rw [if_neg c, if_neg (by omega)]
  have h11 := hC 16
  have w11 := w_f_X12_streamed_L113 M10 16
  generalize f_X12_streamed_L113 M10 16 = M11 at *
  have h13 := r_ccD M11 10
  have w13 := w_f_X12_streamed_L143 M11 10
  generalize f_X12_streamed_L143 M11 10 = M13 at *
  intro i hi
  rw [r_ccO M13 i 64, if_pos hi, h13, (w13 147 (by decide)).1, (w11 147 (by decide)).1, g (i / 4) (by omega)]
  unfold ccS
  rw [ccD_congr (w := M11.1 148) (w' := ccG (fun i => M.1 k1 (p1 + i)) v u) (fun i hi => by rw [h11 i, if_pos hi, g i hi]) (2 * 10) (i / 4) (by omega)]
