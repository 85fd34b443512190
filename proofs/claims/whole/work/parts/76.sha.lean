/-! SHA-256: the pure function, and the engine's block -/
theorem rot7 (v : Int32) : f_X12_turned v 7 = f_J6_rotateRight_7cf53 v 7 := rfl
theorem rot18 (v : Int32) : f_X12_turned v 18 = f_J6_rotateRight_7cf53 v 18 := rfl
theorem rot17 (v : Int32) : f_X12_turned v 17 = f_J6_rotateRight_7cf53 v 17 := rfl
theorem rot19 (v : Int32) : f_X12_turned v 19 = f_J6_rotateRight_7cf53 v 19 := rfl
theorem rot6 (v : Int32) : f_X12_turned v 6 = f_J6_rotateRight_7cf53 v 6 := rfl
theorem rot11 (v : Int32) : f_X12_turned v 11 = f_J6_rotateRight_7cf53 v 11 := rfl
theorem rot25 (v : Int32) : f_X12_turned v 25 = f_J6_rotateRight_7cf53 v 25 := rfl
theorem rot2 (v : Int32) : f_X12_turned v 2 = f_J6_rotateRight_7cf53 v 2 := rfl
theorem rot13 (v : Int32) : f_X12_turned v 13 = f_J6_rotateRight_7cf53 v 13 := rfl
theorem rot22 (v : Int32) : f_X12_turned v 22 = f_J6_rotateRight_7cf53 v 22 := rfl
def sh_a (x : Int32) : Int32 := ((f_J6_rotateRight_7cf53 (x) (7 : Int32)) ^^^ (f_J6_rotateRight_7cf53 (x) (18 : Int32))) ^^^ (mm_us (x) (3 : Int32))
def sh_b (x : Int32) : Int32 := ((f_J6_rotateRight_7cf53 (x) (17 : Int32)) ^^^ (f_J6_rotateRight_7cf53 (x) (19 : Int32))) ^^^ (mm_us (x) (10 : Int32))
def up (w : Nat → Int32) (k : Nat) (v : Int32) (i : Nat) : Int32 := if i = k then v else w i
def shL (w : Nat → Int32) : Nat → Nat → Int32
  | 0 => w
  | t + 1 => up (shL w t) (16 + t) ((((shL w t ((16 + t) - 16)) + sh_a (shL w t ((16 + t) - 15))) + (shL w t ((16 + t) - 7))) + sh_b (shL w t ((16 + t) - 2)))
theorem shL_congr {w w' : Nat → Int32} (h : ∀ i, i < 16 → w i = w' i) : ∀ t i, i < 16 + t → shL w t i = shL w' t i
  | 0, i, hi => h i hi
  | t + 1, i, hi => by
    rw [shL, shL]
    unfold up
    by_cases e : i = 16 + t
    · rw [if_pos e, if_pos e, shL_congr h t _ (by omega), shL_congr h t _ (by omega), shL_congr h t _ (by omega), shL_congr h t _ (by omega)]
    · rw [if_neg e, if_neg e]
      exact shL_congr h t i (by omega)
abbrev t8 := Int32 × Int32 × Int32 × Int32 × Int32 × Int32 × Int32 × Int32
def shR (k w : Int32) (s : t8) : t8 :=
  let x10_38 := ((f_J6_rotateRight_7cf53 (s.2.2.2.1) (6 : Int32)) ^^^ (f_J6_rotateRight_7cf53 (s.2.2.2.1) (11 : Int32))) ^^^ (f_J6_rotateRight_7cf53 (s.2.2.2.1) (25 : Int32))
  let x11_39 := ((s.2.2.2.1) &&& (s.2.2.1)) ^^^ (((s.2.2.2.1) ^^^ (-1 : Int32)) &&& (s.2.1))
  let x12_40 := ((((s.1) + (x10_38)) + (x11_39)) + k) + w
  let x13_44 := ((f_J6_rotateRight_7cf53 (s.2.2.2.2.2.2.2) (2 : Int32)) ^^^ (f_J6_rotateRight_7cf53 (s.2.2.2.2.2.2.2) (13 : Int32))) ^^^ (f_J6_rotateRight_7cf53 (s.2.2.2.2.2.2.2) (22 : Int32))
  let x14_45 := (((s.2.2.2.2.2.2.2) &&& (s.2.2.2.2.2.2.1)) ^^^ ((s.2.2.2.2.2.2.2) &&& (s.2.2.2.2.2.1))) ^^^ ((s.2.2.2.2.2.2.1) &&& (s.2.2.2.2.2.1))
  let x5_46 := (s.2.2.2.2.1) + (x12_40)
  let x1_47 := ((x12_40) + (x13_44)) + (x14_45)
  ((s.2.1), (s.2.2.1), (s.2.2.2.1), (x5_46), (s.2.2.2.2.2.1), (s.2.2.2.2.2.2.1), (s.2.2.2.2.2.2.2), (x1_47))
def shC (w : Nat → Int32) (s : t8) : Nat → t8
  | 0 => s
  | t + 1 => shR (mm_tab 176 t) (w t) (shC w s t)
theorem shC_congr {w w' : Nat → Int32} (s : t8) : ∀ t, (∀ i, i < t → w i = w' i) → shC w s t = shC w' s t
  | 0, _ => rfl
  | t + 1, h => by rw [shC, shC, shC_congr s t (fun i hi => h i (by omega)), h t (by omega)]
def tp (x : t8) : Nat → Int32
  | 0 => x.2.2.2.2.2.2.2
  | 1 => x.2.2.2.2.2.2.1
  | 2 => x.2.2.2.2.2.1
  | 3 => x.2.2.2.2.1
  | 4 => x.2.2.2.1
  | 5 => x.2.2.1
  | 6 => x.2.1
  | 7 => x.1
  | _ => 0
def t8of (c : Nat → Int32) : t8 := (c 7, c 6, c 5, c 4, c 3, c 2, c 1, c 0)
theorem t8_congr {c c' : Nat → Int32} (h : ∀ i, i < 8 → c i = c' i) : t8of c = t8of c' := by
  unfold t8of
  rw [h 0 (by decide), h 1 (by decide), h 2 (by decide), h 3 (by decide), h 4 (by decide), h 5 (by decide), h 6 (by decide), h 7 (by decide)]
def shW (b : Nat → Nat) (t : Nat) : Int32 := Int32.ofNat (b (4 * t + 3) + b (4 * t + 2) * 256 + b (4 * t + 1) * 65536 + b (4 * t) * 16777216)
def shB (c : Nat → Int32) (b : Nat → Nat) (i : Nat) : Int32 := c i + tp (shC (shL (shW b) 48) (t8of c) 64) i
theorem shW_congr {b b' : Nat → Nat} (h : ∀ j, j < 64 → b j = b' j) : ∀ t, t < 16 → shW b t = shW b' t := by
  intro t ht
  unfold shW
  rw [h _ (by omega), h _ (by omega), h _ (by omega), h _ (by omega)]
theorem shB_congr {c c' : Nat → Int32} {b b' : Nat → Nat} (hc : ∀ i, i < 8 → c i = c' i) (hb : ∀ j, j < 64 → b j = b' j) : ∀ i, i < 8 → shB c b i = shB c' b' i := by
  intro i hi
  unfold shB
  rw [hc i hi, t8_congr hc, shC_congr (w := shL (shW b) 48) (w' := shL (shW b') 48) (t8of c') 64 (fun i hi => shL_congr (shW_congr hb) 48 i (by omega))]
theorem un_ofNat (n : Nat) (h : n < 4294967296) : un (Int32.ofNat n) = n := by
  have : un (Int32.ofNat n) = n % 2 ^ 32 := by
    show (Int32.ofNat n).toBitVec.toNat = n % 2 ^ 32
    rw [show (Int32.ofNat n).toBitVec = BitVec.ofNat 32 n from rfl, BitVec.toNat_ofNat]
  rw [this]
  omega
theorem shW_big (k p : Nat) (M : mm_M) : f_X1_loadBig k p M = Int32.ofNat (ub (M.1 k (p + 3)) + ub (M.1 k (p + 2)) * 256 + ub (M.1 k (p + 1)) * 65536 + ub (M.1 k p) * 16777216) := by
  refine un_inj ?_
  have a := ub_lt (M.1 k (p + 3))
  have b := ub_lt (M.1 k (p + 2))
  have c := ub_lt (M.1 k (p + 1))
  have d := ub_lt (M.1 k p)
  rw [un_ofNat _ (by omega)]
  exact un_wordB _ _ _ _
theorem e_shA (σ : mm_M) : ∀ t, (∀ i, (f_X8_fillSchedule_L2 σ t).1 26 i = σ.1 26 i) ∧ (∀ i, i < t → (f_X8_fillSchedule_L2 σ t).1 25 i = shW (fun j => ub (σ.1 26 j)) i)
  | 0 => ⟨fun _ => rfl, fun i hi => absurd hi (by omega)⟩
  | t + 1 => by
    obtain ⟨h1, h2⟩ := e_shA σ t
    rw [f_X8_fillSchedule_L2]
    generalize f_X8_fillSchedule_L2 σ t = R at *
    refine ⟨fun i => by rw [rd_wN _ _ _ _ (Or.inl (by decide))]; exact h1 i, fun i hi => ?_⟩
    by_cases e : i = t
    · subst e
      rw [rd_wS, shW_big]
      unfold shW
      rw [h1, h1, h1, h1]
    · rw [rd_wN _ _ _ _ (Or.inr e)]
      exact h2 i (by omega)
theorem e_shS (σ : mm_M) : ∀ t, (f_X8_fillSchedule_L33 σ t).1 25 = shL (σ.1 25) t
  | 0 => rfl
  | t + 1 => by
    have ih := e_shS σ t
    rw [f_X8_fillSchedule_L33, shL, ← ih]
    generalize f_X8_fillSchedule_L33 σ t = R at *
    funext i
    show (mm_w R 25 (16 + t) _).1 25 i = _
    rw [rd_w]
    unfold up
    by_cases e : i = 16 + t
    · rw [if_pos ⟨rfl, e⟩, if_pos e]
      rfl
    · rw [if_neg (fun q => e q.2), if_neg e]
theorem e_shC (M : mm_M) (hT : ∀ j, j < 64 → M.1 176 j = mm_tab 176 j) (s : t8) : ∀ t, t ≤ 64 → f_X8_compress_L66 M s t = shC (M.1 25) s t
  | 0, _ => rfl
  | t + 1, ht => by
    rw [shC, ← e_shC M hT s t (by omega), ← hT t (by omega)]
    rfl
theorem e_shU (M : mm_M) (s : t8) (hs : f_X8_compress_L66 M (t8of (M.1 24)) 64 = s) : ∀ i, i < 8 → (f_X8_compress M).1 24 i = M.1 24 i + tp s i := by
  intro i hi
  have hs' : f_X8_compress_L66 M (M.1 24 7, M.1 24 6, M.1 24 5, M.1 24 4, M.1 24 3, M.1 24 2, M.1 24 1, M.1 24 0) 64 = s := hs
  unfold f_X8_compress
  try dsimp only
  rw [hs']
  clear hs hs'
  have : i = 0 ∨ i = 1 ∨ i = 2 ∨ i = 3 ∨ i = 4 ∨ i = 5 ∨ i = 6 ∨ i = 7 := by omega
  rcases this with rfl | rfl | rfl | rfl | rfl | rfl | rfl | rfl <;> simp [rd_w, tp]
theorem e_shB (M : mm_M) (hT : ∀ j, j < 64 → M.1 176 j = mm_tab 176 j) : ∀ i, i < 8 → (f_X8_compress (f_X8_fillSchedule M)).1 24 i = shB (M.1 24) (fun j => ub (M.1 26 j)) i := by
  intro i hi
  unfold f_X8_fillSchedule
  try dsimp only
  obtain ⟨-, a2⟩ := e_shA M 16
  have f1 := w_f_X8_fillSchedule_L2 M 16
  generalize f_X8_fillSchedule_L2 M 16 = N at *
  have b := e_shS N 48
  have f2 := w_f_X8_fillSchedule_L33 N 48
  generalize f_X8_fillSchedule_L33 N 48 = R at *
  have c24 : R.1 24 = M.1 24 := by rw [(f2 24 (by decide)).1, (f1 24 (by decide)).1]
  have c176 : R.1 176 = M.1 176 := by rw [(f2 176 (by decide)).1, (f1 176 (by decide)).1]
  rw [e_shU R _ (e_shC R (by rw [c176]; exact hT) _ 64 (by decide)) i hi]
  unfold shB
  rw [c24, b, shC_congr (w := shL (N.1 25) 48) (w' := shL (shW (fun j => ub (M.1 26 j))) 48) _ 64 (fun i hi => shL_congr a2 48 i (by omega))]
/-! the reference's block -/
theorem r_shA (p : Nat) (σ : mm_M) : ∀ t, (∀ i, (f_X12_block_L2 p σ t).1 128 i = σ.1 128 i) ∧ (∀ i, i < t → (f_X12_block_L2 p σ t).1 125 i = shW (fun j => ub (σ.1 128 (p + j))) i)
  | 0 => ⟨fun _ => rfl, fun i hi => absurd hi (by omega)⟩
  | t + 1 => by
    obtain ⟨h1, h2⟩ := r_shA p σ t
    rw [f_X12_block_L2]
    generalize f_X12_block_L2 p σ t = R at *
    refine ⟨fun i => by rw [rd_wN _ _ _ _ (Or.inl (by decide))]; exact h1 i, fun i hi => ?_⟩
    by_cases e : i = t
    · subst e
      rw [rd_wS]
      have := shW_big 128 (p + 4 * i) R
      unfold f_X1_loadBig at this
      rw [this]
      unfold shW
      rw [h1, h1, h1, h1]
      rfl
    · rw [rd_wN _ _ _ _ (Or.inr e)]
      exact h2 i (by omega)
theorem r_shS (σ : mm_M) : ∀ t, (f_X12_block_L97 σ t).1 125 = shL (σ.1 125) t
  | 0 => rfl
  | t + 1 => by
    have ih := r_shS σ t
    rw [f_X12_block_L97, shL, ← ih]
    generalize f_X12_block_L97 σ t = R at *
    funext i
    show (mm_w R 125 (16 + t) _).1 125 i = _
    rw [rd_w]
    unfold up
    by_cases e : i = 16 + t
    · rw [if_pos ⟨rfl, e⟩, if_pos e]
      rfl
    · rw [if_neg (fun q => e q.2), if_neg e]
theorem r_shV (σ : mm_M) : ∀ t i, (f_X12_block_L224 σ t).1 127 i = if i < t then σ.1 126 i else σ.1 127 i
  | 0, i => by rw [if_neg (by omega)]; rfl
  | t + 1, i => by
    have f := (w_f_X12_block_L224 σ t 126 (by decide)).1
    have ih := r_shV σ t i
    rw [f_X12_block_L224]
    generalize f_X12_block_L224 σ t = R at *
    rw [rd_w]
    by_cases e : i = t
    · rw [if_pos ⟨rfl, e⟩, if_pos (by omega), f, e]
    · rw [if_neg (fun q => e q.2), ih]
      by_cases c : i < t
      · rw [if_pos c, if_pos (by omega)]
      · rw [if_neg c, if_neg (by omega)]
theorem r_shT (σ : mm_M) : ∀ t, t ≤ 7 → ∀ i, (f_X12_block_L427 σ t).1 127 i = if 7 - t < i ∧ i ≤ 7 then σ.1 127 (i - 1) else σ.1 127 i
  | 0, _, i => by rw [if_neg (by omega)]; rfl
  | t + 1, ht, i => by
    have ih := r_shT σ t (by omega)
    rw [f_X12_block_L427]
    generalize f_X12_block_L427 σ t = R at *
    rw [rd_w]
    by_cases e : i = 7 - t
    · rw [if_pos ⟨rfl, e⟩, if_pos (by omega), ih, if_neg (by omega), e]
    · rw [if_neg (fun q => e q.2), ih]
      by_cases c : 7 - t < i ∧ i ≤ 7
      · rw [if_pos c, if_pos (by omega)]
      · rw [if_neg c, if_neg (by omega)]
theorem r_shC (σ : mm_M) (hT : ∀ j, j < 64 → σ.1 123 j = mm_tab 176 j) : ∀ t, t ≤ 64 → t8of ((f_X12_block_L250 σ t).1 127) = shC (σ.1 125) (t8of (σ.1 127)) t
  | 0, _ => rfl
  | t + 1, ht => by
    have ih := r_shC σ hT t (by omega)
    have f := w_f_X12_block_L250 σ t
    rw [shC, ← ih, ← hT t (by omega), f_X12_block_L250]
    generalize f_X12_block_L250 σ t = R at *
    have f1 : R.1 123 = σ.1 123 := (f 123 (by decide)).1
    have f2 : R.1 125 = σ.1 125 := (f 125 (by decide)).1
    have g := r_shT R 7 (by decide)
    try dsimp only
    generalize f_X12_block_L427 R 7 = Q at *
    rw [← f1, ← f2]
    have g1 := g 1
    have g2 := g 2
    have g3 := g 3
    have g4 := g 4
    have g5 := g 5
    have g6 := g 6
    have g7 := g 7
    rw [if_pos (by decide)] at g1 g2 g3 g4 g5 g6 g7
    unfold t8of shR
    rw [rd_wN _ _ _ _ (Or.inr (by decide)), rd_wN _ _ _ _ (Or.inr (by decide)), rd_wN _ _ _ _ (Or.inr (by decide)), rd_wN _ _ _ _ (Or.inr (by decide)), rd_wN _ _ _ _ (Or.inr (by decide)), rd_wN _ _ _ _ (Or.inr (by decide)), rd_wN _ _ _ _ (Or.inr (show 4 ≠ 0 by decide)), rd_wS, rd_wN _ _ _ _ (Or.inr (show 3 ≠ 0 by decide)), rd_wN _ _ _ _ (Or.inr (show 3 ≠ 4 by decide)), rd_wN _ _ _ _ (Or.inr (show 2 ≠ 0 by decide)), rd_wN _ _ _ _ (Or.inr (show 2 ≠ 4 by decide)), rd_wN _ _ _ _ (Or.inr (show 1 ≠ 0 by decide)), rd_wN _ _ _ _ (Or.inr (show 1 ≠ 4 by decide)), rd_wS, g1, g2, g3, g4, g5, g6, g7]
    rw [rot6, rot11, rot25, rot2, rot13, rot22]
    simp only [Int32.add_assoc]
theorem r_shU (σ : mm_M) : ∀ t i, (f_X12_block_L482 σ t).1 126 i = if i < t then σ.1 126 i + σ.1 127 i else σ.1 126 i
  | 0, i => by rw [if_neg (by omega)]; rfl
  | t + 1, i => by
    have f := (w_f_X12_block_L482 σ t 127 (by decide)).1
    have ih := r_shU σ t
    rw [f_X12_block_L482]
    generalize f_X12_block_L482 σ t = R at *
    rw [rd_w]
    by_cases e : i = t
    · rw [if_pos ⟨rfl, e⟩, if_pos (by omega), f, ih, if_neg (by omega), e]
    · rw [if_neg (fun q => e q.2), ih]
      by_cases c : i < t
      · rw [if_pos c, if_pos (by omega)]
      · rw [if_neg c, if_neg (by omega)]
theorem tp8 (c : Nat → Int32) (i : Nat) (hi : i < 8) : tp (t8of c) i = c i := by
  have : i = 0 ∨ i = 1 ∨ i = 2 ∨ i = 3 ∨ i = 4 ∨ i = 5 ∨ i = 6 ∨ i = 7 := by omega
  rcases this with rfl | rfl | rfl | rfl | rfl | rfl | rfl | rfl <;> rfl
theorem r_shB (p : Nat) (M : mm_M) (hT : ∀ j, j < 64 → M.1 123 j = mm_tab 176 j) : ∀ i, i < 8 → (f_X12_block p M).1 126 i = shB (M.1 126) (fun j => ub (M.1 128 (p + j))) i := by
  intro i hi
  unfold f_X12_block
  try dsimp only
  obtain ⟨-, a2⟩ := r_shA p M 16
  have f1 := w_f_X12_block_L2 p M 16
  generalize f_X12_block_L2 p M 16 = N at *
  have b := r_shS N 48
  have f2 := w_f_X12_block_L97 N 48
  generalize f_X12_block_L97 N 48 = R at *
  have c126 : R.1 126 = M.1 126 := by rw [(f2 126 (by decide)).1, (f1 126 (by decide)).1]
  have c123 : R.1 123 = M.1 123 := by rw [(f2 123 (by decide)).1, (f1 123 (by decide)).1]
  have d := r_shV R 8
  have f3 := w_f_X12_block_L224 R 8
  generalize f_X12_block_L224 R 8 = S at *
  have s126 : S.1 126 = M.1 126 := by rw [(f3 126 (by decide)).1, c126]
  have s125 : S.1 125 = R.1 125 := (f3 125 (by decide)).1
  have s123 : S.1 123 = M.1 123 := by rw [(f3 123 (by decide)).1, c123]
  have e := r_shC S (by rw [s123]; exact hT) 64 (by decide)
  have f4 := w_f_X12_block_L250 S 64
  generalize f_X12_block_L250 S 64 = V at *
  have v126 : V.1 126 = M.1 126 := by rw [(f4 126 (by decide)).1, s126]
  rw [r_shU V 8 i, if_pos hi, v126, ← tp8 (V.1 127) i hi, e, s125, b]
  unfold shB
  rw [shC_congr (w := shL (N.1 125) 48) (w' := shL (shW (fun j => ub (M.1 128 (p + j)))) 48) _ 64 (fun i hi => shL_congr a2 48 i (by omega)), t8_congr (c := S.1 127) (c' := M.1 126) (fun i hi => by rw [d, if_pos hi, c126])]
