/-! Poly1305 in the reference: seventeen bytes -/
theorem un_addL (x y : Int32) (h : un x + un y < 4294967296) : un (x + y) = un x + un y := by
  unfold un at *
  rw [Int32.toBitVec_add, BitVec.toNat_add]
  omega
theorem un_mulL (x y : Int32) (h : un x * un y < 4294967296) : un (x * y) = un x * un y := by
  unfold un at *
  rw [Int32.toBitVec_mul, BitVec.toNat_mul]
  exact Nat.mod_eq_of_lt h
theorem un_srL (x c : Int32) (k : Nat) (hk : k < 32) (hc : c = Int32.ofNat k) (h : un x < 2147483648) : un (x >>> c) = un x / 2 ^ k := by
  subst hc
  have h1 : (x >>> Int32.ofNat k).toBitVec = x.toBitVec.sshiftRight ((Int32.ofNat k).toBitVec.smod 32).toNat := rfl
  have h2 : ∀ k : Fin 32, ((Int32.ofNat k.1).toBitVec.smod 32).toNat = k.1 := by decide
  rw [h2 ⟨k, hk⟩] at h1
  unfold un at *
  rw [h1, BitVec.sshiftRight_eq_of_msb_false (by rw [BitVec.msb_eq_false_iff_two_mul_lt]; omega), BitVec.toNat_ushiftRight, Nat.shiftRight_eq_div_pow]
def uw (M : mm_M) (k j : Nat) : Int := (un (M.1 k j) : Int)
theorem ws_add {w a b c : Nat → Int} {n : Nat} (h : ∀ i, i < n → c i = a i + b i) : ws w c n = ws w a n + ws w b n := by
  have := ws_lin (w := w) (a := a) (b := b) (c := c) (z := 1) (n := n) (fun i hi => by rw [h i hi, Int.one_mul])
  rw [this, Int.one_mul]
theorem r_plusL (k : Nat) (hk : k ≠ 150) (M : mm_M) (hb : ∀ j, j < 17 → un (M.1 150 j) ≤ 65535 ∧ un (M.1 k j) ≤ 65535) : ∀ t, t ≤ 17 → un (f_X12_plus_L4 k (M, 0) t).2 ≤ 1024 ∧ (∀ i, t ≤ i → (f_X12_plus_L4 k (M, 0) t).1.1 150 i = M.1 150 i) ∧ (∀ i, (f_X12_plus_L4 k (M, 0) t).1.1 k i = M.1 k i) ∧ (∀ i, i < t → un ((f_X12_plus_L4 k (M, 0) t).1.1 150 i) ≤ 255) ∧ ws w8 (uw (f_X12_plus_L4 k (M, 0) t).1 150) t + (un (f_X12_plus_L4 k (M, 0) t).2 : Int) * w8 t = ws w8 (uw M 150) t + ws w8 (uw M k) t
  | 0, _ => ⟨by show un 0 ≤ 1024; decide, fun _ _ => rfl, fun _ => rfl, fun i hi => absurd hi (by omega), by show 0 + (un 0 : Int) * 1 = 0 + 0; decide⟩
  | t + 1, ht => by
    obtain ⟨h1, h2, h3, h4, h5⟩ := r_plusL k hk M hb t (by omega)
    rw [f_X12_plus_L4]
    generalize f_X12_plus_L4 k (M, 0) t = R at *
    obtain ⟨R, y⟩ := R
    dsimp only at h1 h2 h3 h4 h5 ⊢
    rw [h2 t (Nat.le_refl _), h3 t]
    obtain ⟨b1, b2⟩ := hb t (by omega)
    have u1 := un_addL (M.1 150 t) (M.1 k t) (by omega)
    have u2 := un_addL y (M.1 150 t + M.1 k t) (by omega)
    rw [u1] at u2
    generalize y + (M.1 150 t + M.1 k t) = x at *
    have u3 := un_255 x
    have u4 := un_srL x ((8 : Int32) &&& 31) 8 (by decide) (by decide) (by omega)
    rw [show (2 : Nat) ^ 8 = 256 from rfl] at u4
    generalize x &&& 255 = z at *
    generalize x >>> ((8 : Int32) &&& 31) = v at *
    have rt : uw (mm_w R 150 t z) 150 t = (un z : Int) := by unfold uw; rw [rd_wS]
    have ro : ∀ i, i ≠ t → uw (mm_w R 150 t z) 150 i = uw R 150 i := fun i hi => by unfold uw; rw [rd_wN _ _ _ _ (Or.inr hi)]
    refine ⟨by omega, fun i hi => ?_, fun i => ?_, fun i hi => ?_, ?_⟩
    · rw [rd_wN _ _ _ _ (Or.inr (by omega))]; exact h2 i (by omega)
    · rw [rd_wN _ _ _ _ (Or.inl hk)]; exact h3 i
    · by_cases e : i = t
      · rw [e, rd_wS]; omega
      · rw [rd_wN _ _ _ _ (Or.inr e)]; exact h4 i (by omega)
    · rw [ws, ws, ws, ws_congr (a := uw (mm_w R 150 t z) 150) (b := uw R 150) (fun i hi => ro i (by omega)), rt, w8_1]
      have e1 : uw M 150 t = (un (M.1 150 t) : Int) := rfl
      have e2 : uw M k t = (un (M.1 k t) : Int) := rfl
      have d : (un z : Int) + 256 * (un v : Int) = (un y : Int) + ((un (M.1 150 t) : Int) + (un (M.1 k t) : Int)) := by omega
      rw [e1, e2]
      generalize (un (M.1 150 t) : Int) = A at *
      generalize (un (M.1 k t) : Int) = B at *
      generalize (un z : Int) = Z at *
      generalize (un v : Int) = V at *
      generalize (un y : Int) = Y at *
      generalize ws w8 (uw R 150) t = S1 at *
      generalize ws w8 (uw M 150) t = S2 at *
      generalize ws w8 (uw M k) t = S3 at *
      generalize w8 t = W at *
      have d2 : (Z + 256 * V) * W = (Y + (A + B)) * W := by rw [d]
      clear h1 h2 h3 h4 ro rt u1 u2 u3 u4 b1 b2 hb d e1 e2
      grind
theorem ws8_255 (M : mm_M) (k : Nat) (n : Nat) (h : ∀ i, i < n → un (M.1 k i) ≤ 255) : 0 ≤ ws w8 (uw M k) n ∧ ws w8 (uw M k) n < w8 n := ws8_lo _ n (fun i hi => by have := h i hi; unfold uw; omega)
theorem w8_17 : w8 17 = 87112285931760246646623899502532662132736 := by decide
theorem w8_16 : w8 16 = 340282366920938463463374607431768211456 := by decide
theorem r_plus (k : Nat) (hk : k ≠ 150) (M : mm_M) (hb : ∀ j, j < 17 → un (M.1 150 j) ≤ 65535 ∧ un (M.1 k j) ≤ 65535) : (∀ i, i < 17 → un ((f_X12_plus k M).1 150 i) ≤ 255) ∧ ws w8 (uw (f_X12_plus k M) 150) 17 = (ws w8 (uw M 150) 17 + ws w8 (uw M k) 17) % w8 17 := by
  obtain ⟨-, -, -, h4, h5⟩ := r_plusL k hk M hb 17 (by decide)
  unfold f_X12_plus
  try dsimp only
  generalize f_X12_plus_L4 k (M, 0) 17 = R at *
  obtain ⟨R, y⟩ := R
  dsimp only at *
  refine ⟨h4, ?_⟩
  obtain ⟨g1, g2⟩ := ws8_255 R 150 17 h4
  rw [← h5, Int.add_mul_emod_self_right]
  exact (Int.emod_eq_of_lt g1 g2).symm
/-! the product -/
def sm (f : Nat → Nat) : Nat → Nat
  | 0 => 0
  | n + 1 => sm f n + f n
def cof (r : Nat → Nat) (i j : Nat) : Nat := if i < j then 320 * r (i + 17 - j) else r (i - j)
theorem sm_congr {f g : Nat → Nat} : ∀ n, (∀ i, i < n → f i = g i) → sm f n = sm g n
  | 0, _ => rfl
  | n + 1, h => by rw [sm, sm, sm_congr n (fun i hi => h i (by omega)), h n (by omega)]
theorem sm_le {f : Nat → Nat} {b : Nat} : ∀ n, (∀ i, i < n → f i ≤ b) → sm f n ≤ n * b
  | 0, _ => by rw [sm]; omega
  | n + 1, h => by
    have := sm_le n (fun i hi => h i (by omega))
    have := h n (by omega)
    rw [sm, Nat.succ_mul]; omega
theorem pQ64 : w8 17 = 320 + 64 * pQ := by decide
theorem cof_val (r : Nat → Nat) (j : Nat) (hj : j ≤ 17) : ∃ q : Int, ws w8 (fun i => (cof r i j : Int)) 17 = w8 j * ws w8 (fun i => (r i : Int)) 17 + q * pQ := by
  have h1 := ws8_split (fun i => (cof r i j : Int)) j (17 - j)
  have h2 := ws8_split (fun i => (r i : Int)) (17 - j) j
  rw [show j + (17 - j) = 17 from by omega] at h1
  rw [show 17 - j + j = 17 from by omega] at h2
  have h3 : ws w8 (fun i => (cof r i j : Int)) j = 320 * ws w8 (fun i => (r (17 - j + i) : Int)) j := by
    rw [ws_lin (a := fun _ => 0) (b := fun i => (r (17 - j + i) : Int)) (z := 320) (fun i hi => by
      unfold cof
      rw [if_pos hi, show i + 17 - j = 17 - j + i from by omega]
      omega), ws_zero (fun _ _ => rfl)]
    omega
  have h4 : ws w8 (fun i => (cof r (j + i) j : Int)) (17 - j) = ws w8 (fun i => (r i : Int)) (17 - j) := ws_congr (fun i hi => by
    unfold cof
    rw [if_neg (by omega), show j + i - j = i from by omega])
  have h5 : w8 j * w8 (17 - j) = 320 + 64 * pQ := by rw [← w8_add, show j + (17 - j) = 17 from by omega]; exact pQ64
  refine ⟨-(64 * ws w8 (fun i => (r (17 - j + i) : Int)) j), ?_⟩
  rw [h1, h3, h4, h2]
  generalize ws w8 (fun i => (r (17 - j + i) : Int)) j = H at *
  generalize ws w8 (fun i => (r i : Int)) (17 - j) = L at *
  generalize w8 (17 - j) = W2 at *
  generalize w8 j = W at *
  have : W * W2 * H = (320 + 64 * pQ) * H := by rw [h5]
  clear h1 h2 h3 h4 h5
  grind
theorem tx_val (a r : Nat → Nat) : ∀ m, m ≤ 17 → ∃ q : Int, ws w8 (fun i => (sm (fun j => a j * cof r i j) m : Int)) 17 = ws w8 (fun j => (a j : Int)) m * ws w8 (fun i => (r i : Int)) 17 + q * pQ
  | 0, _ => ⟨0, by
    have h : ws w8 (fun i => (sm (fun j => a j * cof r i j) 0 : Int)) 17 = 0 := ws_zero (fun _ _ => rfl)
    rw [h, show ws w8 (fun j => (a j : Int)) 0 = 0 from rfl, Int.zero_mul, Int.zero_mul]
    rfl⟩
  | m + 1, hm => by
    obtain ⟨q, h⟩ := tx_val a r m (by omega)
    obtain ⟨q2, g⟩ := cof_val r m (by omega)
    rw [ws_lin (a := fun i => (sm (fun j => a j * cof r i j) m : Int)) (b := fun i => (cof r i m : Int)) (z := (a m : Int)) (fun i hi => by
      rw [sm, Int.natCast_add, Int.natCast_mul]), h, g, show ws w8 (fun j => (a j : Int)) (m + 1) = ws w8 (fun j => (a j : Int)) m + (a m : Int) * w8 m from rfl]
    refine ⟨q + a m * q2, ?_⟩
    generalize ws w8 (fun i => (r i : Int)) 17 = R
    generalize ws w8 (fun j => (a j : Int)) m = A
    generalize w8 m = W
    clear h g
    generalize (a m : Int) = z
    generalize pQ = P
    grind
theorem r_txI (t : Nat) (ht : t < 17) (σ : mm_M) (h0 : σ.1 153 t = 0) (ha : ∀ j, j < 17 → un (σ.1 150 j) ≤ 255) (hr : ∀ j, j < 17 → un (σ.1 151 j) ≤ 255) : ∀ u, u ≤ 17 → (∀ i, i ≠ t → (f_X12_tagged_L25 t σ u).1 153 i = σ.1 153 i) ∧ un ((f_X12_tagged_L25 t σ u).1 153 t) = sm (fun j => un (σ.1 150 j) * cof (fun i => un (σ.1 151 i)) t j) u
  | 0, _ => ⟨fun _ _ => rfl, by show un (σ.1 153 t) = 0; rw [h0]; rfl⟩
  | u + 1, hu => by
    obtain ⟨g1, g2⟩ := r_txI t ht σ h0 ha hr u (by omega)
    have f := w_f_X12_tagged_L25 t σ u
    have hle : sm (fun j => un (σ.1 150 j) * cof (fun i => un (σ.1 151 i)) t j) u ≤ u * 20808000 := sm_le u (fun i hi => by
      have a1 := ha i (by omega)
      have c1 : cof (fun i => un (σ.1 151 i)) t i ≤ 81600 := by
        unfold cof
        by_cases c : t < i
        · rw [if_pos c]; have := hr (t + 17 - i) (by omega); show 320 * un (σ.1 151 (t + 17 - i)) ≤ 81600; omega
        · rw [if_neg c]; have := hr (t - i) (by omega); show un (σ.1 151 (t - i)) ≤ 81600; omega
      exact Nat.mul_le_mul a1 c1)
    have hle2 : u * 20808000 ≤ 16 * 20808000 := Nat.mul_le_mul_right _ (by omega)
    rw [f_X12_tagged_L25, sm, ← g2]
    rw [← g2] at hle
    generalize f_X12_tagged_L25 t σ u = R at *
    have e150 : R.1 150 = σ.1 150 := (f 150 (by decide)).1
    have e151 : R.1 151 = σ.1 151 := (f 151 (by decide)).1
    unfold f_X12_tagged_B1 cof
    rw [e150, e151]
    have a1 := ha u (by omega)
    by_cases c : t < u
    · rw [if_pos c, if_pos c]
      refine ⟨fun i hi => by rw [rd_wN _ _ _ _ (Or.inr hi)]; exact g1 i hi, ?_⟩
      rw [rd_wS]
      have c1 := hr (t + 17 - u) (by omega)
      have m1 := un_mulL 320 (σ.1 151 (t + 17 - u)) (by rw [show un (320 : Int32) = 320 from by decide]; omega)
      rw [show un (320 : Int32) = 320 from by decide] at m1
      have p1 : un (σ.1 150 u) * (320 * un (σ.1 151 (t + 17 - u))) ≤ 255 * 81600 := Nat.mul_le_mul a1 (by omega)
      have m2 := un_mulL (σ.1 150 u) (320 * σ.1 151 (t + 17 - u)) (by rw [m1]; omega)
      rw [m1] at m2
      have m3 := un_addL (R.1 153 t) (σ.1 150 u * (320 * σ.1 151 (t + 17 - u))) (by rw [m2]; omega)
      rw [m3, m2]
    · rw [if_neg c, if_neg c]
      refine ⟨fun i hi => by rw [rd_wN _ _ _ _ (Or.inr hi)]; exact g1 i hi, ?_⟩
      rw [rd_wS]
      have c1 := hr (t - u) (by omega)
      have p1 : un (σ.1 150 u) * (un (σ.1 151 (t - u))) ≤ 255 * 255 := Nat.mul_le_mul a1 c1
      have m2 := un_mulL (σ.1 150 u) (σ.1 151 (t - u)) (by omega)
      have m3 := un_addL (R.1 153 t) (σ.1 150 u * σ.1 151 (t - u)) (by rw [m2]; omega)
      rw [m3, m2]
theorem r_tx (σ : mm_M) (ha : ∀ j, j < 17 → un (σ.1 150 j) ≤ 255) (hr : ∀ j, j < 17 → un (σ.1 151 j) ≤ 255) : ∀ t, t ≤ 17 → ∀ i, i < t → un ((f_X12_tagged_L10 σ t).1 153 i) = sm (fun j => un (σ.1 150 j) * cof (fun i => un (σ.1 151 i)) i j) 17
  | 0, _, i, hi => absurd hi (by omega)
  | t + 1, ht, i, hi => by
    have ih := r_tx σ ha hr t (by omega)
    have f := w_f_X12_tagged_L10 σ t
    rw [f_X12_tagged_L10]
    generalize f_X12_tagged_L10 σ t = R at *
    have e150 : (mm_w R 153 t 0).1 150 = σ.1 150 := by
      rw [← (f 150 (by decide)).1]; funext j; rw [rd_wN _ _ _ _ (Or.inl (by decide))]
    have e151 : (mm_w R 153 t 0).1 151 = σ.1 151 := by
      rw [← (f 151 (by decide)).1]; funext j; rw [rd_wN _ _ _ _ (Or.inl (by decide))]
    obtain ⟨g1, g2⟩ := r_txI t (by omega) (mm_w R 153 t 0) (rd_wS _ _ _ _) (by rw [e150]; exact ha) (by rw [e151]; exact hr) 17 (by decide)
    rw [e150, e151] at g2
    by_cases e : i = t
    · rw [e]; exact g2
    · rw [g1 i e, rd_wN _ _ _ _ (Or.inr e)]
      exact ih i (by omega)
