/-! the AEAD: pure functions, and the engine -/
def aeX (key : Nat → Int32) (u : Int64) (src : Nat → Int32) (t : Nat) : Int32 := mm_b (src t ^^^ ccS key (nI (1 + t / 64)) u (t % 64))
def aeT (key : Nat → Int32) (u : Int64) (ad : Nat → Nat) (an : Nat) (ct : Nat → Nat) (n j : Nat) : Int32 := pyR (clv (ccS key 0 u)) (pyF (clv (ccS key 0 u)) (pyF (clv (ccS key 0 u)) 0 ad an ((an + 15) / 16)) ct n ((n + 15) / 16)) (bv (ccS key 0 u) 16 16) an n j
def aeOK (key : Nat → Int32) (u : Int64) (ad : Nat → Nat) (an : Nat) (src : Nat → Int32) (n : Nat) : Prop := ∀ i, i < 16 → aeT key u ad an (fun j => ub (src j)) (n - 16) i = src (n - 16 + i)
theorem aeX_congr {key key' : Nat → Int32} {src src' : Nat → Int32} {u : Int64} {t : Nat} (h : ∀ j, j < 32 → key j = key' j) (hs : src t = src' t) : aeX key u src t = aeX key' u src' t := by
  unfold aeX
  rw [hs, ccS_congr h _ u (t % 64) (by omega)]
theorem aeT_congr {key key' : Nat → Int32} {u : Int64} {ad ad' ct ct' : Nat → Nat} {an n : Nat} (h : ∀ j, j < 32 → key j = key' j) (ha : ∀ j, j < an → ad j = ad' j) (hc : ∀ j, j < n → ct j = ct' j) (j : Nat) : aeT key u ad an ct n j = aeT key' u ad' an ct' n j := by
  unfold aeT
  rw [clv_congr (s := ccS key 0 u) (s' := ccS key' 0 u) (fun j hj => ccS_congr h 0 u j (by omega)), bv_congr (s := ccS key 0 u) (s' := ccS key' 0 u) (p := 16) (p' := 16) (n := 16) (fun j hj => ccS_congr h 0 u _ (by omega)), pyF_congr ha, pyF_congr hc]
theorem aeOK_congr {key key' : Nat → Int32} {u : Int64} {ad ad' : Nat → Nat} {an n : Nat} {src src' : Nat → Int32} (h : ∀ j, j < 32 → key j = key' j) (ha : ∀ j, j < an → ad j = ad' j) (hn : 16 ≤ n) (hc : ∀ j, j < n → src j = src' j) : aeOK key u ad an src n ↔ aeOK key' u ad' an src' n := by
  unfold aeOK
  constructor
  · intro q i hi
    rw [← hc _ (by omega), ← q i hi]
    exact (aeT_congr h ha (fun j hj => by rw [hc j (by omega)]) i).symm
  · intro q i hi
    rw [hc _ (by omega), ← q i hi]
    exact aeT_congr h ha (fun j hj => by rw [hc j (by omega)]) i
theorem un_nI {n : Nat} (h : n < 4294967296) : un (nI n) = n := un_ofNat n h
theorem nI_s (n : Nat) : nI n + 1 = nI (n + 1) := (nI_succ n).symm
theorem e_begin (kk : Nat) (hk : kk < 31 ∨ 41 < kk) (u : Int64) (M : mm_M) : cc_is (f_X0_begin kk u M) (M.1 kk) (nI 1) u ∧ po_is (f_X0_begin kk u M) (clv (ccS (M.1 kk) 0 u)) 0 ∧ lst (f_X0_begin kk u M) = bv (ccS (M.1 kk) 0 u) 16 16 := by
  unfold f_X0_begin
  try dsimp only
  have a1 := e_ccB kk (by omega) u M
  generalize f_X2_begin kk u M = M1 at *
  obtain ⟨b1, b2⟩ := e_ccN M1 _ _ _ a1
  generalize f_X2_nextBlock M1 = M2 at *
  obtain ⟨c1, c2⟩ := p_begin 33 (by decide) M2
  have w := w_f_X6_begin 33 M2
  generalize f_X6_begin 33 M2 = M3 at *
  rw [clv_congr (s := M2.1 33) (s' := ccS (M.1 kk) 0 u) (fun j hj => b1 j (by omega))] at c1
  rw [bv_congr (s := M2.1 33) (s' := ccS (M.1 kk) 0 u) (p := 16) (p' := 16) (n := 16) (fun j hj => b1 _ (by omega))] at c2
  refine ⟨fun i hi => ?_, c1, c2⟩
  rw [(w 34 (by decide)).1]
  exact b2 i hi
theorem cc_is.fr {M N : mm_M} {key : Nat → Int32} {c : Int32} {u : Int64} {L : List Nat} (h : cc_is M key c u) (w : mm_fr L M N) (h1 : 34 ∉ L) : cc_is N key c u := fun i hi => by rw [(w 34 h1).1]; exact h i hi
theorem lst.fr {M N : mm_M} {L : List Nat} (w : mm_fr L M N) (h1 : 40 ∉ L) : lst N = lst M := by unfold lst; rw [(w 40 h1).1]
theorem e_assoc (ka an : Nat) (hk : ka < 31 ∨ 41 < ka) (M : mm_M) (ρ a : Int) (h : po_is M ρ a) : po_is (f_X0_associate ka an M) ρ (pyF ρ a (fun j => ub (M.1 ka j)) an ((an + 15) / 16)) ∧ (f_X0_associate ka an M).1 31 3 = nI an := by
  unfold f_X0_associate
  try dsimp only
  have b := p_absorb ka 0 an (by omega) (by omega) M ρ a h
  simp only [Nat.zero_add] at b
  generalize f_X6_absorb ka 0 an M = N at *
  exact ⟨b.fr (mm_fr_w (L := [31]) (by decide) (mm_fr_refl _ _)) (by decide) (by decide), rd_wS _ _ _ _⟩
theorem e_streamL (k1 p1 k2 p3 : Nat) (h1 : k1 < 31 ∨ 41 < k1) (h2 : k2 < 31 ∨ 41 < k2) (h12 : k1 ≠ k2) (σ : mm_M) (key : Nat → Int32) (u : Int64) (h : cc_is σ key (nI 1) u) : ∀ t, cc_is (f_X0_applyStream_L3 k1 p1 k2 p3 σ t) key (nI (1 + (t + 63) / 64)) u ∧ (t % 64 ≠ 0 → ∀ i, i < 64 → (f_X0_applyStream_L3 k1 p1 k2 p3 σ t).1 33 i = ccS key (nI (1 + t / 64)) u i) ∧ (∀ i, (f_X0_applyStream_L3 k1 p1 k2 p3 σ t).1 k2 i = if p3 ≤ i ∧ i < p3 + t then aeX key u (fun j => σ.1 k1 (p1 + j)) (i - p3) else σ.1 k2 i)
  | 0 => ⟨h, fun q => absurd rfl q, fun i => by rw [if_neg (by omega)]; rfl⟩
  | t + 1 => by
    obtain ⟨g1, g2, g3⟩ := e_streamL k1 p1 k2 p3 h1 h2 h12 σ key u h t
    have f := (w_f_X0_applyStream_L3 k1 p1 k2 p3 σ t k1 (by simp; omega)).1
    rw [f_X0_applyStream_L3]
    generalize f_X0_applyStream_L3 k1 p1 k2 p3 σ t = R at *
    unfold f_X0_applyStream_B1
    by_cases c : t % 64 = 0
    · rw [if_neg (fun q => q c)]
      try dsimp only
      obtain ⟨b1, b2⟩ := e_ccN R _ _ _ g1
      have w := w_f_X2_nextBlock R
      generalize f_X2_nextBlock R = S at *
      have ek : S.1 k1 = σ.1 k1 := by rw [(w k1 (by simp; omega)).1, f]
      have e2 : S.1 k2 = R.1 k2 := (w k2 (by simp; omega)).1
      rw [show (t + 63) / 64 = t / 64 from by omega] at b1 b2
      rw [nI_s] at b2
      have wv : mm_fr [k2] S (mm_w S k2 (p3 + t) (mm_b (S.1 k1 (p1 + t) ^^^ S.1 33 (t % 64)))) := mm_fr_w (by simp) (mm_fr_refl _ _)
      refine ⟨?_, fun _ i hi => ?_, fun i => ?_⟩
      · rw [show 1 + (t + 1 + 63) / 64 = 1 + t / 64 + 1 from by omega]
        exact b2.fr wv (by simp; omega)
      · rw [(wv 33 (by simp; omega)).1, b1 i hi, show (t + 1) / 64 = t / 64 from by omega]
      · rw [rd_w, ek, b1 _ (by omega), e2]
        by_cases e : i = p3 + t
        · rw [if_pos ⟨rfl, e⟩, if_pos (by omega), show i - p3 = t from by omega]
          rfl
        · rw [if_neg (fun q => e q.2), g3 i]
          by_cases d : p3 ≤ i ∧ i < p3 + t
          · rw [if_pos d, if_pos (by omega)]
          · rw [if_neg d, if_neg (by omega)]
    · rw [if_pos c]
      try dsimp only
      have b1 := g2 c
      have wv : mm_fr [k2] R (mm_w R k2 (p3 + t) (mm_b (R.1 k1 (p1 + t) ^^^ R.1 33 (t % 64)))) := mm_fr_w (by simp) (mm_fr_refl _ _)
      refine ⟨?_, fun q i hi => ?_, fun i => ?_⟩
      · rw [show (t + 1 + 63) / 64 = (t + 63) / 64 from by omega]
        exact g1.fr wv (by simp; omega)
      · rw [(wv 33 (by simp; omega)).1, b1 i hi, show (t + 1) / 64 = t / 64 from by omega]
      · rw [rd_w, f, b1 _ (by omega)]
        by_cases e : i = p3 + t
        · rw [if_pos ⟨rfl, e⟩, if_pos (by omega), show i - p3 = t from by omega]
          rfl
        · rw [if_neg (fun q => e q.2), g3 i]
          by_cases d : p3 ≤ i ∧ i < p3 + t
          · rw [if_pos d, if_pos (by omega)]
          · rw [if_neg d, if_neg (by omega)]
theorem e_stream (k1 p1 n k2 p3 : Nat) (h1 : k1 < 31 ∨ 41 < k1) (h2 : k2 < 31 ∨ 41 < k2) (h12 : k1 ≠ k2) (M : mm_M) (key : Nat → Int32) (u : Int64) (h : cc_is M key (nI 1) u) (i : Nat) : (f_X0_applyStream k1 p1 n k2 p3 M).1 k2 i = if p3 ≤ i ∧ i < p3 + n then aeX key u (fun j => M.1 k1 (p1 + j)) (i - p3) else M.1 k2 i := by
  unfold f_X0_applyStream
  exact (e_streamL k1 p1 k2 p3 h1 h2 h12 M key u h n).2.2 i
theorem e_seal (kk ka an k1 p1 n k2 p3 : Nat) (u : Int64) (M : mm_M) (hkk : kk < 31 ∨ 41 < kk) (hka : ka < 31 ∨ 41 < ka) (h1 : k1 < 31 ∨ 41 < k1) (h2 : k2 < 31 ∨ 41 < k2) (h12 : k1 ≠ k2) (han : an < 4294967296) (hn : n < 4294967296) : (∀ i, i < n → (f_X0_encrypt k1 p1 n k2 p3 (f_X0_associate ka an (f_X0_begin kk u M))).1 k2 (p3 + i) = aeX (M.1 kk) u (fun j => M.1 k1 (p1 + j)) i) ∧ (∀ i, i < 16 → (f_X0_encrypt k1 p1 n k2 p3 (f_X0_associate ka an (f_X0_begin kk u M))).1 k2 (p3 + (n + i)) = aeT (M.1 kk) u (fun j => ub (M.1 ka j)) an (fun j => ub (aeX (M.1 kk) u (fun j => M.1 k1 (p1 + j)) j)) n i) ∧ (∀ i, i < p3 ∨ p3 + (n + 16) ≤ i → (f_X0_encrypt k1 p1 n k2 p3 (f_X0_associate ka an (f_X0_begin kk u M))).1 k2 i = M.1 k2 i) := by
  obtain ⟨a1, a2, a3⟩ := e_begin kk hkk u M
  have w1 := w_f_X0_begin kk u M
  generalize f_X0_begin kk u M = M1 at *
  obtain ⟨b1, b2⟩ := e_assoc ka an hka M1 _ _ a2
  have w2 := w_f_X0_associate ka an M1
  generalize f_X0_associate ka an M1 = M2 at *
  have c1 := a1.fr w2 (by decide)
  have eka : M1.1 ka = M.1 ka := (w1 ka (by simp; omega)).1
  rw [eka] at b1
  have ek1 : M2.1 k1 = M.1 k1 := by rw [(w2 k1 (by simp; omega)).1, (w1 k1 (by simp; omega)).1]
  have ek2 : M2.1 k2 = M.1 k2 := by rw [(w2 k2 (by simp; omega)).1, (w1 k2 (by simp; omega)).1]
  unfold f_X0_encrypt
  try dsimp only
  have s := e_stream k1 p1 n k2 p3 h1 h2 h12 M2 (M.1 kk) u c1
  have w3 := w_f_X0_applyStream k1 p1 n k2 p3 M2
  generalize f_X0_applyStream k1 p1 n k2 p3 M2 = M3 at *
  rw [ek1, ek2] at s
  have p3' := p_absorb k2 p3 n (by omega) (by omega) M3 _ _ (b1.fr w3 (by simp; omega) (by simp; omega))
  have w4 := w_f_X6_absorb k2 p3 n M3
  generalize f_X6_absorb k2 p3 n M3 = M4 at *
  rw [pyF_congr (m := fun j => ub (M3.1 k2 (p3 + j))) (m' := fun j => ub (aeX (M.1 kk) u (fun j => M.1 k1 (p1 + j)) j)) (fun j hj => by rw [s, if_pos (by omega), show p3 + j - p3 = j from by omega])] at p3'
  have e31 : M4.1 31 3 = nI an := by rw [(w4 31 (by decide)).1, (w3 31 (by simp; omega)).1, b2]
  have e40 : lst M4 = bv (ccS (M.1 kk) 0 u) 16 16 := by
    rw [lst.fr w4 (by decide), lst.fr w3 (by simp; omega), lst.fr w2 (by decide), a3]
  rw [e31]
  have t := e_tag (nI an) (nI n) 41 (by decide) M4 _ _ p3'
  have w5 := w_f_X6_finish (nI an) (nI n) 41 M4
  generalize f_X6_finish (nI an) (nI n) 41 M4 = M5 at *
  rw [e40, un_nI han, un_nI hn] at t
  have e5 : M5.1 k2 = M3.1 k2 := by rw [(w5 k2 (by simp; omega)).1, (w4 k2 (by simp; omega)).1]
  refine ⟨fun i hi => ?_, fun i hi => ?_, fun i hi => ?_⟩
  · rw [rd_cpN _ _ _ _ _ _ (Or.inr (Or.inl (by omega))), e5, s, if_pos (by omega), show p3 + i - p3 = i from by omega]
  · have q := rd_cpS M5 41 0 k2 (p3 + n) 16 hi
    rw [Nat.zero_add] at q
    rw [show p3 + (n + i) = p3 + n + i from by omega, q, t i hi]
    rfl
  · rw [rd_cpN _ _ _ _ _ _ (Or.inr (by omega)), e5, s, if_neg (by omega)]
theorem e_cmp (k1 p1 n : Nat) (M : mm_M) : ∀ t, f_X0_decrypt_L47 k1 p1 n M 0 t = 0 ↔ ∀ i, i < t → M.1 41 i = M.1 k1 (p1 + (n - 16) + i)
  | 0 => ⟨fun _ i hi => absurd hi (by omega), fun _ => rfl⟩
  | t + 1 => by
    have ih := e_cmp k1 p1 n M t
    rw [f_X0_decrypt_L47]
    generalize f_X0_decrypt_L47 k1 p1 n M 0 t = y at *
    have o : ∀ a b : Int32, a ||| b = 0 ↔ a = 0 ∧ b = 0 := fun a b => by
      rw [← Int32.toBitVec_inj, ← Int32.toBitVec_inj, ← Int32.toBitVec_inj, Int32.toBitVec_or]
      exact BitVec.or_eq_zero_iff
    have x : ∀ a b : Int32, a ^^^ b = 0 ↔ a = b := fun a b => by
      rw [← Int32.toBitVec_inj, ← Int32.toBitVec_inj, Int32.toBitVec_xor]
      exact BitVec.xor_eq_zero_iff
    rw [o, x, ih]
    constructor
    · rintro ⟨q1, q2⟩ i hi
      by_cases e : i = t
      · rw [e]; exact q2
      · exact q1 i (by omega)
    · intro q
      exact ⟨fun i hi => q i (by omega), q t (by omega)⟩
theorem dec_eq (k1 p1 n k2 p3 : Nat) (M : mm_M) (h : ¬ n < 16) : f_X0_decrypt k1 p1 n k2 p3 M = f_X0_decrypt_B1 k1 p1 n k2 p3 (f_X6_finish ((f_X6_absorb k1 p1 (n - 16) M).1 31 3) (nI (n - 16)) 41 (f_X6_absorb k1 p1 (n - 16) M)) (f_X0_decrypt_L47 k1 p1 n (f_X6_finish ((f_X6_absorb k1 p1 (n - 16) M).1 31 3) (nI (n - 16)) 41 (f_X6_absorb k1 p1 (n - 16) M)) 0 16) := by
  unfold f_X0_decrypt
  rw [if_neg h]
theorem dec_lo (k1 p1 n k2 p3 : Nat) (M : mm_M) (h : n < 16) : f_X0_decrypt k1 p1 n k2 p3 M = (0, M) := by
  unfold f_X0_decrypt
  rw [if_pos h]
theorem decB_pos (k1 p1 n k2 p3 : Nat) (M : mm_M) (y : Int32) (h : y = 0) : f_X0_decrypt_B1 k1 p1 n k2 p3 M y = (1, f_X0_applyStream k1 p1 (n - 16) k2 p3 M) := by
  unfold f_X0_decrypt_B1
  rw [if_pos h]
theorem decB_neg (k1 p1 n k2 p3 : Nat) (M : mm_M) (y : Int32) (h : ¬ y = 0) : f_X0_decrypt_B1 k1 p1 n k2 p3 M y = (0, M) := by
  unfold f_X0_decrypt_B1
  rw [if_neg h]
theorem e_open (kk ka an k1 p1 n k2 p3 : Nat) (u : Int64) (M : mm_M) (hkk : kk < 31 ∨ 41 < kk) (hka : ka < 31 ∨ 41 < ka) (h1 : k1 < 31 ∨ 41 < k1) (h2 : k2 < 31 ∨ 41 < k2) (h12 : k1 ≠ k2) (han : an < 4294967296) (hn : n < 4294967296) (hn16 : 16 ≤ n) : ((aeOK (M.1 kk) u (fun j => ub (M.1 ka j)) an (fun j => M.1 k1 (p1 + j)) n → (f_X0_decrypt k1 p1 n k2 p3 (f_X0_associate ka an (f_X0_begin kk u M))).1 = 1 ∧ ∀ i, (f_X0_decrypt k1 p1 n k2 p3 (f_X0_associate ka an (f_X0_begin kk u M))).2.1 k2 i = if p3 ≤ i ∧ i < p3 + (n - 16) then aeX (M.1 kk) u (fun j => M.1 k1 (p1 + j)) (i - p3) else M.1 k2 i) ∧ (¬ aeOK (M.1 kk) u (fun j => ub (M.1 ka j)) an (fun j => M.1 k1 (p1 + j)) n → (f_X0_decrypt k1 p1 n k2 p3 (f_X0_associate ka an (f_X0_begin kk u M))).1 = 0 ∧ (f_X0_decrypt k1 p1 n k2 p3 (f_X0_associate ka an (f_X0_begin kk u M))).2.1 k2 = M.1 k2)) := by
  obtain ⟨a1, a2, a3⟩ := e_begin kk hkk u M
  have w1 := w_f_X0_begin kk u M
  generalize f_X0_begin kk u M = M1 at *
  obtain ⟨b1, b2⟩ := e_assoc ka an hka M1 _ _ a2
  have w2 := w_f_X0_associate ka an M1
  generalize f_X0_associate ka an M1 = M2 at *
  have c1 := a1.fr w2 (by decide)
  have eka : M1.1 ka = M.1 ka := (w1 ka (by simp; omega)).1
  rw [eka] at b1
  have ek1 : M2.1 k1 = M.1 k1 := by rw [(w2 k1 (by simp; omega)).1, (w1 k1 (by simp; omega)).1]
  have ek2 : M2.1 k2 = M.1 k2 := by rw [(w2 k2 (by simp; omega)).1, (w1 k2 (by simp; omega)).1]
  rw [dec_eq k1 p1 n k2 p3 M2 (by omega)]
  have p4 := p_absorb k1 p1 (n - 16) (by omega) (by omega) M2 _ _ b1
  have w4 := w_f_X6_absorb k1 p1 (n - 16) M2
  generalize f_X6_absorb k1 p1 (n - 16) M2 = M4 at *
  rw [ek1] at p4
  have e31 : M4.1 31 3 = nI an := by rw [(w4 31 (by decide)).1, b2]
  have e40 : lst M4 = bv (ccS (M.1 kk) 0 u) 16 16 := by
    rw [lst.fr w4 (by decide), lst.fr w2 (by decide), a3]
  rw [e31]
  have t := e_tag (nI an) (nI (n - 16)) 41 (by decide) M4 _ _ p4
  have w5 := w_f_X6_finish (nI an) (nI (n - 16)) 41 M4
  generalize f_X6_finish (nI an) (nI (n - 16)) 41 M4 = M5 at *
  rw [e40, un_nI han, un_nI (by omega)] at t
  have e5 : M5.1 k2 = M.1 k2 := by rw [(w5 k2 (by simp; omega)).1, (w4 k2 (by simp; omega)).1, ek2]
  have e51 : M5.1 k1 = M.1 k1 := by rw [(w5 k1 (by simp; omega)).1, (w4 k1 (by simp; omega)).1, ek1]
  have cm := e_cmp k1 p1 n M5 16
  rw [e51] at cm
  generalize f_X0_decrypt_L47 k1 p1 n M5 0 16 = y at *
  have ok : y = 0 ↔ aeOK (M.1 kk) u (fun j => ub (M.1 ka j)) an (fun j => M.1 k1 (p1 + j)) n := by
    rw [cm]
    unfold aeOK
    constructor
    · intro q i hi
      have := q i hi
      rw [t i hi, Nat.add_assoc] at this
      exact this
    · intro q i hi
      rw [t i hi, Nat.add_assoc]
      exact q i hi
  refine ⟨fun q => ?_, fun q => ?_⟩
  · rw [decB_pos k1 p1 n k2 p3 M5 y (ok.mpr q)]
    have c5 := (c1.fr w4 (by decide)).fr w5 (by decide)
    have s := e_stream k1 p1 (n - 16) k2 p3 h1 h2 h12 M5 (M.1 kk) u c5
    generalize f_X0_applyStream k1 p1 (n - 16) k2 p3 M5 = X at *
    rw [e51, e5] at s
    exact ⟨rfl, s⟩
  · rw [decB_neg k1 p1 n k2 p3 M5 y (fun z => q (ok.mp z))]
    exact ⟨rfl, e5⟩
