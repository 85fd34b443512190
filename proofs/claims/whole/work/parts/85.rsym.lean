/-! the symmetric state: the reference -/
/-- of the reference's own numbers only the length of what was put has changed -/
def sz (M N : mm_M) : Prop := ∀ j, j ≠ 14 → N.1 117 j = M.1 117 j
theorem sz.refl (M : mm_M) : sz M M := fun _ _ => rfl
theorem sz.trans {M N P : mm_M} (h : sz M N) (g : sz N P) : sz M P := fun j hj => by rw [g j hj, h j hj]
theorem sz_fr {M N : mm_M} {L : List Nat} (w : mm_fr L M N) (h : 117 ∉ L) : sz M N := fun j _ => by rw [(w 117 h).1]
theorem sz_put (v : Int32) (q : Nat) (M : mm_M) : sz M (f_X12_put v q M) := fun j hj => by
  unfold f_X12_put
  rw [rd_wN _ _ _ _ (Or.inr hj), rd_wN _ _ _ _ (Or.inl (by decide))]
theorem sz_start (M : mm_M) : sz M (f_X12_start M) := fun j hj => by
  unfold f_X12_start
  rw [rd_wN _ _ _ _ (Or.inr hj)]
theorem sz_putRow (k p n q : Nat) (M : mm_M) : sz M (f_X12_putRow k p n q M) := by
  have h : ∀ t, sz M (f_X12_putRow_L3 k p q M t) := fun t => by
    induction t with
    | zero => exact sz.refl _
    | succ t ih => rw [f_X12_putRow_L3]; exact ih.trans (sz_put _ _ _)
  unfold f_X12_putRow
  exact h n
theorem sz_sums (n : Nat) (M : mm_M) : sz M (f_X12_sums n M) := by
  have h1 : ∀ (M : mm_M) t, sz M (f_X12_sums_L15 n M t) := fun M t => by
    induction t with
    | zero => exact sz.refl _
    | succ t ih => rw [f_X12_sums_L15]; exact ih.trans (sz_put _ _ _)
  have h2 : ∀ (M : mm_M) t, sz M (f_X12_sums_L37 n M t) := fun M t => by
    induction t with
    | zero => exact sz.refl _
    | succ t ih => rw [f_X12_sums_L37]; exact ih.trans (sz_put _ _ _)
  have h3 : ∀ (M : mm_M) t, sz M (f_X12_sums_L56 n M t) := fun M t => by
    induction t with
    | zero => exact sz.refl _
    | succ t ih => rw [f_X12_sums_L56]; exact ih.trans (sz_put _ _ _)
  unfold f_X12_sums
  try dsimp only
  exact (sz_put 128 n M).trans ((h1 _ _).trans ((h2 _ _).trans ((h3 _ _).trans ((sz_fr (w_f_X12_sums_L75 _ _) (by decide)).trans ((sz_fr (w_f_X12_sums_L101 _ _) (by decide)).trans (sz_fr (w_f_X12_sums_L122 _ _) (by decide)))))))
theorem sz_macs (k1 p1 k2 p2 n : Nat) (M : mm_M) : sz M (f_X12_macs k1 p1 k2 p2 n M) := by
  have h1 : ∀ (M : mm_M) t, sz M (f_X12_macs_L19 M t) := fun M t => by
    induction t with
    | zero => exact sz.refl _
    | succ t ih =>
      rw [f_X12_macs_L19]
      generalize f_X12_macs_L19 M t = R at *
      unfold f_X12_macs_B2
      by_cases c : 32 ≤ t
      · rw [if_pos c]; exact ih.trans (sz_put _ _ _)
      · rw [if_neg c]; exact ih.trans (sz_put _ _ _)
  have h2 : ∀ (M : mm_M) t, sz M (f_X12_macs_L92 M t) := fun M t => by
    induction t with
    | zero => exact sz.refl _
    | succ t ih =>
      rw [f_X12_macs_L92]
      generalize f_X12_macs_L92 M t = R at *
      unfold f_X12_macs_B1
      by_cases c : 32 ≤ t
      · rw [if_pos c]; exact ih.trans (sz_put _ _ _)
      · rw [if_neg c]; exact ih.trans (sz_put _ _ _)
  unfold f_X12_macs
  try dsimp only
  exact (sz_fr (w_f_X12_copy _ _ _ _ _ _) (by decide)).trans ((sz_start _).trans ((h1 _ _).trans ((sz_putRow _ _ _ _ _).trans ((sz_sums _ _).trans ((sz_fr (w_f_X12_copy _ _ _ _ _ _) (by decide)).trans ((sz_start _).trans ((h2 _ _).trans ((sz_putRow _ _ _ _ _).trans (sz_sums _ _)))))))))
/-- all but session s has been kept -/
def rk (s : Nat) (M N : mm_M) : Prop := (∀ i, (i < 352 * s ∨ 352 * s + 352 ≤ i) → N.1 157 i = M.1 157 i) ∧ (∀ k i, i ≠ s → 159 ≤ k → k ≤ 168 → N.1 k i = M.1 k i ∧ N.2 k i = M.2 k i) ∧ sz M N
theorem rk.refl (s : Nat) (M : mm_M) : rk s M M := ⟨fun _ _ => rfl, fun _ _ _ _ _ => ⟨rfl, rfl⟩, sz.refl _⟩
theorem rk.trans {s : Nat} {M N P : mm_M} (h : rk s M N) (g : rk s N P) : rk s M P :=
  ⟨fun i hi => by rw [g.1 i hi, h.1 i hi], fun k i a b c => ⟨by rw [(g.2.1 k i a b c).1, (h.2.1 k i a b c).1], by rw [(g.2.1 k i a b c).2, (h.2.1 k i a b c).2]⟩, h.2.2.trans g.2.2⟩
theorem rk_fr {s : Nat} {M N : mm_M} {L : List Nat} (w : mm_fr L M N) (h : ∀ a ∈ L, a ≠ 117 ∧ a ≠ 157 ∧ (a < 159 ∨ 168 < a)) : rk s M N :=
  ⟨fun i _ => by rw [(w 157 (fun q => (h _ q).2.1 rfl)).1], fun k i _ b c => by
    have := w k (fun q => by have := (h _ q).2.2; omega)
    exact ⟨by rw [this.1], by rw [this.2]⟩, sz_fr w (fun q => (h _ q).1 rfl)⟩
theorem rk_sz {s : Nat} {M N : mm_M} {L : List Nat} (w : mm_fr L M N) (h : ∀ a ∈ L, a ≠ 157 ∧ (a < 159 ∨ 168 < a)) (z : sz M N) : rk s M N :=
  ⟨fun i _ => by rw [(w 157 (fun q => (h _ q).1 rfl)).1], fun k i _ b c => by
    have := w k (fun q => by have := (h _ q).2; omega)
    exact ⟨by rw [this.1], by rw [this.2]⟩, z⟩
theorem rk_w157 {s : Nat} (M : mm_M) (k sp dp n : Nat) (h1 : 352 * s ≤ dp) (h2 : dp + n ≤ 352 * s + 352) : rk s M (mm_cp M k sp 157 dp n) :=
  ⟨fun i hi => rd_cpN _ _ _ _ _ _ (Or.inr (by omega)), fun k' i _ b c => ⟨rd_cpN _ _ _ _ _ _ (Or.inl (by omega)), rfl⟩, fun j _ => rd_cpN _ _ _ _ _ _ (Or.inl (by decide))⟩
theorem rk_w {s : Nat} (M : mm_M) (k : Nat) (v : Int32) (h1 : 159 ≤ k) (h2 : k ≤ 168) : rk s M (mm_w M k s v) :=
  ⟨fun i hi => rd_wN _ _ _ _ (Or.inl (by omega)), fun k' i a b c => ⟨rd_wN _ _ _ _ (Or.inr a), rfl⟩, fun j _ => rd_wN _ _ _ _ (Or.inl (by omega))⟩
theorem rk_wl {s : Nat} (M : mm_M) (k : Nat) (v : Int64) : rk s M (mm_wl M k s v) :=
  ⟨fun i hi => rfl, fun k' i a b c => ⟨rfl, rd_wlN _ _ _ _ (Or.inr a)⟩, fun j _ => rfl⟩
/-- the reference's symmetric state of session s -/
def r_sy (M : mm_M) (s : Nat) (S : sy) : Prop := (∀ j, j < 32 → M.1 157 (352 * s + j) = S.1 j) ∧ (∀ j, j < 32 → M.1 157 (352 * s + 32 + j) = S.2.1 j) ∧ (S.2.2.2.1 ≠ 0 → ∀ j, j < 32 → M.1 157 (352 * s + 64 + j) = S.2.2.1 j) ∧ M.1 161 s = S.2.2.2.1 ∧ M.2 166 s = S.2.2.2.2
theorem r_sy.fr {M N : mm_M} {s : Nat} {S : sy} (h : r_sy M s S) (w : ∀ i, 352 * s ≤ i → i < 352 * s + 96 → N.1 157 i = M.1 157 i) (h1 : N.1 161 s = M.1 161 s) (h2 : N.2 166 s = M.2 166 s) : r_sy N s S := by
  obtain ⟨a, b, c, d, e⟩ := h
  exact ⟨fun j hj => by rw [w _ (by omega) (by omega)]; exact a j hj, fun j hj => by rw [w _ (by omega) (by omega)]; exact b j hj, fun q j hj => by rw [w _ (by omega) (by omega)]; exact c q j hj, by rw [h1]; exact d, by rw [h2]; exact e⟩
/-- the rest of the session's row, behind its first 96 places -/
def rr (s : Nat) (M N : mm_M) : Prop := ∀ i, 352 * s + 96 ≤ i → i < 352 * s + 352 → N.1 157 i = M.1 157 i
theorem r_mixHash (s k1 p1 n : Nat) (hk : k1 ∉ [117, 128]) (hn : n < 100000) (M : mm_M) (S : sy) (hT : rT M) (h : r_sy M s S) : r_sy (f_X12_mixHash s k1 p1 n M) s (syH S (fun j => ub (M.1 k1 (p1 + j))) n) ∧ rk s M (f_X12_mixHash s k1 p1 n M) ∧ rr s M (f_X12_mixHash s k1 p1 n M) := by
  obtain ⟨a, b, c, d, e⟩ := h
  unfold f_X12_mixHash
  try dsimp only
  have w1 := w_f_X12_start M
  have z1 := sz_start M
  generalize f_X12_start M = M1 at *
  have r2 := rd_putRow 157 (352 * s) 0 M1 (by decide) 32
  have w2 := w_f_X12_putRow 157 (352 * s) 32 0 M1
  have z2 := sz_putRow 157 (352 * s) 32 0 M1
  generalize f_X12_putRow 157 (352 * s) 32 0 M1 = M2 at *
  have r3 := rd_putRow k1 p1 (0 + 32) M2 (by simp at hk; omega) n
  have w3 := w_f_X12_putRow k1 p1 n (0 + 32) M2
  have z3 := sz_putRow k1 p1 n (0 + 32) M2
  generalize f_X12_putRow k1 p1 n (0 + 32) M2 = M3 at *
  have hT3 := ((hT.fr w1 (by decide) (by decide)).fr w2 (by decide) (by decide)).fr w3 (by decide) (by decide)
  have ek : M2.1 k1 = M.1 k1 := by rw [(w2 k1 (by simp at hk ⊢; omega)).1, (w1 k1 (by simp at hk ⊢; omega)).1]
  have e157 : M1.1 157 = M.1 157 := (w1 157 (by decide)).1
  rw [Nat.zero_add] at r3
  have r4 := r_sums M3 (syHm S.1 (fun j => ub (M.1 k1 (p1 + j)))) (0 + 32 + n) hT3.1 hT3.2 (by omega) (fun j hj => by
    unfold syHm
    rw [r3]
    by_cases cj : j < 32
    · rw [if_neg (by omega), r2, if_pos (by omega), if_pos cj, ub_b, e157, Nat.sub_zero, a j cj]
    · rw [if_pos (by omega), if_neg cj, ub_b, ek])
  have w4 := w_f_X12_sums (0 + 32 + n) M3
  have z4 := sz_sums (0 + 32 + n) M3
  rw [Nat.zero_add] at r4 w4 z4
  rw [Nat.zero_add]
  generalize f_X12_sums (32 + n) M3 = M4 at *
  rw [copy_cp _ _ _ _ _ (show 129 ≠ 157 by decide)]
  have wA : mm_fr [117, 128, 129, 126, 127, 125] M M4 := w4.on (by simp) (w3.on (by simp) (w2.on (by simp) (w1.on (by simp) (mm_fr_refl _ _))))
  have f157 : M4.1 157 = M.1 157 := (wA 157 (by decide)).1
  refine ⟨⟨?_, ?_, ?_, ?_, ?_⟩, ?_, ?_⟩
  · intro j hj
    rw [rd_cpS _ _ _ _ _ _ hj, Nat.zero_add, r4 j hj]
    rfl
  · intro j hj
    rw [rd_cpN _ _ _ _ _ _ (Or.inr (by omega)), f157]; exact b j hj
  · intro q j hj
    rw [rd_cpN _ _ _ _ _ _ (Or.inr (by omega)), f157]; exact c q j hj
  · rw [rd_cpN _ _ _ _ _ _ (Or.inl (by decide)), (wA 161 (by decide)).1]; exact d
  · show M4.2 166 s = _
    rw [(wA 166 (by decide)).2]; exact e
  · exact (rk_sz wA (by simp) (z1.trans (z2.trans (z3.trans z4)))).trans (rk_w157 M4 129 0 (352 * s) 32 (by omega) (by omega))
  · intro i h1 h2
    rw [rd_cpN _ _ _ _ _ _ (Or.inr (by omega)), f157]
theorem sz_derived (s k n : Nat) (M : mm_M) : sz M (f_X12_derived s k n M) := by
  unfold f_X12_derived
  try dsimp only
  exact (sz_macs _ _ _ _ _ _).trans ((sz_fr (w_f_X12_copy _ _ _ _ _ _) (by decide)).trans ((sz_fr (mm_fr_w (L := [172]) (by decide) (mm_fr_refl _ _)) (by decide)).trans ((sz_macs _ _ _ _ _ _).trans ((sz_fr (w_f_X12_copy _ _ _ _ _ _) (by decide)).trans ((sz_fr (mm_fr_w (L := [170]) (by decide) (mm_fr_refl _ _)) (by decide)).trans ((sz_macs _ _ _ _ _ _).trans (sz_fr (w_f_X12_copy _ _ _ _ _ _) (by decide))))))))
theorem r_mixKey (s : Nat) (M : mm_M) (S : sy) (hT : rT M) (h : r_sy M s S) : r_sy (f_X12_mixKey s M) s (syK S (M.1 145)) ∧ rk s M (f_X12_mixKey s M) ∧ rr s M (f_X12_mixKey s M) := by
  obtain ⟨a, b, c, d, e⟩ := h
  unfold f_X12_mixKey
  try dsimp only
  obtain ⟨g1, g2⟩ := r_derived s 145 32 M hT (by decide) (by decide)
  have w1 := w_f_X12_derived s 145 32 M
  have z1 := sz_derived s 145 32 M
  generalize f_X12_derived s 145 32 M = M1 at *
  have f157 : M1.1 157 = M.1 157 := (w1 157 (by decide)).1
  rw [copy_cp _ _ _ _ _ (show 170 ≠ 157 by decide), copy_cp _ _ _ _ _ (show 171 ≠ 157 by decide)]
  refine ⟨⟨?_, ?_, ?_, ?_, ?_⟩, ?_, ?_⟩
  · intro j hj
    rw [rd_wl1, rd_wN _ _ _ _ (Or.inl (by decide)), rd_cpN _ _ _ _ _ _ (Or.inr (by omega)), rd_cpN _ _ _ _ _ _ (Or.inr (by omega)), f157]; exact a j hj
  · intro j hj
    rw [rd_wl1, rd_wN _ _ _ _ (Or.inl (by decide)), rd_cpN _ _ _ _ _ _ (Or.inr (by omega)), rd_cpS _ _ _ _ _ _ hj, Nat.zero_add, g1 j hj]
    exact congrFun (hkA_congr b (fun _ _ => rfl)) j
  · intro _ j hj
    rw [rd_wl1, rd_wN _ _ _ _ (Or.inl (by decide)), rd_cpS _ _ _ _ _ _ hj, Nat.zero_add, rd_cpN _ _ _ _ _ _ (Or.inl (by decide)), g2 j hj]
    exact congrFun (hkB_congr b (fun _ _ => rfl)) j
  · rw [rd_wl1, rd_wS]; rfl
  · rw [rd_wlS]; rfl
  · exact (rk_sz w1 (by simp) z1).trans ((rk_w157 _ _ _ _ _ (by omega) (by omega)).trans ((rk_w157 _ _ _ _ _ (by omega) (by omega)).trans ((rk_w _ _ _ (by omega) (by omega)).trans (rk_wl _ _ _))))
  · intro i h1 h2
    rw [rd_wl1, rd_wN _ _ _ _ (Or.inl (by decide)), rd_cpN _ _ _ _ _ _ (Or.inr (by omega)), rd_cpN _ _ _ _ _ _ (Or.inr (by omega)), f157]
theorem r_agrees (s p q : Nat) (M : mm_M) (S : sy) (hT : rT M) (h : r_sy M s S) : r_sy (f_X12_agrees s p q M) s (syK S (cvB (fun i => M.1 157 (352 * s + p + i)) (fun i => M.1 157 (352 * s + q + i)))) ∧ rk s M (f_X12_agrees s p q M) ∧ rr s M (f_X12_agrees s p q M) := by
  unfold f_X12_agrees
  try dsimp only
  have g := r_curve 157 (352 * s + p) 157 (352 * s + q) (by decide) (by decide) M
  have w := w_f_X12_curved 157 (352 * s + p) 157 (352 * s + q) M
  generalize f_X12_curved 157 (352 * s + p) 157 (352 * s + q) M = N at *
  have hT2 := hT.fr w (by decide) (by decide)
  have h2 : r_sy N s S := h.fr (fun i _ _ => by rw [(w 157 (by decide)).1]) (by rw [(w 161 (by decide)).1]) (by rw [(w 166 (by decide)).2])
  obtain ⟨a, b, c⟩ := r_mixKey s N S hT2 h2
  refine ⟨?_, (rk_fr w (by simp)).trans b, fun i h1 h2 => by rw [c i h1 h2, (w 157 (by decide)).1]⟩
  rw [syK_congr (fun j hj => (g j hj).symm)]
  exact a
theorem r_split (s : Nat) (M : mm_M) (S : sy) (hT : rT M) (h : r_sy M s S) : (∀ j, j < 32 → (f_X12_split s M).1 157 (352 * s + 288 + j) = spA S j) ∧ (∀ j, j < 32 → (f_X12_split s M).1 157 (352 * s + 320 + j) = spB S j) ∧ rk s M (f_X12_split s M) ∧ (∀ i, 352 * s ≤ i → i < 352 * s + 288 → (f_X12_split s M).1 157 i = M.1 157 i) := by
  obtain ⟨a, b, c, d, e⟩ := h
  unfold f_X12_split
  try dsimp only
  obtain ⟨g1, g2⟩ := r_derived s 145 0 M hT (by decide) (by decide)
  have w1 := w_f_X12_derived s 145 0 M
  have z1 := sz_derived s 145 0 M
  generalize f_X12_derived s 145 0 M = M1 at *
  have f157 : M1.1 157 = M.1 157 := (w1 157 (by decide)).1
  rw [copy_cp _ _ _ _ _ (show 170 ≠ 157 by decide), copy_cp _ _ _ _ _ (show 171 ≠ 157 by decide)]
  refine ⟨?_, ?_, ?_, ?_⟩
  · intro j hj
    rw [rd_cpN _ _ _ _ _ _ (Or.inr (by omega)), rd_cpS _ _ _ _ _ _ hj, Nat.zero_add, g1 j hj]
    exact congrFun (hkA_congr b (fun j hj => absurd hj (by omega))) j
  · intro j hj
    rw [rd_cpS _ _ _ _ _ _ hj, Nat.zero_add, rd_cpN _ _ _ _ _ _ (Or.inl (by decide)), g2 j hj]
    exact congrFun (hkB_congr b (fun j hj => absurd hj (by omega))) j
  · exact (rk_sz w1 (by simp) z1).trans ((rk_w157 _ _ _ _ _ (by omega) (by omega)).trans (rk_w157 _ _ _ _ _ (by omega) (by omega)))
  · intro i h1 h2
    rw [rd_cpN _ _ _ _ _ _ (Or.inr (by omega)), rd_cpN _ _ _ _ _ _ (Or.inr (by omega)), f157]
