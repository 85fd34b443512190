/-! the reference's session: its state, and writing -/
def r_ses (M : mm_M) (s st : Nat) (ini rf : Int32) (S : sy) (os oe xs xe ks kr : Nat → Int32) (ns nr : Int64) : Prop :=
  M.1 159 s = 1 ∧ M.1 160 s = ini ∧ M.1 164 s = nI st ∧ M.1 165 s = rf ∧ r_sy M s S ∧ (∀ j, j < 32 → M.1 157 (352 * s + 160 + j) = os j) ∧ (∀ j, j < 32 → M.1 157 (352 * s + 224 + j) = oe j) ∧ (∀ j, j < 32 → M.1 157 (352 * s + 192 + j) = cvB os nine j) ∧ (∀ j, j < 32 → M.1 157 (352 * s + 256 + j) = cvB oe nine j) ∧ (knS st ini → M.1 163 s = 1 ∧ ∀ j, j < 32 → M.1 157 (352 * s + 128 + j) = xs j) ∧ (¬ knS st ini → M.1 163 s = 0) ∧ (knE st ini → M.1 162 s = 1 ∧ ∀ j, j < 32 → M.1 157 (352 * s + 96 + j) = xe j) ∧ (¬ knE st ini → M.1 162 s = 0) ∧ (st = 3 → (∀ j, j < 32 → M.1 157 (352 * s + 288 + j) = (if ini = 0 then kr else ks) j) ∧ (∀ j, j < 32 → M.1 157 (352 * s + 320 + j) = (if ini = 0 then ks else kr) j)) ∧ M.2 167 s = (if ini = 0 then nr else ns) ∧ M.2 168 s = (if ini = 0 then ns else nr)
/-- what no message of the handshake changes -/
def rq (s : Nat) (M N : mm_M) : Prop := (∀ k, (k = 159 ∨ k = 160 ∨ k = 165 ∨ k = 167 ∨ k = 168) → N.1 k s = M.1 k s ∧ N.2 k s = M.2 k s) ∧ (∀ i, 352 * s + 160 ≤ i → i < 352 * s + 288 → N.1 157 i = M.1 157 i)
theorem rq.trans {s : Nat} {M N P : mm_M} (h : rq s M N) (g : rq s N P) : rq s M P :=
  ⟨fun k hk => ⟨by rw [(g.1 k hk).1, (h.1 k hk).1], by rw [(g.1 k hk).2, (h.1 k hk).2]⟩, fun i h1 h2 => by rw [g.2 i h1 h2, h.2 i h1 h2]⟩
theorem rq_fr {s : Nat} {M N : mm_M} {L : List Nat} (w : mm_fr L M N) (h : ∀ a ∈ L, a ≠ 159 ∧ a ≠ 160 ∧ a ≠ 165 ∧ a ≠ 167 ∧ a ≠ 168) (r : ∀ i, 352 * s + 160 ≤ i → i < 352 * s + 288 → N.1 157 i = M.1 157 i) : rq s M N :=
  ⟨fun k hk => by
    have := w k (fun q => by have := h k q; omega)
    exact ⟨by rw [this.1], by rw [this.2]⟩, r⟩
theorem rr.q {s : Nat} {M N : mm_M} (h : rr s M N) : ∀ i, 352 * s + 160 ≤ i → i < 352 * s + 288 → N.1 157 i = M.1 157 i := fun i h1 h2 => h i (by omega) (by omega)
section RS
variable {M N : mm_M} {s st : Nat} {ini rf : Int32} {S : sy} {os oe xs xe ks kr : Nat → Int32} {ns nr : Int64}
theorem r_ses.keep (h : r_ses M s st ini rf S os oe xs xe ks kr ns nr) (w : ∀ i, 352 * s ≤ i → i < 352 * s + 352 → N.1 157 i = M.1 157 i) (g : ∀ k, 159 ≤ k → k ≤ 168 → N.1 k s = M.1 k s ∧ N.2 k s = M.2 k s) : r_ses N s st ini rf S os oe xs xe ks kr ns nr := by
  obtain ⟨a1, a2, a3, a4, a5, a6, a7, a8, a9, b1, b2, b3, b4, c1, c2, c3⟩ := h
  refine ⟨?_, ?_, ?_, ?_, ?_, ?_, ?_, ?_, ?_, ?_, ?_, ?_, ?_, ?_, ?_, ?_⟩
  · rw [(g 159 (by omega) (by omega)).1]; exact a1
  · rw [(g 160 (by omega) (by omega)).1]; exact a2
  · rw [(g 164 (by omega) (by omega)).1]; exact a3
  · rw [(g 165 (by omega) (by omega)).1]; exact a4
  · exact a5.fr (fun i h1 h2 => w i h1 (by omega)) (g 161 (by omega) (by omega)).1 (g 166 (by omega) (by omega)).2
  · intro j hj; rw [w _ (by omega) (by omega)]; exact a6 j hj
  · intro j hj; rw [w _ (by omega) (by omega)]; exact a7 j hj
  · intro j hj; rw [w _ (by omega) (by omega)]; exact a8 j hj
  · intro j hj; rw [w _ (by omega) (by omega)]; exact a9 j hj
  · intro q; rw [(g 163 (by omega) (by omega)).1]; exact ⟨(b1 q).1, fun j hj => by rw [w _ (by omega) (by omega)]; exact (b1 q).2 j hj⟩
  · intro q; rw [(g 163 (by omega) (by omega)).1]; exact b2 q
  · intro q; rw [(g 162 (by omega) (by omega)).1]; exact ⟨(b3 q).1, fun j hj => by rw [w _ (by omega) (by omega)]; exact (b3 q).2 j hj⟩
  · intro q; rw [(g 162 (by omega) (by omega)).1]; exact b4 q
  · intro q; exact ⟨fun j hj => by rw [w _ (by omega) (by omega)]; exact (c1 q).1 j hj, fun j hj => by rw [w _ (by omega) (by omega)]; exact (c1 q).2 j hj⟩
  · rw [(g 167 (by omega) (by omega)).2]; exact c2
  · rw [(g 168 (by omega) (by omega)).2]; exact c3
theorem r_ses.fr {L : List Nat} (h : r_ses M s st ini rf S os oe xs xe ks kr ns nr) (w : mm_fr L M N) (hl : ∀ a ∈ L, a < 157 ∨ a = 158 ∨ 168 < a) : r_ses N s st ini rf S os oe xs xe ks kr ns nr :=
  h.keep (fun i _ _ => by rw [(w 157 (fun q => by have := hl _ q; omega)).1]) (fun k h1 h2 => by
    have := w k (fun q => by have := hl _ q; omega)
    exact ⟨by rw [this.1], by rw [this.2]⟩)
theorem r_ses.adv {st' : Nat} {S' : sy} {xs' xe' ks' kr' : Nat → Int32} (h : r_ses M s st ini rf S os oe xs xe ks kr ns nr) (q : rq s M N) (h4 : N.1 164 s = nI st') (hs : r_sy N s S') (hS1 : knS st' ini → N.1 163 s = 1 ∧ ∀ j, j < 32 → N.1 157 (352 * s + 128 + j) = xs' j) (hS0 : ¬ knS st' ini → N.1 163 s = 0) (hE1 : knE st' ini → N.1 162 s = 1 ∧ ∀ j, j < 32 → N.1 157 (352 * s + 96 + j) = xe' j) (hE0 : ¬ knE st' ini → N.1 162 s = 0) (h3 : st' = 3 → (∀ j, j < 32 → N.1 157 (352 * s + 288 + j) = (if ini = 0 then kr' else ks') j) ∧ (∀ j, j < 32 → N.1 157 (352 * s + 320 + j) = (if ini = 0 then ks' else kr') j)) : r_ses N s st' ini rf S' os oe xs' xe' ks' kr' ns nr := by
  obtain ⟨a1, a2, a3, a4, a5, a6, a7, a8, a9, b1, b2, b3, b4, c1, c2, c3⟩ := h
  obtain ⟨g, r⟩ := q
  refine ⟨?_, ?_, h4, ?_, hs, ?_, ?_, ?_, ?_, hS1, hS0, hE1, hE0, h3, ?_, ?_⟩
  · rw [(g 159 (by omega)).1]; exact a1
  · rw [(g 160 (by omega)).1]; exact a2
  · rw [(g 165 (by omega)).1]; exact a4
  · intro j hj; rw [r _ (by omega) (by omega)]; exact a6 j hj
  · intro j hj; rw [r _ (by omega) (by omega)]; exact a7 j hj
  · intro j hj; rw [r _ (by omega) (by omega)]; exact a8 j hj
  · intro j hj; rw [r _ (by omega) (by omega)]; exact a9 j hj
  · rw [(g 167 (by omega)).2]; exact c2
  · rw [(g 168 (by omega)).2]; exact c3
/-- behind an answer: all that has changed -/
def tl (s : Nat) (M N : mm_M) (n : Nat) : Prop := N.1 117 4 = M.1 117 4 ∧ N.1 117 5 = nI n ∧ (∀ i, (i < 352 * s ∨ 352 * s + 352 ≤ i) → N.1 157 i = M.1 157 i) ∧ (∀ k i, i ≠ s → 159 ≤ k → k ≤ 168 → N.1 k i = M.1 k i ∧ N.2 k i = M.2 k i)
theorem r_tell {G : mm_M} {n : Nat} {o : Nat → Int32} (hk : rk s M G) (h : r_ses G s st ini rf S os oe xs xe ks kr ns nr) (ho : ∀ i, i < n → G.1 120 i = o i) : (f_X12_tells 120 n G).1 = nI n ∧ (∀ i, i < n → (f_X12_tells 120 n G).2.1 121 i = o i) ∧ tl s M (f_X12_tells 120 n G).2 n ∧ r_ses (f_X12_tells 120 n G).2 s st ini rf S os oe xs xe ks kr ns nr := by
  have w := (w_f_X12_tells 120 n G).m
  have e1 : (f_X12_tells 120 n G).2.1 117 4 = G.1 117 4 := by
    show (mm_w (f_X12_copy 120 0 121 0 n G) 117 5 (nI n)).1 117 4 = _
    rw [rd_wN _ _ _ _ (Or.inr (by decide)), (w_f_X12_copy 120 0 121 0 n G 117 (by decide)).1]
  have e2 : (f_X12_tells 120 n G).2.1 117 5 = nI n := by
    show (mm_w (f_X12_copy 120 0 121 0 n G) 117 5 (nI n)).1 117 5 = _
    rw [rd_wS]
  have e3 : ∀ i, i < n → (f_X12_tells 120 n G).2.1 121 i = o i := fun i hi => by
    show (mm_w (f_X12_copy 120 0 121 0 n G) 117 5 (nI n)).1 121 i = _
    rw [rd_wN _ _ _ _ (Or.inl (by decide)), copy_cp _ _ _ _ _ (by decide)]
    have := rd_cpS G 120 0 121 0 n hi
    simp only [Nat.zero_add] at this
    rw [this]; exact ho i hi
  have e0 : (f_X12_tells 120 n G).1 = nI n := rfl
  generalize f_X12_tells 120 n G = Y at *
  refine ⟨e0, e3, ⟨?_, e2, fun i hi => ?_, fun k i h1 h2 h3 => ?_⟩, h.fr w (by simp)⟩
  · rw [e1]; exact hk.2.2 4 (by decide)
  · rw [(w 157 (by decide)).1]; exact hk.1 i hi
  · rw [(w k (by simp <;> omega)).1, (w k (by simp <;> omega)).2]; exact hk.2.1 k i h1 h2 h3
theorem go_n (q : Nat) (M : mm_M) (st : Nat) (h : M.1 164 q = nI st) (hst : st < 2) : f_X12_goesOn q M = mm_w M 164 q (nI (st + 1)) := by
  unfold f_X12_goesOn f_X12_goesOn_B1
  dsimp only
  rw [h, nI_s, rd_wS, if_pos (by
    rcases (show st = 0 ∨ st = 1 by omega) with rfl | rfl <;> decide)]
theorem go_3 (q : Nat) (M : mm_M) (h : M.1 164 q = nI 2) : f_X12_goesOn q M = f_X12_split q (mm_w M 164 q (nI 3)) := by
  unfold f_X12_goesOn f_X12_goesOn_B1
  dsimp only
  rw [h, nI_s, rd_wS, if_neg (by decide)]
theorem rw0_eq (q1 q2 : Nat) (M M47 : mm_M) (h47 : M47 = f_X12_mixHash q1 120 0 32 (f_X12_copy 157 (352 * q1 + 256) 120 0 32 M)) (hM : M.1 164 q1 = nI 0) (h1 : M47.1 164 q1 = nI 0) : f_X12_write_B7 q1 q2 M = f_X12_tells 120 (if M47.1 161 q1 = 0 then 32 + q2 else 32 + (q2 + 16)) (f_X12_goesOn q1 (f_X12_sealsInto q1 119 0 q2 32 M47).2) := by
  unfold f_X12_write_B7
  rw [if_neg (by rw [hM]; decide)]
  dsimp only
  rw [← h47]
  unfold f_X12_write_B6
  rw [if_pos (by rw [h1]; decide)]
  unfold f_X12_write_B4
  rw [if_pos (by rw [h1]; decide)]
theorem rw1_eq (q1 q2 : Nat) (M M47 M66 M77 : mm_M) (h47 : M47 = f_X12_mixHash q1 120 0 32 (f_X12_copy 157 (352 * q1 + 256) 120 0 32 M)) (hM : M.1 164 q1 = nI 1) (h1 : M47.1 164 q1 = nI 1) (h66 : M66 = f_X12_agrees q1 224 96 M47) (h2 : M66.1 164 q1 = nI 1) (hk : ¬ M66.1 161 q1 = 0) (h77 : M77 = f_X12_agrees q1 160 96 (f_X12_sealsInto q1 157 (352 * q1 + 192) 32 32 M66).2) (hk2 : ¬ M77.1 161 q1 = 0) : f_X12_write_B7 q1 q2 M = f_X12_tells 120 (32 + (32 + 16) + (q2 + 16)) (f_X12_goesOn q1 (f_X12_sealsInto q1 119 0 q2 (32 + (32 + 16)) M77).2) := by
  unfold f_X12_write_B7
  rw [if_neg (by rw [hM]; decide)]
  dsimp only
  rw [← h47]
  unfold f_X12_write_B6
  rw [if_neg (by rw [h1]; decide)]
  dsimp only
  rw [← h66]
  unfold f_X12_write_B5
  rw [if_neg (by rw [h2]; decide)]
  dsimp only
  rw [if_neg hk, ← h77, if_neg hk2]
theorem rw2_eq (q1 q2 : Nat) (M M77 : mm_M) (hM : M.1 164 q1 = nI 2) (hk : ¬ M.1 161 q1 = 0) (h77 : M77 = f_X12_agrees q1 160 96 (f_X12_sealsInto q1 157 (352 * q1 + 192) 32 0 M).2) (hk2 : ¬ M77.1 161 q1 = 0) : f_X12_write_B7 q1 q2 M = f_X12_tells 120 (0 + (32 + 16) + (q2 + 16)) (f_X12_goesOn q1 (f_X12_sealsInto q1 119 0 q2 (0 + (32 + 16)) M77).2) := by
  unfold f_X12_write_B7
  rw [if_pos (by rw [hM]; decide)]
  unfold f_X12_write_B3
  rw [if_pos (by rw [hM]; decide)]
  unfold f_X12_write_B1
  rw [if_neg (by rw [hM]; decide)]
  dsimp only
  rw [if_neg hk, ← h77, if_neg hk2]
theorem rk_go (s : Nat) (M : mm_M) (v : Int32) : rk s M (mm_w M 164 s v) := rk_w M 164 v (by omega) (by omega)
theorem rq_go (s : Nat) (M : mm_M) (v : Int32) : rq s M (mm_w M 164 s v) := rq_fr (L := [164]) (mm_fr_w (by simp) (mm_fr_refl _ _)) (by simp) (fun i _ _ => by rw [rd_wN _ _ _ _ (Or.inl (by decide))])
/-- the first public key is put down and mixed in -/
theorem r_e (hT : rT M) (h : r_ses M s st ini rf S os oe xs xe ks kr ns nr) (M47 : mm_M) (h47 : M47 = f_X12_mixHash s 120 0 32 (f_X12_copy 157 (352 * s + 256) 120 0 32 M)) : r_sy M47 s (wS1 S (cvB oe nine)) ∧ (∀ i, i < 32 → M47.1 120 i = cvB oe nine i) ∧ rk s M M47 ∧ rr s M M47 ∧ mm_fr [120, 117, 128, 129, 126, 127, 125, 157] M M47 := by
  rw [copy_cp _ _ _ _ _ (by decide)] at h47
  have w1 : mm_fr [120] M (mm_cp M 157 (352 * s + 256) 120 0 32) := mm_fr_cp (by simp) (mm_fr_refl _ _)
  have r1 : ∀ i, i < 32 → (mm_cp M 157 (352 * s + 256) 120 0 32).1 120 i = cvB oe nine i := fun i hi => by
    have := rd_cpS M 157 (352 * s + 256) 120 0 32 hi
    rw [Nat.zero_add] at this
    rw [this]; exact h.2.2.2.2.2.2.2.2.1 i hi
  generalize mm_cp M 157 (352 * s + 256) 120 0 32 = M1 at *
  have h1 := h.fr w1 (by simp)
  obtain ⟨m1, m2, m3⟩ := r_mixHash s 120 0 32 (by decide) (by decide) M1 S (hT.fr w1 (by decide) (by decide)) h1.2.2.2.2.1
  have w2 := w_f_X12_mixHash s 120 0 32 M1
  rw [← h47] at m1 m2 m3 w2
  refine ⟨?_, ?_, (rk_fr w1 (by simp)).trans m2, fun i q1 q2 => by rw [m3 i q1 q2, (w1 157 (by decide)).1], w2.on (by simp) (w1.on (by simp) (mm_fr_refl _ _))⟩
  · unfold wS1
    rw [syH_congr (m := fun j => ub (cvB oe nine j)) (m' := fun j => ub (M1.1 120 (0 + j))) (fun j hj => by rw [Nat.zero_add, r1 j hj])]
    exact m1
  · rw [(w2 120 (by decide)).1]; exact r1
theorem syN_le (S : sy) (n : Nat) : syN S n ≤ n + 16 := by unfold syN; by_cases c : S.2.2.2.1 = 0 <;> simp [c]
theorem r_w0 {p : Nat} (hp : p ≤ 900) (hi : ¬ ini = 0) (hT : rT M) (h : r_ses M s 0 ini rf S os oe xs xe ks kr ns nr) : (f_X12_write_B7 s p M).1 = nI (wN0 S oe p) ∧ (∀ i, i < wN0 S oe p → (f_X12_write_B7 s p M).2.1 121 i = wO0 S oe (M.1 119) p i) ∧ tl s M (f_X12_write_B7 s p M).2 (wN0 S oe p) ∧ r_ses (f_X12_write_B7 s p M).2 s 1 ini rf (wT0 S oe (M.1 119) p) os oe xs xe ks kr ns nr := by
  obtain ⟨M47, h47⟩ : ∃ M47, M47 = f_X12_mixHash s 120 0 32 (f_X12_copy 157 (352 * s + 256) 120 0 32 M) := ⟨_, rfl⟩
  obtain ⟨m1, m2, m3, m4, m5⟩ := r_e hT h M47 h47
  have h64 : M47.1 164 s = nI 0 := by rw [(m5 164 (by decide)).1]; exact h.2.2.1
  rw [rw0_eq s p M M47 h47 h.2.2.1 h64]
  have hT47 := hT.fr m5 (by decide) (by decide)
  obtain ⟨g1, g2, g3, g4, g5, g6⟩ := r_sealsInto s 119 0 p 32 (Or.inl rfl) (by omega) M47 _ hT47 m1
  have w8 := (w_f_X12_sealsInto s 119 0 p 32 M47).m
  generalize f_X12_sealsInto s 119 0 p 32 M47 = Y at *
  simp only [Nat.zero_add, (m5 119 (by decide)).1] at g2 g3
  have h8 : Y.2.1 164 s = nI 0 := by rw [(w8 164 (by decide)).1]; exact h64
  rw [go_n s Y.2 0 h8 (by decide)]
  have f8 : mm_fr [120, 117, 128, 129, 126, 127, 125, 157, 147, 149, 148, 155, 151, 150, 152, 153, 156, 154, 166] M Y.2 := w8.on (by simp) (m5.on (by simp) (mm_fr_refl _ _))
  have wg : mm_fr [164] Y.2 (mm_w Y.2 164 s (nI (0 + 1))) := mm_fr_w (by simp) (mm_fr_refl _ _)
  have rrA : rr s M (mm_w Y.2 164 s (nI (0 + 1))) := fun i q1 q2 => by rw [(wg 157 (by decide)).1, g6 i q1 q2, m4 i q1 q2]
  have hG : r_ses (mm_w Y.2 164 s (nI (0 + 1))) s 1 ini rf (wT0 S oe (M.1 119) p) os oe xs xe ks kr ns nr := by
    refine h.adv (rq_fr (L := [120, 117, 128, 129, 126, 127, 125, 157, 147, 149, 148, 155, 151, 150, 152, 153, 156, 154, 166, 164]) (wg.on (by simp) (f8.on (by simp) (mm_fr_refl _ _))) (by simp) rrA.q) (by rw [rd_wS]) (g2.fr (fun i _ _ => by rw [(wg 157 (by decide)).1]) (by rw [(wg 161 (by decide)).1]) (by rw [(wg 166 (by decide)).2])) (fun q => by rw [knS_1 hi] at q; omega) (fun _ => ?_) (fun q => by rw [knE_1 hi] at q; omega) (fun _ => ?_) (fun q => by omega)
    · rw [(wg 163 (by decide)).1, (f8 163 (by decide)).1]; exact h.2.2.2.2.2.2.2.2.2.2.1 (fun q => by rw [knS_1 hi] at q; omega)
    · rw [(wg 162 (by decide)).1, (f8 162 (by decide)).1]; exact h.2.2.2.2.2.2.2.2.2.2.2.2.1 (fun q => by rw [knE_1 hi] at q; omega)
  have hn : (if M47.1 161 s = 0 then 32 + p else 32 + (p + 16)) = wN0 S oe p := by
    rw [m1.2.2.2.1]
    unfold wN0 syN
    by_cases c : (wS1 S (cvB oe nine)).2.2.2.1 = 0
    · rw [if_pos c, if_pos c]
    · rw [if_neg c, if_neg c]
  rw [hn]
  refine r_tell (m3.trans (g5.trans (rk_go s Y.2 _))) hG (fun i hi' => ?_)
  rw [(wg 120 (by decide)).1]
  unfold wO0
  by_cases c : i < 32
  · rw [cat_lo _ _ _ c, g4 i c]; exact m2 i c
  · rw [cat_hi _ _ _ c]
    have := g3 (i - 32) (by unfold wN0 at hi'; omega)
    rw [show 32 + (i - 32) = i from by omega] at this
    exact this
theorem r_ag_kd (s p q : Nat) (M : mm_M) : (f_X12_agrees s p q M).1 161 s = 1 := by
  unfold f_X12_agrees f_X12_mixKey
  dsimp only
  rw [rd_wl1, rd_wS]
/-- the writer's static key is sealed, its secret mixed in, the payload sealed: at place q of the answer -/
theorem r_s {p q : Nat} (hp : p ≤ 900) (hT : rT M) (hd : ¬ S.2.2.2.1 = 0) (hs : r_sy M s S) (h1 : ∀ j, j < 32 → M.1 157 (352 * s + 160 + j) = os j) (h2 : ∀ j, j < 32 → M.1 157 (352 * s + 192 + j) = cvB os nine j) (h3 : ∀ j, j < 32 → M.1 157 (352 * s + 96 + j) = xe j) (M77 : mm_M) (h77 : M77 = f_X12_agrees s 160 96 (f_X12_sealsInto s 157 (352 * s + 192) 32 q M).2) (Y : Int32 × mm_M) (hY : Y = f_X12_sealsInto s 119 0 p (q + 48) M77) : r_sy Y.2 s (wT2 S os xe (M.1 119) p) ∧ (∀ i, i < 48 + (p + 16) → Y.2.1 120 (q + i) = wO2 S os xe (M.1 119) p i) ∧ (∀ i, i < q → Y.2.1 120 i = M.1 120 i) ∧ rk s M Y.2 ∧ rr s M Y.2 ∧ mm_fr [120, 117, 128, 129, 126, 127, 125, 157, 147, 149, 148, 155, 151, 150, 152, 153, 156, 154, 166, 144, 132, 134, 133, 136, 140, 142, 135, 143, 139, 145, 141, 137, 138, 130, 131, 169, 172, 170, 171, 161] M Y.2 := by
  obtain ⟨g1, g2, g3, g4, g5, g6⟩ := r_sealsInto s 157 (352 * s + 192) 32 q (Or.inr rfl) (by decide) M _ hT hs
  have w1 := (w_f_X12_sealsInto s 157 (352 * s + 192) 32 q M).m
  generalize f_X12_sealsInto s 157 (352 * s + 192) 32 q M = X at *
  rw [syE_congr (b := cvB os nine) h2] at g2
  rw [syN_1 hd] at g3
  have g3' : ∀ i, i < 48 → X.2.1 120 (q + i) = syO S (cvB os nine) 32 i := fun i hi => by
    rw [g3 i hi]
    exact syO_congr h2 i (by rw [syN_1 hd]; exact hi)
  obtain ⟨a1, a2, a3⟩ := r_agrees s 160 96 X.2 _ (hT.fr w1 (by decide) (by decide)) g2
  have w2 := w_f_X12_agrees s 160 96 X.2
  rw [← h77] at a1 a2 a3 w2
  rw [show cvB (fun i => X.2.1 157 (352 * s + 160 + i)) (fun i => X.2.1 157 (352 * s + 96 + i)) = cvB os xe from cvB_congr (fun j hj => by rw [g6 _ (by omega) (by omega)]; exact h1 j hj) (fun j hj => by rw [g6 _ (by omega) (by omega)]; exact h3 j hj)] at a1
  have hT2 := (hT.fr w1 (by decide) (by decide)).fr w2 (by decide) (by decide)
  obtain ⟨b1, b2, b3, b4, b5, b6⟩ := r_sealsInto s 119 0 p (q + 48) (Or.inl rfl) (by omega) M77 _ hT2 a1
  have w3 := (w_f_X12_sealsInto s 119 0 p (q + 48) M77).m
  rw [← hY] at b1 b2 b3 b4 b5 b6 w3
  simp only [Nat.zero_add, (w2 119 (by decide)).1, (w1 119 (by decide)).1] at b2 b3
  refine ⟨b2, fun i hi => ?_, fun i hi => ?_, g5.trans (a2.trans b5), fun i q1 q2 => by rw [b6 i q1 q2, a3 i q1 q2, g6 i q1 q2], w3.on (by simp) (w2.on (by simp) (w1.on (by simp) (mm_fr_refl _ _)))⟩
  · unfold wO2
    by_cases c : i < 48
    · rw [cat_lo _ _ _ c, b4 _ (by omega), (w2 120 (by decide)).1]; exact g3' i c
    · rw [cat_hi _ _ _ c]
      have := b3 (i - 48) (by rw [syN_1 (by show ¬ (1 : Int32) = 0; decide)]; omega)
      rw [show q + 48 + (i - 48) = q + i from by omega] at this
      exact this
  · rw [b4 i (by omega), (w2 120 (by decide)).1, g4 i hi]
theorem r_w1 {p : Nat} (hp : p ≤ 900) (hi : ini = 0) (hT : rT M) (h : r_ses M s 1 ini rf S os oe xs xe ks kr ns nr) : (f_X12_write_B7 s p M).1 = nI (32 + (48 + (p + 16))) ∧ (∀ i, i < 32 + (48 + (p + 16)) → (f_X12_write_B7 s p M).2.1 121 i = wO1 S os oe xe (M.1 119) p i) ∧ tl s M (f_X12_write_B7 s p M).2 (32 + (48 + (p + 16))) ∧ r_ses (f_X12_write_B7 s p M).2 s 2 ini rf (wT1 S os oe xe (M.1 119) p) os oe xs xe ks kr ns nr := by
  obtain ⟨M47, h47⟩ : ∃ M47, M47 = f_X12_mixHash s 120 0 32 (f_X12_copy 157 (352 * s + 256) 120 0 32 M) := ⟨_, rfl⟩
  obtain ⟨m1, m2, m3, m4, m5⟩ := r_e hT h M47 h47
  have h' := h
  obtain ⟨a1, a2, a3, a4, a5, a6, a7, a8, a9, b1, b2, b3, b4, c1, c2, c3⟩ := h
  have kE := b3 ((knE_0 hi).mpr (Nat.le_refl 1))
  have h64 : M47.1 164 s = nI 1 := by rw [(m5 164 (by decide)).1]; exact a3
  have hT47 := hT.fr m5 (by decide) (by decide)
  obtain ⟨M66, h66⟩ : ∃ M66, M66 = f_X12_agrees s 224 96 M47 := ⟨_, rfl⟩
  obtain ⟨d1, d2, d3⟩ := r_agrees s 224 96 M47 _ hT47 m1
  have w6 := w_f_X12_agrees s 224 96 M47
  have k6 := r_ag_kd s 224 96 M47
  rw [← h66] at d1 d2 d3 w6 k6
  rw [show cvB (fun i => M47.1 157 (352 * s + 224 + i)) (fun i => M47.1 157 (352 * s + 96 + i)) = cvB oe xe from cvB_congr (fun j hj => by rw [m4 _ (by omega) (by omega)]; exact a7 j hj) (fun j hj => by rw [m4 _ (by omega) (by omega)]; exact kE.2 j hj)] at d1
  have row : ∀ i, 352 * s + 96 ≤ i → i < 352 * s + 352 → M66.1 157 i = M.1 157 i := fun i q1 q2 => by rw [d3 i q1 q2, m4 i q1 q2]
  obtain ⟨M77, h77⟩ : ∃ M77, M77 = f_X12_agrees s 160 96 (f_X12_sealsInto s 157 (352 * s + 192) 32 32 M66).2 := ⟨_, rfl⟩
  have f66 : mm_fr [120, 117, 128, 129, 126, 127, 125, 157, 144, 132, 134, 133, 136, 140, 142, 135, 143, 139, 145, 141, 137, 138, 130, 131, 169, 172, 170, 171, 161, 166] M M66 := w6.on (by simp) (m5.on (by simp) (mm_fr_refl _ _))
  rw [rw1_eq s p M M47 M66 M77 h47 a3 h64 h66 (by rw [(w6 164 (by decide)).1]; exact h64) (by rw [k6]; decide) h77 (by rw [h77, r_ag_kd]; decide)]
  obtain ⟨Y, hY⟩ : ∃ Y, Y = f_X12_sealsInto s 119 0 p (32 + 48) M77 := ⟨_, rfl⟩
  rw [show f_X12_sealsInto s 119 0 p (32 + (32 + 16)) M77 = Y from hY.symm]
  obtain ⟨s1, s2, s3, s4, s5, s6⟩ := r_s (M := M66) (os := os) (xe := xe) (q := 32) hp (hT.fr f66 (by decide) (by decide)) (by show ¬ (1 : Int32) = 0; decide) d1 (fun j hj => by rw [row _ (by omega) (by omega)]; exact a6 j hj) (fun j hj => by rw [row _ (by omega) (by omega)]; exact a8 j hj) (fun j hj => by rw [row _ (by omega) (by omega)]; exact kE.2 j hj) M77 h77 Y hY
  rw [(f66 119 (by decide)).1] at s1 s2
  have fY : mm_fr [120, 117, 128, 129, 126, 127, 125, 157, 144, 132, 134, 133, 136, 140, 142, 135, 143, 139, 145, 141, 137, 138, 130, 131, 169, 172, 170, 171, 161, 166, 147, 149, 148, 155, 151, 150, 152, 153, 156, 154] M Y.2 := s6.on (by simp) (f66.on (by simp) (mm_fr_refl _ _))
  rw [go_n s Y.2 1 (by rw [(fY 164 (by decide)).1]; exact a3) (by decide)]
  have wg : mm_fr [164] Y.2 (mm_w Y.2 164 s (nI (1 + 1))) := mm_fr_w (by simp) (mm_fr_refl _ _)
  have rrA : rr s M (mm_w Y.2 164 s (nI (1 + 1))) := fun i q1 q2 => by rw [(wg 157 (by decide)).1, s5 i q1 q2, row i q1 q2]
  have hG : r_ses (mm_w Y.2 164 s (nI (1 + 1))) s 2 ini rf (wT1 S os oe xe (M.1 119) p) os oe xs xe ks kr ns nr := by
    refine h'.adv (rq_fr (L := [120, 117, 128, 129, 126, 127, 125, 157, 144, 132, 134, 133, 136, 140, 142, 135, 143, 139, 145, 141, 137, 138, 130, 131, 169, 172, 170, 171, 161, 166, 147, 149, 148, 155, 151, 150, 152, 153, 156, 154, 164]) (wg.on (by simp) (fY.on (by simp) (mm_fr_refl _ _))) (by simp) rrA.q) (by rw [rd_wS]) (s1.fr (fun i _ _ => by rw [(wg 157 (by decide)).1]) (by rw [(wg 161 (by decide)).1]) (by rw [(wg 166 (by decide)).2])) (fun q => by rw [knS_0 hi] at q; omega) (fun _ => ?_) (fun _ => ⟨?_, fun j hj => by rw [rrA _ (by omega) (by omega)]; exact kE.2 j hj⟩) (fun q => absurd ((knE_0 hi).mpr (by decide)) q) (fun q => by omega)
    · rw [(wg 163 (by decide)).1, (fY 163 (by decide)).1]; exact b2 (fun q => by rw [knS_0 hi] at q; omega)
    · rw [(wg 162 (by decide)).1, (fY 162 (by decide)).1]; exact kE.1
  rw [show 32 + (32 + 16) + (p + 16) = 32 + (48 + (p + 16)) from by omega]
  refine r_tell (m3.trans (d2.trans (s4.trans (rk_go s Y.2 _)))) hG (fun i hi' => ?_)
  rw [(wg 120 (by decide)).1]
  unfold wO1
  by_cases c : i < 32
  · rw [cat_lo _ _ _ c, s3 i c, (w6 120 (by decide)).1]; exact m2 i c
  · rw [cat_hi _ _ _ c]
    have := s2 (i - 32) (by omega)
    rw [show 32 + (i - 32) = i from by omega] at this
    exact this
theorem r_w2 {p : Nat} (hp : p ≤ 900) (hi : ¬ ini = 0) (hd : ¬ S.2.2.2.1 = 0) (hT : rT M) (h : r_ses M s 2 ini rf S os oe xs xe ks kr ns nr) : (f_X12_write_B7 s p M).1 = nI (48 + (p + 16)) ∧ (∀ i, i < 48 + (p + 16) → (f_X12_write_B7 s p M).2.1 121 i = wO2 S os xe (M.1 119) p i) ∧ tl s M (f_X12_write_B7 s p M).2 (48 + (p + 16)) ∧ r_ses (f_X12_write_B7 s p M).2 s 3 ini rf (wT2 S os xe (M.1 119) p) os oe xs xe (spA (wT2 S os xe (M.1 119) p)) (spB (wT2 S os xe (M.1 119) p)) ns nr := by
  have h' := h
  obtain ⟨a1, a2, a3, a4, a5, a6, a7, a8, a9, b1, b2, b3, b4, c1, c2, c3⟩ := h
  have kE := b3 ((knE_1 hi).mpr (Nat.le_refl 2))
  have kS := b1 ((knS_1 hi).mpr (Nat.le_refl 2))
  obtain ⟨M77, h77⟩ : ∃ M77, M77 = f_X12_agrees s 160 96 (f_X12_sealsInto s 157 (352 * s + 192) 32 0 M).2 := ⟨_, rfl⟩
  rw [rw2_eq s p M M77 a3 (by rw [a5.2.2.2.1]; exact hd) h77 (by rw [h77, r_ag_kd]; decide)]
  obtain ⟨Y, hY⟩ : ∃ Y, Y = f_X12_sealsInto s 119 0 p (0 + 48) M77 := ⟨_, rfl⟩
  rw [show f_X12_sealsInto s 119 0 p (0 + (32 + 16)) M77 = Y from hY.symm]
  obtain ⟨s1, s2, s3, s4, s5, s6⟩ := r_s (M := M) (os := os) (xe := xe) (q := 0) hp hT hd a5 a6 a8 kE.2 M77 h77 Y hY
  rw [go_3 s Y.2 (by rw [(s6 164 (by decide)).1]; exact a3)]
  have wg : mm_fr [164] Y.2 (mm_w Y.2 164 s (nI 3)) := mm_fr_w (by simp) (mm_fr_refl _ _)
  have e64 : (mm_w Y.2 164 s (nI 3)).1 164 s = nI 3 := rd_wS _ _ _ _
  have s1' : r_sy (mm_w Y.2 164 s (nI 3)) s (wT2 S os xe (M.1 119) p) := s1.fr (fun i _ _ => by rw [(wg 157 (by decide)).1]) (by rw [(wg 161 (by decide)).1]) (by rw [(wg 166 (by decide)).2])
  have rrA : rr s M (mm_w Y.2 164 s (nI 3)) := fun i q1 q2 => by rw [(wg 157 (by decide)).1, s5 i q1 q2]
  have rkA := s4.trans (rk_go s Y.2 (nI 3))
  have fG : mm_fr [120, 117, 128, 129, 126, 127, 125, 157, 147, 149, 148, 155, 151, 150, 152, 153, 156, 154, 166, 144, 132, 134, 133, 136, 140, 142, 135, 143, 139, 145, 141, 137, 138, 130, 131, 169, 172, 170, 171, 161, 164] M (mm_w Y.2 164 s (nI 3)) := wg.on (by simp) (s6.on (by simp) (mm_fr_refl _ _))
  have o2 : ∀ i, i < 48 + (p + 16) → (mm_w Y.2 164 s (nI 3)).1 120 i = wO2 S os xe (M.1 119) p i := fun i hi' => by
    rw [(wg 120 (by decide)).1]
    have := s2 i hi'
    rw [Nat.zero_add] at this
    exact this
  generalize mm_w Y.2 164 s (nI 3) = G at *
  obtain ⟨t1, t2, t3, t4⟩ := r_split s G _ (hT.fr fG (by decide) (by decide)) s1'
  have wS := w_f_X12_split s G
  generalize f_X12_split s G = G2 at *
  have hG : r_ses G2 s 3 ini rf (wT2 S os xe (M.1 119) p) os oe xs xe (spA (wT2 S os xe (M.1 119) p)) (spB (wT2 S os xe (M.1 119) p)) ns nr := by
    refine h'.adv (rq_fr (L := [120, 117, 128, 129, 126, 127, 125, 157, 147, 149, 148, 155, 151, 150, 152, 153, 156, 154, 166, 144, 132, 134, 133, 136, 140, 142, 135, 143, 139, 145, 141, 137, 138, 130, 131, 169, 172, 170, 171, 161, 164]) (wS.on (by simp) (fG.on (by simp) (mm_fr_refl _ _))) (by simp) (fun i q1 q2 => by rw [t4 i (by omega) (by omega), rrA i (by omega) (by omega)])) (by rw [(wS 164 (by decide)).1]; exact e64) (s1'.fr (fun i q1 q2 => t4 i q1 (by omega)) (by rw [(wS 161 (by decide)).1]) (by rw [(wS 166 (by decide)).2])) (fun _ => ⟨?_, fun j hj => ?_⟩) (fun q => absurd ((knS_1 hi).mpr (by decide)) q) (fun _ => ⟨?_, fun j hj => ?_⟩) (fun q => absurd ((knE_1 hi).mpr (by decide)) q) (fun _ => ⟨?_, ?_⟩)
    · rw [(wS 163 (by decide)).1, (fG 163 (by decide)).1]; exact kS.1
    · rw [t4 _ (by omega) (by omega), rrA _ (by omega) (by omega)]; exact kS.2 j hj
    · rw [(wS 162 (by decide)).1, (fG 162 (by decide)).1]; exact kE.1
    · rw [t4 _ (by omega) (by omega), rrA _ (by omega) (by omega)]; exact kE.2 j hj
    · rw [if_neg hi]; exact t1
    · rw [if_neg hi]; exact t2
  rw [show 0 + (32 + 16) + (p + 16) = 48 + (p + 16) from by omega]
  exact r_tell (rkA.trans t3) hG (fun i hi' => by rw [(wS 120 (by decide)).1]; exact o2 i hi')
end RS
