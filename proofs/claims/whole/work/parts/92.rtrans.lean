/-! the reference's session: reading as a whole, transport, new keys, a new beginning -/
section RT
variable {M N : mm_M} {s st : Nat} {ini rf : Int32} {S : sy} {os oe xs xe ks kr : Nat → Int32} {ns nr : Int64}
theorem r_r0 {n : Nat} (hn : n ≤ 1000) (hi : ini = 0) (hw : f_X12_isToWrite s M = 0) (hT : rT M) (h : r_ses M s 0 ini rf S os oe xs xe ks kr ns nr) : (rOK0 S (M.1 119) n → (f_X12_read_B2 s n M).1 = nI (syL (wS1 S (M.1 119)) (n - 32)) ∧ (∀ i, i < syL (wS1 S (M.1 119)) (n - 32) → (f_X12_read_B2 s n M).2.1 121 i = syP (wS1 S (M.1 119)) (sh 32 (M.1 119)) i) ∧ tl s M (f_X12_read_B2 s n M).2 (syL (wS1 S (M.1 119)) (n - 32)) ∧ r_ses (f_X12_read_B2 s n M).2 s 1 ini rf (syD (wS1 S (M.1 119)) (sh 32 (M.1 119)) (n - 32)) os oe xs (M.1 119) ks kr ns nr) ∧ (¬ rOK0 S (M.1 119) n → (f_X12_read_B2 s n M).1 = -1 ∧ tf s M (f_X12_read_B2 s n M).2 ∧ r_ses (f_X12_read_B2 s n M).2 s 0 ini (rf + 1) S os oe xs xe ks kr ns nr) := by
  obtain ⟨M9, h9⟩ : ∃ M9, M9 = f_X12_copy 157 (352 * s) 158 0 352 M := ⟨_, rfl⟩
  have w9 : mm_fr [158] M M9 := by rw [h9]; exact w_f_X12_copy _ _ _ _ _ _
  have hs9 := h.fr w9 (by simp)
  obtain ⟨Z, hZ⟩ : ∃ Z, Z = f_X12_reads s n M9 := ⟨_, rfl⟩
  obtain ⟨g1, g2, g3⟩ := r_rd0 hn (hT.fr w9 (by decide) (by decide)) hs9 Z hZ
  have w := (w_f_X12_reads s n M9).m
  rw [← hZ] at w
  rw [(w9 119 (by decide)).1] at g1 g2
  rw [rb_eq s n M M9 h9 hw Z hZ]
  refine ⟨fun ok => ?_, fun q => r_back h M9 h9 Z hZ g3 (g2 q)⟩
  obtain ⟨v1, v2, v3, v4, v5, v6, v7⟩ := g1 ok
  have hl := syL_le (wS1 S (M.1 119)) (n - 32)
  rw [rb_1 s _ _ _ _ _ Z.2 Z.1 v1 (by omega), go_n s Z.2 0 (by rw [(w 164 (by decide)).1]; exact hs9.2.2.1) (by decide)]
  have wg : mm_fr [164] Z.2 (mm_w Z.2 164 s (nI (0 + 1))) := mm_fr_w (by simp) (mm_fr_refl _ _)
  have fG := wg.on (L := [164, 158, 147, 149, 148, 155, 151, 150, 152, 153, 156, 154, 120, 166, 117, 128, 129, 126, 127, 125, 157, 163, 144, 132, 134, 133, 136, 140, 142, 135, 143, 139, 145, 141, 137, 138, 130, 131, 169, 172, 170, 171, 161, 162]) (by simp) (w.on (by simp) (w9.on (by simp) (mm_fr_refl _ _)))
  have row : ∀ i, 352 * s + 128 ≤ i → i < 352 * s + 352 → (mm_w Z.2 164 s (nI (0 + 1))).1 157 i = M.1 157 i := fun i q1 q2 => by rw [(wg 157 (by decide)).1, v6 i q1 q2, (w9 157 (by decide)).1]
  refine r_tell ((rk_fr w9 (by simp)).trans (g3.trans (rk_go s Z.2 _))) ?_ (fun i hi' => by rw [(wg 120 (by decide)).1]; exact v2 i hi')
  refine h.adv (rq_fr fG (by simp) (fun i q1 q2 => row i (by omega) (by omega))) (by rw [rd_wS]) (v3.fr (fun i _ _ => by rw [(wg 157 (by decide)).1]) (by rw [(wg 161 (by decide)).1]) (by rw [(wg 166 (by decide)).2])) (fun q => by rw [knS_0 hi] at q; omega) (fun _ => ?_) (fun _ => ⟨?_, fun j hj => ?_⟩) (fun q => absurd ((knE_0 hi).mpr (by decide)) q) (fun q => by omega)
  · rw [(wg 163 (by decide)).1, v7, (w9 163 (by decide)).1]; exact h.2.2.2.2.2.2.2.2.2.2.1 (fun q => by rw [knS_0 hi] at q; omega)
  · rw [(wg 162 (by decide)).1]; exact v4
  · rw [(wg 157 (by decide)).1, v5 j hj]
theorem r_r1 {n : Nat} (hn : n ≤ 1000) (hi : ¬ ini = 0) (hw : f_X12_isToWrite s M = 0) (hT : rT M) (h : r_ses M s 1 ini rf S os oe xs xe ks kr ns nr) : (rOK1 S oe (M.1 119) n → (f_X12_read_B2 s n M).1 = nI (n - 96) ∧ (∀ i, i < n - 96 → (f_X12_read_B2 s n M).2.1 121 i = syP (rB (rA S oe (M.1 119)) oe (sh 32 (M.1 119))) (sh 80 (M.1 119)) i) ∧ tl s M (f_X12_read_B2 s n M).2 (n - 96) ∧ r_ses (f_X12_read_B2 s n M).2 s 2 ini rf (syD (rB (rA S oe (M.1 119)) oe (sh 32 (M.1 119))) (sh 80 (M.1 119)) (n - 80)) os oe (syP (rA S oe (M.1 119)) (sh 32 (M.1 119))) (M.1 119) ks kr ns nr) ∧ (¬ rOK1 S oe (M.1 119) n → (f_X12_read_B2 s n M).1 = -1 ∧ tf s M (f_X12_read_B2 s n M).2 ∧ r_ses (f_X12_read_B2 s n M).2 s 1 ini (rf + 1) S os oe xs xe ks kr ns nr) := by
  obtain ⟨M9, h9⟩ : ∃ M9, M9 = f_X12_copy 157 (352 * s) 158 0 352 M := ⟨_, rfl⟩
  have w9 : mm_fr [158] M M9 := by rw [h9]; exact w_f_X12_copy _ _ _ _ _ _
  have hs9 := h.fr w9 (by simp)
  obtain ⟨Z, hZ⟩ : ∃ Z, Z = f_X12_reads s n M9 := ⟨_, rfl⟩
  obtain ⟨g1, g2, g3⟩ := r_rd1 hn (hT.fr w9 (by decide) (by decide)) hs9 Z hZ
  have w := (w_f_X12_reads s n M9).m
  rw [← hZ] at w
  rw [(w9 119 (by decide)).1] at g1 g2
  rw [rb_eq s n M M9 h9 hw Z hZ]
  refine ⟨fun ok => ?_, fun q => r_back h M9 h9 Z hZ g3 (g2 q)⟩
  obtain ⟨v1, v2, v3, v4, v5, v6, v7, v8⟩ := g1 ok
  rw [rb_1 s _ _ _ _ _ Z.2 Z.1 v1 (by omega), go_n s Z.2 1 (by rw [(w 164 (by decide)).1]; exact hs9.2.2.1) (by decide)]
  have wg : mm_fr [164] Z.2 (mm_w Z.2 164 s (nI (1 + 1))) := mm_fr_w (by simp) (mm_fr_refl _ _)
  have fG := wg.on (L := [164, 158, 147, 149, 148, 155, 151, 150, 152, 153, 156, 154, 120, 166, 117, 128, 129, 126, 127, 125, 157, 163, 144, 132, 134, 133, 136, 140, 142, 135, 143, 139, 145, 141, 137, 138, 130, 131, 169, 172, 170, 171, 161, 162]) (by simp) (w.on (by simp) (w9.on (by simp) (mm_fr_refl _ _)))
  have row : ∀ i, 352 * s + 160 ≤ i → i < 352 * s + 352 → (mm_w Z.2 164 s (nI (1 + 1))).1 157 i = M.1 157 i := fun i q1 q2 => by rw [(wg 157 (by decide)).1, v8 i q1 q2, (w9 157 (by decide)).1]
  refine r_tell ((rk_fr w9 (by simp)).trans (g3.trans (rk_go s Z.2 _))) ?_ (fun i hi' => by rw [(wg 120 (by decide)).1]; exact v2 i hi')
  refine h.adv (rq_fr fG (by simp) (fun i q1 q2 => row i (by omega) (by omega))) (by rw [rd_wS]) (v3.fr (fun i _ _ => by rw [(wg 157 (by decide)).1]) (by rw [(wg 161 (by decide)).1]) (by rw [(wg 166 (by decide)).2])) (fun _ => ⟨?_, fun j hj => ?_⟩) (fun q => absurd ((knS_1 hi).mpr (by decide)) q) (fun _ => ⟨?_, fun j hj => ?_⟩) (fun q => absurd ((knE_1 hi).mpr (by decide)) q) (fun q => by omega)
  · rw [(wg 163 (by decide)).1]; exact v6
  · rw [(wg 157 (by decide)).1]; exact v7 j hj
  · rw [(wg 162 (by decide)).1]; exact v4
  · rw [(wg 157 (by decide)).1, v5 j hj]
theorem r_r2 {n : Nat} (hn : n ≤ 1000) (hi : ini = 0) (hd : ¬ S.2.2.2.1 = 0) (hw : f_X12_isToWrite s M = 0) (hT : rT M) (h : r_ses M s 2 ini rf S os oe xs xe ks kr ns nr) : (rOK2 S oe (M.1 119) n → (f_X12_read_B2 s n M).1 = nI (n - 64) ∧ (∀ i, i < n - 64 → (f_X12_read_B2 s n M).2.1 121 i = syP (rB S oe (sh 0 (M.1 119))) (sh 48 (M.1 119)) i) ∧ tl s M (f_X12_read_B2 s n M).2 (n - 64) ∧ r_ses (f_X12_read_B2 s n M).2 s 3 ini rf (syD (rB S oe (sh 0 (M.1 119))) (sh 48 (M.1 119)) (n - 48)) os oe (syP S (sh 0 (M.1 119))) xe (spB (syD (rB S oe (sh 0 (M.1 119))) (sh 48 (M.1 119)) (n - 48))) (spA (syD (rB S oe (sh 0 (M.1 119))) (sh 48 (M.1 119)) (n - 48))) ns nr) ∧ (¬ rOK2 S oe (M.1 119) n → (f_X12_read_B2 s n M).1 = -1 ∧ tf s M (f_X12_read_B2 s n M).2 ∧ r_ses (f_X12_read_B2 s n M).2 s 2 ini (rf + 1) S os oe xs xe ks kr ns nr) := by
  obtain ⟨M9, h9⟩ : ∃ M9, M9 = f_X12_copy 157 (352 * s) 158 0 352 M := ⟨_, rfl⟩
  have w9 : mm_fr [158] M M9 := by rw [h9]; exact w_f_X12_copy _ _ _ _ _ _
  have hs9 := h.fr w9 (by simp)
  obtain ⟨Z, hZ⟩ : ∃ Z, Z = f_X12_reads s n M9 := ⟨_, rfl⟩
  obtain ⟨g1, g2, g3⟩ := r_rd2 hn hd (hT.fr w9 (by decide) (by decide)) hs9 Z hZ
  have w := (w_f_X12_reads s n M9).m
  rw [← hZ] at w
  rw [(w9 119 (by decide)).1] at g1 g2
  rw [rb_eq s n M M9 h9 hw Z hZ]
  refine ⟨fun ok => ?_, fun q => r_back h M9 h9 Z hZ g3 (g2 q)⟩
  have kE := h.2.2.2.2.2.2.2.2.2.2.2.1 ((knE_0 hi).mpr (by decide))
  obtain ⟨v1, v2, v3, v4, v5, v6, v7, v8⟩ := g1 ok
  rw [rb_1 s _ _ _ _ _ Z.2 Z.1 v1 (by omega), go_3 s Z.2 (by rw [(w 164 (by decide)).1]; exact hs9.2.2.1)]
  have wg : mm_fr [164] Z.2 (mm_w Z.2 164 s (nI 3)) := mm_fr_w (by simp) (mm_fr_refl _ _)
  have fG := wg.on (L := [164, 158, 147, 149, 148, 155, 151, 150, 152, 153, 156, 154, 120, 166, 117, 128, 129, 126, 127, 125, 157, 163, 144, 132, 134, 133, 136, 140, 142, 135, 143, 139, 145, 141, 137, 138, 130, 131, 169, 172, 170, 171, 161, 162]) (by simp) (w.on (by simp) (w9.on (by simp) (mm_fr_refl _ _)))
  have row : ∀ i, 352 * s + 160 ≤ i → i < 352 * s + 352 → (mm_w Z.2 164 s (nI 3)).1 157 i = M.1 157 i := fun i q1 q2 => by rw [(wg 157 (by decide)).1, v8 i q1 q2, (w9 157 (by decide)).1]
  have e64 : (mm_w Z.2 164 s (nI 3)).1 164 s = nI 3 := rd_wS _ _ _ _
  have e63 : (mm_w Z.2 164 s (nI 3)).1 163 s = 1 := by rw [(wg 163 (by decide)).1]; exact v6
  have e62 : (mm_w Z.2 164 s (nI 3)).1 162 s = 1 := by rw [(wg 162 (by decide)).1, v4, (w9 162 (by decide)).1]; exact kE.1
  have r128 : ∀ j, j < 32 → (mm_w Z.2 164 s (nI 3)).1 157 (352 * s + 128 + j) = syP S (sh 0 (M.1 119)) j := fun j hj => by rw [(wg 157 (by decide)).1]; exact v7 j hj
  have r96 : ∀ j, j < 32 → (mm_w Z.2 164 s (nI 3)).1 157 (352 * s + 96 + j) = xe j := fun j hj => by rw [(wg 157 (by decide)).1, v5 _ (by omega) (by omega), (w9 157 (by decide)).1]; exact kE.2 j hj
  have s1' : r_sy (mm_w Z.2 164 s (nI 3)) s _ := v3.fr (fun i _ _ => by rw [(wg 157 (by decide)).1]) (by rw [(wg 161 (by decide)).1]) (by rw [(wg 166 (by decide)).2])
  have o2 : ∀ i, i < n - 64 → (mm_w Z.2 164 s (nI 3)).1 120 i = syP (rB S oe (sh 0 (M.1 119))) (sh 48 (M.1 119)) i := fun i hi' => by rw [(wg 120 (by decide)).1]; exact v2 i hi'
  have rkA := (rk_fr w9 (by simp)).trans (g3.trans (rk_go s Z.2 (nI 3)))
  generalize mm_w Z.2 164 s (nI 3) = G at *
  obtain ⟨t1, t2, t3, t4⟩ := r_split s G _ (hT.fr fG (by decide) (by decide)) s1'
  have wS := w_f_X12_split s G
  generalize f_X12_split s G = G2 at *
  refine r_tell (rkA.trans t3) ?_ (fun i hi' => by rw [(wS 120 (by decide)).1]; exact o2 i hi')
  refine h.adv (rq_fr (wS.on (L := [164, 158, 147, 149, 148, 155, 151, 150, 152, 153, 156, 154, 120, 166, 117, 128, 129, 126, 127, 125, 157, 163, 144, 132, 134, 133, 136, 140, 142, 135, 143, 139, 145, 141, 137, 138, 130, 131, 169, 172, 170, 171, 161, 162]) (by simp) (fG.on (by simp) (mm_fr_refl _ _))) (by simp) (fun i q1 q2 => by rw [t4 i (by omega) (by omega), row i (by omega) (by omega)])) (by rw [(wS 164 (by decide)).1]; exact e64) (s1'.fr (fun i q1 q2 => t4 i q1 (by omega)) (by rw [(wS 161 (by decide)).1]) (by rw [(wS 166 (by decide)).2])) (fun _ => ⟨?_, fun j hj => ?_⟩) (fun q => absurd ((knS_0 hi).mpr (by decide)) q) (fun _ => ⟨?_, fun j hj => ?_⟩) (fun q => absurd ((knE_0 hi).mpr (by decide)) q) (fun _ => ⟨?_, ?_⟩)
  · rw [(wS 163 (by decide)).1]; exact e63
  · rw [t4 _ (by omega) (by omega)]; exact r128 j hj
  · rw [(wS 162 (by decide)).1]; exact e62
  · rw [t4 _ (by omega) (by omega)]; exact r96 j hj
  · rw [if_pos hi]; exact t1
  · rw [if_pos hi]; exact t2
/-- a session's counters alone have changed -/
theorem r_cnt {ns' nr' : Int64} (h : r_ses M s st ini rf S os oe xs xe ks kr ns nr) {L : List Nat} (w : mm_fr L M N) (hl : ∀ a ∈ L, a < 157 ∨ a = 158 ∨ 168 < a ∨ a = 167 ∨ a = 168) (h7 : N.2 167 s = (if ini = 0 then nr' else ns')) (h8 : N.2 168 s = (if ini = 0 then ns' else nr')) : r_ses N s st ini rf S os oe xs xe ks kr ns' nr' := by
  have e : ∀ k, 157 ≤ k → k ≤ 166 → k ≠ 158 → N.1 k = M.1 k ∧ N.2 k = M.2 k := fun k q1 q2 q3 => w k (fun q => by have := hl _ q; omega)
  obtain ⟨a1, a2, a3, a4, a5, a6, a7, a8, a9, b1, b2, b3, b4, c1, c2, c3⟩ := h
  have r := (e 157 (by omega) (by omega) (by omega)).1
  refine ⟨?_, ?_, ?_, ?_, a5.fr (fun i _ _ => by rw [r]) (by rw [(e 161 (by omega) (by omega) (by omega)).1]) (by rw [(e 166 (by omega) (by omega) (by omega)).2]), ?_, ?_, ?_, ?_, ?_, ?_, ?_, ?_, ?_, h7, h8⟩
  · rw [(e 159 (by omega) (by omega) (by omega)).1]; exact a1
  · rw [(e 160 (by omega) (by omega) (by omega)).1]; exact a2
  · rw [(e 164 (by omega) (by omega) (by omega)).1]; exact a3
  · rw [(e 165 (by omega) (by omega) (by omega)).1]; exact a4
  · rw [r]; exact a6
  · rw [r]; exact a7
  · rw [r]; exact a8
  · rw [r]; exact a9
  · rw [r, (e 163 (by omega) (by omega) (by omega)).1]; exact b1
  · rw [(e 163 (by omega) (by omega) (by omega)).1]; exact b2
  · rw [r, (e 162 (by omega) (by omega) (by omega)).1]; exact b3
  · rw [(e 162 (by omega) (by omega) (by omega)).1]; exact b4
  · rw [r]; exact c1
theorem cnt_0 (s : Nat) (M : mm_M) (v : Int32) (h : v = 0) : f_X12_counts s v M = mm_wl M 168 s (M.2 168 s + 1) := by
  unfold f_X12_counts
  rw [if_pos h]
theorem cnt_1 (s : Nat) (M : mm_M) (v : Int32) (h : ¬ v = 0) : f_X12_counts s v M = mm_wl M 167 s (M.2 167 s + 1) := by
  unfold f_X12_counts
  rw [if_neg h]
theorem sd_0 (s p : Nat) (M M10 : mm_M) (h3 : M.1 164 s = nI 3) (hi : M.1 160 s = 0) (h10 : M10 = f_X12_seals 157 (352 * s + 320) (M.2 168 s) 119 0 0 119 0 p 120 0 M) : f_X12_send_B4 s p M = f_X12_tells 120 (p + 16) (f_X12_counts s (M10.1 160 s) M10) := by
  unfold f_X12_send_B4
  rw [if_pos (by rw [h3]; decide)]
  unfold f_X12_send_B3
  rw [if_pos hi]
  unfold f_X12_send_B1
  rw [if_pos hi]
  dsimp only
  rw [← h10]
theorem sd_1 (s p : Nat) (M M10 : mm_M) (h3 : M.1 164 s = nI 3) (hi : ¬ M.1 160 s = 0) (h10 : M10 = f_X12_seals 157 (352 * s + 288) (M.2 167 s) 119 0 0 119 0 p 120 0 M) : f_X12_send_B4 s p M = f_X12_tells 120 (p + 16) (f_X12_counts s (M10.1 160 s) M10) := by
  unfold f_X12_send_B4
  rw [if_pos (by rw [h3]; decide)]
  unfold f_X12_send_B3
  rw [if_neg hi]
  unfold f_X12_send_B2
  rw [if_neg hi]
  dsimp only
  rw [← h10]
theorem r_sd (kp p : Nat) (u : Int64) (hp : p ≤ 900) (key : Nat → Int32) (hk : ∀ j, j < 32 → M.1 157 (kp + j) = key j) (M10 : mm_M) (h10 : M10 = f_X12_seals 157 kp u 119 0 0 119 0 p 120 0 M) : (∀ i, i < p + 16 → M10.1 120 i = sO key u (M.1 119) p i) ∧ mm_fr [120, 147, 149, 148, 155, 151, 150, 152, 153, 156, 154] M M10 := by
  obtain ⟨g1, g2, -⟩ := r_seal 157 kp 119 0 0 119 0 p 120 0 u M (by omega) (by omega) (by omega) (by omega) (by omega) (by omega) (by omega) (by decide) (by omega)
  have w := w_f_X12_seals 157 kp u 119 0 0 119 0 p 120 0 M
  rw [← h10] at g1 g2 w
  simp only [Nat.zero_add] at g1 g2
  refine ⟨fun i hi => ?_, w⟩
  unfold sO
  by_cases c : i < p
  · rw [if_pos c, g1 i c]
    exact aeX_congr hk rfl
  · rw [if_neg c]
    have := g2 (i - p) (by omega)
    rw [show p + (i - p) = i from by omega] at this
    rw [this]
    exact aeT_congr hk (fun j hj => absurd hj (by omega)) (fun j hj => by rw [aeX_congr hk rfl]) _
theorem r_snd {p : Nat} (hp : p ≤ 900) (h : r_ses M s 3 ini rf S os oe xs xe ks kr ns nr) : (f_X12_send_B4 s p M).1 = nI (p + 16) ∧ (∀ i, i < p + 16 → (f_X12_send_B4 s p M).2.1 121 i = sO ks ns (M.1 119) p i) ∧ tl s M (f_X12_send_B4 s p M).2 (p + 16) ∧ r_ses (f_X12_send_B4 s p M).2 s 3 ini rf S os oe xs xe ks kr (ns + 1) nr := by
  have c1 := h.2.2.2.2.2.2.2.2.2.2.2.2.2.1 rfl
  have c2 := h.2.2.2.2.2.2.2.2.2.2.2.2.2.2.1
  have c3 := h.2.2.2.2.2.2.2.2.2.2.2.2.2.2.2
  by_cases hi : ini = 0
  · rw [if_pos hi] at c2 c3
    rw [if_pos hi, if_pos hi] at c1
    obtain ⟨M10, h10⟩ : ∃ M10, M10 = f_X12_seals 157 (352 * s + 320) (M.2 168 s) 119 0 0 119 0 p 120 0 M := ⟨_, rfl⟩
    rw [sd_0 s p M M10 h.2.2.1 (by rw [h.2.1]; exact hi) h10]
    obtain ⟨g1, g2⟩ := r_sd (352 * s + 320) p (M.2 168 s) hp ks c1.2 M10 h10
    rw [c3] at g1
    rw [cnt_0 s M10 _ (by rw [(g2 160 (by decide)).1, h.2.1]; exact hi)]
    have wv : mm_fr [168] M10 (mm_wl M10 168 s (M10.2 168 s + 1)) := mm_fr_wl (by simp) (mm_fr_refl _ _)
    have e8 : M10.2 168 s = ns := by rw [(g2 168 (by decide)).2]; exact c3
    refine r_tell ((rk_fr g2 (by simp)).trans (rk_wl M10 168 _)) (r_cnt (L := [120, 147, 149, 148, 155, 151, 150, 152, 153, 156, 154, 168]) h (wv.on (by simp) (g2.on (by simp) (mm_fr_refl _ _))) (by simp) ?_ ?_) g1
    · rw [if_pos hi, (wv 167 (by decide)).2, (g2 167 (by decide)).2]; exact c2
    · rw [if_pos hi, rd_wlS, e8]
  · rw [if_neg hi] at c2 c3
    rw [if_neg hi, if_neg hi] at c1
    obtain ⟨M10, h10⟩ : ∃ M10, M10 = f_X12_seals 157 (352 * s + 288) (M.2 167 s) 119 0 0 119 0 p 120 0 M := ⟨_, rfl⟩
    rw [sd_1 s p M M10 h.2.2.1 (by rw [h.2.1]; exact hi) h10]
    obtain ⟨g1, g2⟩ := r_sd (352 * s + 288) p (M.2 167 s) hp ks c1.1 M10 h10
    rw [c2] at g1
    rw [cnt_1 s M10 _ (by rw [(g2 160 (by decide)).1, h.2.1]; exact hi)]
    have wv : mm_fr [167] M10 (mm_wl M10 167 s (M10.2 167 s + 1)) := mm_fr_wl (by simp) (mm_fr_refl _ _)
    have e7 : M10.2 167 s = ns := by rw [(g2 167 (by decide)).2]; exact c2
    refine r_tell ((rk_fr g2 (by simp)).trans (rk_wl M10 167 _)) (r_cnt (L := [120, 147, 149, 148, 155, 151, 150, 152, 153, 156, 154, 167]) h (wv.on (by simp) (g2.on (by simp) (mm_fr_refl _ _))) (by simp) ?_ ?_) g1
    · rw [if_neg hi, rd_wlS, e7]
    · rw [if_neg hi, (wv 168 (by decide)).2, (g2 168 (by decide)).2]; exact c3
theorem rcv_0 (s n : Nat) (M : mm_M) (h3 : M.1 164 s = nI 3) (hi : M.1 160 s = 0) (Y : Int32 × mm_M) (hY : Y = f_X12_opens 157 (352 * s + 288) (M.2 167 s) 119 0 0 119 0 n 120 0 M) : f_X12_receive_B6 s n M = f_X12_receive_B2 s n Y.2 Y.1 := by
  unfold f_X12_receive_B6
  rw [if_pos (by rw [h3]; decide)]
  unfold f_X12_receive_B5
  rw [if_pos hi]
  unfold f_X12_receive_B3
  rw [if_pos hi]
  dsimp only
  rw [← hY]
theorem rcv_1 (s n : Nat) (M : mm_M) (h3 : M.1 164 s = nI 3) (hi : ¬ M.1 160 s = 0) (Y : Int32 × mm_M) (hY : Y = f_X12_opens 157 (352 * s + 320) (M.2 168 s) 119 0 0 119 0 n 120 0 M) : f_X12_receive_B6 s n M = f_X12_receive_B2 s n Y.2 Y.1 := by
  unfold f_X12_receive_B6
  rw [if_pos (by rw [h3]; decide)]
  unfold f_X12_receive_B5
  rw [if_neg hi]
  unfold f_X12_receive_B4
  rw [if_neg hi]
  dsimp only
  rw [← hY]
theorem rcb_0 (s n : Nat) (M : mm_M) (v : Int32) (hv : v = 0) : f_X12_receive_B2 s n M v = (-1, mm_w M 165 s (M.1 165 s + 1)) := by
  unfold f_X12_receive_B2
  rw [if_neg (fun q => q hv)]
theorem rcb_10 (s n : Nat) (M : mm_M) (v : Int32) (hv : ¬ v = 0) (hi : M.1 160 s = 0) : f_X12_receive_B2 s n M v = f_X12_tells 120 (n - 16) (mm_wl M 167 s (M.2 167 s + 1)) := by
  unfold f_X12_receive_B2 f_X12_receive_B1
  rw [if_pos hv, if_neg (fun q => q hi)]
  dsimp only
  rw [cnt_1 s M 1 (by decide)]
theorem rcb_11 (s n : Nat) (M : mm_M) (v : Int32) (hv : ¬ v = 0) (hi : ¬ M.1 160 s = 0) : f_X12_receive_B2 s n M v = f_X12_tells 120 (n - 16) (mm_wl M 168 s (M.2 168 s + 1)) := by
  unfold f_X12_receive_B2 f_X12_receive_B1
  rw [if_pos hv, if_pos hi]
  dsimp only
  rw [cnt_0 s M 0 rfl]
theorem r_op (kp n : Nat) (u : Int64) (hn : n ≤ 1000) (key : Nat → Int32) (hk : ∀ j, j < 32 → M.1 157 (kp + j) = key j) (Y : Int32 × mm_M) (hY : Y = f_X12_opens 157 kp u 119 0 0 119 0 n 120 0 M) : (rcOK key u (M.1 119) n → ¬ Y.1 = 0 ∧ ∀ i, i < n - 16 → Y.2.1 120 i = aeX key u (M.1 119) i) ∧ (¬ rcOK key u (M.1 119) n → Y.1 = 0) ∧ mm_fr [147, 149, 148, 155, 151, 150, 152, 153, 156, 154, 120] M Y.2 := by
  have w := (w_f_X12_opens 157 kp u 119 0 0 119 0 n 120 0 M).m
  rw [← hY] at w
  by_cases h16 : 16 ≤ n
  · obtain ⟨o1, o2⟩ := r_open 157 kp 119 0 0 119 0 n 120 0 u M (by omega) (by omega) (by omega) (by omega) (by omega) (by omega) (by decide) (by omega) h16
    rw [← hY] at o1 o2
    have okc : aeOK (fun i => M.1 157 (kp + i)) u (fun j => ub (M.1 119 (0 + j))) 0 (fun j => M.1 119 (0 + j)) n ↔ aeOK key u (fun _ => 0) 0 (M.1 119) n := aeOK_congr hk (fun j hj => absurd hj (by omega)) h16 (fun j _ => by rw [Nat.zero_add])
    refine ⟨fun q => ?_, fun q => (o2 (fun z => q ⟨h16, okc.mp z⟩)).1, w⟩
    obtain ⟨v1, v2⟩ := o1 (okc.mpr q.2)
    refine ⟨by rw [v1]; decide, fun i hi => ?_⟩
    rw [v2 i, if_pos (by omega), Nat.sub_zero]
    exact aeX_congr hk (by rw [Nat.zero_add])
  · rw [op_lo _ _ _ _ _ _ _ _ _ _ _ _ h16] at hY
    subst hY
    exact ⟨fun q => absurd q.1 h16, fun _ => rfl, w⟩
theorem r_inc (h : r_ses M s st ini rf S os oe xs xe ks kr ns nr) : r_ses (mm_w M 165 s (M.1 165 s + 1)) s st ini (rf + 1) S os oe xs xe ks kr ns nr := by
  have wv : mm_fr [165] M (mm_w M 165 s (M.1 165 s + 1)) := mm_fr_w (by simp) (mm_fr_refl _ _)
  obtain ⟨a1, a2, a3, a4, a5, a6, a7, a8, a9, b1, b2, b3, b4, c1, c2, c3⟩ := h
  have r := (wv 157 (by decide)).1
  refine ⟨?_, ?_, ?_, ?_, a5.fr (fun i _ _ => by rw [r]) (by rw [(wv 161 (by decide)).1]) (by rw [(wv 166 (by decide)).2]), ?_, ?_, ?_, ?_, ?_, ?_, ?_, ?_, ?_, c2, c3⟩
  · rw [(wv 159 (by decide)).1]; exact a1
  · rw [(wv 160 (by decide)).1]; exact a2
  · rw [(wv 164 (by decide)).1]; exact a3
  · rw [rd_wS, a4]
  · rw [r]; exact a6
  · rw [r]; exact a7
  · rw [r]; exact a8
  · rw [r]; exact a9
  · rw [r, (wv 163 (by decide)).1]; exact b1
  · rw [(wv 163 (by decide)).1]; exact b2
  · rw [r, (wv 162 (by decide)).1]; exact b3
  · rw [(wv 162 (by decide)).1]; exact b4
  · rw [r]; exact c1
theorem tf_rk {N : mm_M} (h : rk s M N) (h1 : N.1 121 = M.1 121) : tf s M N := ⟨h.2.2 4 (by decide), h.2.2 5 (by decide), h1, h.1, h.2.1⟩
theorem r_rcv {n : Nat} (hn : n ≤ 1000) (h : r_ses M s 3 ini rf S os oe xs xe ks kr ns nr) : (rcOK kr nr (M.1 119) n → (f_X12_receive_B6 s n M).1 = nI (n - 16) ∧ (∀ i, i < n - 16 → (f_X12_receive_B6 s n M).2.1 121 i = aeX kr nr (M.1 119) i) ∧ tl s M (f_X12_receive_B6 s n M).2 (n - 16) ∧ r_ses (f_X12_receive_B6 s n M).2 s 3 ini rf S os oe xs xe ks kr ns (nr + 1)) ∧ (¬ rcOK kr nr (M.1 119) n → (f_X12_receive_B6 s n M).1 = -1 ∧ tf s M (f_X12_receive_B6 s n M).2 ∧ r_ses (f_X12_receive_B6 s n M).2 s 3 ini (rf + 1) S os oe xs xe ks kr ns nr) := by
  have c1 := h.2.2.2.2.2.2.2.2.2.2.2.2.2.1 rfl
  have c2 := h.2.2.2.2.2.2.2.2.2.2.2.2.2.2.1
  have c3 := h.2.2.2.2.2.2.2.2.2.2.2.2.2.2.2
  have fail : ∀ Y : Int32 × mm_M, mm_fr [147, 149, 148, 155, 151, 150, 152, 153, 156, 154, 120] M Y.2 → Y.1 = 0 → (f_X12_receive_B2 s n Y.2 Y.1).1 = -1 ∧ tf s M (f_X12_receive_B2 s n Y.2 Y.1).2 ∧ r_ses (f_X12_receive_B2 s n Y.2 Y.1).2 s 3 ini (rf + 1) S os oe xs xe ks kr ns nr := fun Y w q => by
    rw [rcb_0 s n Y.2 Y.1 q]
    refine ⟨rfl, tf_rk ((rk_fr w (by simp)).trans (rk_w Y.2 165 _ (by omega) (by omega))) ?_, r_inc (h.fr w (by simp))⟩
    rw [(mm_fr_w (L := [165]) (by simp) (mm_fr_refl _ _) 121 (by decide)).1, (w 121 (by decide)).1]
  by_cases hi : ini = 0
  · rw [if_pos hi] at c2 c3
    rw [if_pos hi, if_pos hi] at c1
    obtain ⟨Y, hY⟩ : ∃ Y, Y = f_X12_opens 157 (352 * s + 288) (M.2 167 s) 119 0 0 119 0 n 120 0 M := ⟨_, rfl⟩
    rw [rcv_0 s n M h.2.2.1 (by rw [h.2.1]; exact hi) Y hY]
    obtain ⟨g1, g2, g3⟩ := r_op (352 * s + 288) n (M.2 167 s) hn kr c1.1 Y hY
    rw [c2] at g1 g2
    refine ⟨fun q => ?_, fun q => fail Y g3 (g2 q)⟩
    obtain ⟨v1, v2⟩ := g1 q
    rw [rcb_10 s n Y.2 Y.1 v1 (by rw [(g3 160 (by decide)).1, h.2.1]; exact hi)]
    have wv : mm_fr [167] Y.2 (mm_wl Y.2 167 s (Y.2.2 167 s + 1)) := mm_fr_wl (by simp) (mm_fr_refl _ _)
    have e7 : Y.2.2 167 s = nr := by rw [(g3 167 (by decide)).2]; exact c2
    refine r_tell ((rk_fr g3 (by simp)).trans (rk_wl Y.2 167 _)) (r_cnt (L := [147, 149, 148, 155, 151, 150, 152, 153, 156, 154, 120, 167]) h (wv.on (by simp) (g3.on (by simp) (mm_fr_refl _ _))) (by simp) ?_ ?_) v2
    · rw [if_pos hi, rd_wlS, e7]
    · rw [if_pos hi, (wv 168 (by decide)).2, (g3 168 (by decide)).2]; exact c3
  · rw [if_neg hi] at c2 c3
    rw [if_neg hi, if_neg hi] at c1
    obtain ⟨Y, hY⟩ : ∃ Y, Y = f_X12_opens 157 (352 * s + 320) (M.2 168 s) 119 0 0 119 0 n 120 0 M := ⟨_, rfl⟩
    rw [rcv_1 s n M h.2.2.1 (by rw [h.2.1]; exact hi) Y hY]
    obtain ⟨g1, g2, g3⟩ := r_op (352 * s + 320) n (M.2 168 s) hn kr c1.2 Y hY
    rw [c3] at g1 g2
    refine ⟨fun q => ?_, fun q => fail Y g3 (g2 q)⟩
    obtain ⟨v1, v2⟩ := g1 q
    rw [rcb_11 s n Y.2 Y.1 v1 (by rw [(g3 160 (by decide)).1, h.2.1]; exact hi)]
    have wv : mm_fr [168] Y.2 (mm_wl Y.2 168 s (Y.2.2 168 s + 1)) := mm_fr_wl (by simp) (mm_fr_refl _ _)
    have e8 : Y.2.2 168 s = nr := by rw [(g3 168 (by decide)).2]; exact c3
    refine r_tell ((rk_fr g3 (by simp)).trans (rk_wl Y.2 168 _)) (r_cnt (L := [147, 149, 148, 155, 151, 150, 152, 153, 156, 154, 120, 168]) h (wv.on (by simp) (g3.on (by simp) (mm_fr_refl _ _))) (by simp) ?_ ?_) v2
    · rw [if_neg hi, (wv 167 (by decide)).2, (g3 167 (by decide)).2]; exact c2
    · rw [if_neg hi, rd_wlS, e8]
/-- a new key at place kp of the session's row -/
theorem r_key (kp : Nat) (h1 : 288 ≤ kp) (h2 : kp + 32 ≤ 352) (key : Nat → Int32) (hk : ∀ j, j < 32 → M.1 157 (352 * s + kp + j) = key j) (P : mm_M) (hP : P = f_X12_copy 149 0 157 (352 * s + kp) 32 (f_X12_streamed 157 (352 * s + kp) 1 (-1) M)) : (∀ j, j < 32 → P.1 157 (352 * s + kp + j) = rkK key j) ∧ (∀ i, (i < 352 * s + kp ∨ 352 * s + kp + 32 ≤ i) → P.1 157 i = M.1 157 i) ∧ mm_fr [147, 149, 148, 157] M P ∧ rk s M P := by
  have g := r_cc 157 (352 * s + kp) (by decide) 1 (-1) M
  have w := w_f_X12_streamed 157 (352 * s + kp) 1 (-1) M
  generalize f_X12_streamed 157 (352 * s + kp) 1 (-1) M = Q at *
  rw [copy_cp _ _ _ _ _ (by decide)] at hP
  have wc : mm_fr [157] Q (mm_cp Q 149 0 157 (352 * s + kp) 32) := mm_fr_cp (by simp) (mm_fr_refl _ _)
  have kc : rk s Q (mm_cp Q 149 0 157 (352 * s + kp) 32) := rk_w157 _ _ _ _ _ (by omega) (by omega)
  subst hP
  refine ⟨fun j hj => ?_, fun i hi => ?_, wc.on (by simp) (w.on (by simp) (mm_fr_refl _ _)), (rk_fr w (by simp)).trans kc⟩
  · rw [rd_cpS _ _ _ _ _ _ hj, Nat.zero_add, g j (by omega)]
    exact ccS_congr hk _ _ j (by omega)
  · rw [rd_cpN _ _ _ _ _ _ (Or.inr (by omega)), (w 157 (by decide)).1]
theorem rkb_1 (s : Nat) (v : Int32) (M : mm_M) (h3 : M.1 164 s = nI 3) (hv : ¬ M.1 160 s = v) : f_X12_rekey_B2 v M s = (1, f_X12_copy 149 0 157 (352 * s + 320) 32 (f_X12_streamed 157 (352 * s + 320) 1 (-1) M)) := by
  unfold f_X12_rekey_B2
  rw [if_pos (by rw [h3]; decide)]
  unfold f_X12_rekey_B1
  rw [if_pos hv]
theorem rkb_0 (s : Nat) (v : Int32) (M : mm_M) (h3 : M.1 164 s = nI 3) (hv : M.1 160 s = v) : f_X12_rekey_B2 v M s = (1, f_X12_copy 149 0 157 (352 * s + 288) 32 (f_X12_streamed 157 (352 * s + 288) 1 (-1) M)) := by
  unfold f_X12_rekey_B2
  rw [if_pos (by rw [h3]; decide)]
  unfold f_X12_rekey_B1
  rw [if_neg (fun q => q hv)]
theorem r_nk {P : mm_M} {ks' kr' : Nat → Int32} (h : r_ses M s 3 ini rf S os oe xs xe ks kr ns nr) (w : mm_fr [147, 149, 148, 157] M P) (r : ∀ i, i < 352 * s + 288 → P.1 157 i = M.1 157 i) (h1 : ∀ j, j < 32 → P.1 157 (352 * s + 288 + j) = (if ini = 0 then kr' else ks') j) (h2 : ∀ j, j < 32 → P.1 157 (352 * s + 320 + j) = (if ini = 0 then ks' else kr') j) : r_ses P s 3 ini rf S os oe xs xe ks' kr' ns nr := by
  obtain ⟨a1, a2, a3, a4, a5, a6, a7, a8, a9, b1, b2, b3, b4, c1, c2, c3⟩ := h
  refine ⟨?_, ?_, ?_, ?_, a5.fr (fun i _ _ => r i (by omega)) (by rw [(w 161 (by decide)).1]) (by rw [(w 166 (by decide)).2]), ?_, ?_, ?_, ?_, ?_, ?_, ?_, ?_, fun _ => ⟨h1, h2⟩, ?_, ?_⟩
  · rw [(w 159 (by decide)).1]; exact a1
  · rw [(w 160 (by decide)).1]; exact a2
  · rw [(w 164 (by decide)).1]; exact a3
  · rw [(w 165 (by decide)).1]; exact a4
  · intro j hj; rw [r _ (by omega)]; exact a6 j hj
  · intro j hj; rw [r _ (by omega)]; exact a7 j hj
  · intro j hj; rw [r _ (by omega)]; exact a8 j hj
  · intro j hj; rw [r _ (by omega)]; exact a9 j hj
  · intro q; rw [(w 163 (by decide)).1]; exact ⟨(b1 q).1, fun j hj => by rw [r _ (by omega)]; exact (b1 q).2 j hj⟩
  · intro q; rw [(w 163 (by decide)).1]; exact b2 q
  · intro q; rw [(w 162 (by decide)).1]; exact ⟨(b3 q).1, fun j hj => by rw [r _ (by omega)]; exact (b3 q).2 j hj⟩
  · intro q; rw [(w 162 (by decide)).1]; exact b4 q
  · rw [(w 167 (by decide)).2]; exact c2
  · rw [(w 168 (by decide)).2]; exact c3
theorem r_rkS {v : Int32} (hv : v = 1) (hin : ini = 0 ∨ ini = 1) (h : r_ses M s 3 ini rf S os oe xs xe ks kr ns nr) : (f_X12_rekey_B2 v M s).1 = 1 ∧ tf s M (f_X12_rekey_B2 v M s).2 ∧ r_ses (f_X12_rekey_B2 v M s).2 s 3 ini rf S os oe xs xe (rkK ks) kr ns nr := by
  have c1 := h.2.2.2.2.2.2.2.2.2.2.2.2.2.1 rfl
  rcases hin with hi | hi
  · rw [if_pos hi, if_pos hi] at c1
    rw [rkb_1 s v M h.2.2.1 (by rw [h.2.1, hi, hv]; decide)]
    obtain ⟨P, hP⟩ : ∃ P, P = f_X12_copy 149 0 157 (352 * s + 320) 32 (f_X12_streamed 157 (352 * s + 320) 1 (-1) M) := ⟨_, rfl⟩
    rw [← hP]
    obtain ⟨g1, g2, g3, g4⟩ := r_key 320 (by decide) (by decide) ks c1.2 P hP
    refine ⟨rfl, tf_rk g4 (g3 121 (by decide)).1, r_nk h g3 (fun i q => g2 i (by omega)) ?_ ?_⟩
    · rw [if_pos hi]; intro j hj; rw [g2 _ (by omega)]; exact c1.1 j hj
    · rw [if_pos hi]; exact g1
  · have hi0 : ¬ ini = 0 := by rw [hi]; decide
    rw [if_neg hi0, if_neg hi0] at c1
    rw [rkb_0 s v M h.2.2.1 (by rw [h.2.1, hi, hv])]
    obtain ⟨P, hP⟩ : ∃ P, P = f_X12_copy 149 0 157 (352 * s + 288) 32 (f_X12_streamed 157 (352 * s + 288) 1 (-1) M) := ⟨_, rfl⟩
    rw [← hP]
    obtain ⟨g1, g2, g3, g4⟩ := r_key 288 (by decide) (by decide) ks c1.1 P hP
    refine ⟨rfl, tf_rk g4 (g3 121 (by decide)).1, r_nk h g3 (fun i q => g2 i (by omega)) ?_ ?_⟩
    · rw [if_neg hi0]; exact g1
    · rw [if_neg hi0]; intro j hj; rw [g2 _ (by omega)]; exact c1.2 j hj
theorem r_rkR {v : Int32} (hv : v = 0) (hin : ini = 0 ∨ ini = 1) (h : r_ses M s 3 ini rf S os oe xs xe ks kr ns nr) : (f_X12_rekey_B2 v M s).1 = 1 ∧ tf s M (f_X12_rekey_B2 v M s).2 ∧ r_ses (f_X12_rekey_B2 v M s).2 s 3 ini rf S os oe xs xe ks (rkK kr) ns nr := by
  have c1 := h.2.2.2.2.2.2.2.2.2.2.2.2.2.1 rfl
  rcases hin with hi | hi
  · rw [if_pos hi, if_pos hi] at c1
    rw [rkb_0 s v M h.2.2.1 (by rw [h.2.1, hi, hv])]
    obtain ⟨P, hP⟩ : ∃ P, P = f_X12_copy 149 0 157 (352 * s + 288) 32 (f_X12_streamed 157 (352 * s + 288) 1 (-1) M) := ⟨_, rfl⟩
    rw [← hP]
    obtain ⟨g1, g2, g3, g4⟩ := r_key 288 (by decide) (by decide) kr c1.1 P hP
    refine ⟨rfl, tf_rk g4 (g3 121 (by decide)).1, r_nk h g3 (fun i q => g2 i (by omega)) ?_ ?_⟩
    · rw [if_pos hi]; exact g1
    · rw [if_pos hi]; intro j hj; rw [g2 _ (by omega)]; exact c1.2 j hj
  · have hi0 : ¬ ini = 0 := by rw [hi]; decide
    rw [if_neg hi0, if_neg hi0] at c1
    rw [rkb_1 s v M h.2.2.1 (by rw [h.2.1, hi, hv]; decide)]
    obtain ⟨P, hP⟩ : ∃ P, P = f_X12_copy 149 0 157 (352 * s + 320) 32 (f_X12_streamed 157 (352 * s + 320) 1 (-1) M) := ⟨_, rfl⟩
    rw [← hP]
    obtain ⟨g1, g2, g3, g4⟩ := r_key 320 (by decide) (by decide) kr c1.2 P hP
    refine ⟨rfl, tf_rk g4 (g3 121 (by decide)).1, r_nk h g3 (fun i q => g2 i (by omega)) ?_ ?_⟩
    · rw [if_neg hi0]; intro j hj; rw [g2 _ (by omega)]; exact c1.1 j hj
    · rw [if_neg hi0]; exact g1
end RT
