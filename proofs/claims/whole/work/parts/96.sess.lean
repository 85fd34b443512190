/-! both sides: the sessions -/
def wr (st : Nat) (ini : Int32) : Prop := (st = 0 ∧ ini = 1) ∨ (st = 1 ∧ ini = 0) ∨ (st = 2 ∧ ini = 1)
theorem wn_e {M : mm_M} {x st : Nat} {ini : Int32} (h9 : M.1 x 9 = ini) (h10 : M.1 x 10 = nI st) (hst : st ≤ 3) (hi : ini = 0 ∨ ini = 1) : (¬ f_X7_writesNext x M = 0 ↔ wr st ini) ∧ (¬ f_X7_readsNext x M = 0 ↔ st < 3 ∧ ¬ wr st ini) := by
  unfold f_X7_writesNext f_X7_readsNext wr
  rw [h9, h10]
  rcases (show st = 0 ∨ st = 1 ∨ st = 2 ∨ st = 3 by omega) with rfl | rfl | rfl | rfl <;> rcases hi with rfl | rfl <;> decide
theorem wn_r {M : mm_M} {q st : Nat} {ini : Int32} (h9 : M.1 160 q = ini) (h10 : M.1 164 q = nI st) (hst : st ≤ 3) (hi : ini = 0 ∨ ini = 1) : (¬ f_X12_isToWrite q M = 0 ↔ wr st ini) := by
  unfold f_X12_isToWrite wr
  rw [h9, h10]
  rcases (show st = 0 ∨ st = 1 ∨ st = 2 ∨ st = 3 by omega) with rfl | rfl | rfl | rfl <;> rcases hi with rfl | rfl <;> decide
theorem ov_e {M : mm_M} {x st : Nat} (h10 : M.1 x 10 = nI st) (hst : st ≤ 3) : ¬ f_X7_isOver x M = 0 ↔ st = 3 := by
  unfold f_X7_isOver
  rw [h10]
  rcases (show st = 0 ∨ st = 1 ∨ st = 2 ∨ st = 3 by omega) with rfl | rfl | rfl | rfl <;> decide
theorem ov_r {v : Int32} {st : Nat} (h : v = nI st) (hst : st ≤ 3) : (3 : Int32) ≤ v ↔ st = 3 := by
  rw [h]
  rcases (show st = 0 ∨ st = 1 ∨ st = 2 ∨ st = 3 by omega) with rfl | rfl | rfl | rfl <;> decide
def sesP (N R : mm_M) (q : Nat) : Prop := ∃ (st : Nat) (ini rf : Int32) (S : sy) (os oe xs xe ks kr : Nat → Int32) (ns nr : Int64), st ≤ 3 ∧ (ini = 0 ∨ ini = 1) ∧ (st < 3 → ns = 0 ∧ nr = 0) ∧ (st = 2 → ¬ S.2.2.2.1 = 0) ∧ e_ses N (49 + 17 * q) st ini rf S os oe xs xe ks kr ns nr ∧ r_ses R q st ini rf S os oe xs xe ks kr ns nr
section PS
variable {M : mm_M} {ts rs q : Nat}
theorem se_fin {M1 M2 : mm_M} {ts' rs' : Nat} (h : pubR M ts rs) (hq : q < 4) {L1 L2 : List Nat} (w1 : mm_fr L1 M M1) (l1 : ∀ a ∈ L1, a ≠ 1 ∧ (a < 4 ∨ 12 ≤ a) ∧ (a < 49 ∨ (49 + 17 * q ≤ a ∧ a ≤ 49 + 17 * q + 16))) (w2 : mm_fr L2 M1 M2) (l2 : ∀ a ∈ L2, 117 ≤ a ∧ a < 173 ∧ a ≠ 118 ∧ a ≠ 122 ∧ a ≠ 123 ∧ a ≠ 124) (o1 : ∀ i, (i < 352 * q ∨ 352 * q + 352 ≤ i) → M2.1 157 i = M1.1 157 i) (o2 : ∀ k i, i ≠ q → 159 ≤ k → k ≤ 168 → M2.1 k i = M1.1 k i ∧ M2.2 k i = M1.2 k i) (ht : ts' ≤ ts) (hr : rs' ≤ 1000) (h1 : M1.1 0 1 = nI ts') (h2 : M2.1 117 4 = nI ts') (h3 : M1.1 0 3 = nI rs') (h4 : M2.1 117 5 = nI rs') (h6 : ∀ j, j < rs' → M2.1 121 j = M1.1 2 j) (hz : z46 M2) (hs : sesP M1 M2 q) : pubR M2 ts' rs' := by
  obtain ⟨⟨ht0, hr0⟩, ⟨e1, e2, e3, e4⟩, hta, hre, hke, hta2, ⟨hT, hz0⟩, hss⟩ := id h
  have lo : ∀ k, k < 117 → M2.1 k = M1.1 k ∧ M2.2 k = M1.2 k := fun k z => w2 k (fun y => by have := l2 _ y; omega)
  refine ⟨⟨by omega, hr⟩, ⟨by rw [(lo 0 (by omega)).1]; exact h1, h2, by rw [(lo 0 (by omega)).1]; exact h3, h4⟩, fun j hj => ?_, fun j hj => by rw [(lo 2 (by omega)).1]; exact h6 j hj, fun k hk j hj => ?_, pub_tab h w1 (fun a z => by have := l1 a z; omega) w2 (fun a z => by have := l2 a z; omega), ⟨(hT.fr w1 (fun z => by have := l1 _ z; omega) (fun z => by have := l1 _ z; omega)).fr w2 (fun z => by have := l2 _ z; omega) (fun z => by have := l2 _ z; omega), hz⟩, fun s hs4 => ?_⟩
  · rw [(lo 1 (by omega)).1, (w2 118 (fun z => by have := l2 _ z; omega)).1, (w1 118 (fun z => by have := l1 _ z; omega)).1, (w1 1 (fun z => by have := l1 _ z; omega)).1]; exact hta j (by omega)
  · rw [(lo (4 + k) (by omega)).1, (w2 122 (fun z => by have := l2 _ z; omega)).1, (w1 122 (fun z => by have := l1 _ z; omega)).1, (w1 (4 + k) (fun z => by have := l1 _ z; omega)).1]; exact hke k hk j hj
  · by_cases c : s = q
    · subst c
      obtain ⟨st, ini, rf, S, os, oe, xs, xe, ks, kr, ns, nr, p1, p2, p3, p4, p5, p6⟩ := hs
      exact Or.inr ⟨st, ini, rf, S, os, oe, xs, xe, ks, kr, ns, nr, p1, p2, p3, p4, p5.keep (fun k z1 z2 => lo k (by omega)), p6⟩
    · refine (hss s hs4).keep (fun k z1 z2 => ?_) (fun i z1 z2 => ?_) (fun k z1 z2 => ?_)
      · rw [(lo k (by omega)).1, (lo k (by omega)).2]; exact w1 k (fun z => by have := l1 _ z; omega)
      · rw [o1 i (by omega), (w1 157 (fun z => by have := l1 _ z; omega)).1]
      · rw [(o2 k s c z1 z2).1, (o2 k s c z1 z2).2, (w1 k (fun z => by have := l1 _ z; omega)).1, (w1 k (fun z => by have := l1 _ z; omega)).2]; exact ⟨rfl, rfl⟩
/-- both sides have put n bytes down -/
theorem se_row {Me N : mm_M} {n : Nat} {o : Nat → Int32} (h : pubR M ts rs) (hq : q < 4) (he : Me = f_X11_emptyTape M) {L1 L2 : List Nat} (w1 : mm_fr L1 Me N) (l1 : ∀ a ∈ L1, a ≠ 0 ∧ a ≠ 1 ∧ (a < 4 ∨ 12 ≤ a) ∧ (a < 49 ∨ (49 + 17 * q ≤ a ∧ a ≤ 49 + 17 * q + 16))) (hn : n ≤ 1000) (hN : ∀ i, i < n → N.1 2 i = o i) (R : Int32 × mm_M) (hR1 : R.1 = nI n) (hRo : ∀ i, i < n → R.2.1 121 i = o i) (htl : tl q (f_X12_takes ts (mm_w N 0 3 (nI n))) R.2 n) (w2 : mm_fr L2 (f_X12_takes ts (mm_w N 0 3 (nI n))) R.2) (l2 : ∀ a ∈ L2, 117 ≤ a ∧ a < 173 ∧ a ≠ 118 ∧ a ≠ 122 ∧ a ≠ 123 ∧ a ≠ 124 ∧ a ≠ 146) (hs : sesP N R.2 q) : simR (nI n, mm_w N 0 3 (nI n)) R := by
  have we : mm_fr [0] M Me := by rw [he]; exact w_f_X11_emptyTape M
  have ee : Me.1 0 1 = nI 0 := by rw [he]; exact rd_wS _ _ _ _
  have wv : mm_fr [0] N (mm_w N 0 3 (nI n)) := mm_fr_w (by simp) (mm_fr_refl _ _)
  have r0 : (mm_w N 0 3 (nI n)).1 0 1 = nI 0 := by rw [rd_wN _ _ _ _ (Or.inr (by decide)), (w1 0 (fun z => (l1 _ z).1 rfl)).1]; exact ee
  have r3 : (mm_w N 0 3 (nI n)).1 0 3 = nI n := rd_wS _ _ _ _
  have f1 : mm_fr (0 :: L1) M (mm_w N 0 3 (nI n)) := wv.on (by simp) (w1.on (fun a z => by simp [z]) (we.on (by simp) (mm_fr_refl _ _)))
  have e2 : ∀ i, i < n → (mm_w N 0 3 (nI n)).1 2 i = o i := fun i hi => by rw [(wv 2 (by decide)).1]; exact hN i hi
  have ek : ∀ k, 1 ≤ k → (mm_w N 0 3 (nI n)).1 k = N.1 k ∧ (mm_w N 0 3 (nI n)).2 k = N.2 k := fun k z => wv k (by simp <;> omega)
  generalize mm_w N 0 3 (nI n) = M1 at *
  obtain ⟨t1, t2, t3⟩ := rd_takes ts M1
  have wt := w_f_X12_takes ts M1
  generalize f_X12_takes ts M1 = T at *
  obtain ⟨k1, k2, k3, k4⟩ := htl
  refine ⟨hR1.symm, 0, n, se_fin h hq f1 (fun a z => ?_) (w2.on (L := 119 :: 117 :: L2) (fun a z => by simp [z]) (wt.on (by simp) (mm_fr_refl _ _))) (fun a z => ?_) (fun i z => by rw [k3 i z, (wt 157 (by decide)).1]) (fun k i z1 z2 z3 => by rw [(k4 k i z1 z2 z3).1, (k4 k i z1 z2 z3).2, (wt k (by simp <;> omega)).1, (wt k (by simp <;> omega)).2]; exact ⟨rfl, rfl⟩) (Nat.zero_le _) hn r0 (by rw [k1]; exact t2) r3 k2 (fun j hj => by rw [hRo j hj]; exact (e2 j hj).symm) (((h.2.2.2.2.2.2.1.2.fr f1 (fun z => ?_)).fr wt (by decide)).fr w2 (fun z => by have := l2 _ z; omega)) ?_⟩
  · rcases List.mem_cons.mp z with rfl | z
    · omega
    · have := l1 a z; omega
  · rcases List.mem_cons.mp z with rfl | z
    · omega
    · rcases List.mem_cons.mp z with rfl | z
      · omega
      · have := l2 a z; omega
  · rcases List.mem_cons.mp z with z | z
    · omega
    · have := l1 _ z; omega
  · obtain ⟨st, ini, rf, S, os, oe, xs, xe, ks, kr, ns, nr, p1, p2, p3, p4, p5, p6⟩ := hs
    exact ⟨st, ini, rf, S, os, oe, xs, xe, ks, kr, ns, nr, p1, p2, p3, p4, p5.keep (fun k z1 z2 => ek k (by omega)), p6⟩
/-- both sides have refused -/
theorem se_none {Me N : mm_M} (h : pubR M ts rs) (hq : q < 4) (he : Me = f_X11_emptyTape M) {L1 L2 : List Nat} (w1 : mm_fr L1 Me N) (l1 : ∀ a ∈ L1, a ≠ 0 ∧ a ≠ 1 ∧ (a < 4 ∨ 12 ≤ a) ∧ (a < 49 ∨ (49 + 17 * q ≤ a ∧ a ≤ 49 + 17 * q + 16))) (hN : N.1 2 = M.1 2) (R : Int32 × mm_M) (hR1 : R.1 = -1) (htl : tf q (f_X12_takes ts N) R.2) (w2 : mm_fr L2 (f_X12_takes ts N) R.2) (l2 : ∀ a ∈ L2, 117 ≤ a ∧ a < 173 ∧ a ≠ 118 ∧ a ≠ 122 ∧ a ≠ 123 ∧ a ≠ 124 ∧ a ≠ 146) (hs : sesP N R.2 q) : simR (-1, N) R := by
  have we : mm_fr [0] M Me := by rw [he]; exact w_f_X11_emptyTape M
  have ee : Me.1 0 1 = nI 0 := by rw [he]; exact rd_wS _ _ _ _
  have e03 : Me.1 0 3 = M.1 0 3 := by rw [he]; exact rd_wN _ _ _ _ (Or.inr (by decide))
  have f1 : mm_fr (0 :: L1) M N := w1.on (fun a z => by simp [z]) (we.on (by simp) (mm_fr_refl _ _))
  have n0 : N.1 0 = Me.1 0 := (w1 0 (fun z => (l1 _ z).1 rfl)).1
  have l1' : ∀ a ∈ 0 :: L1, a ≠ 1 ∧ (a < 4 ∨ 12 ≤ a) ∧ (a < 49 ∨ (49 + 17 * q ≤ a ∧ a ≤ 49 + 17 * q + 16)) := fun a z => by
    rcases List.mem_cons.mp z with rfl | z
    · omega
    · have := l1 a z; omega
  obtain ⟨t1, t2, t3⟩ := rd_takes ts N
  have wt := w_f_X12_takes ts N
  generalize f_X12_takes ts N = T at *
  obtain ⟨k1, k2, k0, k3, k4⟩ := htl
  obtain ⟨⟨ht0, hr0⟩, ⟨e1, e2, e3, e4⟩, hta, hre, hke, hta2, ⟨hT, hz0⟩, hss⟩ := id h
  refine ⟨hR1.symm, 0, rs, se_fin h hq f1 l1' (w2.on (L := 119 :: 117 :: L2) (fun a z => by simp [z]) (wt.on (by simp) (mm_fr_refl _ _))) (fun a z => ?_) (fun i z => by rw [k3 i z, (wt 157 (by decide)).1]) (fun k i z1 z2 z3 => by rw [(k4 k i z1 z2 z3).1, (k4 k i z1 z2 z3).2, (wt k (by simp <;> omega)).1, (wt k (by simp <;> omega)).2]; exact ⟨rfl, rfl⟩) (Nat.zero_le _) hr0 (by rw [n0]; exact ee) (by rw [k1]; exact t2) (by rw [n0, e03]; exact e3) ?_ (fun j hj => ?_) (((hz0.fr f1 (fun z => by have := l1' _ z; omega)).fr wt (by decide)).fr w2 (fun z => by have := l2 _ z; omega)) hs⟩
  · rcases List.mem_cons.mp z with rfl | z
    · omega
    · rcases List.mem_cons.mp z with rfl | z
      · omega
      · have := l2 a z; omega
  · rw [k2, t3, (f1 117 (fun z => by have := l1' _ z; omega)).1]; exact e4
  · rw [k0, (wt 121 (by decide)).1, (f1 121 (fun z => by have := l1' _ z; omega)).1, hN]; exact hre j hj
theorem isS_fr {N : mm_M} (h : N.1 159 = M.1 159) (v : Int32) : f_X12_isSession v N = f_X12_isSession v M := by
  unfold f_X12_isSession
  rw [h]
/-- the reference's session seen behind the taking of the tape -/
theorem r_ups {st : Nat} {ini rf : Int32} {S : sy} {os oe xs xe ks kr : Nat → Int32} {ns nr : Int64} {N : mm_M} (h6 : r_ses M q st ini rf S os oe xs xe ks kr ns nr) {L1 : List Nat} (w1 : mm_fr L1 M N) (l1 : ∀ a ∈ L1, a < 117) : r_ses (f_X12_takes ts N) q st ini rf S os oe xs xe ks kr ns nr :=
  (h6.fr w1 (fun a z => Or.inl (by have := l1 a z; omega))).fr (w_f_X12_takes ts N) (by simp)
theorem r_upT {N : mm_M} (h : pubR M ts rs) {L1 : List Nat} (w1 : mm_fr L1 M N) (l1 : ∀ a ∈ L1, a < 117) : rT (f_X12_takes ts N) ∧ ∀ j, j < ts → (f_X12_takes ts N).1 119 j = N.1 118 j ∧ N.1 118 j = M.1 1 j := by
  obtain ⟨t1, t2, t3⟩ := rd_takes ts N
  refine ⟨(h.2.2.2.2.2.2.1.1.fr w1 (fun z => by have := l1 _ z; omega) (fun z => by have := l1 _ z; omega)).fr (w_f_X12_takes ts N) (by decide) (by decide), fun j hj => ⟨t1 j hj, ?_⟩⟩
  rw [(w1 118 (fun z => by have := l1 _ z; omega)).1]; exact h.2.2.1 j hj
theorem r_ses.cx {st : Nat} {ini rf : Int32} {S : sy} {os oe xs xe xs' xe' ks kr : Nat → Int32} {ns nr : Int64} (h : r_ses M q st ini rf S os oe xs xe ks kr ns nr) (hs : ∀ j, j < 32 → xs j = xs' j) (he : ∀ j, j < 32 → xe j = xe' j) : r_ses M q st ini rf S os oe xs' xe' ks kr ns nr := by
  obtain ⟨a1, a2, a3, a4, a5, a6, a7, a8, a9, b1, b2, b3, b4, c1, c2, c3⟩ := h
  exact ⟨a1, a2, a3, a4, a5, a6, a7, a8, a9, fun z => ⟨(b1 z).1, fun j hj => by rw [← hs j hj]; exact (b1 z).2 j hj⟩, b2, fun z => ⟨(b3 z).1, fun j hj => by rw [← he j hj]; exact (b3 z).2 j hj⟩, b4, c1, c2, c3⟩
theorem r_ses.co {st : Nat} {ini rf : Int32} {S : sy} {os oe os' oe' xs xe ks kr : Nat → Int32} {ns nr : Int64} (h : r_ses M q st ini rf S os oe xs xe ks kr ns nr) (hs : ∀ j, j < 32 → os j = os' j) (he : ∀ j, j < 32 → oe j = oe' j) : r_ses M q st ini rf S os' oe' xs xe ks kr ns nr := by
  obtain ⟨a1, a2, a3, a4, a5, a6, a7, a8, a9, b1, b2, b3, b4, c1, c2, c3⟩ := h
  exact ⟨a1, a2, a3, a4, a5, fun j hj => by rw [← hs j hj]; exact a6 j hj, fun j hj => by rw [← he j hj]; exact a7 j hj, fun j hj => by rw [← cvB_congr hs (fun _ _ => rfl)]; exact a8 j hj, fun j hj => by rw [← cvB_congr he (fun _ _ => rfl)]; exact a9 j hj, b1, b2, b3, b4, c1, c2, c3⟩
/-! what is read depends on what was sent alone -/
theorem wO0_c {S : sy} {oe a b : Nat → Int32} {p : Nat} (h : ∀ j, j < p → a j = b j) : ∀ i, i < wN0 S oe p → wO0 S oe a p i = wO0 S oe b p i := fun i hi => by
  unfold wO0 wN0 at *
  by_cases c : i < 32
  · rw [cat_lo _ _ _ c, cat_lo _ _ _ c]
  · rw [cat_hi _ _ _ c, cat_hi _ _ _ c]; exact syO_congr h _ (by omega)
theorem wO2_c {S : sy} {os xe a b : Nat → Int32} {p : Nat} (h : ∀ j, j < p → a j = b j) : ∀ i, i < 48 + (p + 16) → wO2 S os xe a p i = wO2 S os xe b p i := fun i hi => by
  unfold wO2
  by_cases c : i < 48
  · rw [cat_lo _ _ _ c, cat_lo _ _ _ c]
  · rw [cat_hi _ _ _ c, cat_hi _ _ _ c]; exact syO_congr h _ (by rw [syN_1 (by show ¬ (1 : Int32) = 0; decide)]; omega)
theorem wO1_c {S : sy} {os oe xe a b : Nat → Int32} {p : Nat} (h : ∀ j, j < p → a j = b j) : ∀ i, i < 32 + (48 + (p + 16)) → wO1 S os oe xe a p i = wO1 S os oe xe b p i := fun i hi => by
  unfold wO1
  by_cases c : i < 32
  · rw [cat_lo _ _ _ c, cat_lo _ _ _ c]
  · rw [cat_hi _ _ _ c, cat_hi _ _ _ c]; exact wO2_c h _ (by omega)
theorem wT0_c {S : sy} {oe a b : Nat → Int32} {p : Nat} (h : ∀ j, j < p → a j = b j) : wT0 S oe a p = wT0 S oe b p := syE_congr h
theorem wT2_c {S : sy} {os xe a b : Nat → Int32} {p : Nat} (h : ∀ j, j < p → a j = b j) : wT2 S os xe a p = wT2 S os xe b p := syE_congr h
theorem wT1_c {S : sy} {os oe xe a b : Nat → Int32} {p : Nat} (h : ∀ j, j < p → a j = b j) : wT1 S os oe xe a p = wT1 S os oe xe b p := wT2_c h
theorem wS1_c {S : sy} {a b : Nat → Int32} (h : ∀ j, j < 32 → a j = b j) : wS1 S a = wS1 S b := syH_congr (fun j hj => by rw [h j hj])
theorem rA_c {S : sy} {oe a b : Nat → Int32} (h : ∀ j, j < 32 → a j = b j) : rA S oe a = rA S oe b := by
  unfold rA
  rw [wS1_c h, cvB_congr (fun _ _ => rfl) h]
theorem rB_c {A : sy} {oe a b : Nat → Int32} {k : Nat} (h : ∀ j, j < k + 48 → a j = b j) : rB A oe (sh k a) = rB A oe (sh k b) := by
  have h1 : ∀ j, j < 48 → sh k a j = sh k b j := fun j hj => h _ (by omega)
  unfold rB
  rw [syD_congr h1, cvB_congr (fun _ _ => rfl) (fun j hj => syP_congr h1 j (by omega))]
theorem rOK0_c {S : sy} {a b : Nat → Int32} {n : Nat} (h : ∀ j, j < n → a j = b j) : rOK0 S a n ↔ rOK0 S b n := by
  unfold rOK0
  by_cases c : 32 ≤ n
  · rw [wS1_c (S := S) (fun j hj => h j (by omega)), syG_congr (a := sh 32 a) (b := sh 32 b) (fun j hj => h _ (by omega))]
  · exact ⟨fun z => absurd z.1 c, fun z => absurd z.1 c⟩
theorem rOK1_c {S : sy} {oe a b : Nat → Int32} {n : Nat} (h : ∀ j, j < n → a j = b j) : rOK1 S oe a n ↔ rOK1 S oe b n := by
  unfold rOK1
  by_cases c : 96 ≤ n
  · rw [rA_c (S := S) (fun j hj => h j (by omega)), rB_c (k := 32) (fun j hj => h j (by omega)), syG_congr (a := sh 32 a) (b := sh 32 b) (fun j hj => h _ (by omega)), syG_congr (a := sh 80 a) (b := sh 80 b) (fun j hj => h _ (by omega))]
  · exact ⟨fun z => absurd z.1 c, fun z => absurd z.1 c⟩
theorem rOK2_c {S : sy} {oe a b : Nat → Int32} {n : Nat} (h : ∀ j, j < n → a j = b j) : rOK2 S oe a n ↔ rOK2 S oe b n := by
  unfold rOK2
  by_cases c : 64 ≤ n
  · rw [rB_c (k := 0) (fun j hj => h j (by omega)), syG_congr (a := sh 0 a) (b := sh 0 b) (fun j hj => h _ (by omega)), syG_congr (a := sh 48 a) (b := sh 48 b) (fun j hj => h _ (by omega))]
  · exact ⟨fun z => absurd z.1 c, fun z => absurd z.1 c⟩
theorem rcOK_c {k a b : Nat → Int32} {u : Int64} {n : Nat} (h : ∀ j, j < n → a j = b j) : rcOK k u a n ↔ rcOK k u b n := by
  unfold rcOK
  by_cases c : 16 ≤ n
  · rw [aeOK_congr (fun _ _ => rfl) (fun _ _ => rfl) c h]
  · exact ⟨fun z => absurd z.1 c, fun z => absurd z.1 c⟩
theorem sO_c {k a b : Nat → Int32} {u : Int64} {n : Nat} (h : ∀ j, j < n → a j = b j) (i : Nat) : sO k u a n i = sO k u b n i := by
  unfold sO
  by_cases c : i < n
  · rw [if_pos c, if_pos c]; exact aeX_congr (fun _ _ => rfl) (h i c)
  · rw [if_neg c, if_neg c]; exact aeT_congr (fun _ _ => rfl) (fun _ _ => rfl) (fun j hj => congrArg ub (aeX_congr (fun _ _ => rfl) (h j hj))) _
theorem wM_0 (M0 : mm_M) (q p : Nat) (N : mm_M) (hw : ¬ f_X7_writesNext (49 + 17 * q) N = 0) (h : M0.1 (49 + 17 * q) 10 = nI 0) : f_X11_write_B3 M0 q p N = f_X11_tell (f_X7_writeMessage_0 (49 + 17 * q) p N).1 (f_X7_writeMessage_0 (49 + 17 * q) p N).2 := by
  unfold f_X11_write_B3
  rw [if_pos hw]
  unfold f_X11_write_B2
  rw [if_pos (show M0.1 (49 + 17 * q) 10 = 0 from h)]
theorem wM_1 (M0 : mm_M) (q p : Nat) (N : mm_M) (hw : ¬ f_X7_writesNext (49 + 17 * q) N = 0) (h : M0.1 (49 + 17 * q) 10 = nI 1) : f_X11_write_B3 M0 q p N = f_X11_tell (f_X7_writeMessage_1 (49 + 17 * q) p N).1 (f_X7_writeMessage_1 (49 + 17 * q) p N).2 := by
  unfold f_X11_write_B3
  rw [if_pos hw]
  unfold f_X11_write_B2
  rw [if_neg (by rw [h]; decide)]
  unfold f_X11_write_B1
  rw [if_pos (show M0.1 (49 + 17 * q) 10 = 1 from h)]
theorem wM_2 (M0 : mm_M) (q p : Nat) (N : mm_M) (hw : ¬ f_X7_writesNext (49 + 17 * q) N = 0) (h : M0.1 (49 + 17 * q) 10 = nI 2) : f_X11_write_B3 M0 q p N = f_X11_tell (f_X7_writeMessage_2 (49 + 17 * q) p N).1 (f_X7_writeMessage_2 (49 + 17 * q) p N).2 := by
  unfold f_X11_write_B3
  rw [if_pos hw]
  unfold f_X11_write_B2
  rw [if_neg (by rw [h]; decide)]
  unfold f_X11_write_B1
  rw [if_neg (by rw [h]; decide)]
theorem p_write (h : pubR M ts rs) (v1 v2 : Int32) : simR (f_X11_write v1 v2 ts M) (f_X12_write v1 v2 ts (f_X11_write v1 v2 ts M).2) := by
  have h' := h
  obtain ⟨⟨ht, hr⟩, ⟨e1, e2, e3, e4⟩, hta, hre, hke, hta2, ⟨hT, hz⟩, hs⟩ := h
  have ce : (¬ f_X12_in v2 0 900 = 0 ∧ v2 ≤ nI ts) ↔ (¬ (900 : Int32) < v2 ∧ ¬ f_X11_isOnTape v2 M = 0) := by
    rw [← tape_eq e1, in_iff, in_iff, ← Int32.not_lt]
    exact ⟨fun ⟨⟨a, b⟩, c⟩ => ⟨b, a, c⟩, fun ⟨a, b, c⟩ => ⟨⟨b, a⟩, c⟩⟩
  by_cases c : ¬ f_X11_hasBegun v1 M = 0 ∧ ¬ (900 : Int32) < v2 ∧ ¬ f_X11_isOnTape v2 M = 0
  · obtain ⟨g1, g2⟩ := g_isOnTape ht e1 c.2.2
    have h900 : v2.toNatClampNeg ≤ 900 := by
      have : ¬ (900 : Int32) < nI v2.toNatClampNeg := by rw [← g1]; exact c.2.1
      rcases Nat.lt_or_ge 900 v2.toNatClampNeg with z | z
      · exact absurd ((nI_ltI (a := 900) (by decide) (by omega)).mpr z) this
      · exact z
    obtain ⟨hq, st, ini, rf, S, os, oe, xs, xe, ks, kr, ns, nr, h1, h2, h3, h4, h5, h6⟩ := beg_get h' c.1
    have eA : f_X11_write v1 v2 ts M = f_X11_write_B3 M v1.toNatClampNeg v2.toNatClampNeg (f_X11_emptyTape M) := by
      unfold f_X11_write
      rw [if_pos c]
    have eB : ∀ N, N.1 159 = M.1 159 → f_X12_write v1 v2 ts N = f_X12_write_B8 v1.toNatClampNeg v2.toNatClampNeg (f_X12_takes ts N) := fun N hN => by
      unfold f_X12_write
      rw [if_pos ⟨by rw [isS_fr hN, beg_eq h']; exact c.1, ce.mpr c.2⟩]
    rw [eA]
    generalize v1.toNatClampNeg = q at *
    generalize v2.toNatClampNeg = p at *
    obtain ⟨Me, he⟩ : ∃ Me, Me = f_X11_emptyTape M := ⟨_, rfl⟩
    rw [← he]
    have we : mm_fr [0] M Me := by rw [he]; exact w_f_X11_emptyTape M
    have hEe := h5.keep (N := Me) (fun k z1 z2 => we k (by simp <;> omega))
    have hVe := hta2.1.fr we (by simp)
    have t1e : Me.1 1 = M.1 1 := (we 1 (by decide)).1
    have wn := (wn_e hEe.1 hEe.2.1 h1 h2).1
    have B8 : ∀ N L1, mm_fr L1 M N → (∀ a ∈ L1, a < 117) → wr st ini → f_X12_write_B8 q p (f_X12_takes ts N) = f_X12_write_B7 q p (f_X12_takes ts N) := fun N L1 w l z => by
      have hr6 := r_ups (ts := ts) h6 w l
      unfold f_X12_write_B8
      rw [if_pos ((wn_r hr6.2.1 hr6.2.2.1 h1 h2).mpr z)]
    have stp : M.1 (49 + 17 * q) 10 = nI st := h5.2.1
    by_cases hw : wr st ini
    · have hwn := wn.mpr hw
      rcases hw with ⟨rfl, hi⟩ | ⟨rfl, hi⟩ | ⟨rfl, hi⟩
      · have hi0 : ¬ ini = 0 := by rw [hi]; decide
        rw [wM_0 M q p Me hwn stp]
        obtain ⟨y1, y2, y3⟩ := e_w0 (p1 := p) (by omega) (by omega) h900 hi0 hVe hEe
        have wm := (w_f_X7_writeMessage_0 (49 + 17 * q) p Me).m
        generalize f_X7_writeMessage_0 (49 + 17 * q) p Me = X at *
        have hn : wN0 S oe p ≤ 1000 := by have := syN_le (wS1 S (cvB oe nine)) p; unfold wN0; omega
        rw [y1, tell_1 _ _ (nI_neg1 _ (by omega))]
        dsimp only
        have f1 : mm_fr _ M (mm_w X.2 0 3 (nI (wN0 S oe p))) := (mm_fr_w (L := [0, 14, 16, 17, 18, 19, 20, 22, 21, 15, 2, 24, 23, 26, 25, 49 + 17 * q + 5 + 1, 34, 35, 33, 37, 40, 38, 39, 31, 41, 49 + 17 * q + 5 + 3, 49 + 17 * q]) (by simp) (wm.on (by simp <;> omega) (we.on (by simp) (mm_fr_refl _ _))))
        have l1 : ∀ a ∈ [0, 14, 16, 17, 18, 19, 20, 22, 21, 15, 2, 24, 23, 26, 25, 49 + 17 * q + 5 + 1, 34, 35, 33, 37, 40, 38, 39, 31, 41, 49 + 17 * q + 5 + 3, 49 + 17 * q], a < 117 := by simp <;> omega
        rw [eB _ (f1 159 (fun z => by have := l1 _ z; omega)).1, B8 _ _ f1 l1 (Or.inl ⟨rfl, hi⟩)]
        obtain ⟨u1, u2⟩ := r_upT h' f1 l1
        have tt : ∀ j, j < p → (f_X12_takes ts (mm_w X.2 0 3 (nI (wN0 S oe p)))).1 119 j = Me.1 1 j := fun j hj => by rw [(u2 j (by omega)).1, (u2 j (by omega)).2, t1e]
        obtain ⟨k1, k2, k3, k4⟩ := r_w0 (p := p) h900 hi0 u1 (r_ups (ts := ts) h6 f1 l1)
        have w2 := (w_f_X12_write_B7 q p (f_X12_takes ts (mm_w X.2 0 3 (nI (wN0 S oe p))))).m
        rw [wT0_c tt] at k4
        exact se_row h' hq he wm (by simp <;> omega) hn y2 _ k1 (fun i hi => by rw [k2 i hi]; exact wO0_c tt i hi) k3 w2 (by simp) ⟨1, ini, rf, _, os, oe, xs, xe, ks, kr, ns, nr, by omega, h2, fun _ => h3 (by omega), fun z => by omega, y3, k4⟩
      · rw [wM_1 M q p Me hwn stp]
        obtain ⟨y1, y2, y3⟩ := e_w1 (p1 := p) (by omega) (by omega) h900 hi hVe hEe
        have wm := (w_f_X7_writeMessage_1 (49 + 17 * q) p Me).m
        generalize f_X7_writeMessage_1 (49 + 17 * q) p Me = X at *
        rw [y1, tell_1 _ _ (nI_neg1 _ (by omega))]
        dsimp only
        have f1 : mm_fr _ M (mm_w X.2 0 3 (nI (32 + (48 + (p + 16))))) := (mm_fr_w (L := [0, 14, 16, 17, 18, 19, 20, 22, 21, 15, 2, 24, 23, 26, 25, 49 + 17 * q + 5 + 1, 28, 29, 30, 49 + 17 * q + 5 + 2, 49 + 17 * q + 5 + 4, 49 + 17 * q + 5 + 3, 34, 35, 33, 37, 40, 38, 39, 31, 41, 49 + 17 * q]) (by simp) (wm.on (by simp <;> omega) (we.on (by simp) (mm_fr_refl _ _))))
        have l1 : ∀ a ∈ [0, 14, 16, 17, 18, 19, 20, 22, 21, 15, 2, 24, 23, 26, 25, 49 + 17 * q + 5 + 1, 28, 29, 30, 49 + 17 * q + 5 + 2, 49 + 17 * q + 5 + 4, 49 + 17 * q + 5 + 3, 34, 35, 33, 37, 40, 38, 39, 31, 41, 49 + 17 * q], a < 117 := by simp <;> omega
        rw [eB _ (f1 159 (fun z => by have := l1 _ z; omega)).1, B8 _ _ f1 l1 (Or.inr (Or.inl ⟨rfl, hi⟩))]
        obtain ⟨u1, u2⟩ := r_upT h' f1 l1
        have tt : ∀ j, j < p → (f_X12_takes ts (mm_w X.2 0 3 (nI (32 + (48 + (p + 16)))))).1 119 j = Me.1 1 j := fun j hj => by rw [(u2 j (by omega)).1, (u2 j (by omega)).2, t1e]
        obtain ⟨k1, k2, k3, k4⟩ := r_w1 (p := p) h900 hi u1 (r_ups (ts := ts) h6 f1 l1)
        have w2 := (w_f_X12_write_B7 q p (f_X12_takes ts (mm_w X.2 0 3 (nI (32 + (48 + (p + 16))))))).m
        rw [wT1_c tt] at k4
        exact se_row h' hq he wm (by simp <;> omega) (by omega) y2 _ k1 (fun i hi => by rw [k2 i hi]; exact wO1_c tt i hi) k3 w2 (by simp) ⟨2, ini, rf, _, os, oe, xs, xe, ks, kr, ns, nr, by omega, h2, fun _ => h3 (by omega), fun _ => by show ¬ (1 : Int32) = 0; decide, y3, k4⟩
      · have hi0 : ¬ ini = 0 := by rw [hi]; decide
        obtain ⟨rfl, rfl⟩ := h3 (by omega)
        rw [wM_2 M q p Me hwn stp]
        obtain ⟨y1, y2, y3⟩ := e_w2 (p1 := p) (by omega) (by omega) h900 hi0 (h4 rfl) hVe hEe
        have wm := (w_f_X7_writeMessage_2 (49 + 17 * q) p Me).m
        generalize f_X7_writeMessage_2 (49 + 17 * q) p Me = X at *
        rw [y1, tell_1 _ _ (nI_neg1 _ (by omega))]
        dsimp only
        have f1 : mm_fr _ M (mm_w X.2 0 3 (nI (48 + (p + 16)))) := (mm_fr_w (L := [0, 14, 16, 17, 18, 19, 20, 22, 21, 15, 34, 35, 33, 37, 40, 38, 39, 31, 2, 41, 49 + 17 * q + 5 + 3, 24, 23, 26, 25, 49 + 17 * q + 5 + 1, 28, 29, 30, 49 + 17 * q + 5 + 2, 49 + 17 * q + 5 + 4, 49 + 17 * q, 49 + 17 * q + 11 + 1, 49 + 17 * q + 14 + 1, 49 + 17 * q + 11, 49 + 17 * q + 14]) (by simp) (wm.on (by simp <;> omega) (we.on (by simp) (mm_fr_refl _ _))))
        have l1 : ∀ a ∈ [0, 14, 16, 17, 18, 19, 20, 22, 21, 15, 34, 35, 33, 37, 40, 38, 39, 31, 2, 41, 49 + 17 * q + 5 + 3, 24, 23, 26, 25, 49 + 17 * q + 5 + 1, 28, 29, 30, 49 + 17 * q + 5 + 2, 49 + 17 * q + 5 + 4, 49 + 17 * q, 49 + 17 * q + 11 + 1, 49 + 17 * q + 14 + 1, 49 + 17 * q + 11, 49 + 17 * q + 14], a < 117 := by simp <;> omega
        rw [eB _ (f1 159 (fun z => by have := l1 _ z; omega)).1, B8 _ _ f1 l1 (Or.inr (Or.inr ⟨rfl, hi⟩))]
        obtain ⟨u1, u2⟩ := r_upT h' f1 l1
        have tt : ∀ j, j < p → (f_X12_takes ts (mm_w X.2 0 3 (nI (48 + (p + 16))))).1 119 j = Me.1 1 j := fun j hj => by rw [(u2 j (by omega)).1, (u2 j (by omega)).2, t1e]
        obtain ⟨k1, k2, k3, k4⟩ := r_w2 (p := p) h900 hi0 (h4 rfl) u1 (r_ups (ts := ts) h6 f1 l1)
        have w2 := (w_f_X12_write_B7 q p (f_X12_takes ts (mm_w X.2 0 3 (nI (48 + (p + 16)))))).m
        rw [wT2_c tt] at k4
        exact se_row h' hq he wm (by simp <;> omega) (by omega) y2 _ k1 (fun i hi => by rw [k2 i hi]; exact wO2_c tt i hi) k3 w2 (by simp) ⟨3, ini, rf, _, os, oe, xs, xe, _, _, 0, 0, by omega, h2, fun z => by omega, fun z => by omega, y3, k4⟩
    · have eM : f_X11_write_B3 M q p Me = (-1, Me) := by
        unfold f_X11_write_B3
        rw [if_neg (fun z => hw (wn.mp z))]
      rw [eM]
      dsimp only
      have hr6 := r_ups (ts := ts) h6 we (by simp)
      have eT : f_X12_write_B8 q p (f_X12_takes ts Me) = (-1, f_X12_takes ts Me) := by
        unfold f_X12_write_B8
        rw [if_neg (fun z => hw ((wn_r hr6.2.1 hr6.2.2.1 h1 h2).mp z))]
      rw [eB Me (we 159 (by decide)).1, eT]
      exact se_none (L1 := []) (L2 := []) h' hq he (mm_fr_refl _ _) (by simp) (we 2 (by decide)).1 _ rfl ⟨rfl, rfl, rfl, fun _ _ => rfl, fun _ _ _ _ _ => ⟨rfl, rfl⟩⟩ (mm_fr_refl _ _) (by simp) ⟨st, ini, rf, S, os, oe, xs, xe, ks, kr, ns, nr, h1, h2, h3, h4, hEe, hr6⟩
  · have eA : f_X11_write v1 v2 ts M = (-2, M) := by
      unfold f_X11_write
      rw [if_neg c]
      simp only [ite_self]
    have eB : f_X12_write v1 v2 ts M = (-2, M) := by
      unfold f_X12_write
      rw [if_neg (fun z => c ⟨by rw [← beg_eq h']; exact z.1, ce.mp z.2⟩)]
      simp only [ite_self]
    rw [eA]
    dsimp only
    rw [eB]
    exact ⟨rfl, ts, rs, h'⟩
end PS
